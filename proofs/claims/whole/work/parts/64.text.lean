/-! printed by p64.py: a text of lines, as it is read -/
theorem tS_e {t t' : Nat → Int} {L : Int} (h : sB t L = sB t' L) : tS t L = tS t' L := by
  funext p; unfold tS tBl; rw [h]
theorem tE_e {t t' : Nat → Int} {L : Int} (h : sB t L = sB t' L) : tE t L = tE t' L := by
  funext p; unfold tE tLo; rw [h, tS_e h]
theorem tK_e {t t' : Nat → Int} {L : Int} (h : sB t L = sB t' L) : tK t L = tK t' L := by
  funext p; unfold tK tLo; rw [h, tS_e h]
theorem tC_e {t t' : Nat → Int} {L : Int} (h : sB t L = sB t' L) : tC t L = tC t' L := by
  funext p; unfold tC; rw [h, tS_e h, tE_e h, tK_e h]
theorem tIs_e {t t' : Nat → Int} {L : Int} (h : sB t L = sB t' L) (i N : Nat) (p : Int) : tIs i N t L p ↔ tIs i N t' L p := by
  unfold tIs; rw [h, tS_e h, tE_e h, tK_e h]
theorem tD_e {t t' : Nat → Int} {L : Int} (h : sB t L = sB t' L) : tD t L = tD t' L := by
  funext p; unfold tD tIs; rw [h, tS_e h, tE_e h, tK_e h]
theorem tA_e {t t' : Nat → Int} {L : Int} (h : sB t L = sB t' L) : tA t L = tA t' L := by
  funext p; unfold tA tIs; rw [h, tS_e h, tE_e h, tK_e h]
theorem q3_e {t t' : Nat → Int} {L : Int} (h : sB t L = sB t' L) : q3 t L = q3 t' L := by
  funext p; unfold q3; rw [tE_e h]
theorem q5_e {t t' : Nat → Int} {L : Int} (h : sB t L = sB t' L) : q5 t L = q5 t' L := by
  funext p; unfold q5; rw [tE_e h, q3_e h, tA_e h]
theorem q6_e {t t' : Nat → Int} {L : Int} (h : sB t L = sB t' L) : q6 t L = q6 t' L := by
  funext p; unfold q6; rw [tE_e h, q5_e h]
theorem lO_e {t t' : Nat → Int} {L : Int} (h : sB t L = sB t' L) : lO t L = lO t' L := by
  funext p; unfold lO; rw [tE_e h, q3_e h, tA_e h, tC_e h]
theorem lnX_e {t t' : Nat → Int} {L : Int} (h : sB t L = sB t' L) : lnX t L = lnX t' L := by
  funext p; unfold lnX tMk; rw [h, tS_e h, tE_e h, tK_e h, q3_e h, q5_e h, tA_e h, tC_e h, tD_e h]
/-- the lines of a text, one behind the other -/
def lnP (t : Nat → Int) (L : Int) : Nat → Int
  | 0 => 0
  | i + 1 => q6 t L (lnP t L i)
def yC (t : Nat → Int) (L : Int) (i : Nat) : Int := tC t L (lnP t L i)
def yW (t : Nat → Int) (L : Int) (i : Nat) : Int := tD t L (tE t L (lnP t L i))
def yA (t : Nat → Int) (L : Int) (i : Nat) : Int := tA t L (q3 t L (lnP t L i))
def yO (t : Nat → Int) (L : Int) (i : Nat) : Int := lO t L (lnP t L i)

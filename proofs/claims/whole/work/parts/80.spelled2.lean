/-! printed by p80.py: a spelling, class and model alike -/
theorem lnP_e {t t' : Nat → Int} {L : Int} (h : sB t L = sB t' L) : ∀ i, lnP t L i = lnP t' L i
  | 0 => rfl
  | i + 1 => by
    show q6 t L (lnP t L i) = q6 t' L (lnP t' L i)
    rw [lnP_e h i, q6_e h]
theorem yC_e {t t' : Nat → Int} {L : Int} (h : sB t L = sB t' L) (i : Nat) : yC t L i = yC t' L i := by unfold yC; rw [lnP_e h, tC_e h]
theorem yW_e {t t' : Nat → Int} {L : Int} (h : sB t L = sB t' L) (i : Nat) : yW t L i = yW t' L i := by unfold yW; rw [lnP_e h, tE_e h, tD_e h]
theorem yA_e {t t' : Nat → Int} {L : Int} (h : sB t L = sB t' L) (i : Nat) : yA t L i = yA t' L i := by unfold yA; rw [lnP_e h, q3_e h, tA_e h]
theorem yO0_e {t t' : Nat → Int} {L : Int} (h : sB t L = sB t' L) (i : Nat) : yO0 t L i = yO0 t' L i := by unfold yO0 lO0; rw [lnP_e h, q3_e h, tA_e h, tE_e h, tC_e h]
theorem mu9_e {t t' : Nat → Int} {L : Int} (h : sB t L = sB t' L) : ∀ i, mu9 t L i = mu9 t' L i
  | 0 => rfl
  | i + 1 => by unfold mu9; rw [mu9_e h i, yA_e h, yW_e h]
theorem mu10_e {t t' : Nat → Int} {L : Int} (h : sB t L = sB t' L) : ∀ i, mu10 t L i = mu10 t' L i
  | 0 => rfl
  | i + 1 => by unfold mu10; rw [mu10_e h i, mu9_e h, yA_e h, yW_e h, lnP_e h, q3_e h, tS_e h]
theorem lOk_e {t t' : Nat → Int} {L : Int} (h : sB t L = sB t' L) (i : Nat) : lOk t L i ↔ lOk t' L i := by
  unfold lOk
  rw [tK_e h, lnX_e h, show lnP t L = lnP t' L from funext (lnP_e h)]
theorem rOut_e {t t' : Nat → Int} {L : Int} (h : sB t L = sB t' L) {i : Nat} {fa fp : Int} (hr : rOut t L i fa fp) : rOut t' L i fa fp := by
  unfold rOut at hr ⊢
  rw [lOk_e h, tK_e h, lnX_e h, lnP_e h, mu9_e h, mu10_e h] at hr
  exact hr
theorem ln_good {t : Nat → Int} {L p : Int} (h0 : 0 ≤ p) (hp : p ≤ L) (h : lnX t L p = -1) : ¬ tC t L p = -1 ∧ ¬ tD t L (tE t L p) = -1 ∧ ¬ tA t L (q3 t L p) = -1 ∧ ¬ (tA t L (q3 t L p) = 3 ∧ tC t L (tE t L (q3 t L p)) = -1) := by
  have b0 := te0 (t := t) h0 hp
  have b1 := te0 (t := t) b0.1 b0.2
  have b2 := te0 (t := t) b1.1 b1.2
  have b3 := te0 (t := t) b2.1 b2.2
  by_cases h1 : tC t L p = -1
  · rw [lx1 h1] at h; exact absurd h (ts0 h0 hp)
  by_cases h2 : tD t L (tE t L p) = -1
  · rw [lx2 h1 h2] at h; exact absurd h (ts0 b0.1 b0.2)
  by_cases h3 : tMk 58 t L (tE t L (tE t L p))
  · by_cases h4 : tA t L (q3 t L p) = -1
    · rw [lx4 h1 h2 h3 h4] at h; exact absurd h (ts0 b2.1 b2.2)
    by_cases h5 : tA t L (q3 t L p) = 3 ∧ tC t L (tE t L (q3 t L p)) = -1
    · rw [lx5 h1 h2 h3 h4 h5] at h; exact absurd h (ts0 b3.1 b3.2)
    exact ⟨h1, h2, h4, h5⟩
  · rw [lx3 h1 h2 h3] at h; exact absurd h (ts0 b1.1 b1.2)
theorem mu9_bad {t : Nat → Int} {L : Int} : ∀ i, mu9 t L i = 0 → ∀ j, j < i → ¬ lBad (yA t L j) (yW t L j)
  | 0, _, j, hj => absurd hj (Nat.not_lt_zero j)
  | i + 1, h, j, hj => by
    unfold mu9 at h
    by_cases a : (if mu9 t L i = 0 ∧ 16 < (i : Int) + 1 then (3 : Int) else mu9 t L i) = 0 ∧ lBad (yA t L i) (yW t L i)
    · rw [if_pos a] at h; exact absurd h (by decide)
    · rw [if_neg a] at h
      by_cases e : j = i
      · subst e; exact fun z => a ⟨h, z⟩
      · by_cases c : mu9 t L i = 0 ∧ 16 < (i : Int) + 1
        · rw [if_pos c] at h; exact absurd h (by decide)
        · rw [if_neg c] at h
          exact mu9_bad i h j (by omega)
/-- what is told of the lines -/
def lnS (t : Nat → Int) (L : Int) (m : qM) (i : Nat) : Prop := i ≤ 16 ∧ lOk t L i ∧ mu9 t L i = 0 ∧ (m 15 4 = (i : Int) ∧ m 105 0 = (i : Int)) ∧ mLn t L m i ∧ ∃ f g : Nat → Int, (∀ j : Nat, j < 18 → f j = -1) ∧ ∀ j : Nat, j < 18 → m 19 j = (rw5 t L f g i).1 j ∧ m 20 j = (rw5 t L f g i).2 j
theorem rXl_of {t : Nat → Int} {L : Int} {m : qM} {i : Nat} (hL : 0 ≤ L) (h : lnS t L m i) : rXl m := by
  obtain ⟨h1, h2, h3, ⟨h4, h5⟩, h6, f, g, h7, h8⟩ := h
  have gd : ∀ l : Nat, l < i → (1 ≤ yC t L l ∧ yC t L l ≤ 6) ∧ (0 ≤ yW t L l ∧ yW t L l ≤ 2) ∧ (0 ≤ yA t L l ∧ yA t L l ≤ 3) ∧ (yA t L l = 3 → 1 ≤ yO0 t L l ∧ yO0 t L l ≤ 6 ∧ yO t L l = yO0 t L l) ∧ ¬ lBad (yA t L l) (yW t L l) := by
    intro l hl
    have p := lnP_r (t := t) hL l
    have a := ln_good p.1 p.2 (h2 l hl).2
    have c := tC_r t L (lnP t L l)
    have d := tD_r t L (tE t L (lnP t L l))
    have e := tA_r t L (q3 t L (lnP t L l))
    refine ⟨?_, ?_, ?_, fun z => ?_, mu9_bad i h3 l hl⟩
    · unfold yC; omega
    · unfold yW; omega
    · unfold yA; omega
    · have z1 : tA t L (q3 t L (lnP t L l)) = 3 := z
      have c2 := tC_r t L (tE t L (q3 t L (lnP t L l)))
      unfold yO0 lO0 yO lO
      rw [if_pos z1, if_pos z1]
      have := a.2.2.2
      refine ⟨by omega, by omega, rfl⟩
  have ln : ∀ l : Int, 0 ≤ l → l < (i : Int) → m 106 (4 * l).toNat = yC t L l.toNat ∧ m 106 (4 * l + 1).toNat = yW t L l.toNat ∧ m 106 (4 * l + 2).toNat = yA t L l.toNat ∧ m 106 (4 * l + 3).toNat = yO0 t L l.toNat := by
    intro l l0 l1
    have a := h6 l.toNat (by omega)
    rw [show (4 * l).toNat = 4 * l.toNat by omega, show (4 * l + 1).toNat = 4 * l.toNat + 1 by omega, show (4 * l + 2).toNat = 4 * l.toNat + 2 by omega, show (4 * l + 3).toNat = 4 * l.toNat + 3 by omega]
    exact a
  refine ⟨⟨by omega, by omega⟩, fun l l0 l1 => ?_, fun c s c1 c6 s0 s2 => ?_⟩
  · have a := ln l l0 (by omega)
    have b := gd l.toNat (by omega)
    rw [a.1, a.2.1, a.2.2.1, a.2.2.2]
    obtain ⟨b1, b2, b3, b4, b5⟩ := b
    refine ⟨b1, b2, b3, fun z => ⟨(b4 z).1, (b4 z).2.1⟩, fun z => ?_, fun z w => b5 (Or.inr ⟨z, w⟩)⟩
    by_cases w : yW t L l.toNat = 1
    · exact w
    · exact absurd (Or.inl ⟨z, w⟩) b5
  · have k : q_fst (fun l => m 106 (4 * (l : Int)).toNat = c ∧ m 106 (4 * (l : Int) + 1).toNat = s) (m 15 4).toNat = q_fst (yIs t L c s) i := by
      rw [h4, show ((i : Int)).toNat = i by omega]
      refine q_fst_c i fun l hl => ?_
      have a := ln (l : Int) (by omega) (by omega)
      rw [a.1, a.2.1, show ((l : Int)).toNat = l by omega]
    have sl : sl3 c s < 18 := by show ((c - 1) * 3 + s).toNat < 18; omega
    have r := rw5_f (t := t) (L := L) (f := f) (g := g) (c := c) (w := s) ⟨c1, c6⟩ ⟨s0, s2⟩ (h7 _ sl) i (fun j hj => ⟨(gd j hj).1, (gd j hj).2.1, fun z => by have := (gd j hj).2.2.1; omega⟩)
    have w := h8 (sl3 c s) sl
    rw [k]
    refine ⟨fun z => w.1.trans (r.1 z), fun z => ?_⟩
    have rr := r.2 z
    have fr := fst_at (J := yIs t L c s) i z
    have f0 : 0 ≤ q_fst (yIs t L c s) i := by have := q_fst_r (yIs t L c s) i; omega
    have f1 : q_fst (yIs t L c s) i < (i : Int) := (q_fst_r (yIs t L c s) i).2
    have a := ln (q_fst (yIs t L c s) i) f0 f1
    have b := gd (q_fst (yIs t L c s) i).toNat (by omega)
    rw [a.2.2.1, a.2.2.2]
    refine ⟨w.1.trans rr.1, fun q => ?_⟩
    have q2 : yA t L (q_fst (yIs t L c s) i).toNat = 3 := rr.1.symm.trans (w.1.symm.trans q)
    exact (w.2.trans rr.2).trans (b.2.2.2.1 q2).2.2

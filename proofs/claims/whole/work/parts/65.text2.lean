/-! printed by p65.py: the class reads a text of lines -/
def kTx : Nat → Nat → Bool := fun i _ => decide (49 ≤ i ∧ i ≤ 52)
theorem kTxl : ∀ i j, kN kTx i j = true → kN kRl i j = true := by
  intro i j h
  have h1 := kN_t.mp h
  refine kN_t.mpr fun z => h1 ?_
  unfold kRl at z
  unfold kTx
  have z2 := of_decide_eq_true z
  exact decide_eq_true (by omega)
/-- what is noted, what the rows hold, behind i lines -/
def mu9 (t : Nat → Int) (L : Int) : Nat → Int
  | 0 => 0
  | i + 1 => if (if mu9 t L i = 0 ∧ 16 < (i : Int) + 1 then 3 else mu9 t L i) = 0 ∧ lBad (yA t L i) (yW t L i) then 2 else (if mu9 t L i = 0 ∧ 16 < (i : Int) + 1 then 3 else mu9 t L i)
def mu10 (t : Nat → Int) (L : Int) : Nat → Int
  | 0 => -1
  | i + 1 => if (if mu9 t L i = 0 ∧ 16 < (i : Int) + 1 then 3 else mu9 t L i) = 0 ∧ lBad (yA t L i) (yW t L i) then tS t L (q3 t L (lnP t L i)) else (if mu9 t L i = 0 ∧ 16 < (i : Int) + 1 then tS t L (lnP t L i) else mu10 t L i)
def ysl (t : Nat → Int) (L : Int) (i : Nat) : Nat := sl3 (yC t L i) (yW t L i)
def rw5 (t : Nat → Int) (L : Int) (f g : Nat → Int) : Nat → (Nat → Int) × (Nat → Int)
  | 0 => (f, g)
  | i + 1 => if (rw5 t L f g i).1 (ysl t L i) = -1 then (q_fu (rw5 t L f g i).1 (ysl t L i) (yA t L i), q_fu (rw5 t L f g i).2 (ysl t L i) (yO t L i)) else rw5 t L f g i
theorem mu9_r (t : Nat → Int) (L : Int) : ∀ i, 0 ≤ mu9 t L i ∧ mu9 t L i ≤ 3
  | 0 => by show (0 : Int) ≤ 0 ∧ (0 : Int) ≤ 3; omega
  | i + 1 => by
    have ih := mu9_r t L i
    unfold mu9
    split
    · omega
    · split <;> omega
theorem rw5_r (t : Nat → Int) (L : Int) (f g : Nat → Int) (h : ∀ j : Nat, j < 18 → -1 ≤ f j ∧ f j ≤ 3) : ∀ i, ∀ j : Nat, j < 18 → -1 ≤ (rw5 t L f g i).1 j ∧ (rw5 t L f g i).1 j ≤ 3
  | 0 => h
  | i + 1 => by
    intro j hj
    have ih := rw5_r t L f g h i j hj
    unfold rw5
    split
    · by_cases e : j = ysl t L i
      · subst e
        show -1 ≤ q_fu _ _ _ _ ∧ q_fu _ _ _ _ ≤ 3
        rw [q_fu_eq]
        exact tA_r _ _ _
      · show -1 ≤ q_fu _ _ _ _ ∧ q_fu _ _ _ _ ≤ 3
        rw [q_fu_ne e]
        exact ih
    · exact ih
def lOk (t : Nat → Int) (L : Int) (i : Nat) : Prop := ∀ j, j < i → ¬ tK t L (lnP t L j) = 0 ∧ lnX t L (lnP t L j) = -1
/-- i lines are read -/
def rRun (t : Nat → Int) (L : Int) (f g : Nat → Int) (m : qM) (i : Nat) : Prop := rdS m (lnP t L i) (-1) ∧ m 49 0 = (i : Int) ∧ (m 49 9 = mu9 t L i ∧ m 49 10 = mu10 t L i) ∧ (m 50 = (rw5 t L f g i).1 ∧ m 51 = (rw5 t L f g i).2) ∧ lOk t L i ∧ (i : Int) ≤ lnP t L i
theorem q6_r {t : Nat → Int} {L p : Int} (h0 : 0 ≤ p) (h : p ≤ L) (hk : ¬ tK t L p = 0) : p + 1 ≤ q6 t L p := by
  have k := (tK_i t L p).2.mp hk
  have a0 := tS_r t h
  have a1 := tE_r t h
  have b0 := te0 (t := t) h0 h
  have b1 := te0 (t := t) b0.1 b0.2
  have b2 := te0 (t := t) b1.1 b1.2
  have b3 := te0 (t := t) b2.1 b2.2
  have c1 := tS_r t b0.2
  have c2 := (tE_r t b0.2).1
  have c3 := tS_r t b1.2
  have c4 := (tE_r t b1.2).1
  have c5 := tS_r t b2.2
  have c6 := (tE_r t b2.2).1
  have c7 := tS_r t b3.2
  have c8 := (tE_r t b3.2).1
  have b4 := te0 (t := t) b3.1 b3.2
  have c9 := tS_r t b4.2
  have c10 := (tE_r t b4.2).1
  unfold q6 q5 q3
  split <;> omega
theorem rRun_s {t : Nat → Int} {L : Int} {f g : Nat → Int} {m m' : qM} {i : Nat} (h : rRun t L f g m i) (hl : m 49 4 = L) (hk : ¬ tK t L (lnP t L i) = 0) (hx : lnX t L (lnP t L i) = -1) (hG : lnGood t L m (lnP t L i) m') : rRun t L f g m' (i + 1) := by
  obtain ⟨h1, h2, ⟨h3, h4⟩, ⟨h5, h6⟩, h7, h8⟩ := h
  obtain ⟨g1, g2, ⟨g3, g4⟩, g5⟩ := hG
  have e9 : m9a m = (if mu9 t L i = 0 ∧ 16 < (i : Int) + 1 then 3 else mu9 t L i) := by unfold m9a; rw [h2, h3]
  have e10 : m10a m (tS t L (lnP t L i)) = (if mu9 t L i = 0 ∧ 16 < (i : Int) + 1 then tS t L (lnP t L i) else mu10 t L i) := by unfold m10a; rw [h2, h3, h4]
  refine ⟨g1, by rw [g2, h2]; omega, ⟨?_, ?_⟩, ?_, ?_, ?_⟩
  · rw [g3, e9]; rfl
  · rw [g4, e9, e10]; rfl
  · rcases g5 with ⟨a, b, c⟩ | ⟨a, b, c⟩
    · rw [h5] at a
      have a' : (rw5 t L f g i).1 (ysl t L i) = -1 := a
      unfold rw5
      rw [if_pos a', b, c, h5, h6]
      exact ⟨rfl, rfl⟩
    · rw [h5] at a
      have a' : ¬ (rw5 t L f g i).1 (ysl t L i) = -1 := a
      unfold rw5
      rw [if_neg a', b, c, h5, h6]
      exact ⟨rfl, rfl⟩
  · intro j hj
    by_cases q : j = i
    · subst q; exact ⟨hk, hx⟩
    · exact h7 j (by omega)
  · have p0 := h1.2.2.1
    rw [hl] at p0
    have := q6_r p0.1 p0.2 hk
    show _ ≤ q6 t L (lnP t L i)
    omega

/-! printed by p60.py: the class takes tokens -/
theorem tE_r (t : Nat → Int) {L p : Int} (h : p ≤ L) : (tS t L p ≤ tE t L p ∧ tE t L p ≤ L) ∧ (tS t L p < L → tS t L p < tE t L p) := by
  have r := tS_r t h
  unfold tE
  by_cases q : tS t L p < L
  · rw [if_neg (fun z => z q)]
    by_cases w : tLo t L (tS t L p)
    · rw [if_pos w, sk_st q w]
      have := sk_r (tLo t L) (L - (tS t L p + 1)).toNat (tS t L p + 1)
      omega
    · rw [if_neg w]; omega
  · rw [if_pos q]; omega
theorem tK_i (t : Nat → Int) (L p : Int) : (0 ≤ tK t L p ∧ tK t L p ≤ 3) ∧ (¬ tK t L p = 0 ↔ tS t L p < L) := by
  unfold tK
  by_cases q : tS t L p < L
  · rw [if_neg (fun z => z q)]
    split
    · exact ⟨by omega, fun _ => q, fun _ => by decide⟩
    · split
      · exact ⟨by omega, fun _ => q, fun _ => by decide⟩
      · exact ⟨by omega, fun _ => q, fun _ => by decide⟩
  · rw [if_pos q]
    exact ⟨by omega, fun z => absurd rfl z, fun z => absurd z q⟩
/-- the reader at a token -/
def rdS (m : qM) (p k : Int) : Prop := (m 49 5 = tK (m 52) (m 49 4) p ∧ m 49 6 = tS (m 52) (m 49 4) p ∧ m 49 7 = tE (m 52) (m 49 4) p) ∧ (m 49 8 = k ∧ -1 ≤ k ∧ k ≤ 400) ∧ (0 ≤ p ∧ p ≤ m 49 4) ∧ (0 ≤ m 49 4 ∧ m 49 4 ≤ 400) ∧ ∀ j : Nat, (j : Int) < m 49 4 → -128 ≤ m 52 j ∧ m 52 j ≤ 127
def kRd : Nat → Nat → Bool := fun i j => decide (i = 49 ∧ 5 ≤ j ∧ j ≤ 8)
def nxt (m : qM) (p k : Int) (D : Prop) (m' : qM) (p' k' : Int) : Prop := keep (kN kRd) m' = keep (kN kRd) m ∧ rdS m' p' k' ∧ ((¬ k = -1 ∧ p' = p ∧ k' = k) ∨ (k = -1 ∧ D ∧ p' = tE (m 52) (m 49 4) p ∧ k' = -1) ∨ (k = -1 ∧ ¬ D ∧ p' = p ∧ k' = tS (m 52) (m 49 4) p))
/-- the token is this word -/
abbrev tIs (i N : Nat) (t : Nat → Int) (L p : Int) : Prop := tK t L p = 1 ∧ tE t L p - tS t L p = (N : Int) ∧ q_cnt (fun j => ¬ sB t L (tS t L p + (j : Int)) = qB i j) N = 0

set_option maxRecDepth 100000 in
theorem c_isTok1 (u : qU) (m y : qM) (p k : Int) (hS : rdS m p k) : qCt YX5_isToken 5 0 0 [qR 49, qR 1001] (qLy u, m, y) (fun r h => ∃ z : Int, r = some (qI z) ∧ (z = 1 ∧ (tIs 1 4 (m 52) (m 49 4) p) ∨ z = 0 ∧ ¬ (tIs 1 4 (m 52) (m 49 4) p)) ∧ h = (qLy u, m, y)) := by
  refine qCt.intro okX5_isToken (Nat.le_of_ble_eq_true rfl) (fun κ hκ => ?_)
  obtain ⟨⟨s1, s2, s3⟩, ⟨s4, s5, s6⟩, s7, hL, hb⟩ := hS
  have sr := tS_r (m 52) s7.2
  have er := tE_r (m 52) s7.2
  have ki := tK_i (m 52) (m 49 4) p
  rw [← s1] at ki
  rw [← s2] at sr er ki
  rw [← s3] at er
  have L28 : ∀ (n : Nat) (j : Int), (0 ≤ j) → (j ≤ 4) → (q_cnt (fun j => ¬ sB (m 52) (m 49 4) (tS (m 52) (m 49 4) p + (j : Int)) = qB 1 j) j.toNat = 0) → (m 49 5 = 1) → (m 49 7 - m 49 6 = 4) → ((4 - j).toNat) < n → qJ YX5_isToken κ (qFin (fun r h => ∃ z : Int, r = some (qI z) ∧ (z = 1 ∧ (tIs 1 4 (m 52) (m 49 4) p) ∨ z = 0 ∧ ¬ (tIs 1 4 (m 52) (m 49 4) p)) ∧ h = (qLy u, m, y)) 0 0 κ) (qLy u, m, y) 0 0 28 [some (qR 49), some (qR 1001), some (qI j)] [] := by
    intro n
    induction n with
    | zero => intro j _ _ _ _ _ hz0; omega
    | succ n ih28 =>
      intro j v28_0 v28_1 v28_2 v28_3 v28_4 v28_m
      refine qJ.run hκ 2 (pc' := 30) (ls' := [some (qR 49), some (qR 1001), some (qI j)]) (st' := [qR 1001, qI j]) rfl ?_
      refine qJ.callVS (i := 1) (As := []) (rest := [qI j]) hκ rfl kX5_105 (c_slen1 u m y) (by decide) rfl (by decide) rfl rfl (Nat.le_of_ble_eq_true rfl) (Nat.le_of_ble_eq_true rfl) (Nat.le_of_ble_eq_true rfl) (Or.inl (fun r h' e => by obtain ⟨rfl, rfl⟩ := e; rfl)) (fun r h' e => ?_)
      obtain ⟨rfl, rfl⟩ := e
      show qJ YX5_isToken κ _ (qLy u, m, y) 0 0 33 [some (qR 49), some (qR 1001), some (qI j)] [qI 4, qI j]
      refine qJ.icmp_ge hκ (tgt := 62) rfl rfl (by omega) (by omega) (fun c33 => ?_) (fun c33 => ?_)
      · show qJ YX5_isToken κ _ (qLy u, m, y) 0 0 62 [some (qR 49), some (qR 1001), some (qI j)] []
        refine qJ.run hκ 1 (pc' := 63) (ls' := [some (qR 49), some (qR 1001), some (qI j)]) (st' := [qI 1]) rfl ?_
        exact qJ.bret hκ rfl rfl (by omega) (by decide) (by decide) (⟨1, rfl, Or.inl ⟨rfl, by omega, by omega, by (have e : j.toNat = 4 := (by omega); rw [e] at v28_2; exact v28_2)⟩, rfl⟩)
      · show qJ YX5_isToken κ _ (qLy u, m, y) 0 0 36 [some (qR 49), some (qR 1001), some (qI j)] []
        refine qJ.run hκ 5 (pc' := 43) (ls' := [some (qR 49), some (qR 1001), some (qI j)]) (st' := [qI ((m 49 6) + j), qR 49]) rfl ?_
        refine qJ.callV (As := [qI ((m 49 6) + j)]) (rest := []) hκ rfl kX5_94 (c_byteAt u m y ((m 49 6) + j) (by omega) (by omega)) rfl rfl (by decide) rfl rfl (Nat.le_of_ble_eq_true rfl) (Nat.le_of_ble_eq_true rfl) (Nat.le_of_ble_eq_true rfl) (Or.inl (fun r h' e => by obtain ⟨rfl, rfl⟩ := e; rfl)) (fun r h' e => ?_)
        obtain ⟨rfl, rfl⟩ := e
        show qJ YX5_isToken κ _ (qLy u, m, y) 0 0 46 [some (qR 49), some (qR 1001), some (qI j)] [qI (sB (m 52) (m 49 4) ((m 49 6) + j))]
        have br := sB_r hb (p := m 49 6 + j) (by omega)
        have qr1 := qB_r (i := 1) (k := j.toNat) (by omega) (by omega)
        refine qJ.run hκ 2 (pc' := 48) (ls' := [some (qR 49), some (qR 1001), some (qI j)]) (st' := [qI j, qR 1001, qI (sB (m 52) (m 49 4) ((m 49 6) + j))]) rfl ?_
        refine qJ.callVS (i := 1) (As := [qI j]) (rest := [qI (sB (m 52) (m 49 4) ((m 49 6) + j))]) hκ rfl kX5_110 (c_charAt1 u m y j (by omega)) (by decide) rfl (by decide) rfl rfl (Nat.le_of_ble_eq_true rfl) (Nat.le_of_ble_eq_true rfl) (Nat.le_of_ble_eq_true rfl) (Or.inl (fun r h' e => by obtain ⟨rfl, rfl⟩ := e; rfl)) (fun r h' e => ?_)
        obtain ⟨rfl, rfl⟩ := e
        show qJ YX5_isToken κ _ (qLy u, m, y) 0 0 51 [some (qR 49), some (qR 1001), some (qI j)] [qI (qB 1 j.toNat), qI (sB (m 52) (m 49 4) ((m 49 6) + j))]
        refine qJ.icmp_eq hκ (tgt := 56) rfl rfl (by omega) (by omega) (fun c51 => ?_) (fun c51 => ?_)
        · show qJ YX5_isToken κ _ (qLy u, m, y) 0 0 56 [some (qR 49), some (qR 1001), some (qI j)] []
          refine qJ.run hκ 2 (pc' := 28) (ls' := [some (qR 49), some (qR 1001), some (qI (j + 1))]) (st' := []) rfl ?_
          exact ih28  (j + 1) (by omega) (by omega) (by rw [q_cnt_s v28_0, if_neg (fun z => z (by rw [q_tn v28_0, ← s2]; exact c51))]; omega) (by omega) (by omega) (by omega)
        · show qJ YX5_isToken κ _ (qLy u, m, y) 0 0 54 [some (qR 49), some (qR 1001), some (qI j)] []
          refine qJ.run hκ 1 (pc' := 55) (ls' := [some (qR 49), some (qR 1001), some (qI j)]) (st' := [qI 0]) rfl ?_
          exact qJ.bret hκ rfl rfl (by omega) (by decide) (by decide) (⟨0, rfl, Or.inr ⟨rfl, fun z => c51 (by have := (q_cnt_no _).mp z.2.2 j.toNat (by omega); rw [q_tn v28_0, ← s2] at this; exact Decidable.not_not.mp this)⟩, rfl⟩)
  show qJ YX5_isToken κ _ (qLy u, m, y) 0 0 0 [some (qR 49), some (qR 1001), none] []
  refine qJ.run hκ 3 (pc' := 5) (ls' := [some (qR 49), some (qR 1001), none]) (st' := [qI 1, qI (m 49 5)]) rfl ?_
  refine qJ.icmp_ne hκ (tgt := 24) rfl rfl (by omega) (by omega) (fun c5 => ?_) (fun c5 => ?_)
  · show qJ YX5_isToken κ _ (qLy u, m, y) 0 0 24 [some (qR 49), some (qR 1001), none] []
    refine qJ.run hκ 1 (pc' := 25) (ls' := [some (qR 49), some (qR 1001), none]) (st' := [qI 0]) rfl ?_
    exact qJ.bret hκ rfl rfl (by omega) (by decide) (by decide) (⟨0, rfl, Or.inr ⟨rfl, fun z => by have := z.1; have := z.2.1; omega⟩, rfl⟩)
  · show qJ YX5_isToken κ _ (qLy u, m, y) 0 0 8 [some (qR 49), some (qR 1001), none] []
    refine qJ.run hκ 6 (pc' := 18) (ls' := [some (qR 49), some (qR 1001), none]) (st' := [qR 1001, qI ((m 49 7) - (m 49 6))]) rfl ?_
    refine qJ.callVS (i := 1) (As := []) (rest := [qI ((m 49 7) - (m 49 6))]) hκ rfl kX5_105 (c_slen1 u m y) (by decide) rfl (by decide) rfl rfl (Nat.le_of_ble_eq_true rfl) (Nat.le_of_ble_eq_true rfl) (Nat.le_of_ble_eq_true rfl) (Or.inl (fun r h' e => by obtain ⟨rfl, rfl⟩ := e; rfl)) (fun r h' e => ?_)
    obtain ⟨rfl, rfl⟩ := e
    show qJ YX5_isToken κ _ (qLy u, m, y) 0 0 21 [some (qR 49), some (qR 1001), none] [qI 4, qI ((m 49 7) - (m 49 6))]
    refine qJ.icmp_eq hκ (tgt := 26) rfl rfl (by omega) (by omega) (fun c21 => ?_) (fun c21 => ?_)
    · show qJ YX5_isToken κ _ (qLy u, m, y) 0 0 26 [some (qR 49), some (qR 1001), none] []
      refine qJ.run hκ 2 (pc' := 28) (ls' := [some (qR 49), some (qR 1001), some (qI 0)]) (st' := []) rfl ?_
      exact L28 9 0 (by omega) (by omega) (rfl) (by omega) (by omega) (by omega)
    · show qJ YX5_isToken κ _ (qLy u, m, y) 0 0 24 [some (qR 49), some (qR 1001), none] []
      refine qJ.run hκ 1 (pc' := 25) (ls' := [some (qR 49), some (qR 1001), none]) (st' := [qI 0]) rfl ?_
      exact qJ.bret hκ rfl rfl (by omega) (by decide) (by decide) (⟨0, rfl, Or.inr ⟨rfl, fun z => by have := z.1; have := z.2.1; omega⟩, rfl⟩)

set_option maxRecDepth 100000 in
theorem c_isTok2 (u : qU) (m y : qM) (p k : Int) (hS : rdS m p k) : qCt YX5_isToken 5 0 0 [qR 49, qR 1002] (qLy u, m, y) (fun r h => ∃ z : Int, r = some (qI z) ∧ (z = 1 ∧ (tIs 2 7 (m 52) (m 49 4) p) ∨ z = 0 ∧ ¬ (tIs 2 7 (m 52) (m 49 4) p)) ∧ h = (qLy u, m, y)) := by
  refine qCt.intro okX5_isToken (Nat.le_of_ble_eq_true rfl) (fun κ hκ => ?_)
  obtain ⟨⟨s1, s2, s3⟩, ⟨s4, s5, s6⟩, s7, hL, hb⟩ := hS
  have sr := tS_r (m 52) s7.2
  have er := tE_r (m 52) s7.2
  have ki := tK_i (m 52) (m 49 4) p
  rw [← s1] at ki
  rw [← s2] at sr er ki
  rw [← s3] at er
  have L28 : ∀ (n : Nat) (j : Int), (0 ≤ j) → (j ≤ 7) → (q_cnt (fun j => ¬ sB (m 52) (m 49 4) (tS (m 52) (m 49 4) p + (j : Int)) = qB 2 j) j.toNat = 0) → (m 49 5 = 1) → (m 49 7 - m 49 6 = 7) → ((7 - j).toNat) < n → qJ YX5_isToken κ (qFin (fun r h => ∃ z : Int, r = some (qI z) ∧ (z = 1 ∧ (tIs 2 7 (m 52) (m 49 4) p) ∨ z = 0 ∧ ¬ (tIs 2 7 (m 52) (m 49 4) p)) ∧ h = (qLy u, m, y)) 0 0 κ) (qLy u, m, y) 0 0 28 [some (qR 49), some (qR 1002), some (qI j)] [] := by
    intro n
    induction n with
    | zero => intro j _ _ _ _ _ hz0; omega
    | succ n ih28 =>
      intro j v28_0 v28_1 v28_2 v28_3 v28_4 v28_m
      refine qJ.run hκ 2 (pc' := 30) (ls' := [some (qR 49), some (qR 1002), some (qI j)]) (st' := [qR 1002, qI j]) rfl ?_
      refine qJ.callVS (i := 2) (As := []) (rest := [qI j]) hκ rfl kX5_105 (c_slen2 u m y) (by decide) rfl (by decide) rfl rfl (Nat.le_of_ble_eq_true rfl) (Nat.le_of_ble_eq_true rfl) (Nat.le_of_ble_eq_true rfl) (Or.inl (fun r h' e => by obtain ⟨rfl, rfl⟩ := e; rfl)) (fun r h' e => ?_)
      obtain ⟨rfl, rfl⟩ := e
      show qJ YX5_isToken κ _ (qLy u, m, y) 0 0 33 [some (qR 49), some (qR 1002), some (qI j)] [qI 7, qI j]
      refine qJ.icmp_ge hκ (tgt := 62) rfl rfl (by omega) (by omega) (fun c33 => ?_) (fun c33 => ?_)
      · show qJ YX5_isToken κ _ (qLy u, m, y) 0 0 62 [some (qR 49), some (qR 1002), some (qI j)] []
        refine qJ.run hκ 1 (pc' := 63) (ls' := [some (qR 49), some (qR 1002), some (qI j)]) (st' := [qI 1]) rfl ?_
        exact qJ.bret hκ rfl rfl (by omega) (by decide) (by decide) (⟨1, rfl, Or.inl ⟨rfl, by omega, by omega, by (have e : j.toNat = 7 := (by omega); rw [e] at v28_2; exact v28_2)⟩, rfl⟩)
      · show qJ YX5_isToken κ _ (qLy u, m, y) 0 0 36 [some (qR 49), some (qR 1002), some (qI j)] []
        refine qJ.run hκ 5 (pc' := 43) (ls' := [some (qR 49), some (qR 1002), some (qI j)]) (st' := [qI ((m 49 6) + j), qR 49]) rfl ?_
        refine qJ.callV (As := [qI ((m 49 6) + j)]) (rest := []) hκ rfl kX5_94 (c_byteAt u m y ((m 49 6) + j) (by omega) (by omega)) rfl rfl (by decide) rfl rfl (Nat.le_of_ble_eq_true rfl) (Nat.le_of_ble_eq_true rfl) (Nat.le_of_ble_eq_true rfl) (Or.inl (fun r h' e => by obtain ⟨rfl, rfl⟩ := e; rfl)) (fun r h' e => ?_)
        obtain ⟨rfl, rfl⟩ := e
        show qJ YX5_isToken κ _ (qLy u, m, y) 0 0 46 [some (qR 49), some (qR 1002), some (qI j)] [qI (sB (m 52) (m 49 4) ((m 49 6) + j))]
        have br := sB_r hb (p := m 49 6 + j) (by omega)
        have qr1 := qB_r (i := 2) (k := j.toNat) (by omega) (by omega)
        refine qJ.run hκ 2 (pc' := 48) (ls' := [some (qR 49), some (qR 1002), some (qI j)]) (st' := [qI j, qR 1002, qI (sB (m 52) (m 49 4) ((m 49 6) + j))]) rfl ?_
        refine qJ.callVS (i := 2) (As := [qI j]) (rest := [qI (sB (m 52) (m 49 4) ((m 49 6) + j))]) hκ rfl kX5_110 (c_charAt2 u m y j (by omega)) (by decide) rfl (by decide) rfl rfl (Nat.le_of_ble_eq_true rfl) (Nat.le_of_ble_eq_true rfl) (Nat.le_of_ble_eq_true rfl) (Or.inl (fun r h' e => by obtain ⟨rfl, rfl⟩ := e; rfl)) (fun r h' e => ?_)
        obtain ⟨rfl, rfl⟩ := e
        show qJ YX5_isToken κ _ (qLy u, m, y) 0 0 51 [some (qR 49), some (qR 1002), some (qI j)] [qI (qB 2 j.toNat), qI (sB (m 52) (m 49 4) ((m 49 6) + j))]
        refine qJ.icmp_eq hκ (tgt := 56) rfl rfl (by omega) (by omega) (fun c51 => ?_) (fun c51 => ?_)
        · show qJ YX5_isToken κ _ (qLy u, m, y) 0 0 56 [some (qR 49), some (qR 1002), some (qI j)] []
          refine qJ.run hκ 2 (pc' := 28) (ls' := [some (qR 49), some (qR 1002), some (qI (j + 1))]) (st' := []) rfl ?_
          exact ih28  (j + 1) (by omega) (by omega) (by rw [q_cnt_s v28_0, if_neg (fun z => z (by rw [q_tn v28_0, ← s2]; exact c51))]; omega) (by omega) (by omega) (by omega)
        · show qJ YX5_isToken κ _ (qLy u, m, y) 0 0 54 [some (qR 49), some (qR 1002), some (qI j)] []
          refine qJ.run hκ 1 (pc' := 55) (ls' := [some (qR 49), some (qR 1002), some (qI j)]) (st' := [qI 0]) rfl ?_
          exact qJ.bret hκ rfl rfl (by omega) (by decide) (by decide) (⟨0, rfl, Or.inr ⟨rfl, fun z => c51 (by have := (q_cnt_no _).mp z.2.2 j.toNat (by omega); rw [q_tn v28_0, ← s2] at this; exact Decidable.not_not.mp this)⟩, rfl⟩)
  show qJ YX5_isToken κ _ (qLy u, m, y) 0 0 0 [some (qR 49), some (qR 1002), none] []
  refine qJ.run hκ 3 (pc' := 5) (ls' := [some (qR 49), some (qR 1002), none]) (st' := [qI 1, qI (m 49 5)]) rfl ?_
  refine qJ.icmp_ne hκ (tgt := 24) rfl rfl (by omega) (by omega) (fun c5 => ?_) (fun c5 => ?_)
  · show qJ YX5_isToken κ _ (qLy u, m, y) 0 0 24 [some (qR 49), some (qR 1002), none] []
    refine qJ.run hκ 1 (pc' := 25) (ls' := [some (qR 49), some (qR 1002), none]) (st' := [qI 0]) rfl ?_
    exact qJ.bret hκ rfl rfl (by omega) (by decide) (by decide) (⟨0, rfl, Or.inr ⟨rfl, fun z => by have := z.1; have := z.2.1; omega⟩, rfl⟩)
  · show qJ YX5_isToken κ _ (qLy u, m, y) 0 0 8 [some (qR 49), some (qR 1002), none] []
    refine qJ.run hκ 6 (pc' := 18) (ls' := [some (qR 49), some (qR 1002), none]) (st' := [qR 1002, qI ((m 49 7) - (m 49 6))]) rfl ?_
    refine qJ.callVS (i := 2) (As := []) (rest := [qI ((m 49 7) - (m 49 6))]) hκ rfl kX5_105 (c_slen2 u m y) (by decide) rfl (by decide) rfl rfl (Nat.le_of_ble_eq_true rfl) (Nat.le_of_ble_eq_true rfl) (Nat.le_of_ble_eq_true rfl) (Or.inl (fun r h' e => by obtain ⟨rfl, rfl⟩ := e; rfl)) (fun r h' e => ?_)
    obtain ⟨rfl, rfl⟩ := e
    show qJ YX5_isToken κ _ (qLy u, m, y) 0 0 21 [some (qR 49), some (qR 1002), none] [qI 7, qI ((m 49 7) - (m 49 6))]
    refine qJ.icmp_eq hκ (tgt := 26) rfl rfl (by omega) (by omega) (fun c21 => ?_) (fun c21 => ?_)
    · show qJ YX5_isToken κ _ (qLy u, m, y) 0 0 26 [some (qR 49), some (qR 1002), none] []
      refine qJ.run hκ 2 (pc' := 28) (ls' := [some (qR 49), some (qR 1002), some (qI 0)]) (st' := []) rfl ?_
      exact L28 9 0 (by omega) (by omega) (rfl) (by omega) (by omega) (by omega)
    · show qJ YX5_isToken κ _ (qLy u, m, y) 0 0 24 [some (qR 49), some (qR 1002), none] []
      refine qJ.run hκ 1 (pc' := 25) (ls' := [some (qR 49), some (qR 1002), none]) (st' := [qI 0]) rfl ?_
      exact qJ.bret hκ rfl rfl (by omega) (by decide) (by decide) (⟨0, rfl, Or.inr ⟨rfl, fun z => by have := z.1; have := z.2.1; omega⟩, rfl⟩)

set_option maxRecDepth 100000 in
theorem c_isTok3 (u : qU) (m y : qM) (p k : Int) (hS : rdS m p k) : qCt YX5_isToken 5 0 0 [qR 49, qR 1003] (qLy u, m, y) (fun r h => ∃ z : Int, r = some (qI z) ∧ (z = 1 ∧ (tIs 3 3 (m 52) (m 49 4) p) ∨ z = 0 ∧ ¬ (tIs 3 3 (m 52) (m 49 4) p)) ∧ h = (qLy u, m, y)) := by
  refine qCt.intro okX5_isToken (Nat.le_of_ble_eq_true rfl) (fun κ hκ => ?_)
  obtain ⟨⟨s1, s2, s3⟩, ⟨s4, s5, s6⟩, s7, hL, hb⟩ := hS
  have sr := tS_r (m 52) s7.2
  have er := tE_r (m 52) s7.2
  have ki := tK_i (m 52) (m 49 4) p
  rw [← s1] at ki
  rw [← s2] at sr er ki
  rw [← s3] at er
  have L28 : ∀ (n : Nat) (j : Int), (0 ≤ j) → (j ≤ 3) → (q_cnt (fun j => ¬ sB (m 52) (m 49 4) (tS (m 52) (m 49 4) p + (j : Int)) = qB 3 j) j.toNat = 0) → (m 49 5 = 1) → (m 49 7 - m 49 6 = 3) → ((3 - j).toNat) < n → qJ YX5_isToken κ (qFin (fun r h => ∃ z : Int, r = some (qI z) ∧ (z = 1 ∧ (tIs 3 3 (m 52) (m 49 4) p) ∨ z = 0 ∧ ¬ (tIs 3 3 (m 52) (m 49 4) p)) ∧ h = (qLy u, m, y)) 0 0 κ) (qLy u, m, y) 0 0 28 [some (qR 49), some (qR 1003), some (qI j)] [] := by
    intro n
    induction n with
    | zero => intro j _ _ _ _ _ hz0; omega
    | succ n ih28 =>
      intro j v28_0 v28_1 v28_2 v28_3 v28_4 v28_m
      refine qJ.run hκ 2 (pc' := 30) (ls' := [some (qR 49), some (qR 1003), some (qI j)]) (st' := [qR 1003, qI j]) rfl ?_
      refine qJ.callVS (i := 3) (As := []) (rest := [qI j]) hκ rfl kX5_105 (c_slen3 u m y) (by decide) rfl (by decide) rfl rfl (Nat.le_of_ble_eq_true rfl) (Nat.le_of_ble_eq_true rfl) (Nat.le_of_ble_eq_true rfl) (Or.inl (fun r h' e => by obtain ⟨rfl, rfl⟩ := e; rfl)) (fun r h' e => ?_)
      obtain ⟨rfl, rfl⟩ := e
      show qJ YX5_isToken κ _ (qLy u, m, y) 0 0 33 [some (qR 49), some (qR 1003), some (qI j)] [qI 3, qI j]
      refine qJ.icmp_ge hκ (tgt := 62) rfl rfl (by omega) (by omega) (fun c33 => ?_) (fun c33 => ?_)
      · show qJ YX5_isToken κ _ (qLy u, m, y) 0 0 62 [some (qR 49), some (qR 1003), some (qI j)] []
        refine qJ.run hκ 1 (pc' := 63) (ls' := [some (qR 49), some (qR 1003), some (qI j)]) (st' := [qI 1]) rfl ?_
        exact qJ.bret hκ rfl rfl (by omega) (by decide) (by decide) (⟨1, rfl, Or.inl ⟨rfl, by omega, by omega, by (have e : j.toNat = 3 := (by omega); rw [e] at v28_2; exact v28_2)⟩, rfl⟩)
      · show qJ YX5_isToken κ _ (qLy u, m, y) 0 0 36 [some (qR 49), some (qR 1003), some (qI j)] []
        refine qJ.run hκ 5 (pc' := 43) (ls' := [some (qR 49), some (qR 1003), some (qI j)]) (st' := [qI ((m 49 6) + j), qR 49]) rfl ?_
        refine qJ.callV (As := [qI ((m 49 6) + j)]) (rest := []) hκ rfl kX5_94 (c_byteAt u m y ((m 49 6) + j) (by omega) (by omega)) rfl rfl (by decide) rfl rfl (Nat.le_of_ble_eq_true rfl) (Nat.le_of_ble_eq_true rfl) (Nat.le_of_ble_eq_true rfl) (Or.inl (fun r h' e => by obtain ⟨rfl, rfl⟩ := e; rfl)) (fun r h' e => ?_)
        obtain ⟨rfl, rfl⟩ := e
        show qJ YX5_isToken κ _ (qLy u, m, y) 0 0 46 [some (qR 49), some (qR 1003), some (qI j)] [qI (sB (m 52) (m 49 4) ((m 49 6) + j))]
        have br := sB_r hb (p := m 49 6 + j) (by omega)
        have qr1 := qB_r (i := 3) (k := j.toNat) (by omega) (by omega)
        refine qJ.run hκ 2 (pc' := 48) (ls' := [some (qR 49), some (qR 1003), some (qI j)]) (st' := [qI j, qR 1003, qI (sB (m 52) (m 49 4) ((m 49 6) + j))]) rfl ?_
        refine qJ.callVS (i := 3) (As := [qI j]) (rest := [qI (sB (m 52) (m 49 4) ((m 49 6) + j))]) hκ rfl kX5_110 (c_charAt3 u m y j (by omega)) (by decide) rfl (by decide) rfl rfl (Nat.le_of_ble_eq_true rfl) (Nat.le_of_ble_eq_true rfl) (Nat.le_of_ble_eq_true rfl) (Or.inl (fun r h' e => by obtain ⟨rfl, rfl⟩ := e; rfl)) (fun r h' e => ?_)
        obtain ⟨rfl, rfl⟩ := e
        show qJ YX5_isToken κ _ (qLy u, m, y) 0 0 51 [some (qR 49), some (qR 1003), some (qI j)] [qI (qB 3 j.toNat), qI (sB (m 52) (m 49 4) ((m 49 6) + j))]
        refine qJ.icmp_eq hκ (tgt := 56) rfl rfl (by omega) (by omega) (fun c51 => ?_) (fun c51 => ?_)
        · show qJ YX5_isToken κ _ (qLy u, m, y) 0 0 56 [some (qR 49), some (qR 1003), some (qI j)] []
          refine qJ.run hκ 2 (pc' := 28) (ls' := [some (qR 49), some (qR 1003), some (qI (j + 1))]) (st' := []) rfl ?_
          exact ih28  (j + 1) (by omega) (by omega) (by rw [q_cnt_s v28_0, if_neg (fun z => z (by rw [q_tn v28_0, ← s2]; exact c51))]; omega) (by omega) (by omega) (by omega)
        · show qJ YX5_isToken κ _ (qLy u, m, y) 0 0 54 [some (qR 49), some (qR 1003), some (qI j)] []
          refine qJ.run hκ 1 (pc' := 55) (ls' := [some (qR 49), some (qR 1003), some (qI j)]) (st' := [qI 0]) rfl ?_
          exact qJ.bret hκ rfl rfl (by omega) (by decide) (by decide) (⟨0, rfl, Or.inr ⟨rfl, fun z => c51 (by have := (q_cnt_no _).mp z.2.2 j.toNat (by omega); rw [q_tn v28_0, ← s2] at this; exact Decidable.not_not.mp this)⟩, rfl⟩)
  show qJ YX5_isToken κ _ (qLy u, m, y) 0 0 0 [some (qR 49), some (qR 1003), none] []
  refine qJ.run hκ 3 (pc' := 5) (ls' := [some (qR 49), some (qR 1003), none]) (st' := [qI 1, qI (m 49 5)]) rfl ?_
  refine qJ.icmp_ne hκ (tgt := 24) rfl rfl (by omega) (by omega) (fun c5 => ?_) (fun c5 => ?_)
  · show qJ YX5_isToken κ _ (qLy u, m, y) 0 0 24 [some (qR 49), some (qR 1003), none] []
    refine qJ.run hκ 1 (pc' := 25) (ls' := [some (qR 49), some (qR 1003), none]) (st' := [qI 0]) rfl ?_
    exact qJ.bret hκ rfl rfl (by omega) (by decide) (by decide) (⟨0, rfl, Or.inr ⟨rfl, fun z => by have := z.1; have := z.2.1; omega⟩, rfl⟩)
  · show qJ YX5_isToken κ _ (qLy u, m, y) 0 0 8 [some (qR 49), some (qR 1003), none] []
    refine qJ.run hκ 6 (pc' := 18) (ls' := [some (qR 49), some (qR 1003), none]) (st' := [qR 1003, qI ((m 49 7) - (m 49 6))]) rfl ?_
    refine qJ.callVS (i := 3) (As := []) (rest := [qI ((m 49 7) - (m 49 6))]) hκ rfl kX5_105 (c_slen3 u m y) (by decide) rfl (by decide) rfl rfl (Nat.le_of_ble_eq_true rfl) (Nat.le_of_ble_eq_true rfl) (Nat.le_of_ble_eq_true rfl) (Or.inl (fun r h' e => by obtain ⟨rfl, rfl⟩ := e; rfl)) (fun r h' e => ?_)
    obtain ⟨rfl, rfl⟩ := e
    show qJ YX5_isToken κ _ (qLy u, m, y) 0 0 21 [some (qR 49), some (qR 1003), none] [qI 3, qI ((m 49 7) - (m 49 6))]
    refine qJ.icmp_eq hκ (tgt := 26) rfl rfl (by omega) (by omega) (fun c21 => ?_) (fun c21 => ?_)
    · show qJ YX5_isToken κ _ (qLy u, m, y) 0 0 26 [some (qR 49), some (qR 1003), none] []
      refine qJ.run hκ 2 (pc' := 28) (ls' := [some (qR 49), some (qR 1003), some (qI 0)]) (st' := []) rfl ?_
      exact L28 9 0 (by omega) (by omega) (rfl) (by omega) (by omega) (by omega)
    · show qJ YX5_isToken κ _ (qLy u, m, y) 0 0 24 [some (qR 49), some (qR 1003), none] []
      refine qJ.run hκ 1 (pc' := 25) (ls' := [some (qR 49), some (qR 1003), none]) (st' := [qI 0]) rfl ?_
      exact qJ.bret hκ rfl rfl (by omega) (by decide) (by decide) (⟨0, rfl, Or.inr ⟨rfl, fun z => by have := z.1; have := z.2.1; omega⟩, rfl⟩)

set_option maxRecDepth 100000 in
theorem c_isTok4 (u : qU) (m y : qM) (p k : Int) (hS : rdS m p k) : qCt YX5_isToken 5 0 0 [qR 49, qR 1004] (qLy u, m, y) (fun r h => ∃ z : Int, r = some (qI z) ∧ (z = 1 ∧ (tIs 4 4 (m 52) (m 49 4) p) ∨ z = 0 ∧ ¬ (tIs 4 4 (m 52) (m 49 4) p)) ∧ h = (qLy u, m, y)) := by
  refine qCt.intro okX5_isToken (Nat.le_of_ble_eq_true rfl) (fun κ hκ => ?_)
  obtain ⟨⟨s1, s2, s3⟩, ⟨s4, s5, s6⟩, s7, hL, hb⟩ := hS
  have sr := tS_r (m 52) s7.2
  have er := tE_r (m 52) s7.2
  have ki := tK_i (m 52) (m 49 4) p
  rw [← s1] at ki
  rw [← s2] at sr er ki
  rw [← s3] at er
  have L28 : ∀ (n : Nat) (j : Int), (0 ≤ j) → (j ≤ 4) → (q_cnt (fun j => ¬ sB (m 52) (m 49 4) (tS (m 52) (m 49 4) p + (j : Int)) = qB 4 j) j.toNat = 0) → (m 49 5 = 1) → (m 49 7 - m 49 6 = 4) → ((4 - j).toNat) < n → qJ YX5_isToken κ (qFin (fun r h => ∃ z : Int, r = some (qI z) ∧ (z = 1 ∧ (tIs 4 4 (m 52) (m 49 4) p) ∨ z = 0 ∧ ¬ (tIs 4 4 (m 52) (m 49 4) p)) ∧ h = (qLy u, m, y)) 0 0 κ) (qLy u, m, y) 0 0 28 [some (qR 49), some (qR 1004), some (qI j)] [] := by
    intro n
    induction n with
    | zero => intro j _ _ _ _ _ hz0; omega
    | succ n ih28 =>
      intro j v28_0 v28_1 v28_2 v28_3 v28_4 v28_m
      refine qJ.run hκ 2 (pc' := 30) (ls' := [some (qR 49), some (qR 1004), some (qI j)]) (st' := [qR 1004, qI j]) rfl ?_
      refine qJ.callVS (i := 4) (As := []) (rest := [qI j]) hκ rfl kX5_105 (c_slen4 u m y) (by decide) rfl (by decide) rfl rfl (Nat.le_of_ble_eq_true rfl) (Nat.le_of_ble_eq_true rfl) (Nat.le_of_ble_eq_true rfl) (Or.inl (fun r h' e => by obtain ⟨rfl, rfl⟩ := e; rfl)) (fun r h' e => ?_)
      obtain ⟨rfl, rfl⟩ := e
      show qJ YX5_isToken κ _ (qLy u, m, y) 0 0 33 [some (qR 49), some (qR 1004), some (qI j)] [qI 4, qI j]
      refine qJ.icmp_ge hκ (tgt := 62) rfl rfl (by omega) (by omega) (fun c33 => ?_) (fun c33 => ?_)
      · show qJ YX5_isToken κ _ (qLy u, m, y) 0 0 62 [some (qR 49), some (qR 1004), some (qI j)] []
        refine qJ.run hκ 1 (pc' := 63) (ls' := [some (qR 49), some (qR 1004), some (qI j)]) (st' := [qI 1]) rfl ?_
        exact qJ.bret hκ rfl rfl (by omega) (by decide) (by decide) (⟨1, rfl, Or.inl ⟨rfl, by omega, by omega, by (have e : j.toNat = 4 := (by omega); rw [e] at v28_2; exact v28_2)⟩, rfl⟩)
      · show qJ YX5_isToken κ _ (qLy u, m, y) 0 0 36 [some (qR 49), some (qR 1004), some (qI j)] []
        refine qJ.run hκ 5 (pc' := 43) (ls' := [some (qR 49), some (qR 1004), some (qI j)]) (st' := [qI ((m 49 6) + j), qR 49]) rfl ?_
        refine qJ.callV (As := [qI ((m 49 6) + j)]) (rest := []) hκ rfl kX5_94 (c_byteAt u m y ((m 49 6) + j) (by omega) (by omega)) rfl rfl (by decide) rfl rfl (Nat.le_of_ble_eq_true rfl) (Nat.le_of_ble_eq_true rfl) (Nat.le_of_ble_eq_true rfl) (Or.inl (fun r h' e => by obtain ⟨rfl, rfl⟩ := e; rfl)) (fun r h' e => ?_)
        obtain ⟨rfl, rfl⟩ := e
        show qJ YX5_isToken κ _ (qLy u, m, y) 0 0 46 [some (qR 49), some (qR 1004), some (qI j)] [qI (sB (m 52) (m 49 4) ((m 49 6) + j))]
        have br := sB_r hb (p := m 49 6 + j) (by omega)
        have qr1 := qB_r (i := 4) (k := j.toNat) (by omega) (by omega)
        refine qJ.run hκ 2 (pc' := 48) (ls' := [some (qR 49), some (qR 1004), some (qI j)]) (st' := [qI j, qR 1004, qI (sB (m 52) (m 49 4) ((m 49 6) + j))]) rfl ?_
        refine qJ.callVS (i := 4) (As := [qI j]) (rest := [qI (sB (m 52) (m 49 4) ((m 49 6) + j))]) hκ rfl kX5_110 (c_charAt4 u m y j (by omega)) (by decide) rfl (by decide) rfl rfl (Nat.le_of_ble_eq_true rfl) (Nat.le_of_ble_eq_true rfl) (Nat.le_of_ble_eq_true rfl) (Or.inl (fun r h' e => by obtain ⟨rfl, rfl⟩ := e; rfl)) (fun r h' e => ?_)
        obtain ⟨rfl, rfl⟩ := e
        show qJ YX5_isToken κ _ (qLy u, m, y) 0 0 51 [some (qR 49), some (qR 1004), some (qI j)] [qI (qB 4 j.toNat), qI (sB (m 52) (m 49 4) ((m 49 6) + j))]
        refine qJ.icmp_eq hκ (tgt := 56) rfl rfl (by omega) (by omega) (fun c51 => ?_) (fun c51 => ?_)
        · show qJ YX5_isToken κ _ (qLy u, m, y) 0 0 56 [some (qR 49), some (qR 1004), some (qI j)] []
          refine qJ.run hκ 2 (pc' := 28) (ls' := [some (qR 49), some (qR 1004), some (qI (j + 1))]) (st' := []) rfl ?_
          exact ih28  (j + 1) (by omega) (by omega) (by rw [q_cnt_s v28_0, if_neg (fun z => z (by rw [q_tn v28_0, ← s2]; exact c51))]; omega) (by omega) (by omega) (by omega)
        · show qJ YX5_isToken κ _ (qLy u, m, y) 0 0 54 [some (qR 49), some (qR 1004), some (qI j)] []
          refine qJ.run hκ 1 (pc' := 55) (ls' := [some (qR 49), some (qR 1004), some (qI j)]) (st' := [qI 0]) rfl ?_
          exact qJ.bret hκ rfl rfl (by omega) (by decide) (by decide) (⟨0, rfl, Or.inr ⟨rfl, fun z => c51 (by have := (q_cnt_no _).mp z.2.2 j.toNat (by omega); rw [q_tn v28_0, ← s2] at this; exact Decidable.not_not.mp this)⟩, rfl⟩)
  show qJ YX5_isToken κ _ (qLy u, m, y) 0 0 0 [some (qR 49), some (qR 1004), none] []
  refine qJ.run hκ 3 (pc' := 5) (ls' := [some (qR 49), some (qR 1004), none]) (st' := [qI 1, qI (m 49 5)]) rfl ?_
  refine qJ.icmp_ne hκ (tgt := 24) rfl rfl (by omega) (by omega) (fun c5 => ?_) (fun c5 => ?_)
  · show qJ YX5_isToken κ _ (qLy u, m, y) 0 0 24 [some (qR 49), some (qR 1004), none] []
    refine qJ.run hκ 1 (pc' := 25) (ls' := [some (qR 49), some (qR 1004), none]) (st' := [qI 0]) rfl ?_
    exact qJ.bret hκ rfl rfl (by omega) (by decide) (by decide) (⟨0, rfl, Or.inr ⟨rfl, fun z => by have := z.1; have := z.2.1; omega⟩, rfl⟩)
  · show qJ YX5_isToken κ _ (qLy u, m, y) 0 0 8 [some (qR 49), some (qR 1004), none] []
    refine qJ.run hκ 6 (pc' := 18) (ls' := [some (qR 49), some (qR 1004), none]) (st' := [qR 1004, qI ((m 49 7) - (m 49 6))]) rfl ?_
    refine qJ.callVS (i := 4) (As := []) (rest := [qI ((m 49 7) - (m 49 6))]) hκ rfl kX5_105 (c_slen4 u m y) (by decide) rfl (by decide) rfl rfl (Nat.le_of_ble_eq_true rfl) (Nat.le_of_ble_eq_true rfl) (Nat.le_of_ble_eq_true rfl) (Or.inl (fun r h' e => by obtain ⟨rfl, rfl⟩ := e; rfl)) (fun r h' e => ?_)
    obtain ⟨rfl, rfl⟩ := e
    show qJ YX5_isToken κ _ (qLy u, m, y) 0 0 21 [some (qR 49), some (qR 1004), none] [qI 4, qI ((m 49 7) - (m 49 6))]
    refine qJ.icmp_eq hκ (tgt := 26) rfl rfl (by omega) (by omega) (fun c21 => ?_) (fun c21 => ?_)
    · show qJ YX5_isToken κ _ (qLy u, m, y) 0 0 26 [some (qR 49), some (qR 1004), none] []
      refine qJ.run hκ 2 (pc' := 28) (ls' := [some (qR 49), some (qR 1004), some (qI 0)]) (st' := []) rfl ?_
      exact L28 9 0 (by omega) (by omega) (rfl) (by omega) (by omega) (by omega)
    · show qJ YX5_isToken κ _ (qLy u, m, y) 0 0 24 [some (qR 49), some (qR 1004), none] []
      refine qJ.run hκ 1 (pc' := 25) (ls' := [some (qR 49), some (qR 1004), none]) (st' := [qI 0]) rfl ?_
      exact qJ.bret hκ rfl rfl (by omega) (by decide) (by decide) (⟨0, rfl, Or.inr ⟨rfl, fun z => by have := z.1; have := z.2.1; omega⟩, rfl⟩)

set_option maxRecDepth 100000 in
theorem c_isTok5 (u : qU) (m y : qM) (p k : Int) (hS : rdS m p k) : qCt YX5_isToken 5 0 0 [qR 49, qR 1005] (qLy u, m, y) (fun r h => ∃ z : Int, r = some (qI z) ∧ (z = 1 ∧ (tIs 5 4 (m 52) (m 49 4) p) ∨ z = 0 ∧ ¬ (tIs 5 4 (m 52) (m 49 4) p)) ∧ h = (qLy u, m, y)) := by
  refine qCt.intro okX5_isToken (Nat.le_of_ble_eq_true rfl) (fun κ hκ => ?_)
  obtain ⟨⟨s1, s2, s3⟩, ⟨s4, s5, s6⟩, s7, hL, hb⟩ := hS
  have sr := tS_r (m 52) s7.2
  have er := tE_r (m 52) s7.2
  have ki := tK_i (m 52) (m 49 4) p
  rw [← s1] at ki
  rw [← s2] at sr er ki
  rw [← s3] at er
  have L28 : ∀ (n : Nat) (j : Int), (0 ≤ j) → (j ≤ 4) → (q_cnt (fun j => ¬ sB (m 52) (m 49 4) (tS (m 52) (m 49 4) p + (j : Int)) = qB 5 j) j.toNat = 0) → (m 49 5 = 1) → (m 49 7 - m 49 6 = 4) → ((4 - j).toNat) < n → qJ YX5_isToken κ (qFin (fun r h => ∃ z : Int, r = some (qI z) ∧ (z = 1 ∧ (tIs 5 4 (m 52) (m 49 4) p) ∨ z = 0 ∧ ¬ (tIs 5 4 (m 52) (m 49 4) p)) ∧ h = (qLy u, m, y)) 0 0 κ) (qLy u, m, y) 0 0 28 [some (qR 49), some (qR 1005), some (qI j)] [] := by
    intro n
    induction n with
    | zero => intro j _ _ _ _ _ hz0; omega
    | succ n ih28 =>
      intro j v28_0 v28_1 v28_2 v28_3 v28_4 v28_m
      refine qJ.run hκ 2 (pc' := 30) (ls' := [some (qR 49), some (qR 1005), some (qI j)]) (st' := [qR 1005, qI j]) rfl ?_
      refine qJ.callVS (i := 5) (As := []) (rest := [qI j]) hκ rfl kX5_105 (c_slen5 u m y) (by decide) rfl (by decide) rfl rfl (Nat.le_of_ble_eq_true rfl) (Nat.le_of_ble_eq_true rfl) (Nat.le_of_ble_eq_true rfl) (Or.inl (fun r h' e => by obtain ⟨rfl, rfl⟩ := e; rfl)) (fun r h' e => ?_)
      obtain ⟨rfl, rfl⟩ := e
      show qJ YX5_isToken κ _ (qLy u, m, y) 0 0 33 [some (qR 49), some (qR 1005), some (qI j)] [qI 4, qI j]
      refine qJ.icmp_ge hκ (tgt := 62) rfl rfl (by omega) (by omega) (fun c33 => ?_) (fun c33 => ?_)
      · show qJ YX5_isToken κ _ (qLy u, m, y) 0 0 62 [some (qR 49), some (qR 1005), some (qI j)] []
        refine qJ.run hκ 1 (pc' := 63) (ls' := [some (qR 49), some (qR 1005), some (qI j)]) (st' := [qI 1]) rfl ?_
        exact qJ.bret hκ rfl rfl (by omega) (by decide) (by decide) (⟨1, rfl, Or.inl ⟨rfl, by omega, by omega, by (have e : j.toNat = 4 := (by omega); rw [e] at v28_2; exact v28_2)⟩, rfl⟩)
      · show qJ YX5_isToken κ _ (qLy u, m, y) 0 0 36 [some (qR 49), some (qR 1005), some (qI j)] []
        refine qJ.run hκ 5 (pc' := 43) (ls' := [some (qR 49), some (qR 1005), some (qI j)]) (st' := [qI ((m 49 6) + j), qR 49]) rfl ?_
        refine qJ.callV (As := [qI ((m 49 6) + j)]) (rest := []) hκ rfl kX5_94 (c_byteAt u m y ((m 49 6) + j) (by omega) (by omega)) rfl rfl (by decide) rfl rfl (Nat.le_of_ble_eq_true rfl) (Nat.le_of_ble_eq_true rfl) (Nat.le_of_ble_eq_true rfl) (Or.inl (fun r h' e => by obtain ⟨rfl, rfl⟩ := e; rfl)) (fun r h' e => ?_)
        obtain ⟨rfl, rfl⟩ := e
        show qJ YX5_isToken κ _ (qLy u, m, y) 0 0 46 [some (qR 49), some (qR 1005), some (qI j)] [qI (sB (m 52) (m 49 4) ((m 49 6) + j))]
        have br := sB_r hb (p := m 49 6 + j) (by omega)
        have qr1 := qB_r (i := 5) (k := j.toNat) (by omega) (by omega)
        refine qJ.run hκ 2 (pc' := 48) (ls' := [some (qR 49), some (qR 1005), some (qI j)]) (st' := [qI j, qR 1005, qI (sB (m 52) (m 49 4) ((m 49 6) + j))]) rfl ?_
        refine qJ.callVS (i := 5) (As := [qI j]) (rest := [qI (sB (m 52) (m 49 4) ((m 49 6) + j))]) hκ rfl kX5_110 (c_charAt5 u m y j (by omega)) (by decide) rfl (by decide) rfl rfl (Nat.le_of_ble_eq_true rfl) (Nat.le_of_ble_eq_true rfl) (Nat.le_of_ble_eq_true rfl) (Or.inl (fun r h' e => by obtain ⟨rfl, rfl⟩ := e; rfl)) (fun r h' e => ?_)
        obtain ⟨rfl, rfl⟩ := e
        show qJ YX5_isToken κ _ (qLy u, m, y) 0 0 51 [some (qR 49), some (qR 1005), some (qI j)] [qI (qB 5 j.toNat), qI (sB (m 52) (m 49 4) ((m 49 6) + j))]
        refine qJ.icmp_eq hκ (tgt := 56) rfl rfl (by omega) (by omega) (fun c51 => ?_) (fun c51 => ?_)
        · show qJ YX5_isToken κ _ (qLy u, m, y) 0 0 56 [some (qR 49), some (qR 1005), some (qI j)] []
          refine qJ.run hκ 2 (pc' := 28) (ls' := [some (qR 49), some (qR 1005), some (qI (j + 1))]) (st' := []) rfl ?_
          exact ih28  (j + 1) (by omega) (by omega) (by rw [q_cnt_s v28_0, if_neg (fun z => z (by rw [q_tn v28_0, ← s2]; exact c51))]; omega) (by omega) (by omega) (by omega)
        · show qJ YX5_isToken κ _ (qLy u, m, y) 0 0 54 [some (qR 49), some (qR 1005), some (qI j)] []
          refine qJ.run hκ 1 (pc' := 55) (ls' := [some (qR 49), some (qR 1005), some (qI j)]) (st' := [qI 0]) rfl ?_
          exact qJ.bret hκ rfl rfl (by omega) (by decide) (by decide) (⟨0, rfl, Or.inr ⟨rfl, fun z => c51 (by have := (q_cnt_no _).mp z.2.2 j.toNat (by omega); rw [q_tn v28_0, ← s2] at this; exact Decidable.not_not.mp this)⟩, rfl⟩)
  show qJ YX5_isToken κ _ (qLy u, m, y) 0 0 0 [some (qR 49), some (qR 1005), none] []
  refine qJ.run hκ 3 (pc' := 5) (ls' := [some (qR 49), some (qR 1005), none]) (st' := [qI 1, qI (m 49 5)]) rfl ?_
  refine qJ.icmp_ne hκ (tgt := 24) rfl rfl (by omega) (by omega) (fun c5 => ?_) (fun c5 => ?_)
  · show qJ YX5_isToken κ _ (qLy u, m, y) 0 0 24 [some (qR 49), some (qR 1005), none] []
    refine qJ.run hκ 1 (pc' := 25) (ls' := [some (qR 49), some (qR 1005), none]) (st' := [qI 0]) rfl ?_
    exact qJ.bret hκ rfl rfl (by omega) (by decide) (by decide) (⟨0, rfl, Or.inr ⟨rfl, fun z => by have := z.1; have := z.2.1; omega⟩, rfl⟩)
  · show qJ YX5_isToken κ _ (qLy u, m, y) 0 0 8 [some (qR 49), some (qR 1005), none] []
    refine qJ.run hκ 6 (pc' := 18) (ls' := [some (qR 49), some (qR 1005), none]) (st' := [qR 1005, qI ((m 49 7) - (m 49 6))]) rfl ?_
    refine qJ.callVS (i := 5) (As := []) (rest := [qI ((m 49 7) - (m 49 6))]) hκ rfl kX5_105 (c_slen5 u m y) (by decide) rfl (by decide) rfl rfl (Nat.le_of_ble_eq_true rfl) (Nat.le_of_ble_eq_true rfl) (Nat.le_of_ble_eq_true rfl) (Or.inl (fun r h' e => by obtain ⟨rfl, rfl⟩ := e; rfl)) (fun r h' e => ?_)
    obtain ⟨rfl, rfl⟩ := e
    show qJ YX5_isToken κ _ (qLy u, m, y) 0 0 21 [some (qR 49), some (qR 1005), none] [qI 4, qI ((m 49 7) - (m 49 6))]
    refine qJ.icmp_eq hκ (tgt := 26) rfl rfl (by omega) (by omega) (fun c21 => ?_) (fun c21 => ?_)
    · show qJ YX5_isToken κ _ (qLy u, m, y) 0 0 26 [some (qR 49), some (qR 1005), none] []
      refine qJ.run hκ 2 (pc' := 28) (ls' := [some (qR 49), some (qR 1005), some (qI 0)]) (st' := []) rfl ?_
      exact L28 9 0 (by omega) (by omega) (rfl) (by omega) (by omega) (by omega)
    · show qJ YX5_isToken κ _ (qLy u, m, y) 0 0 24 [some (qR 49), some (qR 1005), none] []
      refine qJ.run hκ 1 (pc' := 25) (ls' := [some (qR 49), some (qR 1005), none]) (st' := [qI 0]) rfl ?_
      exact qJ.bret hκ rfl rfl (by omega) (by decide) (by decide) (⟨0, rfl, Or.inr ⟨rfl, fun z => by have := z.1; have := z.2.1; omega⟩, rfl⟩)

set_option maxRecDepth 100000 in
theorem c_isTok6 (u : qU) (m y : qM) (p k : Int) (hS : rdS m p k) : qCt YX5_isToken 5 0 0 [qR 49, qR 1006] (qLy u, m, y) (fun r h => ∃ z : Int, r = some (qI z) ∧ (z = 1 ∧ (tIs 6 4 (m 52) (m 49 4) p) ∨ z = 0 ∧ ¬ (tIs 6 4 (m 52) (m 49 4) p)) ∧ h = (qLy u, m, y)) := by
  refine qCt.intro okX5_isToken (Nat.le_of_ble_eq_true rfl) (fun κ hκ => ?_)
  obtain ⟨⟨s1, s2, s3⟩, ⟨s4, s5, s6⟩, s7, hL, hb⟩ := hS
  have sr := tS_r (m 52) s7.2
  have er := tE_r (m 52) s7.2
  have ki := tK_i (m 52) (m 49 4) p
  rw [← s1] at ki
  rw [← s2] at sr er ki
  rw [← s3] at er
  have L28 : ∀ (n : Nat) (j : Int), (0 ≤ j) → (j ≤ 4) → (q_cnt (fun j => ¬ sB (m 52) (m 49 4) (tS (m 52) (m 49 4) p + (j : Int)) = qB 6 j) j.toNat = 0) → (m 49 5 = 1) → (m 49 7 - m 49 6 = 4) → ((4 - j).toNat) < n → qJ YX5_isToken κ (qFin (fun r h => ∃ z : Int, r = some (qI z) ∧ (z = 1 ∧ (tIs 6 4 (m 52) (m 49 4) p) ∨ z = 0 ∧ ¬ (tIs 6 4 (m 52) (m 49 4) p)) ∧ h = (qLy u, m, y)) 0 0 κ) (qLy u, m, y) 0 0 28 [some (qR 49), some (qR 1006), some (qI j)] [] := by
    intro n
    induction n with
    | zero => intro j _ _ _ _ _ hz0; omega
    | succ n ih28 =>
      intro j v28_0 v28_1 v28_2 v28_3 v28_4 v28_m
      refine qJ.run hκ 2 (pc' := 30) (ls' := [some (qR 49), some (qR 1006), some (qI j)]) (st' := [qR 1006, qI j]) rfl ?_
      refine qJ.callVS (i := 6) (As := []) (rest := [qI j]) hκ rfl kX5_105 (c_slen6 u m y) (by decide) rfl (by decide) rfl rfl (Nat.le_of_ble_eq_true rfl) (Nat.le_of_ble_eq_true rfl) (Nat.le_of_ble_eq_true rfl) (Or.inl (fun r h' e => by obtain ⟨rfl, rfl⟩ := e; rfl)) (fun r h' e => ?_)
      obtain ⟨rfl, rfl⟩ := e
      show qJ YX5_isToken κ _ (qLy u, m, y) 0 0 33 [some (qR 49), some (qR 1006), some (qI j)] [qI 4, qI j]
      refine qJ.icmp_ge hκ (tgt := 62) rfl rfl (by omega) (by omega) (fun c33 => ?_) (fun c33 => ?_)
      · show qJ YX5_isToken κ _ (qLy u, m, y) 0 0 62 [some (qR 49), some (qR 1006), some (qI j)] []
        refine qJ.run hκ 1 (pc' := 63) (ls' := [some (qR 49), some (qR 1006), some (qI j)]) (st' := [qI 1]) rfl ?_
        exact qJ.bret hκ rfl rfl (by omega) (by decide) (by decide) (⟨1, rfl, Or.inl ⟨rfl, by omega, by omega, by (have e : j.toNat = 4 := (by omega); rw [e] at v28_2; exact v28_2)⟩, rfl⟩)
      · show qJ YX5_isToken κ _ (qLy u, m, y) 0 0 36 [some (qR 49), some (qR 1006), some (qI j)] []
        refine qJ.run hκ 5 (pc' := 43) (ls' := [some (qR 49), some (qR 1006), some (qI j)]) (st' := [qI ((m 49 6) + j), qR 49]) rfl ?_
        refine qJ.callV (As := [qI ((m 49 6) + j)]) (rest := []) hκ rfl kX5_94 (c_byteAt u m y ((m 49 6) + j) (by omega) (by omega)) rfl rfl (by decide) rfl rfl (Nat.le_of_ble_eq_true rfl) (Nat.le_of_ble_eq_true rfl) (Nat.le_of_ble_eq_true rfl) (Or.inl (fun r h' e => by obtain ⟨rfl, rfl⟩ := e; rfl)) (fun r h' e => ?_)
        obtain ⟨rfl, rfl⟩ := e
        show qJ YX5_isToken κ _ (qLy u, m, y) 0 0 46 [some (qR 49), some (qR 1006), some (qI j)] [qI (sB (m 52) (m 49 4) ((m 49 6) + j))]
        have br := sB_r hb (p := m 49 6 + j) (by omega)
        have qr1 := qB_r (i := 6) (k := j.toNat) (by omega) (by omega)
        refine qJ.run hκ 2 (pc' := 48) (ls' := [some (qR 49), some (qR 1006), some (qI j)]) (st' := [qI j, qR 1006, qI (sB (m 52) (m 49 4) ((m 49 6) + j))]) rfl ?_
        refine qJ.callVS (i := 6) (As := [qI j]) (rest := [qI (sB (m 52) (m 49 4) ((m 49 6) + j))]) hκ rfl kX5_110 (c_charAt6 u m y j (by omega)) (by decide) rfl (by decide) rfl rfl (Nat.le_of_ble_eq_true rfl) (Nat.le_of_ble_eq_true rfl) (Nat.le_of_ble_eq_true rfl) (Or.inl (fun r h' e => by obtain ⟨rfl, rfl⟩ := e; rfl)) (fun r h' e => ?_)
        obtain ⟨rfl, rfl⟩ := e
        show qJ YX5_isToken κ _ (qLy u, m, y) 0 0 51 [some (qR 49), some (qR 1006), some (qI j)] [qI (qB 6 j.toNat), qI (sB (m 52) (m 49 4) ((m 49 6) + j))]
        refine qJ.icmp_eq hκ (tgt := 56) rfl rfl (by omega) (by omega) (fun c51 => ?_) (fun c51 => ?_)
        · show qJ YX5_isToken κ _ (qLy u, m, y) 0 0 56 [some (qR 49), some (qR 1006), some (qI j)] []
          refine qJ.run hκ 2 (pc' := 28) (ls' := [some (qR 49), some (qR 1006), some (qI (j + 1))]) (st' := []) rfl ?_
          exact ih28  (j + 1) (by omega) (by omega) (by rw [q_cnt_s v28_0, if_neg (fun z => z (by rw [q_tn v28_0, ← s2]; exact c51))]; omega) (by omega) (by omega) (by omega)
        · show qJ YX5_isToken κ _ (qLy u, m, y) 0 0 54 [some (qR 49), some (qR 1006), some (qI j)] []
          refine qJ.run hκ 1 (pc' := 55) (ls' := [some (qR 49), some (qR 1006), some (qI j)]) (st' := [qI 0]) rfl ?_
          exact qJ.bret hκ rfl rfl (by omega) (by decide) (by decide) (⟨0, rfl, Or.inr ⟨rfl, fun z => c51 (by have := (q_cnt_no _).mp z.2.2 j.toNat (by omega); rw [q_tn v28_0, ← s2] at this; exact Decidable.not_not.mp this)⟩, rfl⟩)
  show qJ YX5_isToken κ _ (qLy u, m, y) 0 0 0 [some (qR 49), some (qR 1006), none] []
  refine qJ.run hκ 3 (pc' := 5) (ls' := [some (qR 49), some (qR 1006), none]) (st' := [qI 1, qI (m 49 5)]) rfl ?_
  refine qJ.icmp_ne hκ (tgt := 24) rfl rfl (by omega) (by omega) (fun c5 => ?_) (fun c5 => ?_)
  · show qJ YX5_isToken κ _ (qLy u, m, y) 0 0 24 [some (qR 49), some (qR 1006), none] []
    refine qJ.run hκ 1 (pc' := 25) (ls' := [some (qR 49), some (qR 1006), none]) (st' := [qI 0]) rfl ?_
    exact qJ.bret hκ rfl rfl (by omega) (by decide) (by decide) (⟨0, rfl, Or.inr ⟨rfl, fun z => by have := z.1; have := z.2.1; omega⟩, rfl⟩)
  · show qJ YX5_isToken κ _ (qLy u, m, y) 0 0 8 [some (qR 49), some (qR 1006), none] []
    refine qJ.run hκ 6 (pc' := 18) (ls' := [some (qR 49), some (qR 1006), none]) (st' := [qR 1006, qI ((m 49 7) - (m 49 6))]) rfl ?_
    refine qJ.callVS (i := 6) (As := []) (rest := [qI ((m 49 7) - (m 49 6))]) hκ rfl kX5_105 (c_slen6 u m y) (by decide) rfl (by decide) rfl rfl (Nat.le_of_ble_eq_true rfl) (Nat.le_of_ble_eq_true rfl) (Nat.le_of_ble_eq_true rfl) (Or.inl (fun r h' e => by obtain ⟨rfl, rfl⟩ := e; rfl)) (fun r h' e => ?_)
    obtain ⟨rfl, rfl⟩ := e
    show qJ YX5_isToken κ _ (qLy u, m, y) 0 0 21 [some (qR 49), some (qR 1006), none] [qI 4, qI ((m 49 7) - (m 49 6))]
    refine qJ.icmp_eq hκ (tgt := 26) rfl rfl (by omega) (by omega) (fun c21 => ?_) (fun c21 => ?_)
    · show qJ YX5_isToken κ _ (qLy u, m, y) 0 0 26 [some (qR 49), some (qR 1006), none] []
      refine qJ.run hκ 2 (pc' := 28) (ls' := [some (qR 49), some (qR 1006), some (qI 0)]) (st' := []) rfl ?_
      exact L28 9 0 (by omega) (by omega) (rfl) (by omega) (by omega) (by omega)
    · show qJ YX5_isToken κ _ (qLy u, m, y) 0 0 24 [some (qR 49), some (qR 1006), none] []
      refine qJ.run hκ 1 (pc' := 25) (ls' := [some (qR 49), some (qR 1006), none]) (st' := [qI 0]) rfl ?_
      exact qJ.bret hκ rfl rfl (by omega) (by decide) (by decide) (⟨0, rfl, Or.inr ⟨rfl, fun z => by have := z.1; have := z.2.1; omega⟩, rfl⟩)

set_option maxRecDepth 100000 in
theorem c_isTok7 (u : qU) (m y : qM) (p k : Int) (hS : rdS m p k) : qCt YX5_isToken 5 0 0 [qR 49, qR 1007] (qLy u, m, y) (fun r h => ∃ z : Int, r = some (qI z) ∧ (z = 1 ∧ (tIs 7 2 (m 52) (m 49 4) p) ∨ z = 0 ∧ ¬ (tIs 7 2 (m 52) (m 49 4) p)) ∧ h = (qLy u, m, y)) := by
  refine qCt.intro okX5_isToken (Nat.le_of_ble_eq_true rfl) (fun κ hκ => ?_)
  obtain ⟨⟨s1, s2, s3⟩, ⟨s4, s5, s6⟩, s7, hL, hb⟩ := hS
  have sr := tS_r (m 52) s7.2
  have er := tE_r (m 52) s7.2
  have ki := tK_i (m 52) (m 49 4) p
  rw [← s1] at ki
  rw [← s2] at sr er ki
  rw [← s3] at er
  have L28 : ∀ (n : Nat) (j : Int), (0 ≤ j) → (j ≤ 2) → (q_cnt (fun j => ¬ sB (m 52) (m 49 4) (tS (m 52) (m 49 4) p + (j : Int)) = qB 7 j) j.toNat = 0) → (m 49 5 = 1) → (m 49 7 - m 49 6 = 2) → ((2 - j).toNat) < n → qJ YX5_isToken κ (qFin (fun r h => ∃ z : Int, r = some (qI z) ∧ (z = 1 ∧ (tIs 7 2 (m 52) (m 49 4) p) ∨ z = 0 ∧ ¬ (tIs 7 2 (m 52) (m 49 4) p)) ∧ h = (qLy u, m, y)) 0 0 κ) (qLy u, m, y) 0 0 28 [some (qR 49), some (qR 1007), some (qI j)] [] := by
    intro n
    induction n with
    | zero => intro j _ _ _ _ _ hz0; omega
    | succ n ih28 =>
      intro j v28_0 v28_1 v28_2 v28_3 v28_4 v28_m
      refine qJ.run hκ 2 (pc' := 30) (ls' := [some (qR 49), some (qR 1007), some (qI j)]) (st' := [qR 1007, qI j]) rfl ?_
      refine qJ.callVS (i := 7) (As := []) (rest := [qI j]) hκ rfl kX5_105 (c_slen7 u m y) (by decide) rfl (by decide) rfl rfl (Nat.le_of_ble_eq_true rfl) (Nat.le_of_ble_eq_true rfl) (Nat.le_of_ble_eq_true rfl) (Or.inl (fun r h' e => by obtain ⟨rfl, rfl⟩ := e; rfl)) (fun r h' e => ?_)
      obtain ⟨rfl, rfl⟩ := e
      show qJ YX5_isToken κ _ (qLy u, m, y) 0 0 33 [some (qR 49), some (qR 1007), some (qI j)] [qI 2, qI j]
      refine qJ.icmp_ge hκ (tgt := 62) rfl rfl (by omega) (by omega) (fun c33 => ?_) (fun c33 => ?_)
      · show qJ YX5_isToken κ _ (qLy u, m, y) 0 0 62 [some (qR 49), some (qR 1007), some (qI j)] []
        refine qJ.run hκ 1 (pc' := 63) (ls' := [some (qR 49), some (qR 1007), some (qI j)]) (st' := [qI 1]) rfl ?_
        exact qJ.bret hκ rfl rfl (by omega) (by decide) (by decide) (⟨1, rfl, Or.inl ⟨rfl, by omega, by omega, by (have e : j.toNat = 2 := (by omega); rw [e] at v28_2; exact v28_2)⟩, rfl⟩)
      · show qJ YX5_isToken κ _ (qLy u, m, y) 0 0 36 [some (qR 49), some (qR 1007), some (qI j)] []
        refine qJ.run hκ 5 (pc' := 43) (ls' := [some (qR 49), some (qR 1007), some (qI j)]) (st' := [qI ((m 49 6) + j), qR 49]) rfl ?_
        refine qJ.callV (As := [qI ((m 49 6) + j)]) (rest := []) hκ rfl kX5_94 (c_byteAt u m y ((m 49 6) + j) (by omega) (by omega)) rfl rfl (by decide) rfl rfl (Nat.le_of_ble_eq_true rfl) (Nat.le_of_ble_eq_true rfl) (Nat.le_of_ble_eq_true rfl) (Or.inl (fun r h' e => by obtain ⟨rfl, rfl⟩ := e; rfl)) (fun r h' e => ?_)
        obtain ⟨rfl, rfl⟩ := e
        show qJ YX5_isToken κ _ (qLy u, m, y) 0 0 46 [some (qR 49), some (qR 1007), some (qI j)] [qI (sB (m 52) (m 49 4) ((m 49 6) + j))]
        have br := sB_r hb (p := m 49 6 + j) (by omega)
        have qr1 := qB_r (i := 7) (k := j.toNat) (by omega) (by omega)
        refine qJ.run hκ 2 (pc' := 48) (ls' := [some (qR 49), some (qR 1007), some (qI j)]) (st' := [qI j, qR 1007, qI (sB (m 52) (m 49 4) ((m 49 6) + j))]) rfl ?_
        refine qJ.callVS (i := 7) (As := [qI j]) (rest := [qI (sB (m 52) (m 49 4) ((m 49 6) + j))]) hκ rfl kX5_110 (c_charAt7 u m y j (by omega)) (by decide) rfl (by decide) rfl rfl (Nat.le_of_ble_eq_true rfl) (Nat.le_of_ble_eq_true rfl) (Nat.le_of_ble_eq_true rfl) (Or.inl (fun r h' e => by obtain ⟨rfl, rfl⟩ := e; rfl)) (fun r h' e => ?_)
        obtain ⟨rfl, rfl⟩ := e
        show qJ YX5_isToken κ _ (qLy u, m, y) 0 0 51 [some (qR 49), some (qR 1007), some (qI j)] [qI (qB 7 j.toNat), qI (sB (m 52) (m 49 4) ((m 49 6) + j))]
        refine qJ.icmp_eq hκ (tgt := 56) rfl rfl (by omega) (by omega) (fun c51 => ?_) (fun c51 => ?_)
        · show qJ YX5_isToken κ _ (qLy u, m, y) 0 0 56 [some (qR 49), some (qR 1007), some (qI j)] []
          refine qJ.run hκ 2 (pc' := 28) (ls' := [some (qR 49), some (qR 1007), some (qI (j + 1))]) (st' := []) rfl ?_
          exact ih28  (j + 1) (by omega) (by omega) (by rw [q_cnt_s v28_0, if_neg (fun z => z (by rw [q_tn v28_0, ← s2]; exact c51))]; omega) (by omega) (by omega) (by omega)
        · show qJ YX5_isToken κ _ (qLy u, m, y) 0 0 54 [some (qR 49), some (qR 1007), some (qI j)] []
          refine qJ.run hκ 1 (pc' := 55) (ls' := [some (qR 49), some (qR 1007), some (qI j)]) (st' := [qI 0]) rfl ?_
          exact qJ.bret hκ rfl rfl (by omega) (by decide) (by decide) (⟨0, rfl, Or.inr ⟨rfl, fun z => c51 (by have := (q_cnt_no _).mp z.2.2 j.toNat (by omega); rw [q_tn v28_0, ← s2] at this; exact Decidable.not_not.mp this)⟩, rfl⟩)
  show qJ YX5_isToken κ _ (qLy u, m, y) 0 0 0 [some (qR 49), some (qR 1007), none] []
  refine qJ.run hκ 3 (pc' := 5) (ls' := [some (qR 49), some (qR 1007), none]) (st' := [qI 1, qI (m 49 5)]) rfl ?_
  refine qJ.icmp_ne hκ (tgt := 24) rfl rfl (by omega) (by omega) (fun c5 => ?_) (fun c5 => ?_)
  · show qJ YX5_isToken κ _ (qLy u, m, y) 0 0 24 [some (qR 49), some (qR 1007), none] []
    refine qJ.run hκ 1 (pc' := 25) (ls' := [some (qR 49), some (qR 1007), none]) (st' := [qI 0]) rfl ?_
    exact qJ.bret hκ rfl rfl (by omega) (by decide) (by decide) (⟨0, rfl, Or.inr ⟨rfl, fun z => by have := z.1; have := z.2.1; omega⟩, rfl⟩)
  · show qJ YX5_isToken κ _ (qLy u, m, y) 0 0 8 [some (qR 49), some (qR 1007), none] []
    refine qJ.run hκ 6 (pc' := 18) (ls' := [some (qR 49), some (qR 1007), none]) (st' := [qR 1007, qI ((m 49 7) - (m 49 6))]) rfl ?_
    refine qJ.callVS (i := 7) (As := []) (rest := [qI ((m 49 7) - (m 49 6))]) hκ rfl kX5_105 (c_slen7 u m y) (by decide) rfl (by decide) rfl rfl (Nat.le_of_ble_eq_true rfl) (Nat.le_of_ble_eq_true rfl) (Nat.le_of_ble_eq_true rfl) (Or.inl (fun r h' e => by obtain ⟨rfl, rfl⟩ := e; rfl)) (fun r h' e => ?_)
    obtain ⟨rfl, rfl⟩ := e
    show qJ YX5_isToken κ _ (qLy u, m, y) 0 0 21 [some (qR 49), some (qR 1007), none] [qI 2, qI ((m 49 7) - (m 49 6))]
    refine qJ.icmp_eq hκ (tgt := 26) rfl rfl (by omega) (by omega) (fun c21 => ?_) (fun c21 => ?_)
    · show qJ YX5_isToken κ _ (qLy u, m, y) 0 0 26 [some (qR 49), some (qR 1007), none] []
      refine qJ.run hκ 2 (pc' := 28) (ls' := [some (qR 49), some (qR 1007), some (qI 0)]) (st' := []) rfl ?_
      exact L28 9 0 (by omega) (by omega) (rfl) (by omega) (by omega) (by omega)
    · show qJ YX5_isToken κ _ (qLy u, m, y) 0 0 24 [some (qR 49), some (qR 1007), none] []
      refine qJ.run hκ 1 (pc' := 25) (ls' := [some (qR 49), some (qR 1007), none]) (st' := [qI 0]) rfl ?_
      exact qJ.bret hκ rfl rfl (by omega) (by decide) (by decide) (⟨0, rfl, Or.inr ⟨rfl, fun z => by have := z.1; have := z.2.1; omega⟩, rfl⟩)

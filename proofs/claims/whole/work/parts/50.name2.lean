/-! printed by p50.py: name; the lexicon -/
/-- the spelling's lines -/
def rXl (m : qM) : Prop := ((0 ≤ m 15 4 ∧ m 15 4 ≤ 16) ∧ m 105 0 = m 15 4) ∧ (∀ l : Int, 0 ≤ l → l < m 15 4 → (1 ≤ m 106 (4 * l).toNat ∧ m 106 (4 * l).toNat ≤ 6) ∧ (0 ≤ m 106 (4 * l + 1).toNat ∧ m 106 (4 * l + 1).toNat ≤ 2) ∧ (0 ≤ m 106 (4 * l + 2).toNat ∧ m 106 (4 * l + 2).toNat ≤ 3) ∧ (m 106 (4 * l + 2).toNat = 3 → 1 ≤ m 106 (4 * l + 3).toNat ∧ m 106 (4 * l + 3).toNat ≤ 6) ∧ (m 106 (4 * l + 2).toNat = 1 → m 106 (4 * l + 1).toNat = 1) ∧ (m 106 (4 * l + 2).toNat = 2 → ¬ m 106 (4 * l + 1).toNat = 0)) ∧
  ∀ c s : Int, 1 ≤ c → c ≤ 6 → 0 ≤ s → s ≤ 2 → (q_fst (fun l => m 106 (4 * (l : Int)).toNat = c ∧ m 106 (4 * (l : Int) + 1).toNat = s) (m 15 4).toNat = -1 → m 19 ((c - 1) * 3 + s).toNat = -1) ∧ (¬ q_fst (fun l => m 106 (4 * (l : Int)).toNat = c ∧ m 106 (4 * (l : Int) + 1).toNat = s) (m 15 4).toNat = -1 → m 19 ((c - 1) * 3 + s).toNat = m 106 (4 * q_fst (fun l => m 106 (4 * (l : Int)).toNat = c ∧ m 106 (4 * (l : Int) + 1).toNat = s) (m 15 4).toNat + 2).toNat ∧ (m 19 ((c - 1) * 3 + s).toNat = 3 → m 20 ((c - 1) * 3 + s).toNat = m 106 (4 * q_fst (fun l => m 106 (4 * (l : Int)).toNat = c ∧ m 106 (4 * (l : Int) + 1).toNat = s) (m 15 4).toNat + 3).toNat))
/-- names -/
def rXn (m : qM) : Prop := ((0 ≤ m 15 0 ∧ m 15 0 ≤ 5) ∧ m 101 0 = m 15 0) ∧ (∀ a : Int, 0 ≤ a → a < m 15 0 → (m 102 a.toNat = m 17 a.toNat ∧ m 103 a.toNat = m 18 a.toNat) ∧ (1 ≤ m 17 a.toNat ∧ m 17 a.toNat ≤ 10) ∧ (0 ≤ m 18 a.toNat ∧ m 18 a.toNat ≤ m 1 8) ∧ ∀ i : Int, 0 ≤ i → i < m 17 a.toNat → m 16 (a * 10 + i).toNat = lcode (m 104 (10 * a + i).toNat) ∧ 0 ≤ m 16 (a * 10 + i).toNat ∧ (-128 ≤ m 104 (10 * a + i).toNat ∧ m 104 (10 * a + i).toNat ≤ 127)) ∧ ∀ j k : Nat, j ≤ k → k < (m 15 0).toNat → m 18 j ≤ m 18 k

set_option maxRecDepth 100000 in
theorem x_name (u : qU) (m y : qM) (hT : rTp m) (hX : rXn m) : qCt YX11_name 6 0 0 [qR 0] (qLy u, m, y) (fun r h => (r = some (qI (-2)) ∧ (¬ m 15 0 < 5) ∧ h = (qLy u, (q_up (q_up (q_up m 1 4 0) 1 5 0) 1 6 (-1)), y)) ∨ (r = some (qI (-1)) ∧ (m 15 0 < 5 ∧ ¬ noL (m 21) (m 1 4) = -1) ∧ h = (qLy u, (q_up (q_up (q_up (q_up (q_up m 1 4 0) 1 5 0) 1 6 (-1)) 1 5 1) 1 6 (noL (m 21) (m 1 4))), y)) ∨ (r = some (qI (-1)) ∧ (m 15 0 < 5 ∧ noL (m 21) (m 1 4) = -1 ∧ 10 < m 1 4) ∧ h = (qLy u, (q_up (q_up (q_up (q_up (q_up m 1 4 0) 1 5 0) 1 6 (-1)) 1 5 2) 1 6 10), y)) ∨ (r = some (qI (m 15 0)) ∧ (m 15 0 < 5 ∧ noL (m 21) (m 1 4) = -1 ∧ m 1 4 ≤ 10) ∧ ∃ f, h = (qLy u, (q_up (q_up (q_up (q_row (q_up (q_up (q_up (q_up (q_up (q_up (q_up (q_up m 1 4 0) 1 5 0) 1 6 (-1)) 0 10 1) 0 11 1) 0 12 1) 0 13 1) 0 14 1) 16 f) 17 (m 15 0).toNat (m 1 4)) 18 (m 15 0).toNat (m 1 8)) 15 0 (m 15 0 + 1)), y) ∧ (∀ j : Nat, (j : Int) < m 15 0 * 10 → f j = m 16 j) ∧ ∀ i : Int, 0 ≤ i → i < m 1 4 → f (m 15 0 * 10 + i).toNat = lcode (m 21 i.toNat))) := by
  refine qCt.intro okX11_name (Nat.le_of_ble_eq_true rfl) (fun κ hκ => ?_)
  have t0 := hT.1.1
  have hbt : ∀ j : Nat, (j : Int) < m 1 4 → -128 ≤ m 21 j ∧ m 21 j ≤ 127 := fun j hj => (hT.2.1 j hj).2
  have n0 := hX.1.1
  show qJ YX11_name κ _ (qLy u, m, y) 0 0 0 [some (qR 0), none, none] []
  refine qJ.run hκ 2 (pc' := 4) (ls' := [some (qR 0), none, none]) (st' := [qR 1]) rfl ?_
  refine qJ.callV (As := []) (rest := []) hκ rfl kX11_279 (c_takeTape u m y) rfl rfl (by decide) rfl rfl (Nat.le_of_ble_eq_true rfl) (Nat.le_of_ble_eq_true rfl) (Nat.le_of_ble_eq_true rfl) (Or.inl (fun r h' e => by obtain ⟨rfl, rfl⟩ := e; rfl)) (fun r h' e => ?_)
  obtain ⟨rfl, rfl⟩ := e
  show qJ YX11_name κ _ (qLy u, (q_up m 1 4 0), y) 0 0 7 [some (qR 0), none, none] [qI (m 1 4)]
  refine qJ.run hκ 5 (pc' := 14) (ls' := [some (qR 0), some (qI (m 1 4)), none]) (st' := [qI (-1), qI 0, qR 1]) rfl ?_
  refine qJ.callV (As := [qI 0, qI (-1)]) (rest := []) hκ rfl kX11_282 (c_setFault u (q_up m 1 4 0) y 0 (-1)) rfl rfl (by decide) rfl rfl (Nat.le_of_ble_eq_true rfl) (Nat.le_of_ble_eq_true rfl) (Nat.le_of_ble_eq_true rfl) (Or.inl (fun r h' e => by obtain ⟨rfl, rfl⟩ := e; rfl)) (fun r h' e => ?_)
  obtain ⟨rfl, rfl⟩ := e
  show qJ YX11_name κ _ (qLy u, (q_up (q_up (q_up m 1 4 0) 1 5 0) 1 6 (-1)), y) 0 0 17 [some (qR 0), some (qI (m 1 4)), none] []
  refine qJ.run hκ 5 (pc' := 28) (ls' := [some (qR 0), some (qI (m 1 4)), none]) (st' := [qI 5, qI (m 15 0)]) rfl ?_
  refine qJ.icmp_lt hκ (tgt := 34) rfl rfl (by omega) (by omega) (fun c28 => ?_) (fun c28 => ?_)
  · show qJ YX11_name κ _ (qLy u, (q_up (q_up (q_up m 1 4 0) 1 5 0) 1 6 (-1)), y) 0 0 34 [some (qR 0), some (qI (m 1 4)), none] []
    refine qJ.run hκ 3 (pc' := 39) (ls' := [some (qR 0), some (qI (m 1 4)), none]) (st' := [qI (m 1 4), qR 1]) rfl ?_
    refine qJ.callV (As := [qI (m 1 4)]) (rest := []) hκ rfl kX11_295 (c_fnl u (q_up (q_up (q_up m 1 4 0) 1 5 0) 1 6 (-1)) y (m 1 4) (by omega) hbt) rfl rfl (by decide) rfl rfl (Nat.le_of_ble_eq_true rfl) (Nat.le_of_ble_eq_true rfl) (Nat.le_of_ble_eq_true rfl) (Or.inl (fun r h' e => by obtain ⟨rfl, rfl⟩ := e; rfl)) (fun r h' e => ?_)
    obtain ⟨rfl, rfl⟩ := e
    show qJ YX11_name κ _ (qLy u, (q_up (q_up (q_up m 1 4 0) 1 5 0) 1 6 (-1)), y) 0 0 42 [some (qR 0), some (qI (m 1 4)), none] [qI (noL (m 21) (m 1 4))]
    refine qJ.run hκ 1 (pc' := 43) (ls' := [some (qR 0), some (qI (m 1 4)), some (qI (noL (m 21) (m 1 4)))]) (st' := []) rfl ?_
    have nr : qr (noL (m 21) (m 1 4)) := by unfold noL; split; (constructor <;> omega); (have := q_fst_r (fun j => lcode (m 21 j) < 0) (m 1 4).toNat; constructor <;> omega)
    refine qJ.run hκ 2 (pc' := 45) (ls' := [some (qR 0), some (qI (m 1 4)), some (qI (noL (m 21) (m 1 4)))]) (st' := [qI (-1), qI (noL (m 21) (m 1 4))]) rfl ?_
    refine qJ.icmp_eq hκ (tgt := 59) rfl rfl (by omega) (by omega) (fun c45 => ?_) (fun c45 => ?_)
    · show qJ YX11_name κ _ (qLy u, (q_up (q_up (q_up m 1 4 0) 1 5 0) 1 6 (-1)), y) 0 0 59 [some (qR 0), some (qI (m 1 4)), some (qI (noL (m 21) (m 1 4)))] []
      refine qJ.run hκ 2 (pc' := 62) (ls' := [some (qR 0), some (qI (m 1 4)), some (qI (noL (m 21) (m 1 4)))]) (st' := [qI 10, qI (m 1 4)]) rfl ?_
      refine qJ.icmp_le hκ (tgt := 77) rfl rfl (by omega) (by omega) (fun c62 => ?_) (fun c62 => ?_)
      · show qJ YX11_name κ _ (qLy u, (q_up (q_up (q_up m 1 4 0) 1 5 0) 1 6 (-1)), y) 0 0 77 [some (qR 0), some (qI (m 1 4)), some (qI (noL (m 21) (m 1 4)))] []
        refine qJ.run hκ 1 (pc' := 78) (ls' := [some (qR 0), some (qI (m 1 4)), some (qI (noL (m 21) (m 1 4)))]) (st' := [qR 0]) rfl ?_
        refine qJ.callV (As := []) (rest := []) hκ rfl kX11_107 (c_forget u (q_up (q_up (q_up m 1 4 0) 1 5 0) 1 6 (-1)) y) rfl rfl (by decide) rfl rfl (Nat.le_of_ble_eq_true rfl) (Nat.le_of_ble_eq_true rfl) (Nat.le_of_ble_eq_true rfl) (Or.inl (fun r h' e => by obtain ⟨rfl, rfl⟩ := e; rfl)) (fun r h' e => ?_)
        obtain ⟨rfl, rfl⟩ := e
        show qJ YX11_name κ _ (qLy u, (q_up (q_up (q_up (q_up (q_up (q_up (q_up (q_up m 1 4 0) 1 5 0) 1 6 (-1)) 0 10 1) 0 11 1) 0 12 1) 0 13 1) 0 14 1), y) 0 0 81 [some (qR 0), some (qI (m 1 4)), some (qI (noL (m 21) (m 1 4)))] []
        refine qJ.run hκ 10 (pc' := 103) (ls' := [some (qR 0), some (qI (m 1 4)), some (qI (noL (m 21) (m 1 4)))]) (st' := [qI (m 1 8), qI (m 1 4), qR 21, qR 15]) rfl ?_
        refine qJ.callV (As := [qR 21, qI (m 1 4), qI (m 1 8)]) (rest := []) hκ rfl kX11_302 (c_addName u (q_up (q_up (q_up (q_up (q_up (q_up (q_up (q_up m 1 4 0) 1 5 0) 1 6 (-1)) 0 10 1) 0 11 1) 0 12 1) 0 13 1) 0 14 1) y (m 1 4) (m 1 8) (show 0 ≤ m 15 0 ∧ m 15 0 < 5 from by omega) (by omega) hbt) rfl rfl (by decide) rfl rfl (Nat.le_of_ble_eq_true rfl) (Nat.le_of_ble_eq_true rfl) (Nat.le_of_ble_eq_true rfl) (Or.inl (fun r h' e => by obtain ⟨rfl, f, rfl, hf1, hf2⟩ := e; rfl)) (fun r h' e => ?_)
        obtain ⟨rfl, f, rfl, hf1, hf2⟩ := e
        show qJ YX11_name κ _ (qLy u, (q_up (q_up (q_up (q_row (q_up (q_up (q_up (q_up (q_up (q_up (q_up (q_up m 1 4 0) 1 5 0) 1 6 (-1)) 0 10 1) 0 11 1) 0 12 1) 0 13 1) 0 14 1) 16 f) 17 ((m 15 0).toNat) (m 1 4)) 18 ((m 15 0).toNat) (m 1 8)) 15 0 (m 15 0 + 1)), y) 0 0 106 [some (qR 0), some (qI (m 1 4)), some (qI (noL (m 21) (m 1 4)))] [qI (m 15 0)]
        exact qJ.iret hκ rfl rfl (by decide) (by decide) (Or.inr (Or.inr (Or.inr ⟨rfl, ⟨by omega, c45, by omega⟩, f, rfl, hf1, hf2⟩)))
      · show qJ YX11_name κ _ (qLy u, (q_up (q_up (q_up m 1 4 0) 1 5 0) 1 6 (-1)), y) 0 0 65 [some (qR 0), some (qI (m 1 4)), some (qI (noL (m 21) (m 1 4)))] []
        refine qJ.run hκ 4 (pc' := 72) (ls' := [some (qR 0), some (qI (m 1 4)), some (qI (noL (m 21) (m 1 4)))]) (st' := [qI 10, qI 2, qR 1]) rfl ?_
        refine qJ.callV (As := [qI 2, qI 10]) (rest := []) hκ rfl kX11_282 (c_setFault u (q_up (q_up (q_up m 1 4 0) 1 5 0) 1 6 (-1)) y 2 10) rfl rfl (by decide) rfl rfl (Nat.le_of_ble_eq_true rfl) (Nat.le_of_ble_eq_true rfl) (Nat.le_of_ble_eq_true rfl) (Or.inl (fun r h' e => by obtain ⟨rfl, rfl⟩ := e; rfl)) (fun r h' e => ?_)
        obtain ⟨rfl, rfl⟩ := e
        show qJ YX11_name κ _ (qLy u, (q_up (q_up (q_up (q_up (q_up m 1 4 0) 1 5 0) 1 6 (-1)) 1 5 2) 1 6 10), y) 0 0 75 [some (qR 0), some (qI (m 1 4)), some (qI (noL (m 21) (m 1 4)))] []
        refine qJ.run hκ 1 (pc' := 76) (ls' := [some (qR 0), some (qI (m 1 4)), some (qI (noL (m 21) (m 1 4)))]) (st' := [qI (-1)]) rfl ?_
        exact qJ.iret hκ rfl rfl (by decide) (by decide) (Or.inr (Or.inr (Or.inl ⟨rfl, ⟨by omega, c45, by omega⟩, rfl⟩)))
    · show qJ YX11_name κ _ (qLy u, (q_up (q_up (q_up m 1 4 0) 1 5 0) 1 6 (-1)), y) 0 0 48 [some (qR 0), some (qI (m 1 4)), some (qI (noL (m 21) (m 1 4)))] []
      refine qJ.run hκ 4 (pc' := 54) (ls' := [some (qR 0), some (qI (m 1 4)), some (qI (noL (m 21) (m 1 4)))]) (st' := [qI (noL (m 21) (m 1 4)), qI 1, qR 1]) rfl ?_
      refine qJ.callV (As := [qI 1, qI (noL (m 21) (m 1 4))]) (rest := []) hκ rfl kX11_282 (c_setFault u (q_up (q_up (q_up m 1 4 0) 1 5 0) 1 6 (-1)) y 1 (noL (m 21) (m 1 4))) rfl rfl (by decide) rfl rfl (Nat.le_of_ble_eq_true rfl) (Nat.le_of_ble_eq_true rfl) (Nat.le_of_ble_eq_true rfl) (Or.inl (fun r h' e => by obtain ⟨rfl, rfl⟩ := e; rfl)) (fun r h' e => ?_)
      obtain ⟨rfl, rfl⟩ := e
      show qJ YX11_name κ _ (qLy u, (q_up (q_up (q_up (q_up (q_up m 1 4 0) 1 5 0) 1 6 (-1)) 1 5 1) 1 6 (noL (m 21) (m 1 4))), y) 0 0 57 [some (qR 0), some (qI (m 1 4)), some (qI (noL (m 21) (m 1 4)))] []
      refine qJ.run hκ 1 (pc' := 58) (ls' := [some (qR 0), some (qI (m 1 4)), some (qI (noL (m 21) (m 1 4)))]) (st' := [qI (-1)]) rfl ?_
      exact qJ.iret hκ rfl rfl (by decide) (by decide) (Or.inr (Or.inl ⟨rfl, ⟨by omega, c45⟩, rfl⟩))
  · show qJ YX11_name κ _ (qLy u, (q_up (q_up (q_up m 1 4 0) 1 5 0) 1 6 (-1)), y) 0 0 31 [some (qR 0), some (qI (m 1 4)), none] []
    refine qJ.run hκ 1 (pc' := 33) (ls' := [some (qR 0), some (qI (m 1 4)), none]) (st' := [qI (-2)]) rfl ?_
    exact qJ.iret hκ rfl rfl (by decide) (by decide) (Or.inl ⟨rfl, by omega, rfl⟩)

set_option maxRecDepth 100000 in
theorem m_fails (u : qU) (m y : qM) (a b : Int)  : qCt YX12_fails 1 0 0 [qR 77, qI a, qI b] (qLy u, m, y) (fun r h => r = none ∧ h = (qLy u, q_up (q_up m 80 0 a) 81 0 b, y)) := by
  refine qCt.intro okX12_fails (Nat.le_of_ble_eq_true rfl) (fun κ hκ => ?_)
  show qJ YX12_fails κ _ (qLy u, m, y) 0 0 0 [some (qR 77), some (qI a), some (qI b)] []
  refine qJ.run hκ 4 (pc' := 6) (ls' := [some (qR 77), some (qI a), some (qI b)]) (st' := [qI a, qI 0, qR 80]) rfl ?_
  refine qJ.ast hκ rfl rfl rfl (by decide) (by omega) ?_
  show qJ YX12_fails κ _ (qLy u, (q_up m 80 0 a), y) 0 0 7 [some (qR 77), some (qI a), some (qI b)] []
  refine qJ.run hκ 4 (pc' := 13) (ls' := [some (qR 77), some (qI a), some (qI b)]) (st' := [qI b, qI 0, qR 81]) rfl ?_
  refine qJ.ast hκ rfl rfl rfl (by decide) (by omega) ?_
  show qJ YX12_fails κ _ (qLy u, (q_up (q_up m 80 0 a) 81 0 b), y) 0 0 14 [some (qR 77), some (qI a), some (qI b)] []
  exact qJ.vret hκ rfl rfl (by decide) (by decide) (by first | exact ⟨rfl, rfl⟩ | (refine ⟨?_, rfl⟩; first | rfl | omega))

theorem lc_no (c : Int) : (cons c = 0 ∧ vow c = -1) ↔ lcode c < 0 := by
  rw [lc_vc]
  have := vow_r c
  have := cons_r c
  constructor
  · rintro ⟨h1, h2⟩
    rw [if_pos h2, if_pos h1]; omega
  · intro h
    by_cases h2 : vow c = -1
    · rw [if_pos h2] at h
      by_cases h1 : cons c = 0
      · exact ⟨h1, h2⟩
      · rw [if_neg h1] at h; omega
    · rw [if_neg h2] at h; omega

theorem n_byF : ∀ x : Fin 256, q_nar 1 ((x.val : Int) - 128) = (x.val : Int) - 128 := by decide +kernel
theorem n_by {b : Int} (h : -128 ≤ b ∧ b ≤ 127) : q_nar 1 b = b := by
  have := n_byF ⟨(b + 128).toNat, by omega⟩
  simp only [] at this
  rw [show (((b + 128).toNat : Nat) : Int) - 128 = b by omega] at this
  exact this

set_option maxRecDepth 100000 in
theorem m_name (u : qU) (m y : qM) (t0 : 0 ≤ m 79 0 ∧ m 79 0 ≤ 400) (hbt : ∀ j : Nat, (j : Int) < m 79 0 → -128 ≤ m 78 j ∧ m 78 j ≤ 127) (n0 : 0 ≤ m 101 0 ∧ m 101 0 ≤ 5) : qCt YX12_name 2 0 0 [qR 77] (qLy u, m, y) (fun r h => (r = some (qI (-2)) ∧ (m 101 0 = 5) ∧ h = (qLy u, (q_up (q_up (q_up (q_up m 77 0 0) 79 0 0) 80 0 0) 81 0 (-1)), y)) ∨ (r = some (qI (-1)) ∧ (¬ m 101 0 = 5 ∧ ¬ noL (m 78) (m 79 0) = -1) ∧ h = (qLy u, (q_up (q_up (q_up (q_up (q_up (q_up m 77 0 0) 79 0 0) 80 0 0) 81 0 (-1)) 80 0 1) 81 0 (noL (m 78) (m 79 0))), y)) ∨ (r = some (qI (-1)) ∧ (¬ m 101 0 = 5 ∧ noL (m 78) (m 79 0) = -1 ∧ 10 < m 79 0) ∧ h = (qLy u, (q_up (q_up (q_up (q_up (q_up (q_up m 77 0 0) 79 0 0) 80 0 0) 81 0 (-1)) 80 0 2) 81 0 10), y)) ∨ (r = some (qI (m 101 0)) ∧ (¬ m 101 0 = 5 ∧ noL (m 78) (m 79 0) = -1 ∧ m 79 0 ≤ 10) ∧ ∃ f, h = (qLy u, q_row (q_up (q_up (q_up (q_up (q_up (q_up (q_up m 77 0 0) 79 0 0) 80 0 0) 81 0 (-1)) 101 0 (m 101 0 + 1)) 102 ((m 101 0).toNat) (m 79 0)) 103 ((m 101 0).toNat) (m 82 0)) 104 f, y) ∧ (∀ j : Nat, (j : Int) < m 101 0 * 10 → f j = m 104 j) ∧ ∀ i : Int, 0 ≤ i → i < m 79 0 → f (10 * m 101 0 + i).toNat = m 78 i.toNat)) := by
  refine qCt.intro okX12_name (Nat.le_of_ble_eq_true rfl) (fun κ hκ => ?_)
  have L154 : ∀ (n : Nat) (f : Nat → Int) (k : Int), (0 ≤ k) → (k ≤ m 79 0) → ((∀ j : Nat, (j : Int) < m 101 0 * 10 → f j = m 104 j) ∧ ∀ i : Int, 0 ≤ i → i < k → f (10 * m 101 0 + i).toNat = m 78 i.toNat) → (¬ m 101 0 = 5 ∧ noL (m 78) (m 79 0) = -1 ∧ m 79 0 ≤ 10) → ((m 79 0 - k).toNat) < n → qJ YX12_name κ (qFin (fun r h => (r = some (qI (-2)) ∧ (m 101 0 = 5) ∧ h = (qLy u, (q_up (q_up (q_up (q_up m 77 0 0) 79 0 0) 80 0 0) 81 0 (-1)), y)) ∨ (r = some (qI (-1)) ∧ (¬ m 101 0 = 5 ∧ ¬ noL (m 78) (m 79 0) = -1) ∧ h = (qLy u, (q_up (q_up (q_up (q_up (q_up (q_up m 77 0 0) 79 0 0) 80 0 0) 81 0 (-1)) 80 0 1) 81 0 (noL (m 78) (m 79 0))), y)) ∨ (r = some (qI (-1)) ∧ (¬ m 101 0 = 5 ∧ noL (m 78) (m 79 0) = -1 ∧ 10 < m 79 0) ∧ h = (qLy u, (q_up (q_up (q_up (q_up (q_up (q_up m 77 0 0) 79 0 0) 80 0 0) 81 0 (-1)) 80 0 2) 81 0 10), y)) ∨ (r = some (qI (m 101 0)) ∧ (¬ m 101 0 = 5 ∧ noL (m 78) (m 79 0) = -1 ∧ m 79 0 ≤ 10) ∧ ∃ f, h = (qLy u, q_row (q_up (q_up (q_up (q_up (q_up (q_up (q_up m 77 0 0) 79 0 0) 80 0 0) 81 0 (-1)) 101 0 (m 101 0 + 1)) 102 ((m 101 0).toNat) (m 79 0)) 103 ((m 101 0).toNat) (m 82 0)) 104 f, y) ∧ (∀ j : Nat, (j : Int) < m 101 0 * 10 → f j = m 104 j) ∧ ∀ i : Int, 0 ≤ i → i < m 79 0 → f (10 * m 101 0 + i).toNat = m 78 i.toNat)) 0 0 κ) (qLy u, (q_row (q_up (q_up (q_up (q_up (q_up (q_up (q_up m 77 0 0) 79 0 0) 80 0 0) 81 0 (-1)) 101 0 (m 101 0 + 1)) 102 ((m 101 0).toNat) (m 79 0)) 103 ((m 101 0).toNat) (m 82 0)) 104 f), y) 0 0 154 [some (qR 77), some (qI (m 79 0)), some (qI (m 101 0)), some (qI k)] [] := by
    intro n
    induction n with
    | zero => intro f k _ _ _ _ hz0; omega
    | succ n ih154 =>
      intro f k v154_0 v154_1 v154_2 v154_3 v154_m
      refine qJ.run hκ 2 (pc' := 156) (ls' := [some (qR 77), some (qI (m 79 0)), some (qI (m 101 0)), some (qI k)]) (st' := [qI (m 79 0), qI k]) rfl ?_
      refine qJ.icmp_ge hκ (tgt := 182) rfl rfl (by omega) (by omega) (fun c156 => ?_) (fun c156 => ?_)
      · show qJ YX12_name κ _ (qLy u, (q_row (q_up (q_up (q_up (q_up (q_up (q_up (q_up m 77 0 0) 79 0 0) 80 0 0) 81 0 (-1)) 101 0 (m 101 0 + 1)) 102 ((m 101 0).toNat) (m 79 0)) 103 ((m 101 0).toNat) (m 82 0)) 104 f), y) 0 0 182 [some (qR 77), some (qI (m 79 0)), some (qI (m 101 0)), some (qI k)] []
        refine qJ.run hκ 1 (pc' := 183) (ls' := [some (qR 77), some (qI (m 79 0)), some (qI (m 101 0)), some (qI k)]) (st' := [qI (m 101 0)]) rfl ?_
        exact qJ.iret hκ rfl rfl (by decide) (by decide) (Or.inr (Or.inr (Or.inr ⟨rfl, v154_3, f, rfl, v154_2.1, by rw [show m 79 0 = k by omega]; exact v154_2.2⟩)))
      · show qJ YX12_name κ _ (qLy u, (q_row (q_up (q_up (q_up (q_up (q_up (q_up (q_up m 77 0 0) 79 0 0) 80 0 0) 81 0 (-1)) 101 0 (m 101 0 + 1)) 102 ((m 101 0).toNat) (m 79 0)) 103 ((m 101 0).toNat) (m 82 0)) 104 f), y) 0 0 159 [some (qR 77), some (qI (m 79 0)), some (qI (m 101 0)), some (qI k)] []
        have bb := hbt k.toNat (by omega)
        refine qJ.run hκ 10 (pc' := 174) (ls' := [some (qR 77), some (qI (m 79 0)), some (qI (m 101 0)), some (qI k)]) (st' := [qI k, qR 78, qI ((10 * (m 101 0)) + k), qR 104]) rfl ?_
        refine qJ.ald hκ rfl rfl rfl (by decide) (by omega) ?_
        show qJ YX12_name κ _ (qLy u, (q_row (q_up (q_up (q_up (q_up (q_up (q_up (q_up m 77 0 0) 79 0 0) 80 0 0) 81 0 (-1)) 101 0 (m 101 0 + 1)) 102 ((m 101 0).toNat) (m 79 0)) 103 ((m 101 0).toNat) (m 82 0)) 104 f), y) 0 0 175 [some (qR 77), some (qI (m 79 0)), some (qI (m 101 0)), some (qI k)] [qI (m 78 k.toNat), qI ((10 * (m 101 0)) + k), qR 104]
        refine qJ.ast hκ rfl rfl rfl (by decide) (by omega) ?_
        refine qJ.mc (m1 := (q_up (q_row (q_up (q_up (q_up (q_up (q_up (q_up (q_up m 77 0 0) 79 0 0) 80 0 0) 81 0 (-1)) 101 0 (m 101 0 + 1)) 102 ((m 101 0).toNat) (m 79 0)) 103 ((m 101 0).toNat) (m 82 0)) 104 f) 104 (((10 * (m 101 0)) + k).toNat) (q_nar 1 (m 78 k.toNat)))) (m2 := (q_up (q_row (q_up (q_up (q_up (q_up (q_up (q_up (q_up m 77 0 0) 79 0 0) 80 0 0) 81 0 (-1)) 101 0 (m 101 0 + 1)) 102 ((m 101 0).toNat) (m 79 0)) 103 ((m 101 0).toNat) (m 82 0)) 104 f) 104 (((10 * (m 101 0)) + k).toNat) (m 78 k.toNat))) (by rw [n_by (hbt k.toNat (by omega))]) ?_
        refine qJ.mc (m1 := (q_up (q_row (q_up (q_up (q_up (q_up (q_up (q_up (q_up m 77 0 0) 79 0 0) 80 0 0) 81 0 (-1)) 101 0 (m 101 0 + 1)) 102 ((m 101 0).toNat) (m 79 0)) 103 ((m 101 0).toNat) (m 82 0)) 104 f) 104 (((10 * (m 101 0)) + k).toNat) (m 78 k.toNat))) (m2 := (q_row (q_up (q_up (q_up (q_up (q_up (q_up (q_up m 77 0 0) 79 0 0) 80 0 0) 81 0 (-1)) 101 0 (m 101 0 + 1)) 102 ((m 101 0).toNat) (m 79 0)) 103 ((m 101 0).toNat) (m 82 0)) 104 (q_fu f (((10 * (m 101 0)) + k).toNat) (m 78 k.toNat)))) (by rw [q_up_row_eq]) ?_
        show qJ YX12_name κ _ (qLy u, (q_row (q_up (q_up (q_up (q_up (q_up (q_up (q_up m 77 0 0) 79 0 0) 80 0 0) 81 0 (-1)) 101 0 (m 101 0 + 1)) 102 ((m 101 0).toNat) (m 79 0)) 103 ((m 101 0).toNat) (m 82 0)) 104 (q_fu f (((10 * (m 101 0)) + k).toNat) (m 78 k.toNat))), y) 0 0 176 [some (qR 77), some (qI (m 79 0)), some (qI (m 101 0)), some (qI k)] []
        refine qJ.run hκ 2 (pc' := 154) (ls' := [some (qR 77), some (qI (m 79 0)), some (qI (m 101 0)), some (qI (k + 1))]) (st' := []) rfl ?_
        exact qJ.cast (ih154  (q_fu f (((10 * (m 101 0)) + k).toNat) (m 78 k.toNat)) (k + 1) (by omega) (by omega) (⟨fun j hj => by rw [q_fu_ne (by omega)]; exact v154_2.1 j hj, fun i h1 h2 => by by_cases e : i = k; (subst e; rw [q_fu_eq]); rw [q_fu_ne (by omega)]; exact v154_2.2 i h1 (by omega)⟩) (v154_3) (by omega)) (rfl) rfl rfl
  have L40 : ∀ (n : Nat) (k : Int), (0 ≤ k) → (k ≤ m 79 0) → (q_fst (fun j => lcode (m 78 j) < 0) k.toNat = -1) → (¬ m 101 0 = 5) → ((m 79 0 - k).toNat) < n → qJ YX12_name κ (qFin (fun r h => (r = some (qI (-2)) ∧ (m 101 0 = 5) ∧ h = (qLy u, (q_up (q_up (q_up (q_up m 77 0 0) 79 0 0) 80 0 0) 81 0 (-1)), y)) ∨ (r = some (qI (-1)) ∧ (¬ m 101 0 = 5 ∧ ¬ noL (m 78) (m 79 0) = -1) ∧ h = (qLy u, (q_up (q_up (q_up (q_up (q_up (q_up m 77 0 0) 79 0 0) 80 0 0) 81 0 (-1)) 80 0 1) 81 0 (noL (m 78) (m 79 0))), y)) ∨ (r = some (qI (-1)) ∧ (¬ m 101 0 = 5 ∧ noL (m 78) (m 79 0) = -1 ∧ 10 < m 79 0) ∧ h = (qLy u, (q_up (q_up (q_up (q_up (q_up (q_up m 77 0 0) 79 0 0) 80 0 0) 81 0 (-1)) 80 0 2) 81 0 10), y)) ∨ (r = some (qI (m 101 0)) ∧ (¬ m 101 0 = 5 ∧ noL (m 78) (m 79 0) = -1 ∧ m 79 0 ≤ 10) ∧ ∃ f, h = (qLy u, q_row (q_up (q_up (q_up (q_up (q_up (q_up (q_up m 77 0 0) 79 0 0) 80 0 0) 81 0 (-1)) 101 0 (m 101 0 + 1)) 102 ((m 101 0).toNat) (m 79 0)) 103 ((m 101 0).toNat) (m 82 0)) 104 f, y) ∧ (∀ j : Nat, (j : Int) < m 101 0 * 10 → f j = m 104 j) ∧ ∀ i : Int, 0 ≤ i → i < m 79 0 → f (10 * m 101 0 + i).toNat = m 78 i.toNat)) 0 0 κ) (qLy u, (q_up (q_up (q_up (q_up m 77 0 0) 79 0 0) 80 0 0) 81 0 (-1)), y) 0 0 40 [some (qR 77), some (qI (m 79 0)), some (qI k), none] [] := by
    intro n
    induction n with
    | zero => intro k _ _ _ _ hz0; omega
    | succ n ih40 =>
      intro k v40_0 v40_1 v40_2 v40_3 v40_m
      refine qJ.run hκ 2 (pc' := 42) (ls' := [some (qR 77), some (qI (m 79 0)), some (qI k), none]) (st' := [qI (m 79 0), qI k]) rfl ?_
      refine qJ.icmp_ge hκ (tgt := 81) rfl rfl (by omega) (by omega) (fun c42 => ?_) (fun c42 => ?_)
      · show qJ YX12_name κ _ (qLy u, (q_up (q_up (q_up (q_up m 77 0 0) 79 0 0) 80 0 0) 81 0 (-1)), y) 0 0 81 [some (qR 77), some (qI (m 79 0)), some (qI k), none] []
        refine qJ.run hκ 1 (pc' := 82) (ls' := [some (qR 77), some (qI (m 79 0)), some (qI k), none]) (st' := [qI (m 79 0)]) rfl ?_
        refine qJ.if_eq hκ (tgt := 91) rfl rfl (by omega) (fun c82 => ?_) (fun c82 => ?_)
        · show qJ YX12_name κ _ (qLy u, (q_up (q_up (q_up (q_up m 77 0 0) 79 0 0) 80 0 0) 81 0 (-1)), y) 0 0 91 [some (qR 77), some (qI (m 79 0)), some (qI k), none] []
          refine qJ.run hκ 2 (pc' := 93) (ls' := [some (qR 77), some (qI (m 79 0)), some (qI k), none]) (st' := [qI (m 79 0), qR 77]) rfl ?_
          refine qJ.if_ne hκ (tgt := 100) rfl rfl (by omega) (fun c93 => ?_) (fun c93 => ?_)
          · show qJ YX12_name κ _ (qLy u, (q_up (q_up (q_up (q_up m 77 0 0) 79 0 0) 80 0 0) 81 0 (-1)), y) 0 0 100 [some (qR 77), some (qI (m 79 0)), some (qI k), none] [qR 77]
            refine qJ.run hκ 2 (pc' := 102) (ls' := [some (qR 77), some (qI (m 79 0)), some (qI k), none]) (st' := [qI (m 79 0), qI 2, qR 77]) rfl ?_
            refine qJ.if_ne hκ (tgt := 109) rfl rfl (by omega) (fun c102 => ?_) (fun c102 => ?_)
            · show qJ YX12_name κ _ (qLy u, (q_up (q_up (q_up (q_up m 77 0 0) 79 0 0) 80 0 0) 81 0 (-1)), y) 0 0 109 [some (qR 77), some (qI (m 79 0)), some (qI k), none] [qI 2, qR 77]
              refine qJ.run hκ 1 (pc' := 111) (ls' := [some (qR 77), some (qI (m 79 0)), some (qI k), none]) (st' := [qI 10, qI 2, qR 77]) rfl ?_
              refine qJ.callV (As := [qI 2, qI 10]) (rest := []) hκ rfl kX12_255 (m_fails u (q_up (q_up (q_up (q_up m 77 0 0) 79 0 0) 80 0 0) 81 0 (-1)) y 2 10) rfl rfl (by decide) rfl rfl (Nat.le_of_ble_eq_true rfl) (Nat.le_of_ble_eq_true rfl) (Nat.le_of_ble_eq_true rfl) (Or.inl (fun r h' e => by obtain ⟨rfl, rfl⟩ := e; rfl)) (fun r h' e => ?_)
              obtain ⟨rfl, rfl⟩ := e
              show qJ YX12_name κ _ (qLy u, (q_up (q_up (q_up (q_up (q_up (q_up m 77 0 0) 79 0 0) 80 0 0) 81 0 (-1)) 80 0 2) 81 0 10), y) 0 0 114 [some (qR 77), some (qI (m 79 0)), some (qI k), none] []
              refine qJ.run hκ 1 (pc' := 115) (ls' := [some (qR 77), some (qI (m 79 0)), some (qI k), none]) (st' := [qI (-1)]) rfl ?_
              exact qJ.iret hκ rfl rfl (by decide) (by decide) (by first | (exfalso; omega) | exact Or.inr (Or.inr (Or.inl ⟨rfl, ⟨by omega, nlE, by omega⟩, rfl⟩)))
            · show qJ YX12_name κ _ (qLy u, (q_up (q_up (q_up (q_up m 77 0 0) 79 0 0) 80 0 0) 81 0 (-1)), y) 0 0 105 [some (qR 77), some (qI (m 79 0)), some (qI k), none] [qI 2, qR 77]
              refine qJ.run hκ 2 (pc' := 111) (ls' := [some (qR 77), some (qI (m 79 0)), some (qI k), none]) (st' := [qI 0, qI 2, qR 77]) rfl ?_
              refine qJ.callV (As := [qI 2, qI 0]) (rest := []) hκ rfl kX12_255 (m_fails u (q_up (q_up (q_up (q_up m 77 0 0) 79 0 0) 80 0 0) 81 0 (-1)) y 2 0) rfl rfl (by decide) rfl rfl (Nat.le_of_ble_eq_true rfl) (Nat.le_of_ble_eq_true rfl) (Nat.le_of_ble_eq_true rfl) (Or.inl (fun r h' e => by obtain ⟨rfl, rfl⟩ := e; rfl)) (fun r h' e => ?_)
              obtain ⟨rfl, rfl⟩ := e
              show qJ YX12_name κ _ (qLy u, (q_up (q_up (q_up (q_up (q_up (q_up m 77 0 0) 79 0 0) 80 0 0) 81 0 (-1)) 80 0 2) 81 0 0), y) 0 0 114 [some (qR 77), some (qI (m 79 0)), some (qI k), none] []
              refine qJ.run hκ 1 (pc' := 115) (ls' := [some (qR 77), some (qI (m 79 0)), some (qI k), none]) (st' := [qI (-1)]) rfl ?_
              exact qJ.iret hκ rfl rfl (by decide) (by decide) (by exfalso; omega)
          · show qJ YX12_name κ _ (qLy u, (q_up (q_up (q_up (q_up m 77 0 0) 79 0 0) 80 0 0) 81 0 (-1)), y) 0 0 96 [some (qR 77), some (qI (m 79 0)), some (qI k), none] [qR 77]
            refine qJ.run hκ 3 (pc' := 102) (ls' := [some (qR 77), some (qI (m 79 0)), some (qI k), none]) (st' := [qI (m 79 0), qI 1, qR 77]) rfl ?_
            refine qJ.if_ne hκ (tgt := 109) rfl rfl (by omega) (fun c102 => ?_) (fun c102 => ?_)
            · show qJ YX12_name κ _ (qLy u, (q_up (q_up (q_up (q_up m 77 0 0) 79 0 0) 80 0 0) 81 0 (-1)), y) 0 0 109 [some (qR 77), some (qI (m 79 0)), some (qI k), none] [qI 1, qR 77]
              refine qJ.run hκ 1 (pc' := 111) (ls' := [some (qR 77), some (qI (m 79 0)), some (qI k), none]) (st' := [qI 10, qI 1, qR 77]) rfl ?_
              refine qJ.callV (As := [qI 1, qI 10]) (rest := []) hκ rfl kX12_255 (m_fails u (q_up (q_up (q_up (q_up m 77 0 0) 79 0 0) 80 0 0) 81 0 (-1)) y 1 10) rfl rfl (by decide) rfl rfl (Nat.le_of_ble_eq_true rfl) (Nat.le_of_ble_eq_true rfl) (Nat.le_of_ble_eq_true rfl) (Or.inl (fun r h' e => by obtain ⟨rfl, rfl⟩ := e; rfl)) (fun r h' e => ?_)
              obtain ⟨rfl, rfl⟩ := e
              show qJ YX12_name κ _ (qLy u, (q_up (q_up (q_up (q_up (q_up (q_up m 77 0 0) 79 0 0) 80 0 0) 81 0 (-1)) 80 0 1) 81 0 10), y) 0 0 114 [some (qR 77), some (qI (m 79 0)), some (qI k), none] []
              refine qJ.run hκ 1 (pc' := 115) (ls' := [some (qR 77), some (qI (m 79 0)), some (qI k), none]) (st' := [qI (-1)]) rfl ?_
              exact qJ.iret hκ rfl rfl (by decide) (by decide) (by exfalso; omega)
            · show qJ YX12_name κ _ (qLy u, (q_up (q_up (q_up (q_up m 77 0 0) 79 0 0) 80 0 0) 81 0 (-1)), y) 0 0 105 [some (qR 77), some (qI (m 79 0)), some (qI k), none] [qI 1, qR 77]
              refine qJ.run hκ 2 (pc' := 111) (ls' := [some (qR 77), some (qI (m 79 0)), some (qI k), none]) (st' := [qI 0, qI 1, qR 77]) rfl ?_
              refine qJ.callV (As := [qI 1, qI 0]) (rest := []) hκ rfl kX12_255 (m_fails u (q_up (q_up (q_up (q_up m 77 0 0) 79 0 0) 80 0 0) 81 0 (-1)) y 1 0) rfl rfl (by decide) rfl rfl (Nat.le_of_ble_eq_true rfl) (Nat.le_of_ble_eq_true rfl) (Nat.le_of_ble_eq_true rfl) (Or.inl (fun r h' e => by obtain ⟨rfl, rfl⟩ := e; rfl)) (fun r h' e => ?_)
              obtain ⟨rfl, rfl⟩ := e
              show qJ YX12_name κ _ (qLy u, (q_up (q_up (q_up (q_up (q_up (q_up m 77 0 0) 79 0 0) 80 0 0) 81 0 (-1)) 80 0 1) 81 0 0), y) 0 0 114 [some (qR 77), some (qI (m 79 0)), some (qI k), none] []
              refine qJ.run hκ 1 (pc' := 115) (ls' := [some (qR 77), some (qI (m 79 0)), some (qI k), none]) (st' := [qI (-1)]) rfl ?_
              exact qJ.iret hκ rfl rfl (by decide) (by decide) (by first | (exfalso; omega) | exact Or.inr (Or.inl ⟨rfl, ⟨by omega, by unfold noL; rw [if_pos (by omega)]; decide⟩, by unfold noL; rw [if_pos (show m 79 0 = 0 by omega)]⟩))
        · show qJ YX12_name κ _ (qLy u, (q_up (q_up (q_up (q_up m 77 0 0) 79 0 0) 80 0 0) 81 0 (-1)), y) 0 0 85 [some (qR 77), some (qI (m 79 0)), some (qI k), none] []
          have nlE : noL (m 78) (m 79 0) = -1 := by unfold noL; rw [if_neg (by omega), show (m 79 0).toNat = k.toNat by omega]; exact v40_2
          refine qJ.run hκ 2 (pc' := 88) (ls' := [some (qR 77), some (qI (m 79 0)), some (qI k), none]) (st' := [qI 10, qI (m 79 0)]) rfl ?_
          refine qJ.icmp_le hκ (tgt := 116) rfl rfl (by omega) (by omega) (fun c88 => ?_) (fun c88 => ?_)
          · show qJ YX12_name κ _ (qLy u, (q_up (q_up (q_up (q_up m 77 0 0) 79 0 0) 80 0 0) 81 0 (-1)), y) 0 0 116 [some (qR 77), some (qI (m 79 0)), some (qI k), none] []
            refine qJ.run hκ 3 (pc' := 121) (ls' := [some (qR 77), some (qI (m 79 0)), some (qI k), none]) (st' := [qI 0, qR 101]) rfl ?_
            refine qJ.ald hκ rfl rfl rfl (by decide) (by omega) ?_
            show qJ YX12_name κ _ (qLy u, (q_up (q_up (q_up (q_up m 77 0 0) 79 0 0) 80 0 0) 81 0 (-1)), y) 0 0 122 [some (qR 77), some (qI (m 79 0)), some (qI k), none] [qI (m 101 0)]
            refine qJ.run hκ 5 (pc' := 129) (ls' := [some (qR 77), some (qI (m 79 0)), some (qI (m 101 0)), none]) (st' := [qI 0, qR 101, qI 0, qR 101]) rfl ?_
            refine qJ.ald hκ rfl rfl rfl (by decide) (by omega) ?_
            show qJ YX12_name κ _ (qLy u, (q_up (q_up (q_up (q_up m 77 0 0) 79 0 0) 80 0 0) 81 0 (-1)), y) 0 0 130 [some (qR 77), some (qI (m 79 0)), some (qI (m 101 0)), none] [qI (m 101 0), qI 0, qR 101]
            refine qJ.run hκ 2 (pc' := 132) (ls' := [some (qR 77), some (qI (m 79 0)), some (qI (m 101 0)), none]) (st' := [qI ((m 101 0) + 1), qI 0, qR 101]) rfl ?_
            refine qJ.ast hκ rfl rfl rfl (by decide) (by omega) ?_
            show qJ YX12_name κ _ (qLy u, (q_up (q_up (q_up (q_up (q_up m 77 0 0) 79 0 0) 80 0 0) 81 0 (-1)) 101 0 ((m 101 0) + 1)), y) 0 0 133 [some (qR 77), some (qI (m 79 0)), some (qI (m 101 0)), none] []
            refine qJ.run hκ 4 (pc' := 139) (ls' := [some (qR 77), some (qI (m 79 0)), some (qI (m 101 0)), none]) (st' := [qI (m 79 0), qI (m 101 0), qR 102]) rfl ?_
            refine qJ.ast hκ rfl rfl rfl (by decide) (by omega) ?_
            show qJ YX12_name κ _ (qLy u, (q_up (q_up (q_up (q_up (q_up (q_up m 77 0 0) 79 0 0) 80 0 0) 81 0 (-1)) 101 0 ((m 101 0) + 1)) 102 ((m 101 0).toNat) (m 79 0)), y) 0 0 140 [some (qR 77), some (qI (m 79 0)), some (qI (m 101 0)), none] []
            refine qJ.run hκ 6 (pc' := 150) (ls' := [some (qR 77), some (qI (m 79 0)), some (qI (m 101 0)), none]) (st' := [qI 0, qR 82, qI (m 101 0), qR 103]) rfl ?_
            refine qJ.ald hκ rfl rfl rfl (by decide) (by omega) ?_
            show qJ YX12_name κ _ (qLy u, (q_up (q_up (q_up (q_up (q_up (q_up m 77 0 0) 79 0 0) 80 0 0) 81 0 (-1)) 101 0 ((m 101 0) + 1)) 102 ((m 101 0).toNat) (m 79 0)), y) 0 0 151 [some (qR 77), some (qI (m 79 0)), some (qI (m 101 0)), none] [qI (m 82 0), qI (m 101 0), qR 103]
            refine qJ.ast hκ rfl rfl rfl (by decide) (by omega) ?_
            show qJ YX12_name κ _ (qLy u, (q_up (q_up (q_up (q_up (q_up (q_up (q_up m 77 0 0) 79 0 0) 80 0 0) 81 0 (-1)) 101 0 ((m 101 0) + 1)) 102 ((m 101 0).toNat) (m 79 0)) 103 ((m 101 0).toNat) (m 82 0)), y) 0 0 152 [some (qR 77), some (qI (m 79 0)), some (qI (m 101 0)), none] []
            refine qJ.run hκ 2 (pc' := 154) (ls' := [some (qR 77), some (qI (m 79 0)), some (qI (m 101 0)), some (qI 0)]) (st' := []) rfl ?_
            exact qJ.cast (L154 12 (m 104) 0 (by omega) (by omega) (⟨fun j _ => rfl, fun i h1 h2 => by omega⟩) (⟨by omega, nlE, by omega⟩) (by omega)) (congrArg (fun z => (qLy u, z, y)) (q_row_id (a := 104) (f := m 104) (by rfl)).symm) rfl rfl
          · show qJ YX12_name κ _ (qLy u, (q_up (q_up (q_up (q_up m 77 0 0) 79 0 0) 80 0 0) 81 0 (-1)), y) 0 0 91 [some (qR 77), some (qI (m 79 0)), some (qI k), none] []
            refine qJ.run hκ 2 (pc' := 93) (ls' := [some (qR 77), some (qI (m 79 0)), some (qI k), none]) (st' := [qI (m 79 0), qR 77]) rfl ?_
            refine qJ.if_ne hκ (tgt := 100) rfl rfl (by omega) (fun c93 => ?_) (fun c93 => ?_)
            · show qJ YX12_name κ _ (qLy u, (q_up (q_up (q_up (q_up m 77 0 0) 79 0 0) 80 0 0) 81 0 (-1)), y) 0 0 100 [some (qR 77), some (qI (m 79 0)), some (qI k), none] [qR 77]
              refine qJ.run hκ 2 (pc' := 102) (ls' := [some (qR 77), some (qI (m 79 0)), some (qI k), none]) (st' := [qI (m 79 0), qI 2, qR 77]) rfl ?_
              refine qJ.if_ne hκ (tgt := 109) rfl rfl (by omega) (fun c102 => ?_) (fun c102 => ?_)
              · show qJ YX12_name κ _ (qLy u, (q_up (q_up (q_up (q_up m 77 0 0) 79 0 0) 80 0 0) 81 0 (-1)), y) 0 0 109 [some (qR 77), some (qI (m 79 0)), some (qI k), none] [qI 2, qR 77]
                refine qJ.run hκ 1 (pc' := 111) (ls' := [some (qR 77), some (qI (m 79 0)), some (qI k), none]) (st' := [qI 10, qI 2, qR 77]) rfl ?_
                refine qJ.callV (As := [qI 2, qI 10]) (rest := []) hκ rfl kX12_255 (m_fails u (q_up (q_up (q_up (q_up m 77 0 0) 79 0 0) 80 0 0) 81 0 (-1)) y 2 10) rfl rfl (by decide) rfl rfl (Nat.le_of_ble_eq_true rfl) (Nat.le_of_ble_eq_true rfl) (Nat.le_of_ble_eq_true rfl) (Or.inl (fun r h' e => by obtain ⟨rfl, rfl⟩ := e; rfl)) (fun r h' e => ?_)
                obtain ⟨rfl, rfl⟩ := e
                show qJ YX12_name κ _ (qLy u, (q_up (q_up (q_up (q_up (q_up (q_up m 77 0 0) 79 0 0) 80 0 0) 81 0 (-1)) 80 0 2) 81 0 10), y) 0 0 114 [some (qR 77), some (qI (m 79 0)), some (qI k), none] []
                refine qJ.run hκ 1 (pc' := 115) (ls' := [some (qR 77), some (qI (m 79 0)), some (qI k), none]) (st' := [qI (-1)]) rfl ?_
                exact qJ.iret hκ rfl rfl (by decide) (by decide) (by first | (exfalso; omega) | exact Or.inr (Or.inr (Or.inl ⟨rfl, ⟨by omega, nlE, by omega⟩, rfl⟩)))
              · show qJ YX12_name κ _ (qLy u, (q_up (q_up (q_up (q_up m 77 0 0) 79 0 0) 80 0 0) 81 0 (-1)), y) 0 0 105 [some (qR 77), some (qI (m 79 0)), some (qI k), none] [qI 2, qR 77]
                refine qJ.run hκ 2 (pc' := 111) (ls' := [some (qR 77), some (qI (m 79 0)), some (qI k), none]) (st' := [qI 0, qI 2, qR 77]) rfl ?_
                refine qJ.callV (As := [qI 2, qI 0]) (rest := []) hκ rfl kX12_255 (m_fails u (q_up (q_up (q_up (q_up m 77 0 0) 79 0 0) 80 0 0) 81 0 (-1)) y 2 0) rfl rfl (by decide) rfl rfl (Nat.le_of_ble_eq_true rfl) (Nat.le_of_ble_eq_true rfl) (Nat.le_of_ble_eq_true rfl) (Or.inl (fun r h' e => by obtain ⟨rfl, rfl⟩ := e; rfl)) (fun r h' e => ?_)
                obtain ⟨rfl, rfl⟩ := e
                show qJ YX12_name κ _ (qLy u, (q_up (q_up (q_up (q_up (q_up (q_up m 77 0 0) 79 0 0) 80 0 0) 81 0 (-1)) 80 0 2) 81 0 0), y) 0 0 114 [some (qR 77), some (qI (m 79 0)), some (qI k), none] []
                refine qJ.run hκ 1 (pc' := 115) (ls' := [some (qR 77), some (qI (m 79 0)), some (qI k), none]) (st' := [qI (-1)]) rfl ?_
                exact qJ.iret hκ rfl rfl (by decide) (by decide) (by exfalso; omega)
            · show qJ YX12_name κ _ (qLy u, (q_up (q_up (q_up (q_up m 77 0 0) 79 0 0) 80 0 0) 81 0 (-1)), y) 0 0 96 [some (qR 77), some (qI (m 79 0)), some (qI k), none] [qR 77]
              refine qJ.run hκ 3 (pc' := 102) (ls' := [some (qR 77), some (qI (m 79 0)), some (qI k), none]) (st' := [qI (m 79 0), qI 1, qR 77]) rfl ?_
              refine qJ.if_ne hκ (tgt := 109) rfl rfl (by omega) (fun c102 => ?_) (fun c102 => ?_)
              · show qJ YX12_name κ _ (qLy u, (q_up (q_up (q_up (q_up m 77 0 0) 79 0 0) 80 0 0) 81 0 (-1)), y) 0 0 109 [some (qR 77), some (qI (m 79 0)), some (qI k), none] [qI 1, qR 77]
                refine qJ.run hκ 1 (pc' := 111) (ls' := [some (qR 77), some (qI (m 79 0)), some (qI k), none]) (st' := [qI 10, qI 1, qR 77]) rfl ?_
                refine qJ.callV (As := [qI 1, qI 10]) (rest := []) hκ rfl kX12_255 (m_fails u (q_up (q_up (q_up (q_up m 77 0 0) 79 0 0) 80 0 0) 81 0 (-1)) y 1 10) rfl rfl (by decide) rfl rfl (Nat.le_of_ble_eq_true rfl) (Nat.le_of_ble_eq_true rfl) (Nat.le_of_ble_eq_true rfl) (Or.inl (fun r h' e => by obtain ⟨rfl, rfl⟩ := e; rfl)) (fun r h' e => ?_)
                obtain ⟨rfl, rfl⟩ := e
                show qJ YX12_name κ _ (qLy u, (q_up (q_up (q_up (q_up (q_up (q_up m 77 0 0) 79 0 0) 80 0 0) 81 0 (-1)) 80 0 1) 81 0 10), y) 0 0 114 [some (qR 77), some (qI (m 79 0)), some (qI k), none] []
                refine qJ.run hκ 1 (pc' := 115) (ls' := [some (qR 77), some (qI (m 79 0)), some (qI k), none]) (st' := [qI (-1)]) rfl ?_
                exact qJ.iret hκ rfl rfl (by decide) (by decide) (by exfalso; omega)
              · show qJ YX12_name κ _ (qLy u, (q_up (q_up (q_up (q_up m 77 0 0) 79 0 0) 80 0 0) 81 0 (-1)), y) 0 0 105 [some (qR 77), some (qI (m 79 0)), some (qI k), none] [qI 1, qR 77]
                refine qJ.run hκ 2 (pc' := 111) (ls' := [some (qR 77), some (qI (m 79 0)), some (qI k), none]) (st' := [qI 0, qI 1, qR 77]) rfl ?_
                refine qJ.callV (As := [qI 1, qI 0]) (rest := []) hκ rfl kX12_255 (m_fails u (q_up (q_up (q_up (q_up m 77 0 0) 79 0 0) 80 0 0) 81 0 (-1)) y 1 0) rfl rfl (by decide) rfl rfl (Nat.le_of_ble_eq_true rfl) (Nat.le_of_ble_eq_true rfl) (Nat.le_of_ble_eq_true rfl) (Or.inl (fun r h' e => by obtain ⟨rfl, rfl⟩ := e; rfl)) (fun r h' e => ?_)
                obtain ⟨rfl, rfl⟩ := e
                show qJ YX12_name κ _ (qLy u, (q_up (q_up (q_up (q_up (q_up (q_up m 77 0 0) 79 0 0) 80 0 0) 81 0 (-1)) 80 0 1) 81 0 0), y) 0 0 114 [some (qR 77), some (qI (m 79 0)), some (qI k), none] []
                refine qJ.run hκ 1 (pc' := 115) (ls' := [some (qR 77), some (qI (m 79 0)), some (qI k), none]) (st' := [qI (-1)]) rfl ?_
                exact qJ.iret hκ rfl rfl (by decide) (by decide) (by first | (exfalso; omega) | exact Or.inr (Or.inl ⟨rfl, ⟨by omega, by unfold noL; rw [if_pos (by omega)]; decide⟩, by unfold noL; rw [if_pos (show m 79 0 = 0 by omega)]⟩))
      · show qJ YX12_name κ _ (qLy u, (q_up (q_up (q_up (q_up m 77 0 0) 79 0 0) 80 0 0) 81 0 (-1)), y) 0 0 45 [some (qR 77), some (qI (m 79 0)), some (qI k), none] []
        have bb := hbt k.toNat (by omega)
        have lno := lc_no (m 78 k.toNat)
        have vr := vow_r (m 78 k.toNat)
        have cr := cons_r (m 78 k.toNat)
        refine qJ.run hκ 3 (pc' := 50) (ls' := [some (qR 77), some (qI (m 79 0)), some (qI k), none]) (st' := [qI k, qR 78]) rfl ?_
        refine qJ.ald hκ rfl rfl rfl (by decide) (by omega) ?_
        show qJ YX12_name κ _ (qLy u, (q_up (q_up (q_up (q_up m 77 0 0) 79 0 0) 80 0 0) 81 0 (-1)), y) 0 0 51 [some (qR 77), some (qI (m 79 0)), some (qI k), none] [qI (m 78 k.toNat)]
        refine qJ.run hκ 2 (pc' := 53) (ls' := [some (qR 77), some (qI (m 79 0)), some (qI k), some (qI (m 78 k.toNat))]) (st' := [qI (m 78 k.toNat)]) rfl ?_
        refine qJ.callS (As := [qI (m 78 k.toNat)]) (rest := []) hκ rfl kX12_258 (m_cons u (q_up (q_up (q_up (q_up m 77 0 0) 79 0 0) 80 0 0) 81 0 (-1)) y (m 78 k.toNat) (by omega)) (by decide) rfl rfl (Nat.le_of_ble_eq_true rfl) (Nat.le_of_ble_eq_true rfl) (Nat.le_of_ble_eq_true rfl) (Or.inl (fun r h' e => by obtain ⟨rfl, rfl⟩ := e; rfl)) (fun r h' e => ?_)
        obtain ⟨rfl, rfl⟩ := e
        show qJ YX12_name κ _ (qLy u, (q_up (q_up (q_up (q_up m 77 0 0) 79 0 0) 80 0 0) 81 0 (-1)), y) 0 0 56 [some (qR 77), some (qI (m 79 0)), some (qI k), some (qI (m 78 k.toNat))] [qI (cons (m 78 k.toNat))]
        refine qJ.if_ne hκ (tgt := 75) rfl rfl (by omega) (fun c56 => ?_) (fun c56 => ?_)
        · show qJ YX12_name κ _ (qLy u, (q_up (q_up (q_up (q_up m 77 0 0) 79 0 0) 80 0 0) 81 0 (-1)), y) 0 0 75 [some (qR 77), some (qI (m 79 0)), some (qI k), some (qI (m 78 k.toNat))] []
          refine qJ.run hκ 2 (pc' := 40) (ls' := [some (qR 77), some (qI (m 79 0)), some (qI (k + 1)), some (qI (m 78 k.toNat))]) (st' := []) rfl ?_
          refine qJ.dl [true, true, true, false] ?_
          show qJ YX12_name κ _ (qLy u, (q_up (q_up (q_up (q_up m 77 0 0) 79 0 0) 80 0 0) 81 0 (-1)), y) 0 0 40 [some (qR 77), some (qI (m 79 0)), some (qI (k + 1)), none] []
          exact ih40  (k + 1) (by omega) (by omega) (q_fst_no v40_0 v40_2 (fun z => by have z2 := lno.mpr z; omega)) (by omega) (by omega)
        · show qJ YX12_name κ _ (qLy u, (q_up (q_up (q_up (q_up m 77 0 0) 79 0 0) 80 0 0) 81 0 (-1)), y) 0 0 59 [some (qR 77), some (qI (m 79 0)), some (qI k), some (qI (m 78 k.toNat))] []
          refine qJ.run hκ 1 (pc' := 60) (ls' := [some (qR 77), some (qI (m 79 0)), some (qI k), some (qI (m 78 k.toNat))]) (st' := [qI (m 78 k.toNat)]) rfl ?_
          refine qJ.callS (As := [qI (m 78 k.toNat)]) (rest := []) hκ rfl kX12_261 (m_vow u (q_up (q_up (q_up (q_up m 77 0 0) 79 0 0) 80 0 0) 81 0 (-1)) y (m 78 k.toNat) (by omega)) (by decide) rfl rfl (Nat.le_of_ble_eq_true rfl) (Nat.le_of_ble_eq_true rfl) (Nat.le_of_ble_eq_true rfl) (Or.inl (fun r h' e => by obtain ⟨rfl, rfl⟩ := e; rfl)) (fun r h' e => ?_)
          obtain ⟨rfl, rfl⟩ := e
          show qJ YX12_name κ _ (qLy u, (q_up (q_up (q_up (q_up m 77 0 0) 79 0 0) 80 0 0) 81 0 (-1)), y) 0 0 63 [some (qR 77), some (qI (m 79 0)), some (qI k), some (qI (m 78 k.toNat))] [qI (vow (m 78 k.toNat))]
          refine qJ.run hκ 1 (pc' := 64) (ls' := [some (qR 77), some (qI (m 79 0)), some (qI k), some (qI (m 78 k.toNat))]) (st' := [qI (-1), qI (vow (m 78 k.toNat))]) rfl ?_
          refine qJ.icmp_ne hκ (tgt := 75) rfl rfl (by omega) (by omega) (fun c64 => ?_) (fun c64 => ?_)
          · show qJ YX12_name κ _ (qLy u, (q_up (q_up (q_up (q_up m 77 0 0) 79 0 0) 80 0 0) 81 0 (-1)), y) 0 0 75 [some (qR 77), some (qI (m 79 0)), some (qI k), some (qI (m 78 k.toNat))] []
            refine qJ.run hκ 2 (pc' := 40) (ls' := [some (qR 77), some (qI (m 79 0)), some (qI (k + 1)), some (qI (m 78 k.toNat))]) (st' := []) rfl ?_
            refine qJ.dl [true, true, true, false] ?_
            show qJ YX12_name κ _ (qLy u, (q_up (q_up (q_up (q_up m 77 0 0) 79 0 0) 80 0 0) 81 0 (-1)), y) 0 0 40 [some (qR 77), some (qI (m 79 0)), some (qI (k + 1)), none] []
            exact ih40  (k + 1) (by omega) (by omega) (q_fst_no v40_0 v40_2 (fun z => by have z2 := lno.mpr z; omega)) (by omega) (by omega)
          · show qJ YX12_name κ _ (qLy u, (q_up (q_up (q_up (q_up m 77 0 0) 79 0 0) 80 0 0) 81 0 (-1)), y) 0 0 67 [some (qR 77), some (qI (m 79 0)), some (qI k), some (qI (m 78 k.toNat))] []
            refine qJ.run hκ 3 (pc' := 70) (ls' := [some (qR 77), some (qI (m 79 0)), some (qI k), some (qI (m 78 k.toNat))]) (st' := [qI k, qI 1, qR 77]) rfl ?_
            refine qJ.callV (As := [qI 1, qI k]) (rest := []) hκ rfl kX12_255 (m_fails u (q_up (q_up (q_up (q_up m 77 0 0) 79 0 0) 80 0 0) 81 0 (-1)) y 1 k) rfl rfl (by decide) rfl rfl (Nat.le_of_ble_eq_true rfl) (Nat.le_of_ble_eq_true rfl) (Nat.le_of_ble_eq_true rfl) (Or.inl (fun r h' e => by obtain ⟨rfl, rfl⟩ := e; rfl)) (fun r h' e => ?_)
            obtain ⟨rfl, rfl⟩ := e
            show qJ YX12_name κ _ (qLy u, (q_up (q_up (q_up (q_up (q_up (q_up m 77 0 0) 79 0 0) 80 0 0) 81 0 (-1)) 80 0 1) 81 0 k), y) 0 0 73 [some (qR 77), some (qI (m 79 0)), some (qI k), some (qI (m 78 k.toNat))] []
            refine qJ.run hκ 1 (pc' := 74) (ls' := [some (qR 77), some (qI (m 79 0)), some (qI k), some (qI (m 78 k.toNat))]) (st' := [qI (-1)]) rfl ?_
            exact qJ.iret hκ rfl rfl (by decide) (by decide) (by
      have hit := q_fst_hit (p := fun j => lcode (m 78 j) < 0) v40_0 v40_2 (lno.mp ⟨by omega, by omega⟩) (m 79 0).toNat (by omega)
      have e : noL (m 78) (m 79 0) = k := by unfold noL; rw [if_neg (by omega), hit]
      exact Or.inr (Or.inl ⟨rfl, ⟨v40_3, by rw [e]; omega⟩, by rw [e]⟩))
  show qJ YX12_name κ _ (qLy u, m, y) 0 0 0 [some (qR 77), none, none, none] []
  refine qJ.run hκ 2 (pc' := 2) (ls' := [some (qR 77), none, none, none]) (st' := [qI 0, qR 77]) rfl ?_
  refine qJ.putI hκ rfl rfl rfl rfl (Or.inl rfl) ?_
  show qJ YX12_name κ _ (qLy u, (q_up m 77 0 0), y) 0 0 5 [some (qR 77), none, none, none] []
  refine qJ.run hκ 3 (pc' := 10) (ls' := [some (qR 77), none, none, none]) (st' := [qI 0, qR 79]) rfl ?_
  refine qJ.ald hκ rfl rfl rfl (by decide) (by omega) ?_
  show qJ YX12_name κ _ (qLy u, (q_up m 77 0 0), y) 0 0 11 [some (qR 77), none, none, none] [qI (m 79 0)]
  refine qJ.run hκ 5 (pc' := 18) (ls' := [some (qR 77), some (qI (m 79 0)), none, none]) (st' := [qI 0, qI 0, qR 79]) rfl ?_
  refine qJ.ast hκ rfl rfl rfl (by decide) (by omega) ?_
  show qJ YX12_name κ _ (qLy u, (q_up (q_up m 77 0 0) 79 0 0), y) 0 0 19 [some (qR 77), some (qI (m 79 0)), none, none] []
  refine qJ.run hκ 3 (pc' := 22) (ls' := [some (qR 77), some (qI (m 79 0)), none, none]) (st' := [qI (-1), qI 0, qR 77]) rfl ?_
  refine qJ.callV (As := [qI 0, qI (-1)]) (rest := []) hκ rfl kX12_255 (m_fails u (q_up (q_up m 77 0 0) 79 0 0) y 0 (-1)) rfl rfl (by decide) rfl rfl (Nat.le_of_ble_eq_true rfl) (Nat.le_of_ble_eq_true rfl) (Nat.le_of_ble_eq_true rfl) (Or.inl (fun r h' e => by obtain ⟨rfl, rfl⟩ := e; rfl)) (fun r h' e => ?_)
  obtain ⟨rfl, rfl⟩ := e
  show qJ YX12_name κ _ (qLy u, (q_up (q_up (q_up (q_up m 77 0 0) 79 0 0) 80 0 0) 81 0 (-1)), y) 0 0 25 [some (qR 77), some (qI (m 79 0)), none, none] []
  refine qJ.run hκ 3 (pc' := 30) (ls' := [some (qR 77), some (qI (m 79 0)), none, none]) (st' := [qI 0, qR 101]) rfl ?_
  refine qJ.ald hκ rfl rfl rfl (by decide) (by omega) ?_
  show qJ YX12_name κ _ (qLy u, (q_up (q_up (q_up (q_up m 77 0 0) 79 0 0) 80 0 0) 81 0 (-1)), y) 0 0 31 [some (qR 77), some (qI (m 79 0)), none, none] [qI (m 101 0)]
  refine qJ.run hκ 1 (pc' := 32) (ls' := [some (qR 77), some (qI (m 79 0)), none, none]) (st' := [qI 5, qI (m 101 0)]) rfl ?_
  refine qJ.icmp_ne hκ (tgt := 38) rfl rfl (by omega) (by omega) (fun c32 => ?_) (fun c32 => ?_)
  · show qJ YX12_name κ _ (qLy u, (q_up (q_up (q_up (q_up m 77 0 0) 79 0 0) 80 0 0) 81 0 (-1)), y) 0 0 38 [some (qR 77), some (qI (m 79 0)), none, none] []
    refine qJ.run hκ 2 (pc' := 40) (ls' := [some (qR 77), some (qI (m 79 0)), some (qI 0), none]) (st' := []) rfl ?_
    exact L40 402 0 (by omega) (by omega) (rfl) (by omega) (by omega)
  · show qJ YX12_name κ _ (qLy u, (q_up (q_up (q_up (q_up m 77 0 0) 79 0 0) 80 0 0) 81 0 (-1)), y) 0 0 35 [some (qR 77), some (qI (m 79 0)), none, none] []
    refine qJ.run hκ 1 (pc' := 37) (ls' := [some (qR 77), some (qI (m 79 0)), none, none]) (st' := [qI (-2)]) rfl ?_
    exact qJ.iret hκ rfl rfl (by decide) (by decide) (Or.inl ⟨rfl, by omega, rfl⟩)

/-! printed by p72.py: small methods of the model around tokens -/
theorem tW_r {t : Nat → Int} {L p : Int} : 0 ≤ tW t L p ∧ tW t L p < 9223372036854775808 := by
  by_cases h : tM t L p = 2
  · by_cases q : tE t L p - tS t L p ≤ 8
    · rw [tW_e h q]
      have d := tM_d h
      have d' : ∀ j, j < (tE t L p - tS t L p).toNat → 1 ≤ sB t L (tS t L p + (j : Int)) ∧ sB t L (tS t L p + (j : Int)) ≤ 127 := fun j hj => by have := d j (by omega); omega
      have a := (df_0 (a := fun j => sB t L (tS t L p + (j : Int))) _ d').1
      have b := df_b (a := fun j => sB t L (tS t L p + (j : Int))) _ d'
      have c : ∀ k : Fin 9, dB k.val ≤ 18446744073709551616 := by decide
      have e : dB (tE t L p - tS t L p).toNat ≤ 18446744073709551616 := c ⟨(tE t L p - tS t L p).toNat, by omega⟩
      omega
    · unfold tW
      rw [if_pos h, if_pos (by omega)]; omega
  · unfold tW
    rw [if_neg h]; omega

set_option maxRecDepth 100000 in
theorem m_isWord (u : qU) (m y : qM) (w : Int) (hy : 0 ≤ y 77 46 ∧ y 77 46 < 9223372036854775808) (h4 : 0 ≤ m 77 44 ∧ m 77 44 ≤ 3) (hw : 0 ≤ w ∧ w < 9223372036854775808) : qCt YX12_isWord 1 0 0 [qR 77, qL w] (qLy u, m, y) (fun r h => ∃ z : Int, r = some (qI z) ∧ (z = 1 ∧ (m 77 44 = 2 ∧ y 77 46 = w) ∨ z = 0 ∧ ¬ (m 77 44 = 2 ∧ y 77 46 = w)) ∧ h = (qLy u, m, y)) := by
  refine qCt.intro okX12_isWord (Nat.le_of_ble_eq_true rfl) (fun κ hκ => ?_)
  have lc := lcmp_r hy hw
  have lq : (q_lcmp (y 77 46) w = 0 ∧ y 77 46 = w) ∨ ((q_lcmp (y 77 46) w = 1 ∨ q_lcmp (y 77 46) w = -1) ∧ ¬ y 77 46 = w) := by rw [lc]; split; (right; omega); split; (left; omega); (right; omega)
  show qJ YX12_isWord κ _ (qLy u, m, y) 0 0 0 [some (qR 77), some (qL w), none] []
  refine qJ.run hκ 3 (pc' := 5) (ls' := [some (qR 77), some (qL w), none]) (st' := [qI 2, qI (m 77 44)]) rfl ?_
  refine qJ.icmp_ne hκ (tgt := 21) rfl rfl (by omega) (by omega) (fun c5 => ?_) (fun c5 => ?_)
  · show qJ YX12_isWord κ _ (qLy u, m, y) 0 0 21 [some (qR 77), some (qL w), none] []
    refine qJ.run hκ 1 (pc' := 22) (ls' := [some (qR 77), some (qL w), none]) (st' := [qI 0]) rfl ?_
    exact qJ.bret hκ rfl rfl (by omega) (by decide) (by decide) (⟨_, rfl, by omega, rfl⟩)
  · show qJ YX12_isWord κ _ (qLy u, m, y) 0 0 8 [some (qR 77), some (qL w), none] []
    refine qJ.run hκ 4 (pc' := 14) (ls' := [some (qR 77), some (qL w), none]) (st' := [qI (q_lcmp (y 77 46) w)]) rfl ?_
    refine qJ.if_ne hκ (tgt := 21) rfl rfl (by omega) (fun c14 => ?_) (fun c14 => ?_)
    · show qJ YX12_isWord κ _ (qLy u, m, y) 0 0 21 [some (qR 77), some (qL w), none] []
      refine qJ.run hκ 1 (pc' := 22) (ls' := [some (qR 77), some (qL w), none]) (st' := [qI 0]) rfl ?_
      exact qJ.bret hκ rfl rfl (by omega) (by decide) (by decide) (⟨_, rfl, by omega, rfl⟩)
    · show qJ YX12_isWord κ _ (qLy u, m, y) 0 0 17 [some (qR 77), some (qL w), none] []
      refine qJ.run hκ 2 (pc' := 22) (ls' := [some (qR 77), some (qL w), none]) (st' := [qI 1]) rfl ?_
      exact qJ.bret hκ rfl rfl (by omega) (by decide) (by decide) (⟨_, rfl, by omega, rfl⟩)

set_option maxRecDepth 100000 in
theorem m_wrong (u : qU) (m y : qM)  : qCt YX12_wrong 1 0 0 [qR 77] (qLy u, m, y) (fun r h => r = some (qI 0) ∧ h = (qLy u, q_up m 77 47 (m 77 43), y)) := by
  refine qCt.intro okX12_wrong (Nat.le_of_ble_eq_true rfl) (fun κ hκ => ?_)
  show qJ YX12_wrong κ _ (qLy u, m, y) 0 0 0 [some (qR 77)] []
  refine qJ.run hκ 3 (pc' := 5) (ls' := [some (qR 77)]) (st' := [qI (m 77 43), qR 77]) rfl ?_
  refine qJ.putI hκ rfl rfl rfl rfl (Or.inl rfl) ?_
  show qJ YX12_wrong κ _ (qLy u, (q_up m 77 47 (m 77 43)), y) 0 0 8 [some (qR 77)] []
  refine qJ.run hκ 1 (pc' := 9) (ls' := [some (qR 77)]) (st' := [qI 0]) rfl ?_
  exact qJ.bret hκ rfl rfl (by omega) (by decide) (by decide) (by first | exact ⟨rfl, rfl⟩ | (refine ⟨?_, rfl⟩; first | rfl | omega))

set_option maxRecDepth 100000 in
theorem m_later (u : qU) (m y : qM) (f : Int) (h9 : 0 ≤ m 77 48 ∧ m 77 48 ≤ 3) : qCt YX12_later 1 0 0 [qR 77, qI f] (qLy u, m, y) (fun r h => r = none ∧ ∃ c d, h = (qLy u, q_up (q_up m 77 48 c) 77 49 d, y) ∧ ((m 77 48 = 0 ∧ c = f ∧ d = m 77 43) ∨ (¬ m 77 48 = 0 ∧ c = m 77 48 ∧ d = m 77 49))) := by
  refine qCt.intro okX12_later (Nat.le_of_ble_eq_true rfl) (fun κ hκ => ?_)
  show qJ YX12_later κ _ (qLy u, m, y) 0 0 0 [some (qR 77), some (qI f)] []
  refine qJ.run hκ 2 (pc' := 4) (ls' := [some (qR 77), some (qI f)]) (st' := [qI (m 77 48)]) rfl ?_
  refine qJ.if_ne hκ (tgt := 20) rfl rfl (by omega) (fun c4 => ?_) (fun c4 => ?_)
  · show qJ YX12_later κ _ (qLy u, m, y) 0 0 20 [some (qR 77), some (qI f)] []
    exact qJ.vret hκ rfl rfl (by decide) (by decide) (⟨rfl, m 77 48, m 77 49, by rw [q_up_id (m := m) (a := 77) (k := 48) rfl, q_up_id rfl], Or.inr ⟨by omega, rfl, rfl⟩⟩)
  · show qJ YX12_later κ _ (qLy u, m, y) 0 0 7 [some (qR 77), some (qI f)] []
    refine qJ.run hκ 2 (pc' := 9) (ls' := [some (qR 77), some (qI f)]) (st' := [qI f, qR 77]) rfl ?_
    refine qJ.putI hκ rfl rfl rfl rfl (Or.inl rfl) ?_
    show qJ YX12_later κ _ (qLy u, (q_up m 77 48 f), y) 0 0 12 [some (qR 77), some (qI f)] []
    refine qJ.run hκ 3 (pc' := 17) (ls' := [some (qR 77), some (qI f)]) (st' := [qI (m 77 43), qR 77]) rfl ?_
    refine qJ.putI hκ rfl rfl rfl rfl (Or.inl rfl) ?_
    show qJ YX12_later κ _ (qLy u, (q_up (q_up m 77 48 f) 77 49 (m 77 43)), y) 0 0 20 [some (qR 77), some (qI f)] []
    exact qJ.vret hκ rfl rfl (by decide) (by decide) (⟨rfl, f, m 77 43, rfl, Or.inl ⟨by omega, rfl, rfl⟩⟩)

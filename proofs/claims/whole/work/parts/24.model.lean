/-! printed by p24.py: the model, small methods (object 77) -/
set_option maxRecDepth 100000 in
theorem c_in (u : qU) (m y : qM) (v lo hi : Int) (h1 : qr v) (h2 : qr lo) (h3 : qr hi) : qCt YX12_in 1 0 0 [qI v, qI lo, qI hi] (qLy u, m, y) (fun r h => ∃ z : Int, r = some (qI z) ∧ (z = 1 ∧ (lo ≤ v ∧ v ≤ hi) ∨ z = 0 ∧ ¬ (lo ≤ v ∧ v ≤ hi)) ∧ h = (qLy u, m, y)) := by
  refine qCt.intro okX12_in (Nat.le_of_ble_eq_true rfl) (fun κ hκ => ?_)
  show qJ YX12_in κ _ (qLy u, m, y) 0 0 0 [some (qI v), some (qI lo), some (qI hi)] []
  refine qJ.run hκ 2 (pc' := 2) (ls' := [some (qI v), some (qI lo), some (qI hi)]) (st' := [qI lo, qI v]) rfl ?_
  refine qJ.icmp_lt hκ (tgt := 14) rfl rfl (by omega) (by omega) (fun c2 => ?_) (fun c2 => ?_)
  · show qJ YX12_in κ _ (qLy u, m, y) 0 0 14 [some (qI v), some (qI lo), some (qI hi)] []
    refine qJ.run hκ 1 (pc' := 15) (ls' := [some (qI v), some (qI lo), some (qI hi)]) (st' := [qI 0]) rfl ?_
    exact qJ.bret hκ rfl rfl (by omega) (by decide) (by decide) (⟨_, rfl, by omega, rfl⟩)
  · show qJ YX12_in κ _ (qLy u, m, y) 0 0 5 [some (qI v), some (qI lo), some (qI hi)] []
    refine qJ.run hκ 2 (pc' := 7) (ls' := [some (qI v), some (qI lo), some (qI hi)]) (st' := [qI hi, qI v]) rfl ?_
    refine qJ.icmp_gt hκ (tgt := 14) rfl rfl (by omega) (by omega) (fun c7 => ?_) (fun c7 => ?_)
    · show qJ YX12_in κ _ (qLy u, m, y) 0 0 14 [some (qI v), some (qI lo), some (qI hi)] []
      refine qJ.run hκ 1 (pc' := 15) (ls' := [some (qI v), some (qI lo), some (qI hi)]) (st' := [qI 0]) rfl ?_
      exact qJ.bret hκ rfl rfl (by omega) (by decide) (by decide) (⟨_, rfl, by omega, rfl⟩)
    · show qJ YX12_in κ _ (qLy u, m, y) 0 0 10 [some (qI v), some (qI lo), some (qI hi)] []
      refine qJ.run hκ 2 (pc' := 15) (ls' := [some (qI v), some (qI lo), some (qI hi)]) (st' := [qI 1]) rfl ?_
      exact qJ.bret hκ rfl rfl (by omega) (by decide) (by decide) (⟨_, rfl, by omega, rfl⟩)

set_option maxRecDepth 100000 in
theorem c_mIsSign (u : qU) (m y : qM) (v : Int) (h1 : qr v) : qCt YX12_isSign 2 0 0 [qI v] (qLy u, m, y) (fun r h => ∃ z : Int, r = some (qI z) ∧ (z = 1 ∧ (0 ≤ v ∧ v ≤ 19) ∨ z = 0 ∧ ¬ (0 ≤ v ∧ v ≤ 19)) ∧ h = (qLy u, m, y)) := by
  refine qCt.intro okX12_isSign (Nat.le_of_ble_eq_true rfl) (fun κ hκ => ?_)
  show qJ YX12_isSign κ _ (qLy u, m, y) 0 0 0 [some (qI v)] []
  refine qJ.run hκ 3 (pc' := 4) (ls' := [some (qI v)]) (st' := [qI 19, qI 0, qI v]) rfl ?_
  refine qJ.callS (As := [qI v, qI 0, qI 19]) (rest := []) hκ rfl kX12_167 (c_in u m y v 0 19 (by omega) (by omega) (by omega)) (by decide) rfl rfl (Nat.le_of_ble_eq_true rfl) (Nat.le_of_ble_eq_true rfl) (Nat.le_of_ble_eq_true rfl) (Or.inl (fun r h' e => by obtain ⟨z4, rfl, hz4, rfl⟩ := e; rfl)) (fun r h' e => ?_)
  obtain ⟨z4, rfl, hz4, rfl⟩ := e
  show qJ YX12_isSign κ _ (qLy u, m, y) 0 0 7 [some (qI v)] [qI z4]
  exact qJ.bret hκ rfl rfl (by omega) (by decide) (by decide) (⟨_, rfl, hz4, rfl⟩)

set_option maxRecDepth 100000 in
theorem c_mAreTwo (u : qU) (m y : qM) (a b : Int) (h1 : qr a) (h2 : qr b) : qCt YX12_areTwo 3 0 0 [qR 77, qI a, qI b] (qLy u, m, y) (fun r h => ∃ z : Int, r = some (qI z) ∧ (z = 1 ∧ ((0 ≤ a ∧ a ≤ 19) ∧ (0 ≤ b ∧ b ≤ 19) ∧ ¬ a = b) ∨ z = 0 ∧ ¬ ((0 ≤ a ∧ a ≤ 19) ∧ (0 ≤ b ∧ b ≤ 19) ∧ ¬ a = b)) ∧ h = (qLy u, m, y)) := by
  refine qCt.intro okX12_areTwo (Nat.le_of_ble_eq_true rfl) (fun κ hκ => ?_)
  show qJ YX12_areTwo κ _ (qLy u, m, y) 0 0 0 [some (qR 77), some (qI a), some (qI b)] []
  refine qJ.run hκ 1 (pc' := 1) (ls' := [some (qR 77), some (qI a), some (qI b)]) (st' := [qI a]) rfl ?_
  refine qJ.callS (As := [qI a]) (rest := []) hκ rfl kX12_171 (c_mIsSign u m y a (by omega)) (by decide) rfl rfl (Nat.le_of_ble_eq_true rfl) (Nat.le_of_ble_eq_true rfl) (Nat.le_of_ble_eq_true rfl) (Or.inl (fun r h' e => by obtain ⟨z1, rfl, hz1, rfl⟩ := e; rfl)) (fun r h' e => ?_)
  obtain ⟨z1, rfl, hz1, rfl⟩ := e
  show qJ YX12_areTwo κ _ (qLy u, m, y) 0 0 4 [some (qR 77), some (qI a), some (qI b)] [qI z1]
  refine qJ.if_eq hκ (tgt := 23) rfl rfl (by omega) (fun c4 => ?_) (fun c4 => ?_)
  · show qJ YX12_areTwo κ _ (qLy u, m, y) 0 0 23 [some (qR 77), some (qI a), some (qI b)] []
    refine qJ.run hκ 1 (pc' := 24) (ls' := [some (qR 77), some (qI a), some (qI b)]) (st' := [qI 0]) rfl ?_
    exact qJ.bret hκ rfl rfl (by omega) (by decide) (by decide) (⟨_, rfl, by omega, rfl⟩)
  · show qJ YX12_areTwo κ _ (qLy u, m, y) 0 0 7 [some (qR 77), some (qI a), some (qI b)] []
    refine qJ.run hκ 1 (pc' := 8) (ls' := [some (qR 77), some (qI a), some (qI b)]) (st' := [qI b]) rfl ?_
    refine qJ.callS (As := [qI b]) (rest := []) hκ rfl kX12_171 (c_mIsSign u m y b (by omega)) (by decide) rfl rfl (Nat.le_of_ble_eq_true rfl) (Nat.le_of_ble_eq_true rfl) (Nat.le_of_ble_eq_true rfl) (Or.inl (fun r h' e => by obtain ⟨z8, rfl, hz8, rfl⟩ := e; rfl)) (fun r h' e => ?_)
    obtain ⟨z8, rfl, hz8, rfl⟩ := e
    show qJ YX12_areTwo κ _ (qLy u, m, y) 0 0 11 [some (qR 77), some (qI a), some (qI b)] [qI z8]
    refine qJ.if_eq hκ (tgt := 23) rfl rfl (by omega) (fun c11 => ?_) (fun c11 => ?_)
    · show qJ YX12_areTwo κ _ (qLy u, m, y) 0 0 23 [some (qR 77), some (qI a), some (qI b)] []
      refine qJ.run hκ 1 (pc' := 24) (ls' := [some (qR 77), some (qI a), some (qI b)]) (st' := [qI 0]) rfl ?_
      exact qJ.bret hκ rfl rfl (by omega) (by decide) (by decide) (⟨_, rfl, by omega, rfl⟩)
    · show qJ YX12_areTwo κ _ (qLy u, m, y) 0 0 14 [some (qR 77), some (qI a), some (qI b)] []
      refine qJ.run hκ 2 (pc' := 16) (ls' := [some (qR 77), some (qI a), some (qI b)]) (st' := [qI b, qI a]) rfl ?_
      refine qJ.icmp_eq hκ (tgt := 23) rfl rfl (by omega) (by omega) (fun c16 => ?_) (fun c16 => ?_)
      · show qJ YX12_areTwo κ _ (qLy u, m, y) 0 0 23 [some (qR 77), some (qI a), some (qI b)] []
        refine qJ.run hκ 1 (pc' := 24) (ls' := [some (qR 77), some (qI a), some (qI b)]) (st' := [qI 0]) rfl ?_
        exact qJ.bret hκ rfl rfl (by omega) (by decide) (by decide) (⟨_, rfl, by omega, rfl⟩)
      · show qJ YX12_areTwo κ _ (qLy u, m, y) 0 0 19 [some (qR 77), some (qI a), some (qI b)] []
        refine qJ.run hκ 2 (pc' := 24) (ls' := [some (qR 77), some (qI a), some (qI b)]) (st' := [qI 1]) rfl ?_
        exact qJ.bret hκ rfl rfl (by omega) (by decide) (by decide) (⟨_, rfl, by omega, rfl⟩)

/-- the last day that the model sees -/
def hHz (m : qM) : Int := if m 83 0 = -1 then m 82 0 else m 83 0

set_option maxRecDepth 100000 in
theorem c_viewDay (u : qU) (m y : qM) (h0 : qr (m 83 0)) : qCt YX12_viewDay 1 0 0 [qR 77] (qLy u, m, y) (fun r h => r = some (qI (hHz m)) ∧ h = (qLy u, m, y)) := by
  refine qCt.intro okX12_viewDay (Nat.le_of_ble_eq_true rfl) (fun κ hκ => ?_)
  show qJ YX12_viewDay κ _ (qLy u, m, y) 0 0 0 [some (qR 77)] []
  refine qJ.run hκ 3 (pc' := 5) (ls' := [some (qR 77)]) (st' := [qI 0, qR 83]) rfl ?_
  refine qJ.ald hκ rfl rfl rfl (by decide) (by omega) ?_
  show qJ YX12_viewDay κ _ (qLy u, m, y) 0 0 6 [some (qR 77)] [qI (m 83 0)]
  refine qJ.run hκ 1 (pc' := 7) (ls' := [some (qR 77)]) (st' := [qI (-1), qI (m 83 0)]) rfl ?_
  refine qJ.icmp_ne hκ (tgt := 19) rfl rfl (by omega) (by omega) (fun c7 => ?_) (fun c7 => ?_)
  · show qJ YX12_viewDay κ _ (qLy u, m, y) 0 0 19 [some (qR 77)] []
    refine qJ.run hκ 3 (pc' := 24) (ls' := [some (qR 77)]) (st' := [qI 0, qR 83]) rfl ?_
    refine qJ.ald hκ rfl rfl rfl (by decide) (by omega) ?_
    show qJ YX12_viewDay κ _ (qLy u, m, y) 0 0 25 [some (qR 77)] [qI (m 83 0)]
    exact qJ.iret hκ rfl rfl (by decide) (by decide) (by refine ⟨?_, rfl⟩; unfold hHz; first | rw [if_pos c7] | rw [if_neg c7])
  · show qJ YX12_viewDay κ _ (qLy u, m, y) 0 0 10 [some (qR 77)] []
    refine qJ.run hκ 3 (pc' := 15) (ls' := [some (qR 77)]) (st' := [qI 0, qR 82]) rfl ?_
    refine qJ.ald hκ rfl rfl rfl (by decide) (by omega) ?_
    show qJ YX12_viewDay κ _ (qLy u, m, y) 0 0 16 [some (qR 77)] [qI (m 82 0)]
    refine qJ.run hκ 1 (pc' := 25) (ls' := [some (qR 77)]) (st' := [qI (m 82 0)]) rfl ?_
    exact qJ.iret hκ rfl rfl (by decide) (by decide) (by refine ⟨?_, rfl⟩; unfold hHz; first | rw [if_pos c7] | rw [if_neg c7])

set_option maxRecDepth 100000 in
theorem c_isThere (u : qU) (m y : qM) (w : Int) (hd : 0 ≤ m 82 0 ∧ m 82 0 ≤ 999) (hv : -1 ≤ m 83 0 ∧ m 83 0 ≤ m 82 0) (h1 : qr w) (h0 : 0 ≤ m 85 0 ∧ m 85 0 ≤ 60) (hf : ∀ k : Int, 0 ≤ k → k < m 85 0 → 0 ≤ m 90 k.toNat ∧ m 90 k.toNat ≤ 999) : qCt YX12_isThere 2 0 0 [qR 77, qI w] (qLy u, m, y) (fun r h => ∃ z : Int, r = some (qI z) ∧ (z = 1 ∧ ((0 ≤ w ∧ w ≤ m 85 0 - 1) ∧ m 90 w.toNat ≤ hHz m) ∨ z = 0 ∧ ¬ ((0 ≤ w ∧ w ≤ m 85 0 - 1) ∧ m 90 w.toNat ≤ hHz m)) ∧ h = (qLy u, m, y)) := by
  refine qCt.intro okX12_isThere (Nat.le_of_ble_eq_true rfl) (fun κ hκ => ?_)
  have hV : qr (m 83 0) := by omega
  have hzr : 0 ≤ hHz m ∧ hHz m ≤ 999 := by unfold hHz; split <;> omega
  show qJ YX12_isThere κ _ (qLy u, m, y) 0 0 0 [some (qR 77), some (qI w)] []
  refine qJ.run hκ 5 (pc' := 7) (ls' := [some (qR 77), some (qI w)]) (st' := [qI 0, qR 85, qI 0, qI w]) rfl ?_
  refine qJ.ald hκ rfl rfl rfl (by decide) (by omega) ?_
  show qJ YX12_isThere κ _ (qLy u, m, y) 0 0 8 [some (qR 77), some (qI w)] [qI (m 85 0), qI 0, qI w]
  refine qJ.run hκ 2 (pc' := 10) (ls' := [some (qR 77), some (qI w)]) (st' := [qI ((m 85 0) - 1), qI 0, qI w]) rfl ?_
  refine qJ.callS (As := [qI w, qI 0, qI ((m 85 0) - 1)]) (rest := []) hκ rfl kX12_167 (c_in u m y w 0 ((m 85 0) - 1) (by omega) (by omega) (by omega)) (by decide) rfl rfl (Nat.le_of_ble_eq_true rfl) (Nat.le_of_ble_eq_true rfl) (Nat.le_of_ble_eq_true rfl) (Or.inl (fun r h' e => by obtain ⟨z10, rfl, hz10, rfl⟩ := e; rfl)) (fun r h' e => ?_)
  obtain ⟨z10, rfl, hz10, rfl⟩ := e
  show qJ YX12_isThere κ _ (qLy u, m, y) 0 0 13 [some (qR 77), some (qI w)] [qI z10]
  refine qJ.if_eq hκ (tgt := 33) rfl rfl (by omega) (fun c13 => ?_) (fun c13 => ?_)
  · show qJ YX12_isThere κ _ (qLy u, m, y) 0 0 33 [some (qR 77), some (qI w)] []
    refine qJ.run hκ 1 (pc' := 34) (ls' := [some (qR 77), some (qI w)]) (st' := [qI 0]) rfl ?_
    exact qJ.bret hκ rfl rfl (by omega) (by decide) (by decide) (⟨_, rfl, by omega, rfl⟩)
  · show qJ YX12_isThere κ _ (qLy u, m, y) 0 0 16 [some (qR 77), some (qI w)] []
    have hfw := hf w (by omega) (by omega)
    refine qJ.run hκ 3 (pc' := 21) (ls' := [some (qR 77), some (qI w)]) (st' := [qI w, qR 90]) rfl ?_
    refine qJ.ald hκ rfl rfl rfl (by decide) (by omega) ?_
    show qJ YX12_isThere κ _ (qLy u, m, y) 0 0 22 [some (qR 77), some (qI w)] [qI (m 90 w.toNat)]
    refine qJ.run hκ 1 (pc' := 23) (ls' := [some (qR 77), some (qI w)]) (st' := [qR 77, qI (m 90 w.toNat)]) rfl ?_
    refine qJ.callV (As := []) (rest := [qI (m 90 w.toNat)]) hκ rfl kX12_175 (c_viewDay u m y hV) rfl rfl (by decide) rfl rfl (Nat.le_of_ble_eq_true rfl) (Nat.le_of_ble_eq_true rfl) (Nat.le_of_ble_eq_true rfl) (Or.inl (fun r h' e => by obtain ⟨rfl, rfl⟩ := e; rfl)) (fun r h' e => ?_)
    obtain ⟨rfl, rfl⟩ := e
    show qJ YX12_isThere κ _ (qLy u, m, y) 0 0 26 [some (qR 77), some (qI w)] [qI (hHz m), qI (m 90 w.toNat)]
    refine qJ.icmp_gt hκ (tgt := 33) rfl rfl (by omega) (by omega) (fun c26 => ?_) (fun c26 => ?_)
    · show qJ YX12_isThere κ _ (qLy u, m, y) 0 0 33 [some (qR 77), some (qI w)] []
      refine qJ.run hκ 1 (pc' := 34) (ls' := [some (qR 77), some (qI w)]) (st' := [qI 0]) rfl ?_
      exact qJ.bret hκ rfl rfl (by omega) (by decide) (by decide) (⟨_, rfl, by omega, rfl⟩)
    · show qJ YX12_isThere κ _ (qLy u, m, y) 0 0 29 [some (qR 77), some (qI w)] []
      refine qJ.run hκ 2 (pc' := 34) (ls' := [some (qR 77), some (qI w)]) (st' := [qI 1]) rfl ?_
      exact qJ.bret hκ rfl rfl (by omega) (by decide) (by decide) (⟨_, rfl, by omega, rfl⟩)

set_option maxRecDepth 100000 in
theorem c_mSite (u : qU) (m y : qM) (v : Int) (h1 : qr v) : qCt YX12_site 2 0 0 [qR 77, qI v] (qLy u, m, y) (fun r h => (r = some (qI 1) ∧ (0 ≤ v ∧ v ≤ 3) ∧ h = (qLy u, (q_up (q_up m 77 0 0) 84 0 v), y)) ∨ (r = some (qI 0) ∧ ¬ (0 ≤ v ∧ v ≤ 3) ∧ h = (qLy u, (q_up m 77 0 0), y))) := by
  refine qCt.intro okX12_site (Nat.le_of_ble_eq_true rfl) (fun κ hκ => ?_)
  show qJ YX12_site κ _ (qLy u, m, y) 0 0 0 [some (qR 77), some (qI v)] []
  refine qJ.run hκ 2 (pc' := 2) (ls' := [some (qR 77), some (qI v)]) (st' := [qI 0, qR 77]) rfl ?_
  refine qJ.putI hκ rfl rfl rfl rfl (Or.inl rfl) ?_
  show qJ YX12_site κ _ (qLy u, (q_up m 77 0 0), y) 0 0 5 [some (qR 77), some (qI v)] []
  refine qJ.run hκ 3 (pc' := 8) (ls' := [some (qR 77), some (qI v)]) (st' := [qI 3, qI 0, qI v]) rfl ?_
  refine qJ.callS (As := [qI v, qI 0, qI 3]) (rest := []) hκ rfl kX12_167 (c_in u (q_up m 77 0 0) y v 0 3 (by omega) (by omega) (by omega)) (by decide) rfl rfl (Nat.le_of_ble_eq_true rfl) (Nat.le_of_ble_eq_true rfl) (Nat.le_of_ble_eq_true rfl) (Or.inl (fun r h' e => by obtain ⟨z8, rfl, hz8, rfl⟩ := e; rfl)) (fun r h' e => ?_)
  obtain ⟨z8, rfl, hz8, rfl⟩ := e
  show qJ YX12_site κ _ (qLy u, (q_up m 77 0 0), y) 0 0 11 [some (qR 77), some (qI v)] [qI z8]
  refine qJ.if_ne hκ (tgt := 16) rfl rfl (by omega) (fun c11 => ?_) (fun c11 => ?_)
  · show qJ YX12_site κ _ (qLy u, (q_up m 77 0 0), y) 0 0 16 [some (qR 77), some (qI v)] []
    refine qJ.run hκ 4 (pc' := 22) (ls' := [some (qR 77), some (qI v)]) (st' := [qI v, qI 0, qR 84]) rfl ?_
    refine qJ.ast hκ rfl rfl rfl (by decide) (by omega) ?_
    show qJ YX12_site κ _ (qLy u, (q_up (q_up m 77 0 0) 84 0 v), y) 0 0 23 [some (qR 77), some (qI v)] []
    refine qJ.run hκ 1 (pc' := 24) (ls' := [some (qR 77), some (qI v)]) (st' := [qI 1]) rfl ?_
    exact qJ.bret hκ rfl rfl (by omega) (by decide) (by decide) (Or.inl ⟨rfl, by omega, rfl⟩)
  · show qJ YX12_site κ _ (qLy u, (q_up m 77 0 0), y) 0 0 14 [some (qR 77), some (qI v)] []
    refine qJ.run hκ 1 (pc' := 15) (ls' := [some (qR 77), some (qI v)]) (st' := [qI 0]) rfl ?_
    exact qJ.bret hκ rfl rfl (by omega) (by decide) (by decide) (Or.inr ⟨rfl, by omega, rfl⟩)

set_option maxRecDepth 100000 in
theorem c_mDay (u : qU) (m y : qM) (v : Int) (h1 : qr v) (hd : 0 ≤ m 82 0 ∧ m 82 0 ≤ 999) (hv : -1 ≤ m 83 0 ∧ m 83 0 ≤ m 82 0) : qCt YX12_day 2 0 0 [qR 77, qI v] (qLy u, m, y) (fun r h => (r = some (qI 1) ∧ (m 82 0 ≤ v ∧ v ≤ 999) ∧ h = (qLy u, (q_up (q_up m 77 0 0) 82 0 v), y)) ∨ (r = some (qI 0) ∧ ¬ (m 82 0 ≤ v ∧ v ≤ 999) ∧ h = (qLy u, (q_up m 77 0 0), y))) := by
  refine qCt.intro okX12_day (Nat.le_of_ble_eq_true rfl) (fun κ hκ => ?_)
  show qJ YX12_day κ _ (qLy u, m, y) 0 0 0 [some (qR 77), some (qI v)] []
  refine qJ.run hκ 2 (pc' := 2) (ls' := [some (qR 77), some (qI v)]) (st' := [qI 0, qR 77]) rfl ?_
  refine qJ.putI hκ rfl rfl rfl rfl (Or.inl rfl) ?_
  show qJ YX12_day κ _ (qLy u, (q_up m 77 0 0), y) 0 0 5 [some (qR 77), some (qI v)] []
  refine qJ.run hκ 4 (pc' := 11) (ls' := [some (qR 77), some (qI v)]) (st' := [qI 0, qR 82, qI v]) rfl ?_
  refine qJ.ald hκ rfl rfl rfl (by decide) (by omega) ?_
  show qJ YX12_day κ _ (qLy u, (q_up m 77 0 0), y) 0 0 12 [some (qR 77), some (qI v)] [qI (m 82 0), qI v]
  refine qJ.run hκ 1 (pc' := 15) (ls' := [some (qR 77), some (qI v)]) (st' := [qI 999, qI (m 82 0), qI v]) rfl ?_
  refine qJ.callS (As := [qI v, qI (m 82 0), qI 999]) (rest := []) hκ rfl kX12_167 (c_in u (q_up m 77 0 0) y v (m 82 0) 999 (by omega) (by omega) (by omega)) (by decide) rfl rfl (Nat.le_of_ble_eq_true rfl) (Nat.le_of_ble_eq_true rfl) (Nat.le_of_ble_eq_true rfl) (Or.inl (fun r h' e => by obtain ⟨z15, rfl, hz15, rfl⟩ := e; rfl)) (fun r h' e => ?_)
  obtain ⟨z15, rfl, hz15, rfl⟩ := e
  show qJ YX12_day κ _ (qLy u, (q_up m 77 0 0), y) 0 0 18 [some (qR 77), some (qI v)] [qI z15]
  refine qJ.if_ne hκ (tgt := 23) rfl rfl (by omega) (fun c18 => ?_) (fun c18 => ?_)
  · show qJ YX12_day κ _ (qLy u, (q_up m 77 0 0), y) 0 0 23 [some (qR 77), some (qI v)] []
    refine qJ.run hκ 4 (pc' := 29) (ls' := [some (qR 77), some (qI v)]) (st' := [qI v, qI 0, qR 82]) rfl ?_
    refine qJ.ast hκ rfl rfl rfl (by decide) (by omega) ?_
    show qJ YX12_day κ _ (qLy u, (q_up (q_up m 77 0 0) 82 0 v), y) 0 0 30 [some (qR 77), some (qI v)] []
    refine qJ.run hκ 1 (pc' := 31) (ls' := [some (qR 77), some (qI v)]) (st' := [qI 1]) rfl ?_
    exact qJ.bret hκ rfl rfl (by omega) (by decide) (by decide) (Or.inl ⟨rfl, by omega, rfl⟩)
  · show qJ YX12_day κ _ (qLy u, (q_up m 77 0 0), y) 0 0 21 [some (qR 77), some (qI v)] []
    refine qJ.run hκ 1 (pc' := 22) (ls' := [some (qR 77), some (qI v)]) (st' := [qI 0]) rfl ?_
    exact qJ.bret hκ rfl rfl (by omega) (by decide) (by decide) (Or.inr ⟨rfl, by omega, rfl⟩)

set_option maxRecDepth 100000 in
theorem c_mView (u : qU) (m y : qM) (v : Int) (h1 : qr v) (hd : 0 ≤ m 82 0 ∧ m 82 0 ≤ 999) (hv : -1 ≤ m 83 0 ∧ m 83 0 ≤ m 82 0) : qCt YX12_view 2 0 0 [qR 77, qI v] (qLy u, m, y) (fun r h => (r = some (qI 1) ∧ (-1 ≤ v ∧ v ≤ m 82 0) ∧ h = (qLy u, (q_up (q_up m 77 0 0) 83 0 v), y)) ∨ (r = some (qI 0) ∧ ¬ (-1 ≤ v ∧ v ≤ m 82 0) ∧ h = (qLy u, (q_up m 77 0 0), y))) := by
  refine qCt.intro okX12_view (Nat.le_of_ble_eq_true rfl) (fun κ hκ => ?_)
  show qJ YX12_view κ _ (qLy u, m, y) 0 0 0 [some (qR 77), some (qI v)] []
  refine qJ.run hκ 2 (pc' := 2) (ls' := [some (qR 77), some (qI v)]) (st' := [qI 0, qR 77]) rfl ?_
  refine qJ.putI hκ rfl rfl rfl rfl (Or.inl rfl) ?_
  show qJ YX12_view κ _ (qLy u, (q_up m 77 0 0), y) 0 0 5 [some (qR 77), some (qI v)] []
  refine qJ.run hκ 5 (pc' := 12) (ls' := [some (qR 77), some (qI v)]) (st' := [qI 0, qR 82, qI (-1), qI v]) rfl ?_
  refine qJ.ald hκ rfl rfl rfl (by decide) (by omega) ?_
  show qJ YX12_view κ _ (qLy u, (q_up m 77 0 0), y) 0 0 13 [some (qR 77), some (qI v)] [qI (m 82 0), qI (-1), qI v]
  refine qJ.callS (As := [qI v, qI (-1), qI (m 82 0)]) (rest := []) hκ rfl kX12_167 (c_in u (q_up m 77 0 0) y v (-1) (m 82 0) (by omega) (by omega) (by omega)) (by decide) rfl rfl (Nat.le_of_ble_eq_true rfl) (Nat.le_of_ble_eq_true rfl) (Nat.le_of_ble_eq_true rfl) (Or.inl (fun r h' e => by obtain ⟨z13, rfl, hz13, rfl⟩ := e; rfl)) (fun r h' e => ?_)
  obtain ⟨z13, rfl, hz13, rfl⟩ := e
  show qJ YX12_view κ _ (qLy u, (q_up m 77 0 0), y) 0 0 16 [some (qR 77), some (qI v)] [qI z13]
  refine qJ.if_ne hκ (tgt := 21) rfl rfl (by omega) (fun c16 => ?_) (fun c16 => ?_)
  · show qJ YX12_view κ _ (qLy u, (q_up m 77 0 0), y) 0 0 21 [some (qR 77), some (qI v)] []
    refine qJ.run hκ 4 (pc' := 27) (ls' := [some (qR 77), some (qI v)]) (st' := [qI v, qI 0, qR 83]) rfl ?_
    refine qJ.ast hκ rfl rfl rfl (by decide) (by omega) ?_
    show qJ YX12_view κ _ (qLy u, (q_up (q_up m 77 0 0) 83 0 v), y) 0 0 28 [some (qR 77), some (qI v)] []
    refine qJ.run hκ 1 (pc' := 29) (ls' := [some (qR 77), some (qI v)]) (st' := [qI 1]) rfl ?_
    exact qJ.bret hκ rfl rfl (by omega) (by decide) (by decide) (Or.inl ⟨rfl, by omega, rfl⟩)
  · show qJ YX12_view κ _ (qLy u, (q_up m 77 0 0), y) 0 0 19 [some (qR 77), some (qI v)] []
    refine qJ.run hκ 1 (pc' := 20) (ls' := [some (qR 77), some (qI v)]) (st' := [qI 0]) rfl ?_
    exact qJ.bret hκ rfl rfl (by omega) (by decide) (by decide) (Or.inr ⟨rfl, by omega, rfl⟩)

set_option maxRecDepth 100000 in
theorem c_mTold (u : qU) (m y : qM) (w k : Int) (h0 : 0 ≤ m 92 0 ∧ m 92 0 < 150) : qCt YX12_told 1 0 0 [qR 77, qI w, qI k] (qLy u, m, y) (fun r h => r = none ∧ h = (qLy u, (q_up (q_up (q_up (q_up m 92 0 (m 92 0 + 1)) 93 ((m 92 0).toNat) w) 94 ((m 92 0).toNat) k) 95 ((m 92 0).toNat) (m 82 0)), y)) := by
  refine qCt.intro okX12_told (Nat.le_of_ble_eq_true rfl) (fun κ hκ => ?_)
  show qJ YX12_told κ _ (qLy u, m, y) 0 0 0 [some (qR 77), some (qI w), some (qI k), none] []
  refine qJ.run hκ 3 (pc' := 5) (ls' := [some (qR 77), some (qI w), some (qI k), none]) (st' := [qI 0, qR 92]) rfl ?_
  refine qJ.ald hκ rfl rfl rfl (by decide) (by omega) ?_
  show qJ YX12_told κ _ (qLy u, m, y) 0 0 6 [some (qR 77), some (qI w), some (qI k), none] [qI (m 92 0)]
  refine qJ.run hκ 5 (pc' := 13) (ls' := [some (qR 77), some (qI w), some (qI k), some (qI (m 92 0))]) (st' := [qI 0, qR 92, qI 0, qR 92]) rfl ?_
  refine qJ.ald hκ rfl rfl rfl (by decide) (by omega) ?_
  show qJ YX12_told κ _ (qLy u, m, y) 0 0 14 [some (qR 77), some (qI w), some (qI k), some (qI (m 92 0))] [qI (m 92 0), qI 0, qR 92]
  refine qJ.run hκ 2 (pc' := 16) (ls' := [some (qR 77), some (qI w), some (qI k), some (qI (m 92 0))]) (st' := [qI ((m 92 0) + 1), qI 0, qR 92]) rfl ?_
  refine qJ.ast hκ rfl rfl rfl (by decide) (by omega) ?_
  show qJ YX12_told κ _ (qLy u, (q_up m 92 0 ((m 92 0) + 1)), y) 0 0 17 [some (qR 77), some (qI w), some (qI k), some (qI (m 92 0))] []
  refine qJ.run hκ 4 (pc' := 23) (ls' := [some (qR 77), some (qI w), some (qI k), some (qI (m 92 0))]) (st' := [qI w, qI (m 92 0), qR 93]) rfl ?_
  refine qJ.ast hκ rfl rfl rfl (by decide) (by omega) ?_
  show qJ YX12_told κ _ (qLy u, (q_up (q_up m 92 0 ((m 92 0) + 1)) 93 ((m 92 0).toNat) w), y) 0 0 24 [some (qR 77), some (qI w), some (qI k), some (qI (m 92 0))] []
  refine qJ.run hκ 4 (pc' := 30) (ls' := [some (qR 77), some (qI w), some (qI k), some (qI (m 92 0))]) (st' := [qI k, qI (m 92 0), qR 94]) rfl ?_
  refine qJ.ast hκ rfl rfl rfl (by decide) (by omega) ?_
  show qJ YX12_told κ _ (qLy u, (q_up (q_up (q_up m 92 0 ((m 92 0) + 1)) 93 ((m 92 0).toNat) w) 94 ((m 92 0).toNat) k), y) 0 0 31 [some (qR 77), some (qI w), some (qI k), some (qI (m 92 0))] []
  refine qJ.run hκ 6 (pc' := 41) (ls' := [some (qR 77), some (qI w), some (qI k), some (qI (m 92 0))]) (st' := [qI 0, qR 82, qI (m 92 0), qR 95]) rfl ?_
  refine qJ.ald hκ rfl rfl rfl (by decide) (by omega) ?_
  show qJ YX12_told κ _ (qLy u, (q_up (q_up (q_up m 92 0 ((m 92 0) + 1)) 93 ((m 92 0).toNat) w) 94 ((m 92 0).toNat) k), y) 0 0 42 [some (qR 77), some (qI w), some (qI k), some (qI (m 92 0))] [qI (m 82 0), qI (m 92 0), qR 95]
  refine qJ.ast hκ rfl rfl rfl (by decide) (by omega) ?_
  show qJ YX12_told κ _ (qLy u, (q_up (q_up (q_up (q_up m 92 0 ((m 92 0) + 1)) 93 ((m 92 0).toNat) w) 94 ((m 92 0).toNat) k) 95 ((m 92 0).toNat) (m 82 0)), y) 0 0 43 [some (qR 77), some (qI w), some (qI k), some (qI (m 92 0))] []
  exact qJ.vret hκ rfl rfl (by decide) (by decide) (by first | exact ⟨rfl, rfl⟩ | (refine ⟨?_, rfl⟩; first | rfl | omega))

set_option maxRecDepth 100000 in
theorem c_mTell (u : qU) (m y : qM) (w k : Int) (h0 : 0 ≤ m 92 0 ∧ m 92 0 ≤ 150) (h1 : 0 ≤ m 85 0 ∧ m 85 0 ≤ 60) (h2 : qr w) (h3 : qr k) : qCt YX12_tell 2 0 0 [qR 77, qI w, qI k] (qLy u, m, y) (fun r h => (r = some (qI (m 92 0)) ∧ (¬ m 92 0 = 150 ∧ (0 ≤ w ∧ w ≤ m 85 0 - 1) ∧ 0 ≤ k ∧ k ≤ 3) ∧ h = (qLy u, (q_up (q_up (q_up (q_up (q_up m 77 0 0) 92 0 (m 92 0 + 1)) 93 ((m 92 0).toNat) w) 94 ((m 92 0).toNat) k) 95 ((m 92 0).toNat) (m 82 0)), y)) ∨ (r = some (qI (-1)) ∧ ¬ (¬ m 92 0 = 150 ∧ (0 ≤ w ∧ w ≤ m 85 0 - 1) ∧ 0 ≤ k ∧ k ≤ 3) ∧ h = (qLy u, (q_up m 77 0 0), y))) := by
  refine qCt.intro okX12_tell (Nat.le_of_ble_eq_true rfl) (fun κ hκ => ?_)
  show qJ YX12_tell κ _ (qLy u, m, y) 0 0 0 [some (qR 77), some (qI w), some (qI k)] []
  refine qJ.run hκ 2 (pc' := 2) (ls' := [some (qR 77), some (qI w), some (qI k)]) (st' := [qI 0, qR 77]) rfl ?_
  refine qJ.putI hκ rfl rfl rfl rfl (Or.inl rfl) ?_
  show qJ YX12_tell κ _ (qLy u, (q_up m 77 0 0), y) 0 0 5 [some (qR 77), some (qI w), some (qI k)] []
  refine qJ.run hκ 3 (pc' := 10) (ls' := [some (qR 77), some (qI w), some (qI k)]) (st' := [qI 0, qR 92]) rfl ?_
  refine qJ.ald hκ rfl rfl rfl (by decide) (by omega) ?_
  show qJ YX12_tell κ _ (qLy u, (q_up m 77 0 0), y) 0 0 11 [some (qR 77), some (qI w), some (qI k)] [qI (m 92 0)]
  refine qJ.run hκ 1 (pc' := 14) (ls' := [some (qR 77), some (qI w), some (qI k)]) (st' := [qI 150, qI (m 92 0)]) rfl ?_
  refine qJ.icmp_eq hκ (tgt := 42) rfl rfl (by omega) (by omega) (fun c14 => ?_) (fun c14 => ?_)
  · show qJ YX12_tell κ _ (qLy u, (q_up m 77 0 0), y) 0 0 42 [some (qR 77), some (qI w), some (qI k)] []
    refine qJ.run hκ 1 (pc' := 43) (ls' := [some (qR 77), some (qI w), some (qI k)]) (st' := [qI (-1)]) rfl ?_
    exact qJ.iret hκ rfl rfl (by decide) (by decide) (Or.inr ⟨rfl, by omega, rfl⟩)
  · show qJ YX12_tell κ _ (qLy u, (q_up m 77 0 0), y) 0 0 17 [some (qR 77), some (qI w), some (qI k)] []
    refine qJ.run hκ 5 (pc' := 24) (ls' := [some (qR 77), some (qI w), some (qI k)]) (st' := [qI 0, qR 85, qI 0, qI w]) rfl ?_
    refine qJ.ald hκ rfl rfl rfl (by decide) (by omega) ?_
    show qJ YX12_tell κ _ (qLy u, (q_up m 77 0 0), y) 0 0 25 [some (qR 77), some (qI w), some (qI k)] [qI (m 85 0), qI 0, qI w]
    refine qJ.run hκ 2 (pc' := 27) (ls' := [some (qR 77), some (qI w), some (qI k)]) (st' := [qI ((m 85 0) - 1), qI 0, qI w]) rfl ?_
    refine qJ.callS (As := [qI w, qI 0, qI ((m 85 0) - 1)]) (rest := []) hκ rfl kX12_167 (c_in u (q_up m 77 0 0) y w 0 ((m 85 0) - 1) (by omega) (by omega) (by omega)) (by decide) rfl rfl (Nat.le_of_ble_eq_true rfl) (Nat.le_of_ble_eq_true rfl) (Nat.le_of_ble_eq_true rfl) (Or.inl (fun r h' e => by obtain ⟨z27, rfl, hz27, rfl⟩ := e; rfl)) (fun r h' e => ?_)
    obtain ⟨z27, rfl, hz27, rfl⟩ := e
    show qJ YX12_tell κ _ (qLy u, (q_up m 77 0 0), y) 0 0 30 [some (qR 77), some (qI w), some (qI k)] [qI z27]
    refine qJ.if_eq hκ (tgt := 42) rfl rfl (by omega) (fun c30 => ?_) (fun c30 => ?_)
    · show qJ YX12_tell κ _ (qLy u, (q_up m 77 0 0), y) 0 0 42 [some (qR 77), some (qI w), some (qI k)] []
      refine qJ.run hκ 1 (pc' := 43) (ls' := [some (qR 77), some (qI w), some (qI k)]) (st' := [qI (-1)]) rfl ?_
      exact qJ.iret hκ rfl rfl (by decide) (by decide) (Or.inr ⟨rfl, by omega, rfl⟩)
    · show qJ YX12_tell κ _ (qLy u, (q_up m 77 0 0), y) 0 0 33 [some (qR 77), some (qI w), some (qI k)] []
      refine qJ.run hκ 3 (pc' := 36) (ls' := [some (qR 77), some (qI w), some (qI k)]) (st' := [qI 3, qI 0, qI k]) rfl ?_
      refine qJ.callS (As := [qI k, qI 0, qI 3]) (rest := []) hκ rfl kX12_167 (c_in u (q_up m 77 0 0) y k 0 3 (by omega) (by omega) (by omega)) (by decide) rfl rfl (Nat.le_of_ble_eq_true rfl) (Nat.le_of_ble_eq_true rfl) (Nat.le_of_ble_eq_true rfl) (Or.inl (fun r h' e => by obtain ⟨z36, rfl, hz36, rfl⟩ := e; rfl)) (fun r h' e => ?_)
      obtain ⟨z36, rfl, hz36, rfl⟩ := e
      show qJ YX12_tell κ _ (qLy u, (q_up m 77 0 0), y) 0 0 39 [some (qR 77), some (qI w), some (qI k)] [qI z36]
      refine qJ.if_ne hκ (tgt := 44) rfl rfl (by omega) (fun c39 => ?_) (fun c39 => ?_)
      · show qJ YX12_tell κ _ (qLy u, (q_up m 77 0 0), y) 0 0 44 [some (qR 77), some (qI w), some (qI k)] []
        refine qJ.run hκ 3 (pc' := 47) (ls' := [some (qR 77), some (qI w), some (qI k)]) (st' := [qI k, qI w, qR 77]) rfl ?_
        refine qJ.callV (As := [qI w, qI k]) (rest := []) hκ rfl kX12_179 (c_mTold u (q_up m 77 0 0) y w k (show 0 ≤ m 92 0 ∧ m 92 0 < 150 from by omega)) rfl rfl (by decide) rfl rfl (Nat.le_of_ble_eq_true rfl) (Nat.le_of_ble_eq_true rfl) (Nat.le_of_ble_eq_true rfl) (Or.inl (fun r h' e => by obtain ⟨rfl, rfl⟩ := e; rfl)) (fun r h' e => ?_)
        obtain ⟨rfl, rfl⟩ := e
        show qJ YX12_tell κ _ (qLy u, (q_up (q_up (q_up (q_up (q_up m 77 0 0) 92 0 (m 92 0 + 1)) 93 ((m 92 0).toNat) w) 94 ((m 92 0).toNat) k) 95 ((m 92 0).toNat) (m 82 0)), y) 0 0 50 [some (qR 77), some (qI w), some (qI k)] []
        refine qJ.run hκ 3 (pc' := 55) (ls' := [some (qR 77), some (qI w), some (qI k)]) (st' := [qI 0, qR 92]) rfl ?_
        refine qJ.ald hκ rfl rfl rfl (by decide) (by omega) ?_
        show qJ YX12_tell κ _ (qLy u, (q_up (q_up (q_up (q_up (q_up m 77 0 0) 92 0 (m 92 0 + 1)) 93 ((m 92 0).toNat) w) 94 ((m 92 0).toNat) k) 95 ((m 92 0).toNat) (m 82 0)), y) 0 0 56 [some (qR 77), some (qI w), some (qI k)] [qI (m 92 0 + 1)]
        refine qJ.run hκ 2 (pc' := 58) (ls' := [some (qR 77), some (qI w), some (qI k)]) (st' := [qI ((m 92 0 + 1) - 1)]) rfl ?_
        exact qJ.iret hκ rfl rfl (by decide) (by decide) (Or.inl ⟨by congr 2; omega, by omega, rfl⟩)
      · show qJ YX12_tell κ _ (qLy u, (q_up m 77 0 0), y) 0 0 42 [some (qR 77), some (qI w), some (qI k)] []
        refine qJ.run hκ 1 (pc' := 43) (ls' := [some (qR 77), some (qI w), some (qI k)]) (st' := [qI (-1)]) rfl ?_
        exact qJ.iret hκ rfl rfl (by decide) (by decide) (Or.inr ⟨rfl, by omega, rfl⟩)

set_option maxRecDepth 100000 in
theorem c_mTelling (u : qU) (m y : qM) (k w : Int) (h0 : 0 ≤ m 92 0 ∧ m 92 0 ≤ 150) (h2 : qr k) (h3 : qr w) : qCt YX12_telling 2 0 0 [qR 77, qI k, qI w] (qLy u, m, y) (fun r h => r = some (qI (if (0 ≤ k ∧ k ≤ m 92 0 - 1) ∧ 0 ≤ w ∧ w ≤ 2 then (if w = 0 then m 93 k.toNat else if w = 1 then m 94 k.toNat else m 95 k.toNat) else -2)) ∧ h = (qLy u, (q_up m 77 0 0), y)) := by
  refine qCt.intro okX12_telling (Nat.le_of_ble_eq_true rfl) (fun κ hκ => ?_)
  show qJ YX12_telling κ _ (qLy u, m, y) 0 0 0 [some (qR 77), some (qI k), some (qI w)] []
  refine qJ.run hκ 2 (pc' := 2) (ls' := [some (qR 77), some (qI k), some (qI w)]) (st' := [qI 0, qR 77]) rfl ?_
  refine qJ.putI hκ rfl rfl rfl rfl (Or.inl rfl) ?_
  show qJ YX12_telling κ _ (qLy u, (q_up m 77 0 0), y) 0 0 5 [some (qR 77), some (qI k), some (qI w)] []
  refine qJ.run hκ 5 (pc' := 12) (ls' := [some (qR 77), some (qI k), some (qI w)]) (st' := [qI 0, qR 92, qI 0, qI k]) rfl ?_
  refine qJ.ald hκ rfl rfl rfl (by decide) (by omega) ?_
  show qJ YX12_telling κ _ (qLy u, (q_up m 77 0 0), y) 0 0 13 [some (qR 77), some (qI k), some (qI w)] [qI (m 92 0), qI 0, qI k]
  refine qJ.run hκ 2 (pc' := 15) (ls' := [some (qR 77), some (qI k), some (qI w)]) (st' := [qI ((m 92 0) - 1), qI 0, qI k]) rfl ?_
  refine qJ.callS (As := [qI k, qI 0, qI ((m 92 0) - 1)]) (rest := []) hκ rfl kX12_167 (c_in u (q_up m 77 0 0) y k 0 ((m 92 0) - 1) (by omega) (by omega) (by omega)) (by decide) rfl rfl (Nat.le_of_ble_eq_true rfl) (Nat.le_of_ble_eq_true rfl) (Nat.le_of_ble_eq_true rfl) (Or.inl (fun r h' e => by obtain ⟨z15, rfl, hz15, rfl⟩ := e; rfl)) (fun r h' e => ?_)
  obtain ⟨z15, rfl, hz15, rfl⟩ := e
  show qJ YX12_telling κ _ (qLy u, (q_up m 77 0 0), y) 0 0 18 [some (qR 77), some (qI k), some (qI w)] [qI z15]
  refine qJ.if_eq hκ (tgt := 30) rfl rfl (by omega) (fun c18 => ?_) (fun c18 => ?_)
  · show qJ YX12_telling κ _ (qLy u, (q_up m 77 0 0), y) 0 0 30 [some (qR 77), some (qI k), some (qI w)] []
    refine qJ.run hκ 1 (pc' := 32) (ls' := [some (qR 77), some (qI k), some (qI w)]) (st' := [qI (-2)]) rfl ?_
    exact qJ.iret hκ rfl rfl (by decide) (by decide) (⟨by rw [if_neg (by omega)], rfl⟩)
  · show qJ YX12_telling κ _ (qLy u, (q_up m 77 0 0), y) 0 0 21 [some (qR 77), some (qI k), some (qI w)] []
    refine qJ.run hκ 3 (pc' := 24) (ls' := [some (qR 77), some (qI k), some (qI w)]) (st' := [qI 2, qI 0, qI w]) rfl ?_
    refine qJ.callS (As := [qI w, qI 0, qI 2]) (rest := []) hκ rfl kX12_167 (c_in u (q_up m 77 0 0) y w 0 2 (by omega) (by omega) (by omega)) (by decide) rfl rfl (Nat.le_of_ble_eq_true rfl) (Nat.le_of_ble_eq_true rfl) (Nat.le_of_ble_eq_true rfl) (Or.inl (fun r h' e => by obtain ⟨z24, rfl, hz24, rfl⟩ := e; rfl)) (fun r h' e => ?_)
    obtain ⟨z24, rfl, hz24, rfl⟩ := e
    show qJ YX12_telling κ _ (qLy u, (q_up m 77 0 0), y) 0 0 27 [some (qR 77), some (qI k), some (qI w)] [qI z24]
    refine qJ.if_ne hκ (tgt := 33) rfl rfl (by omega) (fun c27 => ?_) (fun c27 => ?_)
    · show qJ YX12_telling κ _ (qLy u, (q_up m 77 0 0), y) 0 0 33 [some (qR 77), some (qI k), some (qI w)] []
      refine qJ.run hκ 1 (pc' := 34) (ls' := [some (qR 77), some (qI k), some (qI w)]) (st' := [qI w]) rfl ?_
      refine qJ.if_ne hκ (tgt := 46) rfl rfl (by omega) (fun c34 => ?_) (fun c34 => ?_)
      · show qJ YX12_telling κ _ (qLy u, (q_up m 77 0 0), y) 0 0 46 [some (qR 77), some (qI k), some (qI w)] []
        refine qJ.run hκ 2 (pc' := 48) (ls' := [some (qR 77), some (qI k), some (qI w)]) (st' := [qI 1, qI w]) rfl ?_
        refine qJ.icmp_ne hκ (tgt := 60) rfl rfl (by omega) (by omega) (fun c48 => ?_) (fun c48 => ?_)
        · show qJ YX12_telling κ _ (qLy u, (q_up m 77 0 0), y) 0 0 60 [some (qR 77), some (qI k), some (qI w)] []
          refine qJ.run hκ 3 (pc' := 65) (ls' := [some (qR 77), some (qI k), some (qI w)]) (st' := [qI k, qR 95]) rfl ?_
          refine qJ.ald hκ rfl rfl rfl (by decide) (by omega) ?_
          show qJ YX12_telling κ _ (qLy u, (q_up m 77 0 0), y) 0 0 66 [some (qR 77), some (qI k), some (qI w)] [qI (m 95 k.toNat)]
          exact qJ.iret hκ rfl rfl (by decide) (by decide) (by first | exact ⟨by rw [if_pos ⟨by omega, by omega⟩, if_pos c34], rfl⟩ | exact ⟨by rw [if_pos ⟨by omega, by omega⟩, if_neg c34, if_pos c48], rfl⟩ | exact ⟨by rw [if_pos ⟨by omega, by omega⟩, if_neg c34, if_neg c48], rfl⟩)
        · show qJ YX12_telling κ _ (qLy u, (q_up m 77 0 0), y) 0 0 51 [some (qR 77), some (qI k), some (qI w)] []
          refine qJ.run hκ 3 (pc' := 56) (ls' := [some (qR 77), some (qI k), some (qI w)]) (st' := [qI k, qR 94]) rfl ?_
          refine qJ.ald hκ rfl rfl rfl (by decide) (by omega) ?_
          show qJ YX12_telling κ _ (qLy u, (q_up m 77 0 0), y) 0 0 57 [some (qR 77), some (qI k), some (qI w)] [qI (m 94 k.toNat)]
          refine qJ.run hκ 1 (pc' := 66) (ls' := [some (qR 77), some (qI k), some (qI w)]) (st' := [qI (m 94 k.toNat)]) rfl ?_
          exact qJ.iret hκ rfl rfl (by decide) (by decide) (by first | exact ⟨by rw [if_pos ⟨by omega, by omega⟩, if_pos c34], rfl⟩ | exact ⟨by rw [if_pos ⟨by omega, by omega⟩, if_neg c34, if_pos c48], rfl⟩ | exact ⟨by rw [if_pos ⟨by omega, by omega⟩, if_neg c34, if_neg c48], rfl⟩)
      · show qJ YX12_telling κ _ (qLy u, (q_up m 77 0 0), y) 0 0 37 [some (qR 77), some (qI k), some (qI w)] []
        refine qJ.run hκ 3 (pc' := 42) (ls' := [some (qR 77), some (qI k), some (qI w)]) (st' := [qI k, qR 93]) rfl ?_
        refine qJ.ald hκ rfl rfl rfl (by decide) (by omega) ?_
        show qJ YX12_telling κ _ (qLy u, (q_up m 77 0 0), y) 0 0 43 [some (qR 77), some (qI k), some (qI w)] [qI (m 93 k.toNat)]
        refine qJ.run hκ 1 (pc' := 66) (ls' := [some (qR 77), some (qI k), some (qI w)]) (st' := [qI (m 93 k.toNat)]) rfl ?_
        exact qJ.iret hκ rfl rfl (by decide) (by decide) (by first | exact ⟨by rw [if_pos ⟨by omega, by omega⟩, if_pos c34], rfl⟩ | exact ⟨by rw [if_pos ⟨by omega, by omega⟩, if_neg c34, if_pos c48], rfl⟩ | exact ⟨by rw [if_pos ⟨by omega, by omega⟩, if_neg c34, if_neg c48], rfl⟩)
    · show qJ YX12_telling κ _ (qLy u, (q_up m 77 0 0), y) 0 0 30 [some (qR 77), some (qI k), some (qI w)] []
      refine qJ.run hκ 1 (pc' := 32) (ls' := [some (qR 77), some (qI k), some (qI w)]) (st' := [qI (-2)]) rfl ?_
      exact qJ.iret hκ rfl rfl (by decide) (by decide) (⟨by rw [if_neg (by omega)], rfl⟩)

def hs (m : qM) (x : Int) : Int := if x = m 77 35 then m 77 36 else x

set_option maxRecDepth 100000 in
theorem c_mSignAt (u : qU) (m y : qM) (w i : Int) (h0 : 0 ≤ 5 * w + i ∧ 5 * w + i < 1200) (h1 : qr (m 87 (5 * w + i).toNat)) (h2 : qr (m 77 35)) : qCt YX12_signAt 1 0 0 [qR 77, qI w, qI i] (qLy u, m, y) (fun r h => r = some (qI (hs m (m 87 (5 * w + i).toNat))) ∧ h = (qLy u, m, y)) := by
  refine qCt.intro okX12_signAt (Nat.le_of_ble_eq_true rfl) (fun κ hκ => ?_)
  show qJ YX12_signAt κ _ (qLy u, m, y) 0 0 0 [some (qR 77), some (qI w), some (qI i), none] []
  refine qJ.run hκ 7 (pc' := 9) (ls' := [some (qR 77), some (qI w), some (qI i), none]) (st' := [qI ((5 * w) + i), qR 87]) rfl ?_
  refine qJ.ald hκ rfl rfl rfl (by decide) (by omega) ?_
  show qJ YX12_signAt κ _ (qLy u, m, y) 0 0 10 [some (qR 77), some (qI w), some (qI i), none] [qI (m 87 (((5 * w) + i).toNat))]
  refine qJ.run hκ 4 (pc' := 16) (ls' := [some (qR 77), some (qI w), some (qI i), some (qI (m 87 (((5 * w) + i).toNat)))]) (st' := [qI (m 77 35), qI (m 87 (((5 * w) + i).toNat))]) rfl ?_
  refine qJ.icmp_ne hκ (tgt := 26) rfl rfl (by omega) (by omega) (fun c16 => ?_) (fun c16 => ?_)
  · show qJ YX12_signAt κ _ (qLy u, m, y) 0 0 26 [some (qR 77), some (qI w), some (qI i), some (qI (m 87 (((5 * w) + i).toNat)))] []
    refine qJ.run hκ 1 (pc' := 27) (ls' := [some (qR 77), some (qI w), some (qI i), some (qI (m 87 (((5 * w) + i).toNat)))]) (st' := [qI (m 87 (((5 * w) + i).toNat))]) rfl ?_
    exact qJ.iret hκ rfl rfl (by decide) (by decide) (by refine ⟨?_, rfl⟩; unfold hs; first | rw [if_pos c16] | rw [if_neg c16])
  · show qJ YX12_signAt κ _ (qLy u, m, y) 0 0 19 [some (qR 77), some (qI w), some (qI i), some (qI (m 87 (((5 * w) + i).toNat)))] []
    refine qJ.run hκ 3 (pc' := 27) (ls' := [some (qR 77), some (qI w), some (qI i), some (qI (m 87 (((5 * w) + i).toNat)))]) (st' := [qI (m 77 36)]) rfl ?_
    exact qJ.iret hκ rfl rfl (by decide) (by decide) (by refine ⟨?_, rfl⟩; unfold hs; first | rw [if_pos c16] | rw [if_neg c16])

/-- a model's word has a gap among its signs -/
abbrev hG (m : qM) (w : Int) (k : Nat) : Prop := m 87 (5 * w + (k : Int)).toNat = 20
theorem hG_i {m : qM} {w i : Int} (h : 0 ≤ i) : hG m w i.toNat ↔ m 87 (5 * w + i).toNat = 20 := by
  unfold hG; rw [show ((i.toNat : Nat) : Int) = i by omega]
def hW (m : qM) : Prop := ∀ w : Int, 0 ≤ w → w < m 85 0 → (1 ≤ m 88 w.toNat ∧ m 88 w.toNat ≤ 5) ∧ ∀ i : Int, 0 ≤ i → i < m 88 w.toNat → 0 ≤ m 87 (5 * w + i).toNat ∧ m 87 (5 * w + i).toNat ≤ 20

set_option maxRecDepth 100000 in
theorem c_hasGap (u : qU) (m y : qM) (w : Int) (h0 : 0 ≤ m 85 0 ∧ m 85 0 ≤ 60) (hW : hW m) (hw : 0 ≤ w ∧ w < m 85 0) : qCt YX12_hasGap 1 0 0 [qR 77, qI w] (qLy u, m, y) (fun r h => ∃ z : Int, r = some (qI z) ∧ (z = 1 ∧ (¬ q_cnt (hG m w) (m 88 w.toNat).toNat = 0) ∨ z = 0 ∧ ¬ (¬ q_cnt (hG m w) (m 88 w.toNat).toNat = 0)) ∧ h = (qLy u, m, y)) := by
  refine qCt.intro okX12_hasGap (Nat.le_of_ble_eq_true rfl) (fun κ hκ => ?_)
  have w1 := hW w hw.1 hw.2
  have L2 : ∀ (n : Nat) (i : Int), (0 ≤ i) → (i ≤ m 88 w.toNat) → (q_cnt (hG m w) i.toNat = 0) → ((m 88 w.toNat - i).toNat) < n → qJ YX12_hasGap κ (qFin (fun r h => ∃ z : Int, r = some (qI z) ∧ (z = 1 ∧ (¬ q_cnt (hG m w) (m 88 w.toNat).toNat = 0) ∨ z = 0 ∧ ¬ (¬ q_cnt (hG m w) (m 88 w.toNat).toNat = 0)) ∧ h = (qLy u, m, y)) 0 0 κ) (qLy u, m, y) 0 0 2 [some (qR 77), some (qI w), some (qI i)] [] := by
    intro n
    induction n with
    | zero => intro i _ _ _ hz0; omega
    | succ n ih2 =>
      intro i v2_0 v2_1 v2_2 v2_m
      refine qJ.run hκ 4 (pc' := 8) (ls' := [some (qR 77), some (qI w), some (qI i)]) (st' := [qI w, qR 88, qI i]) rfl ?_
      refine qJ.ald hκ rfl rfl rfl (by decide) (by omega) ?_
      show qJ YX12_hasGap κ _ (qLy u, m, y) 0 0 9 [some (qR 77), some (qI w), some (qI i)] [qI (m 88 w.toNat), qI i]
      refine qJ.icmp_ge hκ (tgt := 35) rfl rfl (by omega) (by omega) (fun c9 => ?_) (fun c9 => ?_)
      · show qJ YX12_hasGap κ _ (qLy u, m, y) 0 0 35 [some (qR 77), some (qI w), some (qI i)] []
        refine qJ.run hκ 1 (pc' := 36) (ls' := [some (qR 77), some (qI w), some (qI i)]) (st' := [qI 0]) rfl ?_
        exact qJ.bret hκ rfl rfl (by omega) (by decide) (by decide) (⟨0, rfl, Or.inr ⟨rfl, fun z => z (by rw [show m 88 w.toNat = i by omega]; exact v2_2)⟩, rfl⟩)
      · show qJ YX12_hasGap κ _ (qLy u, m, y) 0 0 12 [some (qR 77), some (qI w), some (qI i)] []
        have w3 := w1.2 i v2_0 c9
        refine qJ.run hκ 7 (pc' := 21) (ls' := [some (qR 77), some (qI w), some (qI i)]) (st' := [qI ((5 * w) + i), qR 87]) rfl ?_
        refine qJ.ald hκ rfl rfl rfl (by decide) (by omega) ?_
        show qJ YX12_hasGap κ _ (qLy u, m, y) 0 0 22 [some (qR 77), some (qI w), some (qI i)] [qI (m 87 (((5 * w) + i).toNat))]
        refine qJ.run hκ 1 (pc' := 24) (ls' := [some (qR 77), some (qI w), some (qI i)]) (st' := [qI 20, qI (m 87 (((5 * w) + i).toNat))]) rfl ?_
        refine qJ.icmp_ne hκ (tgt := 29) rfl rfl (by omega) (by omega) (fun c24 => ?_) (fun c24 => ?_)
        · show qJ YX12_hasGap κ _ (qLy u, m, y) 0 0 29 [some (qR 77), some (qI w), some (qI i)] []
          refine qJ.run hκ 2 (pc' := 2) (ls' := [some (qR 77), some (qI w), some (qI (i + 1))]) (st' := []) rfl ?_
          exact ih2  (i + 1) (by omega) (by omega) (by rw [q_cnt_s v2_0, if_neg (fun z => c24 ((hG_i v2_0).mp z))]; omega) (by omega)
        · show qJ YX12_hasGap κ _ (qLy u, m, y) 0 0 27 [some (qR 77), some (qI w), some (qI i)] []
          refine qJ.run hκ 1 (pc' := 28) (ls' := [some (qR 77), some (qI w), some (qI i)]) (st' := [qI 1]) rfl ?_
          exact qJ.bret hκ rfl rfl (by omega) (by decide) (by decide) (⟨1, rfl, Or.inl ⟨rfl, q_cnt_pos v2_0 (by omega) ((hG_i v2_0).mpr c24)⟩, rfl⟩)
  show qJ YX12_hasGap κ _ (qLy u, m, y) 0 0 0 [some (qR 77), some (qI w), none] []
  refine qJ.run hκ 2 (pc' := 2) (ls' := [some (qR 77), some (qI w), some (qI 0)]) (st' := []) rfl ?_
  exact L2 7 0 (by omega) (by omega) (rfl) (by omega)

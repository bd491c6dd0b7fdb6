/-! printed by p59.py: tokens of the model -/
set_option maxRecDepth 100000 in
theorem m_see (u : qU) (m y : qM) (h0 : 0 ≤ m 77 41 ∧ m 77 41 ≤ 400) (h1 : 0 ≤ m 77 42 ∧ m 77 42 ≤ 400) : qCt YX12_see 1 0 0 [qR 77] (qLy u, m, y) (fun r h => r = some (qI (sB (m 78) (m 77 42) (m 77 41))) ∧ h = (qLy u, m, y)) := by
  refine qCt.intro okX12_see (Nat.le_of_ble_eq_true rfl) (fun κ hκ => ?_)
  show qJ YX12_see κ _ (qLy u, m, y) 0 0 0 [some (qR 77)] []
  refine qJ.run hκ 4 (pc' := 8) (ls' := [some (qR 77)]) (st' := [qI (m 77 42), qI (m 77 41)]) rfl ?_
  refine qJ.icmp_ge hκ (tgt := 27) rfl rfl (by omega) (by omega) (fun c8 => ?_) (fun c8 => ?_)
  · show qJ YX12_see κ _ (qLy u, m, y) 0 0 27 [some (qR 77)] []
    refine qJ.run hκ 1 (pc' := 28) (ls' := [some (qR 77)]) (st' := [qI (-1)]) rfl ?_
    exact qJ.iret hκ rfl rfl (by decide) (by decide) (⟨by unfold sB; rw [if_neg (fun z => by omega)], rfl⟩)
  · show qJ YX12_see κ _ (qLy u, m, y) 0 0 11 [some (qR 77)] []
    refine qJ.run hκ 4 (pc' := 19) (ls' := [some (qR 77)]) (st' := [qI (m 77 41), qR 78]) rfl ?_
    refine qJ.ald hκ rfl rfl rfl (by decide) (by omega) ?_
    show qJ YX12_see κ _ (qLy u, m, y) 0 0 20 [some (qR 77)] [qI (m 78 ((m 77 41).toNat))]
    refine qJ.run hκ 3 (pc' := 28) (ls' := [some (qR 77)]) (st' := [qI (q_and (m 78 ((m 77 41).toNat)) 255)]) rfl ?_
    exact qJ.iret hκ rfl rfl (by decide) (by decide) (⟨by unfold sB; rw [if_pos ⟨by omega, by omega⟩], rfl⟩)

set_option maxRecDepth 100000 in
theorem m_token (u : qU) (m y : qM) (hb : ∀ j : Nat, (j : Int) < m 77 42 → -128 ≤ m 78 j ∧ m 78 j ≤ 127) (hL : 0 ≤ m 77 42 ∧ m 77 42 ≤ 400) (hp : 0 ≤ m 77 41 ∧ m 77 41 ≤ m 77 42) : qCt YX12_token 2 0 0 [qR 77] (qLy u, m, y) (fun r h => r = none ∧ h = (qLy u, TKm (m 78) (m 77 42) m (m 77 41), q_up y 77 46 (tW (m 78) (m 77 42) (m 77 41)))) := by
  refine qCt.intro okX12_token (Nat.le_of_ble_eq_true rfl) (fun κ hκ => ?_)
  have L79 : ∀ (n : Nat) (s : Int) (p : Int) (k : Int) (w : Int), (0 ≤ s) → (s ≤ p) → (p ≤ m 77 42) → (tS (m 78) (m 77 42) (m 77 41) = s) → (tLo (m 78) (m 77 42) s) → (sk (tLo (m 78) (m 77 42)) (m 77 42 - p).toNat p = sk (tLo (m 78) (m 77 42)) (m 77 42 - s).toNat s) → (p = s + k) → (s < m 77 42) → (w = wf (m 78) (m 77 42) s k.toNat) → ((m 77 42 - p).toNat) < n → qJ YX12_token κ (qFin (fun r h => r = none ∧ h = (qLy u, TKm (m 78) (m 77 42) m (m 77 41), q_up y 77 46 (tW (m 78) (m 77 42) (m 77 41)))) 0 0 κ) (qLy u, (q_up (q_up (q_up m 77 43 s) 77 45 (sB (m 78) (m 77 42) s)) 77 41 p), (q_up y 77 46 w)) 0 0 79 [some (qR 77), none, some (qI k)] [] := by
    intro n
    induction n with
    | zero => intro s p k w _ _ _ _ _ _ _ _ _ hz0; omega
    | succ n ih79 =>
      intro s p k w v79_0 v79_1 v79_2 v79_3 v79_4 v79_5 v79_6 v79_7 v79_8 v79_m
      have br := sB_r hb (p := p) (by omega)
      refine qJ.run hκ 1 (pc' := 80) (ls' := [some (qR 77), none, some (qI k)]) (st' := [qR 77]) rfl ?_
      refine qJ.callV (As := []) (rest := []) hκ rfl kX12_270 (m_see u (q_up (q_up (q_up m 77 43 s) 77 45 (sB (m 78) (m 77 42) s)) 77 41 p) (q_up y 77 46 w) (show 0 ≤ p ∧ p ≤ 400 from by omega) hL) rfl rfl (by decide) rfl rfl (Nat.le_of_ble_eq_true rfl) (Nat.le_of_ble_eq_true rfl) (Nat.le_of_ble_eq_true rfl) (Or.inl (fun r h' e => by obtain ⟨rfl, rfl⟩ := e; rfl)) (fun r h' e => ?_)
      obtain ⟨rfl, rfl⟩ := e
      show qJ YX12_token κ _ (qLy u, (q_up (q_up (q_up m 77 43 s) 77 45 (sB (m 78) (m 77 42) s)) 77 41 p), (q_up y 77 46 w)) 0 0 83 [some (qR 77), none, some (qI k)] [qI (sB (m 78) (m 77 42) p)]
      refine qJ.run hκ 2 (pc' := 87) (ls' := [some (qR 77), none, some (qI k)]) (st' := [qI 122, qI 97, qI (sB (m 78) (m 77 42) p)]) rfl ?_
      refine qJ.callS (As := [qI (sB (m 78) (m 77 42) p), qI 97, qI 122]) (rest := []) hκ rfl kX12_167 (c_in u (q_up (q_up (q_up m 77 43 s) 77 45 (sB (m 78) (m 77 42) s)) 77 41 p) (q_up y 77 46 w) (sB (m 78) (m 77 42) p) 97 122 (by omega) (by omega) (by omega)) (by decide) rfl rfl (Nat.le_of_ble_eq_true rfl) (Nat.le_of_ble_eq_true rfl) (Nat.le_of_ble_eq_true rfl) (Or.inl (fun r h' e => by obtain ⟨z87, rfl, hz87, rfl⟩ := e; rfl)) (fun r h' e => ?_)
      obtain ⟨z87, rfl, hz87, rfl⟩ := e
      show qJ YX12_token κ _ (qLy u, (q_up (q_up (q_up m 77 43 s) 77 45 (sB (m 78) (m 77 42) s)) 77 41 p), (q_up y 77 46 w)) 0 0 90 [some (qR 77), none, some (qI k)] [qI z87]
      refine qJ.if_eq hκ (tgt := 126) rfl rfl (by omega) (fun c90 => ?_) (fun c90 => ?_)
      · show qJ YX12_token κ _ (qLy u, (q_up (q_up (q_up m 77 43 s) 77 45 (sB (m 78) (m 77 42) s)) 77 41 p), (q_up y 77 46 w)) 0 0 126 [some (qR 77), none, some (qI k)] []
        refine qJ.run hκ 3 (pc' := 130) (ls' := [some (qR 77), none, some (qI k)]) (st' := [qI 8, qI k, qR 77]) rfl ?_
        refine qJ.icmp_le hκ (tgt := 137) rfl rfl (by omega) (by omega) (fun c130 => ?_) (fun c130 => ?_)
        · show qJ YX12_token κ _ (qLy u, (q_up (q_up (q_up m 77 43 s) 77 45 (sB (m 78) (m 77 42) s)) 77 41 p), (q_up y 77 46 w)) 0 0 137 [some (qR 77), none, some (qI k)] [qR 77]
          refine qJ.run hκ 2 (pc' := 141) (ls' := [some (qR 77), none, some (qI k)]) (st' := [qL w, qR 77]) rfl ?_
          refine qJ.putL hκ rfl rfl rfl rfl ?_
          show qJ YX12_token κ _ (qLy u, (q_up (q_up (q_up m 77 43 s) 77 45 (sB (m 78) (m 77 42) s)) 77 41 p), (q_up (q_up y 77 46 w) 77 46 w)) 0 0 144 [some (qR 77), none, some (qI k)] []
          refine qJ.run hκ 2 (pc' := 146) (ls' := [some (qR 77), none, some (qI k)]) (st' := [qI 2, qR 77]) rfl ?_
          refine qJ.putI hκ rfl rfl rfl rfl (Or.inl rfl) ?_
          show qJ YX12_token κ _ (qLy u, (q_up (q_up (q_up (q_up m 77 43 s) 77 45 (sB (m 78) (m 77 42) s)) 77 41 p) 77 44 2), (q_up (q_up y 77 46 w) 77 46 w)) 0 0 149 [some (qR 77), none, some (qI k)] []
          refine qJ.run hκ 1 (pc' := 183) (ls' := [some (qR 77), none, some (qI k)]) (st' := []) rfl ?_
          exact qJ.vret hκ rfl rfl (by decide) (by decide) (by
      have hE : tE (m 78) (m 77 42) (m 77 41) = p := by unfold tE; rw [v79_3, if_neg (by omega), if_pos v79_4, ← v79_5]; exact sk_no (fun z => by rcases hz87 with q | q; omega; exact q.2 z) _
      have hM : tM (m 78) (m 77 42) (m 77 41) = 2 := by unfold tM; rw [v79_3, if_neg (by omega), if_pos v79_4]
      refine ⟨rfl, ?_⟩
      unfold TKm tW
      rw [hM, hE, v79_3, if_pos rfl, if_neg (by omega), q_up_same, v79_8, show (p - s).toNat = k.toNat by omega])
        · show qJ YX12_token κ _ (qLy u, (q_up (q_up (q_up m 77 43 s) 77 45 (sB (m 78) (m 77 42) s)) 77 41 p), (q_up y 77 46 w)) 0 0 133 [some (qR 77), none, some (qI k)] [qR 77]
          refine qJ.run hκ 2 (pc' := 141) (ls' := [some (qR 77), none, some (qI k)]) (st' := [qL 0, qR 77]) rfl ?_
          refine qJ.putL hκ rfl rfl rfl rfl ?_
          show qJ YX12_token κ _ (qLy u, (q_up (q_up (q_up m 77 43 s) 77 45 (sB (m 78) (m 77 42) s)) 77 41 p), (q_up (q_up y 77 46 w) 77 46 0)) 0 0 144 [some (qR 77), none, some (qI k)] []
          refine qJ.run hκ 2 (pc' := 146) (ls' := [some (qR 77), none, some (qI k)]) (st' := [qI 2, qR 77]) rfl ?_
          refine qJ.putI hκ rfl rfl rfl rfl (Or.inl rfl) ?_
          show qJ YX12_token κ _ (qLy u, (q_up (q_up (q_up (q_up m 77 43 s) 77 45 (sB (m 78) (m 77 42) s)) 77 41 p) 77 44 2), (q_up (q_up y 77 46 w) 77 46 0)) 0 0 149 [some (qR 77), none, some (qI k)] []
          refine qJ.run hκ 1 (pc' := 183) (ls' := [some (qR 77), none, some (qI k)]) (st' := []) rfl ?_
          exact qJ.vret hκ rfl rfl (by decide) (by decide) (by
      have hE : tE (m 78) (m 77 42) (m 77 41) = p := by unfold tE; rw [v79_3, if_neg (by omega), if_pos v79_4, ← v79_5]; exact sk_no (fun z => by rcases hz87 with q | q; omega; exact q.2 z) _
      have hM : tM (m 78) (m 77 42) (m 77 41) = 2 := by unfold tM; rw [v79_3, if_neg (by omega), if_pos v79_4]
      refine ⟨rfl, ?_⟩
      unfold TKm tW
      rw [hM, hE, v79_3, if_pos rfl, if_pos (by omega), q_up_same])
      · show qJ YX12_token κ _ (qLy u, (q_up (q_up (q_up m 77 43 s) 77 45 (sB (m 78) (m 77 42) s)) 77 41 p), (q_up y 77 46 w)) 0 0 93 [some (qR 77), none, some (qI k)] []
        refine qJ.run hκ 6 (pc' := 102) (ls' := [some (qR 77), none, some (qI k)]) (st' := [qR 77, qL (q_lshl w 8), qR 77]) rfl ?_
        refine qJ.callV (As := []) (rest := [qL (q_lshl w 8), qR 77]) hκ rfl kX12_270 (m_see u (q_up (q_up (q_up m 77 43 s) 77 45 (sB (m 78) (m 77 42) s)) 77 41 p) (q_up y 77 46 w) (show 0 ≤ p ∧ p ≤ 400 from by omega) hL) rfl rfl (by decide) rfl rfl (Nat.le_of_ble_eq_true rfl) (Nat.le_of_ble_eq_true rfl) (Nat.le_of_ble_eq_true rfl) (Or.inl (fun r h' e => by obtain ⟨rfl, rfl⟩ := e; rfl)) (fun r h' e => ?_)
        obtain ⟨rfl, rfl⟩ := e
        show qJ YX12_token κ _ (qLy u, (q_up (q_up (q_up m 77 43 s) 77 45 (sB (m 78) (m 77 42) s)) 77 41 p), (q_up y 77 46 w)) 0 0 105 [some (qR 77), none, some (qI k)] [qI (sB (m 78) (m 77 42) p), qL (q_lshl w 8), qR 77]
        refine qJ.run hκ 2 (pc' := 107) (ls' := [some (qR 77), none, some (qI k)]) (st' := [qL (q_lor (q_lshl w 8) (q_i2l (sB (m 78) (m 77 42) p))), qR 77]) rfl ?_
        refine qJ.putL hκ rfl rfl rfl rfl ?_
        show qJ YX12_token κ _ (qLy u, (q_up (q_up (q_up m 77 43 s) 77 45 (sB (m 78) (m 77 42) s)) 77 41 p), (q_up (q_up y 77 46 w) 77 46 (q_lor (q_lshl w 8) (q_i2l (sB (m 78) (m 77 42) p))))) 0 0 110 [some (qR 77), none, some (qI k)] []
        refine qJ.run hκ 5 (pc' := 117) (ls' := [some (qR 77), none, some (qI k)]) (st' := [qI (p + 1), qR 77]) rfl ?_
        refine qJ.putI hκ rfl rfl rfl rfl (Or.inl rfl) ?_
        show qJ YX12_token κ _ (qLy u, (q_up (q_up (q_up (q_up m 77 43 s) 77 45 (sB (m 78) (m 77 42) s)) 77 41 p) 77 41 (p + 1)), (q_up (q_up y 77 46 w) 77 46 (q_lor (q_lshl w 8) (q_i2l (sB (m 78) (m 77 42) p))))) 0 0 120 [some (qR 77), none, some (qI k)] []
        refine qJ.run hκ 2 (pc' := 79) (ls' := [some (qR 77), none, some (qI (k + 1))]) (st' := []) rfl ?_
        exact qJ.cast (ih79  s (p + 1) (k + 1) (q_lor (q_lshl w 8) (q_i2l (sB (m 78) (m 77 42) p))) (by omega) (by omega) (by omega) (v79_3) (v79_4) ((sk_st (by omega) (show tLo (m 78) (m 77 42) p from by show 97 ≤ sB _ _ _ ∧ _; rcases hz87 with q | q; exact q.2; omega)).symm.trans v79_5) (by omega) (by omega) (by rw [show (k + 1).toNat = k.toNat + 1 by omega]; show _ = q_lor (q_lshl (wf (m 78) (m 77 42) s k.toNat) 8) (q_i2l (sB (m 78) (m 77 42) (s + (k.toNat : Int)))); rw [← v79_8, show s + (k.toNat : Int) = p by omega]) (by omega)) (by rw [q_up_same, q_up_same]) rfl rfl
  have L0 : ∀ (n : Nat) (p : Int), (0 ≤ p) → (p ≤ m 77 42) → (sk (tBl (m 78) (m 77 42)) (m 77 42 - p).toNat p = tS (m 78) (m 77 42) (m 77 41)) → ((m 77 42 - p).toNat) < n → qJ YX12_token κ (qFin (fun r h => r = none ∧ h = (qLy u, TKm (m 78) (m 77 42) m (m 77 41), q_up y 77 46 (tW (m 78) (m 77 42) (m 77 41)))) 0 0 κ) (qLy u, (q_up m 77 41 p), y) 0 0 0 [some (qR 77), none, none] [] := by
    intro n
    induction n with
    | zero => intro p _ _ _ hz0; omega
    | succ n ih0 =>
      intro p v0_0 v0_1 v0_2 v0_m
      have br := sB_r hb v0_0
      refine qJ.run hκ 1 (pc' := 1) (ls' := [some (qR 77), none, none]) (st' := [qR 77]) rfl ?_
      refine qJ.callV (As := []) (rest := []) hκ rfl kX12_270 (m_see u (q_up m 77 41 p) y (show 0 ≤ p ∧ p ≤ 400 from by omega) hL) rfl rfl (by decide) rfl rfl (Nat.le_of_ble_eq_true rfl) (Nat.le_of_ble_eq_true rfl) (Nat.le_of_ble_eq_true rfl) (Or.inl (fun r h' e => by obtain ⟨rfl, rfl⟩ := e; rfl)) (fun r h' e => ?_)
      obtain ⟨rfl, rfl⟩ := e
      show qJ YX12_token κ _ (qLy u, (q_up m 77 41 p), y) 0 0 4 [some (qR 77), none, none] [qI (sB (m 78) (m 77 42) p)]
      refine qJ.run hκ 1 (pc' := 6) (ls' := [some (qR 77), none, none]) (st' := [qI 10, qI (sB (m 78) (m 77 42) p)]) rfl ?_
      refine qJ.icmp_eq hκ (tgt := 18) rfl rfl (by omega) (by omega) (fun c6 => ?_) (fun c6 => ?_)
      · show qJ YX12_token κ _ (qLy u, (q_up m 77 41 p), y) 0 0 18 [some (qR 77), none, none] []
        refine qJ.run hκ 5 (pc' := 25) (ls' := [some (qR 77), none, none]) (st' := [qI (p + 1), qR 77]) rfl ?_
        refine qJ.putI hκ rfl rfl rfl rfl (Or.inl rfl) ?_
        show qJ YX12_token κ _ (qLy u, (q_up (q_up m 77 41 p) 77 41 (p + 1)), y) 0 0 28 [some (qR 77), none, none] []
        refine qJ.run hκ 1 (pc' := 0) (ls' := [some (qR 77), none, none]) (st' := []) rfl ?_
        exact qJ.cast (ih0  (p + 1) (by omega) (by omega) ((sk_st (by omega) (show tBl (m 78) (m 77 42) p from by show sB _ _ _ = 10 ∨ _; omega)).symm.trans v0_2) (by omega)) (by rw [q_up_same]) rfl rfl
      · show qJ YX12_token κ _ (qLy u, (q_up m 77 41 p), y) 0 0 9 [some (qR 77), none, none] []
        refine qJ.run hκ 1 (pc' := 10) (ls' := [some (qR 77), none, none]) (st' := [qR 77]) rfl ?_
        refine qJ.callV (As := []) (rest := []) hκ rfl kX12_270 (m_see u (q_up m 77 41 p) y (show 0 ≤ p ∧ p ≤ 400 from by omega) hL) rfl rfl (by decide) rfl rfl (Nat.le_of_ble_eq_true rfl) (Nat.le_of_ble_eq_true rfl) (Nat.le_of_ble_eq_true rfl) (Or.inl (fun r h' e => by obtain ⟨rfl, rfl⟩ := e; rfl)) (fun r h' e => ?_)
        obtain ⟨rfl, rfl⟩ := e
        show qJ YX12_token κ _ (qLy u, (q_up m 77 41 p), y) 0 0 13 [some (qR 77), none, none] [qI (sB (m 78) (m 77 42) p)]
        refine qJ.run hκ 1 (pc' := 15) (ls' := [some (qR 77), none, none]) (st' := [qI 32, qI (sB (m 78) (m 77 42) p)]) rfl ?_
        refine qJ.icmp_ne hκ (tgt := 31) rfl rfl (by omega) (by omega) (fun c15 => ?_) (fun c15 => ?_)
        · show qJ YX12_token κ _ (qLy u, (q_up m 77 41 p), y) 0 0 31 [some (qR 77), none, none] []
          have hs : tS (m 78) (m 77 42) (m 77 41) = p := by rw [← v0_2]; exact sk_no (fun z => by rcases z with z | z <;> omega) _
          refine qJ.run hκ 3 (pc' := 36) (ls' := [some (qR 77), none, none]) (st' := [qI p, qR 77]) rfl ?_
          refine qJ.putI hκ rfl rfl rfl rfl (Or.inl rfl) ?_
          show qJ YX12_token κ _ (qLy u, (q_up (q_up m 77 41 p) 77 43 p), y) 0 0 39 [some (qR 77), none, none] []
          refine qJ.run hκ 1 (pc' := 40) (ls' := [some (qR 77), none, none]) (st' := [qR 77]) rfl ?_
          refine qJ.callV (As := []) (rest := []) hκ rfl kX12_270 (m_see u (q_up (q_up m 77 41 p) 77 43 p) y (show 0 ≤ p ∧ p ≤ 400 from by omega) hL) rfl rfl (by decide) rfl rfl (Nat.le_of_ble_eq_true rfl) (Nat.le_of_ble_eq_true rfl) (Nat.le_of_ble_eq_true rfl) (Or.inl (fun r h' e => by obtain ⟨rfl, rfl⟩ := e; rfl)) (fun r h' e => ?_)
          obtain ⟨rfl, rfl⟩ := e
          show qJ YX12_token κ _ (qLy u, (q_up (q_up m 77 41 p) 77 43 p), y) 0 0 43 [some (qR 77), none, none] [qI (sB (m 78) (m 77 42) p)]
          refine qJ.run hκ 3 (pc' := 46) (ls' := [some (qR 77), some (qI (sB (m 78) (m 77 42) p)), none]) (st' := [qI (sB (m 78) (m 77 42) p), qR 77]) rfl ?_
          refine qJ.putI hκ rfl rfl rfl rfl (Or.inl rfl) ?_
          show qJ YX12_token κ _ (qLy u, (q_up (q_up (q_up m 77 41 p) 77 43 p) 77 45 (sB (m 78) (m 77 42) p)), y) 0 0 49 [some (qR 77), some (qI (sB (m 78) (m 77 42) p)), none] []
          refine qJ.run hκ 2 (pc' := 51) (ls' := [some (qR 77), some (qI (sB (m 78) (m 77 42) p)), none]) (st' := [qL 0, qR 77]) rfl ?_
          refine qJ.putL hκ rfl rfl rfl rfl ?_
          show qJ YX12_token κ _ (qLy u, (q_up (q_up (q_up m 77 41 p) 77 43 p) 77 45 (sB (m 78) (m 77 42) p)), (q_up y 77 46 0)) 0 0 54 [some (qR 77), some (qI (sB (m 78) (m 77 42) p)), none] []
          refine qJ.run hκ 3 (pc' := 57) (ls' := [some (qR 77), some (qI (sB (m 78) (m 77 42) p)), some (qI 0)]) (st' := [qI (sB (m 78) (m 77 42) p)]) rfl ?_
          refine qJ.if_ge hκ (tgt := 68) rfl rfl (by omega) (fun c57 => ?_) (fun c57 => ?_)
          · show qJ YX12_token κ _ (qLy u, (q_up (q_up (q_up m 77 41 p) 77 43 p) 77 45 (sB (m 78) (m 77 42) p)), (q_up y 77 46 0)) 0 0 68 [some (qR 77), some (qI (sB (m 78) (m 77 42) p)), some (qI 0)] []
            refine qJ.run hκ 3 (pc' := 73) (ls' := [some (qR 77), some (qI (sB (m 78) (m 77 42) p)), some (qI 0)]) (st' := [qI 122, qI 97, qI (sB (m 78) (m 77 42) p)]) rfl ?_
            refine qJ.callS (As := [qI (sB (m 78) (m 77 42) p), qI 97, qI 122]) (rest := []) hκ rfl kX12_167 (c_in u (q_up (q_up (q_up m 77 41 p) 77 43 p) 77 45 (sB (m 78) (m 77 42) p)) (q_up y 77 46 0) (sB (m 78) (m 77 42) p) 97 122 (by omega) (by omega) (by omega)) (by decide) rfl rfl (Nat.le_of_ble_eq_true rfl) (Nat.le_of_ble_eq_true rfl) (Nat.le_of_ble_eq_true rfl) (Or.inl (fun r h' e => by obtain ⟨z73, rfl, hz73, rfl⟩ := e; rfl)) (fun r h' e => ?_)
            obtain ⟨z73, rfl, hz73, rfl⟩ := e
            show qJ YX12_token κ _ (qLy u, (q_up (q_up (q_up m 77 41 p) 77 43 p) 77 45 (sB (m 78) (m 77 42) p)), (q_up y 77 46 0)) 0 0 76 [some (qR 77), some (qI (sB (m 78) (m 77 42) p)), some (qI 0)] [qI z73]
            refine qJ.if_eq hκ (tgt := 152) rfl rfl (by omega) (fun c76 => ?_) (fun c76 => ?_)
            · show qJ YX12_token κ _ (qLy u, (q_up (q_up (q_up m 77 41 p) 77 43 p) 77 45 (sB (m 78) (m 77 42) p)), (q_up y 77 46 0)) 0 0 152 [some (qR 77), some (qI (sB (m 78) (m 77 42) p)), some (qI 0)] []
              refine qJ.run hκ 5 (pc' := 159) (ls' := [some (qR 77), some (qI (sB (m 78) (m 77 42) p)), some (qI 0)]) (st' := [qI (p + 1), qR 77]) rfl ?_
              refine qJ.putI hκ rfl rfl rfl rfl (Or.inl rfl) ?_
              show qJ YX12_token κ _ (qLy u, (q_up (q_up (q_up (q_up m 77 41 p) 77 43 p) 77 45 (sB (m 78) (m 77 42) p)) 77 41 (p + 1)), (q_up y 77 46 0)) 0 0 162 [some (qR 77), some (qI (sB (m 78) (m 77 42) p)), some (qI 0)] []
              refine qJ.run hκ 3 (pc' := 166) (ls' := [some (qR 77), some (qI (sB (m 78) (m 77 42) p)), some (qI 0)]) (st' := [qI 58, qI (sB (m 78) (m 77 42) p), qR 77]) rfl ?_
              refine qJ.icmp_eq hκ (tgt := 175) rfl rfl (by omega) (by omega) (fun c166 => ?_) (fun c166 => ?_)
              · show qJ YX12_token κ _ (qLy u, (q_up (q_up (q_up (q_up m 77 41 p) 77 43 p) 77 45 (sB (m 78) (m 77 42) p)) 77 41 (p + 1)), (q_up y 77 46 0)) 0 0 175 [some (qR 77), some (qI (sB (m 78) (m 77 42) p)), some (qI 0)] [qR 77]
                refine qJ.run hκ 2 (pc' := 180) (ls' := [some (qR 77), some (qI (sB (m 78) (m 77 42) p)), some (qI 0)]) (st' := [qI 3, qR 77]) rfl ?_
                refine qJ.putI hκ rfl rfl rfl rfl (Or.inl rfl) ?_
                show qJ YX12_token κ _ (qLy u, (q_up (q_up (q_up (q_up (q_up m 77 41 p) 77 43 p) 77 45 (sB (m 78) (m 77 42) p)) 77 41 (p + 1)) 77 44 3), (q_up y 77 46 0)) 0 0 183 [some (qR 77), some (qI (sB (m 78) (m 77 42) p)), some (qI 0)] []
                exact qJ.vret hκ rfl rfl (by decide) (by decide) (by
      have hE : tE (m 78) (m 77 42) (m 77 41) = p + 1 := by unfold tE; rw [hs, if_neg (by omega), if_neg (fun z => by rcases hz73 with q | q; omega; exact q.2 z)]
      have hM : tM (m 78) (m 77 42) (m 77 41) = 3 := by unfold tM; rw [hs, if_neg (by omega), if_neg (fun z => by rcases hz73 with q | q; omega; exact q.2 z), if_pos (by omega)]
      refine ⟨rfl, ?_⟩
      unfold TKm tW
      rw [hM, hE, hs, if_neg (by decide), q_up_cs (j := 41) (k := 43) (by decide), q_up_cs (j := 41) (k := 45) (by decide), q_up_same])
              · show qJ YX12_token κ _ (qLy u, (q_up (q_up (q_up (q_up m 77 41 p) 77 43 p) 77 45 (sB (m 78) (m 77 42) p)) 77 41 (p + 1)), (q_up y 77 46 0)) 0 0 169 [some (qR 77), some (qI (sB (m 78) (m 77 42) p)), some (qI 0)] [qR 77]
                refine qJ.run hκ 2 (pc' := 172) (ls' := [some (qR 77), some (qI (sB (m 78) (m 77 42) p)), some (qI 0)]) (st' := [qI 59, qI (sB (m 78) (m 77 42) p), qR 77]) rfl ?_
                refine qJ.icmp_ne hκ (tgt := 179) rfl rfl (by omega) (by omega) (fun c172 => ?_) (fun c172 => ?_)
                · show qJ YX12_token κ _ (qLy u, (q_up (q_up (q_up (q_up m 77 41 p) 77 43 p) 77 45 (sB (m 78) (m 77 42) p)) 77 41 (p + 1)), (q_up y 77 46 0)) 0 0 179 [some (qR 77), some (qI (sB (m 78) (m 77 42) p)), some (qI 0)] [qR 77]
                  refine qJ.run hκ 1 (pc' := 180) (ls' := [some (qR 77), some (qI (sB (m 78) (m 77 42) p)), some (qI 0)]) (st' := [qI 1, qR 77]) rfl ?_
                  refine qJ.putI hκ rfl rfl rfl rfl (Or.inl rfl) ?_
                  show qJ YX12_token κ _ (qLy u, (q_up (q_up (q_up (q_up (q_up m 77 41 p) 77 43 p) 77 45 (sB (m 78) (m 77 42) p)) 77 41 (p + 1)) 77 44 1), (q_up y 77 46 0)) 0 0 183 [some (qR 77), some (qI (sB (m 78) (m 77 42) p)), some (qI 0)] []
                  exact qJ.vret hκ rfl rfl (by decide) (by decide) (by
      have hE : tE (m 78) (m 77 42) (m 77 41) = p + 1 := by unfold tE; rw [hs, if_neg (by omega), if_neg (fun z => by rcases hz73 with q | q; omega; exact q.2 z)]
      have hM : tM (m 78) (m 77 42) (m 77 41) = 1 := by unfold tM; rw [hs, if_neg (by omega), if_neg (fun z => by rcases hz73 with q | q; omega; exact q.2 z), if_neg (by omega)]
      refine ⟨rfl, ?_⟩
      unfold TKm tW
      rw [hM, hE, hs, if_neg (by decide), q_up_cs (j := 41) (k := 43) (by decide), q_up_cs (j := 41) (k := 45) (by decide), q_up_same])
                · show qJ YX12_token κ _ (qLy u, (q_up (q_up (q_up (q_up m 77 41 p) 77 43 p) 77 45 (sB (m 78) (m 77 42) p)) 77 41 (p + 1)), (q_up y 77 46 0)) 0 0 175 [some (qR 77), some (qI (sB (m 78) (m 77 42) p)), some (qI 0)] [qR 77]
                  refine qJ.run hκ 2 (pc' := 180) (ls' := [some (qR 77), some (qI (sB (m 78) (m 77 42) p)), some (qI 0)]) (st' := [qI 3, qR 77]) rfl ?_
                  refine qJ.putI hκ rfl rfl rfl rfl (Or.inl rfl) ?_
                  show qJ YX12_token κ _ (qLy u, (q_up (q_up (q_up (q_up (q_up m 77 41 p) 77 43 p) 77 45 (sB (m 78) (m 77 42) p)) 77 41 (p + 1)) 77 44 3), (q_up y 77 46 0)) 0 0 183 [some (qR 77), some (qI (sB (m 78) (m 77 42) p)), some (qI 0)] []
                  exact qJ.vret hκ rfl rfl (by decide) (by decide) (by
      have hE : tE (m 78) (m 77 42) (m 77 41) = p + 1 := by unfold tE; rw [hs, if_neg (by omega), if_neg (fun z => by rcases hz73 with q | q; omega; exact q.2 z)]
      have hM : tM (m 78) (m 77 42) (m 77 41) = 3 := by unfold tM; rw [hs, if_neg (by omega), if_neg (fun z => by rcases hz73 with q | q; omega; exact q.2 z), if_pos (by omega)]
      refine ⟨rfl, ?_⟩
      unfold TKm tW
      rw [hM, hE, hs, if_neg (by decide), q_up_cs (j := 41) (k := 43) (by decide), q_up_cs (j := 41) (k := 45) (by decide), q_up_same])
            · show qJ YX12_token κ _ (qLy u, (q_up (q_up (q_up m 77 41 p) 77 43 p) 77 45 (sB (m 78) (m 77 42) p)), (q_up y 77 46 0)) 0 0 79 [some (qR 77), some (qI (sB (m 78) (m 77 42) p)), some (qI 0)] []
              refine qJ.dl [true, false, true] ?_
              show qJ YX12_token κ _ (qLy u, (q_up (q_up (q_up m 77 41 p) 77 43 p) 77 45 (sB (m 78) (m 77 42) p)), (q_up y 77 46 0)) 0 0 79 [some (qR 77), none, some (qI 0)] []
              exact qJ.cast (L79 402 p p 0 0 (by omega) (by omega) (by omega) (hs) ((show tLo (m 78) (m 77 42) p from by show 97 ≤ sB _ _ _ ∧ _; rcases hz73 with q | q; exact q.2; omega)) (rfl) (by omega) (by omega) (rfl) (by omega)) (by rw [q_up_cs (j := 41) (k := 43) (by decide), q_up_cs (j := 41) (k := 45) (by decide)]) rfl rfl
          · show qJ YX12_token κ _ (qLy u, (q_up (q_up (q_up m 77 41 p) 77 43 p) 77 45 (sB (m 78) (m 77 42) p)), (q_up y 77 46 0)) 0 0 60 [some (qR 77), some (qI (sB (m 78) (m 77 42) p)), some (qI 0)] []
            refine qJ.run hκ 2 (pc' := 62) (ls' := [some (qR 77), some (qI (sB (m 78) (m 77 42) p)), some (qI 0)]) (st' := [qI 0, qR 77]) rfl ?_
            refine qJ.putI hκ rfl rfl rfl rfl (Or.inl rfl) ?_
            show qJ YX12_token κ _ (qLy u, (q_up (q_up (q_up (q_up m 77 41 p) 77 43 p) 77 45 (sB (m 78) (m 77 42) p)) 77 44 0), (q_up y 77 46 0)) 0 0 65 [some (qR 77), some (qI (sB (m 78) (m 77 42) p)), some (qI 0)] []
            refine qJ.run hκ 1 (pc' := 183) (ls' := [some (qR 77), some (qI (sB (m 78) (m 77 42) p)), some (qI 0)]) (st' := []) rfl ?_
            exact qJ.vret hκ rfl rfl (by decide) (by decide) (⟨rfl, by unfold TKm tW; rw [show tM (m 78) (m 77 42) (m 77 41) = 0 from by unfold tM; rw [hs, if_pos (by omega)], show tE (m 78) (m 77 42) (m 77 41) = p from by unfold tE; rw [hs, if_pos (by omega)], hs, if_neg (by decide), q_up_cs (j := 41) (k := 43) (by decide), q_up_cs (j := 41) (k := 45) (by decide)]⟩)
        · show qJ YX12_token κ _ (qLy u, (q_up m 77 41 p), y) 0 0 18 [some (qR 77), none, none] []
          refine qJ.run hκ 5 (pc' := 25) (ls' := [some (qR 77), none, none]) (st' := [qI (p + 1), qR 77]) rfl ?_
          refine qJ.putI hκ rfl rfl rfl rfl (Or.inl rfl) ?_
          show qJ YX12_token κ _ (qLy u, (q_up (q_up m 77 41 p) 77 41 (p + 1)), y) 0 0 28 [some (qR 77), none, none] []
          refine qJ.run hκ 1 (pc' := 0) (ls' := [some (qR 77), none, none]) (st' := []) rfl ?_
          exact qJ.cast (ih0  (p + 1) (by omega) (by omega) ((sk_st (by omega) (show tBl (m 78) (m 77 42) p from by show sB _ _ _ = 10 ∨ _; omega)).symm.trans v0_2) (by omega)) (by rw [q_up_same]) rfl rfl
  show qJ YX12_token κ _ (qLy u, m, y) 0 0 0 [some (qR 77), none, none] []
  exact qJ.cast (L0 402 (m 77 41) (by omega) (by omega) (rfl) (by omega)) (by rw [q_up_id rfl]) rfl rfl

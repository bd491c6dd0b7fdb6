/-! printed by p55.py: the model spells, all of it; spelled -/
/-- the line that holds is what the class has in its slot -/
theorem LF_s {m : qM} (h : rXl m) {c w : Int} (hc : 1 ≤ c ∧ c ≤ 6) (hw : 0 ≤ w ∧ w ≤ 2) : (LFn m c w = -1 → m 19 (sl3 c w) = -1) ∧ (¬ LFn m c w = -1 → (0 ≤ LFn m c w ∧ LFn m c w < m 15 4) ∧ m 19 (sl3 c w) = m 106 (4 * LFn m c w + 2).toNat ∧ (m 19 (sl3 c w) = 3 → m 20 (sl3 c w) = m 106 (4 * LFn m c w + 3).toNat)) := by
  obtain ⟨p1, p2⟩ := h.2.2 c w hc.1 hc.2 hw.1 hw.2
  refine ⟨p1, fun z => ?_⟩
  obtain ⟨f1, f2, -, -⟩ := fst_at (J := fun l => m 106 (4 * (l : Int)).toNat = c ∧ m 106 (4 * (l : Int) + 1).toNat = w) (m 15 4).toNat z
  have f3 : 0 ≤ LFn m c w := f1
  have f4 : (LFn m c w).toNat < (m 15 4).toNat := f2
  exact ⟨⟨f3, by omega⟩, p2 z⟩

set_option maxRecDepth 100000 in
theorem m_spell (u : qU) (m y : qM) (a : Int) (hX : rXn m) (hl : rXl m) (ha : 0 ≤ a ∧ a < m 15 0) : qCt YX12_spell 3 0 0 [qR 77, qI a] (qLy u, m, y) (fun r h => r = none ∧ ∃ f g, h = (qLy u, q_row (q_row m 117 f) 118 g, y) ∧ STm m (m 117) (m 118) f g a (m 17 a.toNat)) := by
  refine qCt.intro okX12_spell (Nat.le_of_ble_eq_true rfl) (fun κ hκ => ?_)
  have n0 := hX.1.1
  have e0 := hX.2.1 a ha.1 ha.2
  have e1 := e0.1
  have e2 := e0.2.1
  have hs := rX_lxS hl
  have hx := rX_lxA hX ha
  have l0 := hl.1
  have L9 : ∀ (n : Nat) (f : Nat → Int) (g : Nat → Int) (k : Int), (0 ≤ k) → (k ≤ m 17 a.toNat) → (STm m (m 117) (m 118) f g a k) → (¬ (0 < k ∧ k < m 17 a.toNat ∧ ¬ Lc m a (k - 1) < 4 ∧ Lc m a k < 4)) → ((m 17 a.toNat - k).toNat) < n → qJ YX12_spell κ (qFin (fun r h => r = none ∧ ∃ f g, h = (qLy u, q_row (q_row m 117 f) 118 g, y) ∧ STm m (m 117) (m 118) f g a (m 17 a.toNat)) 0 0 κ) (qLy u, (q_row (q_row m 117 f) 118 g), y) 0 0 9 [some (qR 77), some (qI a), some (qI k), none, none, none, none, none, none] [] := by
    intro n
    induction n with
    | zero => intro f g k _ _ _ _ hz0; omega
    | succ n ih9 =>
      intro f g k v9_0 v9_1 v9_2 v9_3 v9_m
      have L140 : ∀ (n : Nat) (f : Nat → Int) (g : Nat → Int) (nx : Int) (w : Int) (hw : Int) (ow : Int), (0 ≤ k) → (k < m 17 a.toNat) → (4 ≤ Lc m a k ∧ Lc m a k ≤ 9) → (w = stA m a k) → (hw = m 19 (sl3 (Lc m a k - 3) w)) → (ow = if m 19 (sl3 (Lc m a k - 3) w) = 3 then m 20 (sl3 (Lc m a k - 3) w) else Lc m a k - 3) → (STm m (m 117) (m 118) f g a k) → ((w = 0 → vow nx = vB m a k ∧ k + 1 < m 17 a.toNat ∧ Lc m a (k + 1) < 4)) → (-128 ≤ nx ∧ nx ≤ 127) → (0) < n → qJ YX12_spell κ (qFin (fun r h => r = none ∧ ∃ f g, h = (qLy u, q_row (q_row m 117 f) 118 g, y) ∧ STm m (m 117) (m 118) f g a (m 17 a.toNat)) 0 0 κ) (qLy u, (q_row (q_row m 117 f) 118 g), y) 0 0 140 [some (qR 77), some (qI a), some (qI k), none, some (qI nx), some (qI w), none, some (qI hw), some (qI ow)] [] := by
        intro n
        induction n with
        | zero => intro f g nx w hw ow _ _ _ _ _ _ _ _ _ hz0; omega
        | succ n ih140 =>
          intro f g nx w hw ow v140_0 v140_1 v140_2 v140_3 v140_4 v140_5 v140_6 v140_7 v140_8 v140_m
          have vbr := vB_r (i := k) hx
          have var := vA_r (i := k) hx (by omega)
          have str := stA_r m a k
          have gk : g a.toNat = (vN m a k.toNat : Nat) := v140_6.2.2.1
          have vlk := vN_le m a k.toNat
          have slk := hs (Lc m a k - 3) w (by omega) (by omega) (by omega) (by omega)
          have hwr : -1 ≤ hw ∧ hw ≤ 3 := by rw [v140_4]; exact slk.1
          have owr : 1 ≤ ow ∧ ow ≤ 6 := by rw [v140_5]; split; exact slk.2.1 (by omega); omega
          have vnr := vow_r nx
          have stE := stE_i m a k
          have pc0 : pV m a k = cV m a k (stA m a k) := by unfold pV; rw [if_neg (by omega)]
          refine qJ.run hκ 1 (pc' := 142) (ls' := [some (qR 77), some (qI a), some (qI k), none, some (qI nx), some (qI w), none, some (qI hw), some (qI ow)]) (st' := [qI w]) rfl ?_
          refine qJ.if_ne hκ (tgt := 169) rfl rfl (by omega) (fun c142 => ?_) (fun c142 => ?_)
          · show qJ YX12_spell κ _ (qLy u, (q_row (q_row m 117 f) 118 g), y) 0 0 169 [some (qR 77), some (qI a), some (qI k), none, some (qI nx), some (qI w), none, some (qI hw), some (qI ow)] []
            refine qJ.run hκ 2 (pc' := 172) (ls' := [some (qR 77), some (qI a), some (qI k), none, some (qI nx), some (qI w), none, some (qI hw), some (qI ow)]) (st' := [qI 1, qI w]) rfl ?_
            refine qJ.icmp_ne hκ (tgt := 211) rfl rfl (by omega) (by omega) (fun c172 => ?_) (fun c172 => ?_)
            · show qJ YX12_spell κ _ (qLy u, (q_row (q_row m 117 f) 118 g), y) 0 0 211 [some (qR 77), some (qI a), some (qI k), none, some (qI nx), some (qI w), none, some (qI hw), some (qI ow)] []
              refine qJ.run hκ 2 (pc' := 214) (ls' := [some (qR 77), some (qI a), some (qI k), none, some (qI nx), some (qI w), none, some (qI hw), some (qI ow)]) (st' := [qI 2, qI w]) rfl ?_
              refine qJ.icmp_ne hκ (tgt := 242) rfl rfl (by omega) (by omega) (fun c214 => ?_) (fun c214 => ?_)
              · show qJ YX12_spell κ _ (qLy u, (q_row (q_row m 117 f) 118 g), y) 0 0 242 [some (qR 77), some (qI a), some (qI k), none, some (qI nx), some (qI w), none, some (qI hw), some (qI ow)] []
                have stn : STm m (m 117) (m 118) f g a (k + 1) := by
                  refine ST_no v140_6 (by omega) ?_
                  by_cases w1 : w = 1
                  · rw [← v140_3, w1, cV_1] at pc0
                    rw [w1] at v140_4
                    rw [pc0, if_pos (show aC m a k 1 = 0 by show m 19 _ = 0; omega)]
                  · have w2 : w = 2 := by omega
                    rw [← v140_3, w2, cV_2 hs v140_2] at pc0
                    rw [w2] at v140_4
                    rw [pc0, if_neg (show ¬ (aC m a k 2 = 2 ∨ aC m a k 2 = 3) by show ¬ (m 19 _ = 2 ∨ m 19 _ = 3); omega)]
                refine qJ.run hκ 2 (pc' := 245) (ls' := [some (qR 77), some (qI a), some (qI k), none, some (qI nx), some (qI w), none, some (qI hw), some (qI ow)]) (st' := [qI w, qI k]) rfl ?_
                refine qJ.if_ne hκ (tgt := 252) rfl rfl (by omega) (fun c245 => ?_) (fun c245 => ?_)
                · show qJ YX12_spell κ _ (qLy u, (q_row (q_row m 117 f) 118 g), y) 0 0 252 [some (qR 77), some (qI a), some (qI k), none, some (qI nx), some (qI w), none, some (qI hw), some (qI ow)] [qI k]
                  refine qJ.run hκ 4 (pc' := 9) (ls' := [some (qR 77), some (qI a), some (qI (k + 1)), none, some (qI nx), some (qI w), none, some (qI hw), some (qI ow)]) (st' := []) rfl ?_
                  refine qJ.dl [true, true, true, false, false, false, false, false, false] ?_
                  show qJ YX12_spell κ _ (qLy u, (q_row (q_row m 117 f) 118 g), y) 0 0 9 [some (qR 77), some (qI a), some (qI (k + 1)), none, none, none, none, none, none] []
                  exact qJ.cast (ih9  f g (k + 1) (by omega) (by omega) (stn) (fun q => by rw [show k + 1 - 1 = k by omega] at q; omega) (by omega)) (rfl) rfl rfl
                · show qJ YX12_spell κ _ (qLy u, (q_row (q_row m 117 f) 118 g), y) 0 0 248 [some (qR 77), some (qI a), some (qI k), none, some (qI nx), some (qI w), none, some (qI hw), some (qI ow)] [qI k]
                  exfalso; omega
              · show qJ YX12_spell κ _ (qLy u, (q_row (q_row m 117 f) 118 g), y) 0 0 217 [some (qR 77), some (qI a), some (qI k), none, some (qI nx), some (qI w), none, some (qI hw), some (qI ow)] []
                refine qJ.run hκ 2 (pc' := 220) (ls' := [some (qR 77), some (qI a), some (qI k), none, some (qI nx), some (qI w), none, some (qI hw), some (qI ow)]) (st' := [qI 2, qI hw]) rfl ?_
                refine qJ.icmp_eq hκ (tgt := 229) rfl rfl (by omega) (by omega) (fun c220 => ?_) (fun c220 => ?_)
                · show qJ YX12_spell κ _ (qLy u, (q_row (q_row m 117 f) 118 g), y) 0 0 229 [some (qR 77), some (qI a), some (qI k), none, some (qI nx), some (qI w), none, some (qI hw), some (qI ow)] []
                  refine qJ.run hκ 6 (pc' := 236) (ls' := [some (qR 77), some (qI a), some (qI k), none, some (qI nx), some (qI w), none, some (qI hw), some (qI ow)]) (st' := [qI k, qI a, qR 77, qI ow, qI a, qR 77]) rfl ?_
                  refine qJ.callV (As := [qI a, qI k]) (rest := [qI ow, qI a, qR 77]) hκ rfl kX12_346 (m_vA u (q_row (q_row m 117 f) 118 g) y a k (show rXn (q_row (q_row m 117 f) 118 g) from hX) ha (show 0 ≤ k ∧ k < m 17 a.toNat from by omega)) rfl rfl (by decide) rfl rfl (Nat.le_of_ble_eq_true rfl) (Nat.le_of_ble_eq_true rfl) (Nat.le_of_ble_eq_true rfl) (Or.inl (fun r h' e => by obtain ⟨rfl, rfl⟩ := e; rfl)) (fun r h' e => ?_)
                  obtain ⟨rfl, rfl⟩ := e
                  show qJ YX12_spell κ _ (qLy u, (q_row (q_row m 117 f) 118 g), y) 0 0 239 [some (qR 77), some (qI a), some (qI k), none, some (qI nx), some (qI w), none, some (qI hw), some (qI ow)] [qI (vA m a k), qI ow, qI a, qR 77]
                  refine qJ.callV (As := [qI a, qI ow, qI (vA m a k)]) (rest := []) hκ rfl kX12_339 (m_say u m y f g a ow (vA m a k) (by omega) (by omega) (by omega)) rfl rfl (by decide) rfl rfl (Nat.le_of_ble_eq_true rfl) (Nat.le_of_ble_eq_true rfl) (Nat.le_of_ble_eq_true rfl) (Or.inl (fun r h' e => by obtain ⟨rfl, f1, g1, rfl, hsay⟩ := e; rfl)) (fun r h' e => ?_)
                  obtain ⟨rfl, f1, g1, rfl, hsay⟩ := e
                  show qJ YX12_spell κ _ (qLy u, (q_row (q_row m 117 f1) 118 g1), y) 0 0 242 [some (qR 77), some (qI a), some (qI k), none, some (qI nx), some (qI w), none, some (qI hw), some (qI ow)] []
                  have w2 : w = 2 := by omega
                  have stn : STm m (m 117) (m 118) f1 g1 a (k + 1) := by
                    rw [← v140_3, w2, cV_2 hs v140_2] at pc0
                    rw [w2] at v140_4 v140_5
                    rw [if_pos (show aC m a k 2 = 2 ∨ aC m a k 2 = 3 by show m 19 _ = 2 ∨ m 19 _ = 3; omega)] at pc0
                    refine ST_say v140_6 (by omega) (by omega) hsay ?_ (by omega)
                    rw [pc0]; congr 2; congr 1; exact v140_5.symm
                  refine qJ.run hκ 2 (pc' := 245) (ls' := [some (qR 77), some (qI a), some (qI k), none, some (qI nx), some (qI w), none, some (qI hw), some (qI ow)]) (st' := [qI w, qI k]) rfl ?_
                  refine qJ.if_ne hκ (tgt := 252) rfl rfl (by omega) (fun c245 => ?_) (fun c245 => ?_)
                  · show qJ YX12_spell κ _ (qLy u, (q_row (q_row m 117 f1) 118 g1), y) 0 0 252 [some (qR 77), some (qI a), some (qI k), none, some (qI nx), some (qI w), none, some (qI hw), some (qI ow)] [qI k]
                    refine qJ.run hκ 4 (pc' := 9) (ls' := [some (qR 77), some (qI a), some (qI (k + 1)), none, some (qI nx), some (qI w), none, some (qI hw), some (qI ow)]) (st' := []) rfl ?_
                    refine qJ.dl [true, true, true, false, false, false, false, false, false] ?_
                    show qJ YX12_spell κ _ (qLy u, (q_row (q_row m 117 f1) 118 g1), y) 0 0 9 [some (qR 77), some (qI a), some (qI (k + 1)), none, none, none, none, none, none] []
                    exact qJ.cast (ih9  f1 g1 (k + 1) (by omega) (by omega) (stn) (fun q => by rw [show k + 1 - 1 = k by omega] at q; omega) (by omega)) (rfl) rfl rfl
                  · show qJ YX12_spell κ _ (qLy u, (q_row (q_row m 117 f1) 118 g1), y) 0 0 248 [some (qR 77), some (qI a), some (qI k), none, some (qI nx), some (qI w), none, some (qI hw), some (qI ow)] [qI k]
                    exfalso; omega
                · show qJ YX12_spell κ _ (qLy u, (q_row (q_row m 117 f) 118 g), y) 0 0 223 [some (qR 77), some (qI a), some (qI k), none, some (qI nx), some (qI w), none, some (qI hw), some (qI ow)] []
                  refine qJ.run hκ 2 (pc' := 226) (ls' := [some (qR 77), some (qI a), some (qI k), none, some (qI nx), some (qI w), none, some (qI hw), some (qI ow)]) (st' := [qI 3, qI hw]) rfl ?_
                  refine qJ.icmp_ne hκ (tgt := 242) rfl rfl (by omega) (by omega) (fun c226 => ?_) (fun c226 => ?_)
                  · show qJ YX12_spell κ _ (qLy u, (q_row (q_row m 117 f) 118 g), y) 0 0 242 [some (qR 77), some (qI a), some (qI k), none, some (qI nx), some (qI w), none, some (qI hw), some (qI ow)] []
                    have stn : STm m (m 117) (m 118) f g a (k + 1) := by
                      refine ST_no v140_6 (by omega) ?_
                      by_cases w1 : w = 1
                      · rw [← v140_3, w1, cV_1] at pc0
                        rw [w1] at v140_4
                        rw [pc0, if_pos (show aC m a k 1 = 0 by show m 19 _ = 0; omega)]
                      · have w2 : w = 2 := by omega
                        rw [← v140_3, w2, cV_2 hs v140_2] at pc0
                        rw [w2] at v140_4
                        rw [pc0, if_neg (show ¬ (aC m a k 2 = 2 ∨ aC m a k 2 = 3) by show ¬ (m 19 _ = 2 ∨ m 19 _ = 3); omega)]
                    refine qJ.run hκ 2 (pc' := 245) (ls' := [some (qR 77), some (qI a), some (qI k), none, some (qI nx), some (qI w), none, some (qI hw), some (qI ow)]) (st' := [qI w, qI k]) rfl ?_
                    refine qJ.if_ne hκ (tgt := 252) rfl rfl (by omega) (fun c245 => ?_) (fun c245 => ?_)
                    · show qJ YX12_spell κ _ (qLy u, (q_row (q_row m 117 f) 118 g), y) 0 0 252 [some (qR 77), some (qI a), some (qI k), none, some (qI nx), some (qI w), none, some (qI hw), some (qI ow)] [qI k]
                      refine qJ.run hκ 4 (pc' := 9) (ls' := [some (qR 77), some (qI a), some (qI (k + 1)), none, some (qI nx), some (qI w), none, some (qI hw), some (qI ow)]) (st' := []) rfl ?_
                      refine qJ.dl [true, true, true, false, false, false, false, false, false] ?_
                      show qJ YX12_spell κ _ (qLy u, (q_row (q_row m 117 f) 118 g), y) 0 0 9 [some (qR 77), some (qI a), some (qI (k + 1)), none, none, none, none, none, none] []
                      exact qJ.cast (ih9  f g (k + 1) (by omega) (by omega) (stn) (fun q => by rw [show k + 1 - 1 = k by omega] at q; omega) (by omega)) (rfl) rfl rfl
                    · show qJ YX12_spell κ _ (qLy u, (q_row (q_row m 117 f) 118 g), y) 0 0 248 [some (qR 77), some (qI a), some (qI k), none, some (qI nx), some (qI w), none, some (qI hw), some (qI ow)] [qI k]
                      exfalso; omega
                  · show qJ YX12_spell κ _ (qLy u, (q_row (q_row m 117 f) 118 g), y) 0 0 229 [some (qR 77), some (qI a), some (qI k), none, some (qI nx), some (qI w), none, some (qI hw), some (qI ow)] []
                    refine qJ.run hκ 6 (pc' := 236) (ls' := [some (qR 77), some (qI a), some (qI k), none, some (qI nx), some (qI w), none, some (qI hw), some (qI ow)]) (st' := [qI k, qI a, qR 77, qI ow, qI a, qR 77]) rfl ?_
                    refine qJ.callV (As := [qI a, qI k]) (rest := [qI ow, qI a, qR 77]) hκ rfl kX12_346 (m_vA u (q_row (q_row m 117 f) 118 g) y a k (show rXn (q_row (q_row m 117 f) 118 g) from hX) ha (show 0 ≤ k ∧ k < m 17 a.toNat from by omega)) rfl rfl (by decide) rfl rfl (Nat.le_of_ble_eq_true rfl) (Nat.le_of_ble_eq_true rfl) (Nat.le_of_ble_eq_true rfl) (Or.inl (fun r h' e => by obtain ⟨rfl, rfl⟩ := e; rfl)) (fun r h' e => ?_)
                    obtain ⟨rfl, rfl⟩ := e
                    show qJ YX12_spell κ _ (qLy u, (q_row (q_row m 117 f) 118 g), y) 0 0 239 [some (qR 77), some (qI a), some (qI k), none, some (qI nx), some (qI w), none, some (qI hw), some (qI ow)] [qI (vA m a k), qI ow, qI a, qR 77]
                    refine qJ.callV (As := [qI a, qI ow, qI (vA m a k)]) (rest := []) hκ rfl kX12_339 (m_say u m y f g a ow (vA m a k) (by omega) (by omega) (by omega)) rfl rfl (by decide) rfl rfl (Nat.le_of_ble_eq_true rfl) (Nat.le_of_ble_eq_true rfl) (Nat.le_of_ble_eq_true rfl) (Or.inl (fun r h' e => by obtain ⟨rfl, f1, g1, rfl, hsay⟩ := e; rfl)) (fun r h' e => ?_)
                    obtain ⟨rfl, f1, g1, rfl, hsay⟩ := e
                    show qJ YX12_spell κ _ (qLy u, (q_row (q_row m 117 f1) 118 g1), y) 0 0 242 [some (qR 77), some (qI a), some (qI k), none, some (qI nx), some (qI w), none, some (qI hw), some (qI ow)] []
                    have w2 : w = 2 := by omega
                    have stn : STm m (m 117) (m 118) f1 g1 a (k + 1) := by
                      rw [← v140_3, w2, cV_2 hs v140_2] at pc0
                      rw [w2] at v140_4 v140_5
                      rw [if_pos (show aC m a k 2 = 2 ∨ aC m a k 2 = 3 by show m 19 _ = 2 ∨ m 19 _ = 3; omega)] at pc0
                      refine ST_say v140_6 (by omega) (by omega) hsay ?_ (by omega)
                      rw [pc0]; congr 2; congr 1; exact v140_5.symm
                    refine qJ.run hκ 2 (pc' := 245) (ls' := [some (qR 77), some (qI a), some (qI k), none, some (qI nx), some (qI w), none, some (qI hw), some (qI ow)]) (st' := [qI w, qI k]) rfl ?_
                    refine qJ.if_ne hκ (tgt := 252) rfl rfl (by omega) (fun c245 => ?_) (fun c245 => ?_)
                    · show qJ YX12_spell κ _ (qLy u, (q_row (q_row m 117 f1) 118 g1), y) 0 0 252 [some (qR 77), some (qI a), some (qI k), none, some (qI nx), some (qI w), none, some (qI hw), some (qI ow)] [qI k]
                      refine qJ.run hκ 4 (pc' := 9) (ls' := [some (qR 77), some (qI a), some (qI (k + 1)), none, some (qI nx), some (qI w), none, some (qI hw), some (qI ow)]) (st' := []) rfl ?_
                      refine qJ.dl [true, true, true, false, false, false, false, false, false] ?_
                      show qJ YX12_spell κ _ (qLy u, (q_row (q_row m 117 f1) 118 g1), y) 0 0 9 [some (qR 77), some (qI a), some (qI (k + 1)), none, none, none, none, none, none] []
                      exact qJ.cast (ih9  f1 g1 (k + 1) (by omega) (by omega) (stn) (fun q => by rw [show k + 1 - 1 = k by omega] at q; omega) (by omega)) (rfl) rfl rfl
                    · show qJ YX12_spell κ _ (qLy u, (q_row (q_row m 117 f1) 118 g1), y) 0 0 248 [some (qR 77), some (qI a), some (qI k), none, some (qI nx), some (qI w), none, some (qI hw), some (qI ow)] [qI k]
                      exfalso; omega
            · show qJ YX12_spell κ _ (qLy u, (q_row (q_row m 117 f) 118 g), y) 0 0 175 [some (qR 77), some (qI a), some (qI k), none, some (qI nx), some (qI w), none, some (qI hw), some (qI ow)] []
              refine qJ.run hκ 1 (pc' := 177) (ls' := [some (qR 77), some (qI a), some (qI k), none, some (qI nx), some (qI w), none, some (qI hw), some (qI ow)]) (st' := [qI hw]) rfl ?_
              refine qJ.if_eq hκ (tgt := 211) rfl rfl (by omega) (fun c177 => ?_) (fun c177 => ?_)
              · show qJ YX12_spell κ _ (qLy u, (q_row (q_row m 117 f) 118 g), y) 0 0 211 [some (qR 77), some (qI a), some (qI k), none, some (qI nx), some (qI w), none, some (qI hw), some (qI ow)] []
                refine qJ.run hκ 2 (pc' := 214) (ls' := [some (qR 77), some (qI a), some (qI k), none, some (qI nx), some (qI w), none, some (qI hw), some (qI ow)]) (st' := [qI 2, qI w]) rfl ?_
                refine qJ.icmp_ne hκ (tgt := 242) rfl rfl (by omega) (by omega) (fun c214 => ?_) (fun c214 => ?_)
                · show qJ YX12_spell κ _ (qLy u, (q_row (q_row m 117 f) 118 g), y) 0 0 242 [some (qR 77), some (qI a), some (qI k), none, some (qI nx), some (qI w), none, some (qI hw), some (qI ow)] []
                  have stn : STm m (m 117) (m 118) f g a (k + 1) := by
                    refine ST_no v140_6 (by omega) ?_
                    by_cases w1 : w = 1
                    · rw [← v140_3, w1, cV_1] at pc0
                      rw [w1] at v140_4
                      rw [pc0, if_pos (show aC m a k 1 = 0 by show m 19 _ = 0; omega)]
                    · have w2 : w = 2 := by omega
                      rw [← v140_3, w2, cV_2 hs v140_2] at pc0
                      rw [w2] at v140_4
                      rw [pc0, if_neg (show ¬ (aC m a k 2 = 2 ∨ aC m a k 2 = 3) by show ¬ (m 19 _ = 2 ∨ m 19 _ = 3); omega)]
                  refine qJ.run hκ 2 (pc' := 245) (ls' := [some (qR 77), some (qI a), some (qI k), none, some (qI nx), some (qI w), none, some (qI hw), some (qI ow)]) (st' := [qI w, qI k]) rfl ?_
                  refine qJ.if_ne hκ (tgt := 252) rfl rfl (by omega) (fun c245 => ?_) (fun c245 => ?_)
                  · show qJ YX12_spell κ _ (qLy u, (q_row (q_row m 117 f) 118 g), y) 0 0 252 [some (qR 77), some (qI a), some (qI k), none, some (qI nx), some (qI w), none, some (qI hw), some (qI ow)] [qI k]
                    refine qJ.run hκ 4 (pc' := 9) (ls' := [some (qR 77), some (qI a), some (qI (k + 1)), none, some (qI nx), some (qI w), none, some (qI hw), some (qI ow)]) (st' := []) rfl ?_
                    refine qJ.dl [true, true, true, false, false, false, false, false, false] ?_
                    show qJ YX12_spell κ _ (qLy u, (q_row (q_row m 117 f) 118 g), y) 0 0 9 [some (qR 77), some (qI a), some (qI (k + 1)), none, none, none, none, none, none] []
                    exact qJ.cast (ih9  f g (k + 1) (by omega) (by omega) (stn) (fun q => by rw [show k + 1 - 1 = k by omega] at q; omega) (by omega)) (rfl) rfl rfl
                  · show qJ YX12_spell κ _ (qLy u, (q_row (q_row m 117 f) 118 g), y) 0 0 248 [some (qR 77), some (qI a), some (qI k), none, some (qI nx), some (qI w), none, some (qI hw), some (qI ow)] [qI k]
                    exfalso; omega
                · show qJ YX12_spell κ _ (qLy u, (q_row (q_row m 117 f) 118 g), y) 0 0 217 [some (qR 77), some (qI a), some (qI k), none, some (qI nx), some (qI w), none, some (qI hw), some (qI ow)] []
                  refine qJ.run hκ 2 (pc' := 220) (ls' := [some (qR 77), some (qI a), some (qI k), none, some (qI nx), some (qI w), none, some (qI hw), some (qI ow)]) (st' := [qI 2, qI hw]) rfl ?_
                  refine qJ.icmp_eq hκ (tgt := 229) rfl rfl (by omega) (by omega) (fun c220 => ?_) (fun c220 => ?_)
                  · show qJ YX12_spell κ _ (qLy u, (q_row (q_row m 117 f) 118 g), y) 0 0 229 [some (qR 77), some (qI a), some (qI k), none, some (qI nx), some (qI w), none, some (qI hw), some (qI ow)] []
                    refine qJ.run hκ 6 (pc' := 236) (ls' := [some (qR 77), some (qI a), some (qI k), none, some (qI nx), some (qI w), none, some (qI hw), some (qI ow)]) (st' := [qI k, qI a, qR 77, qI ow, qI a, qR 77]) rfl ?_
                    refine qJ.callV (As := [qI a, qI k]) (rest := [qI ow, qI a, qR 77]) hκ rfl kX12_346 (m_vA u (q_row (q_row m 117 f) 118 g) y a k (show rXn (q_row (q_row m 117 f) 118 g) from hX) ha (show 0 ≤ k ∧ k < m 17 a.toNat from by omega)) rfl rfl (by decide) rfl rfl (Nat.le_of_ble_eq_true rfl) (Nat.le_of_ble_eq_true rfl) (Nat.le_of_ble_eq_true rfl) (Or.inl (fun r h' e => by obtain ⟨rfl, rfl⟩ := e; rfl)) (fun r h' e => ?_)
                    obtain ⟨rfl, rfl⟩ := e
                    show qJ YX12_spell κ _ (qLy u, (q_row (q_row m 117 f) 118 g), y) 0 0 239 [some (qR 77), some (qI a), some (qI k), none, some (qI nx), some (qI w), none, some (qI hw), some (qI ow)] [qI (vA m a k), qI ow, qI a, qR 77]
                    refine qJ.callV (As := [qI a, qI ow, qI (vA m a k)]) (rest := []) hκ rfl kX12_339 (m_say u m y f g a ow (vA m a k) (by omega) (by omega) (by omega)) rfl rfl (by decide) rfl rfl (Nat.le_of_ble_eq_true rfl) (Nat.le_of_ble_eq_true rfl) (Nat.le_of_ble_eq_true rfl) (Or.inl (fun r h' e => by obtain ⟨rfl, f1, g1, rfl, hsay⟩ := e; rfl)) (fun r h' e => ?_)
                    obtain ⟨rfl, f1, g1, rfl, hsay⟩ := e
                    show qJ YX12_spell κ _ (qLy u, (q_row (q_row m 117 f1) 118 g1), y) 0 0 242 [some (qR 77), some (qI a), some (qI k), none, some (qI nx), some (qI w), none, some (qI hw), some (qI ow)] []
                    have w2 : w = 2 := by omega
                    have stn : STm m (m 117) (m 118) f1 g1 a (k + 1) := by
                      rw [← v140_3, w2, cV_2 hs v140_2] at pc0
                      rw [w2] at v140_4 v140_5
                      rw [if_pos (show aC m a k 2 = 2 ∨ aC m a k 2 = 3 by show m 19 _ = 2 ∨ m 19 _ = 3; omega)] at pc0
                      refine ST_say v140_6 (by omega) (by omega) hsay ?_ (by omega)
                      rw [pc0]; congr 2; congr 1; exact v140_5.symm
                    refine qJ.run hκ 2 (pc' := 245) (ls' := [some (qR 77), some (qI a), some (qI k), none, some (qI nx), some (qI w), none, some (qI hw), some (qI ow)]) (st' := [qI w, qI k]) rfl ?_
                    refine qJ.if_ne hκ (tgt := 252) rfl rfl (by omega) (fun c245 => ?_) (fun c245 => ?_)
                    · show qJ YX12_spell κ _ (qLy u, (q_row (q_row m 117 f1) 118 g1), y) 0 0 252 [some (qR 77), some (qI a), some (qI k), none, some (qI nx), some (qI w), none, some (qI hw), some (qI ow)] [qI k]
                      refine qJ.run hκ 4 (pc' := 9) (ls' := [some (qR 77), some (qI a), some (qI (k + 1)), none, some (qI nx), some (qI w), none, some (qI hw), some (qI ow)]) (st' := []) rfl ?_
                      refine qJ.dl [true, true, true, false, false, false, false, false, false] ?_
                      show qJ YX12_spell κ _ (qLy u, (q_row (q_row m 117 f1) 118 g1), y) 0 0 9 [some (qR 77), some (qI a), some (qI (k + 1)), none, none, none, none, none, none] []
                      exact qJ.cast (ih9  f1 g1 (k + 1) (by omega) (by omega) (stn) (fun q => by rw [show k + 1 - 1 = k by omega] at q; omega) (by omega)) (rfl) rfl rfl
                    · show qJ YX12_spell κ _ (qLy u, (q_row (q_row m 117 f1) 118 g1), y) 0 0 248 [some (qR 77), some (qI a), some (qI k), none, some (qI nx), some (qI w), none, some (qI hw), some (qI ow)] [qI k]
                      exfalso; omega
                  · show qJ YX12_spell κ _ (qLy u, (q_row (q_row m 117 f) 118 g), y) 0 0 223 [some (qR 77), some (qI a), some (qI k), none, some (qI nx), some (qI w), none, some (qI hw), some (qI ow)] []
                    refine qJ.run hκ 2 (pc' := 226) (ls' := [some (qR 77), some (qI a), some (qI k), none, some (qI nx), some (qI w), none, some (qI hw), some (qI ow)]) (st' := [qI 3, qI hw]) rfl ?_
                    refine qJ.icmp_ne hκ (tgt := 242) rfl rfl (by omega) (by omega) (fun c226 => ?_) (fun c226 => ?_)
                    · show qJ YX12_spell κ _ (qLy u, (q_row (q_row m 117 f) 118 g), y) 0 0 242 [some (qR 77), some (qI a), some (qI k), none, some (qI nx), some (qI w), none, some (qI hw), some (qI ow)] []
                      have stn : STm m (m 117) (m 118) f g a (k + 1) := by
                        refine ST_no v140_6 (by omega) ?_
                        by_cases w1 : w = 1
                        · rw [← v140_3, w1, cV_1] at pc0
                          rw [w1] at v140_4
                          rw [pc0, if_pos (show aC m a k 1 = 0 by show m 19 _ = 0; omega)]
                        · have w2 : w = 2 := by omega
                          rw [← v140_3, w2, cV_2 hs v140_2] at pc0
                          rw [w2] at v140_4
                          rw [pc0, if_neg (show ¬ (aC m a k 2 = 2 ∨ aC m a k 2 = 3) by show ¬ (m 19 _ = 2 ∨ m 19 _ = 3); omega)]
                      refine qJ.run hκ 2 (pc' := 245) (ls' := [some (qR 77), some (qI a), some (qI k), none, some (qI nx), some (qI w), none, some (qI hw), some (qI ow)]) (st' := [qI w, qI k]) rfl ?_
                      refine qJ.if_ne hκ (tgt := 252) rfl rfl (by omega) (fun c245 => ?_) (fun c245 => ?_)
                      · show qJ YX12_spell κ _ (qLy u, (q_row (q_row m 117 f) 118 g), y) 0 0 252 [some (qR 77), some (qI a), some (qI k), none, some (qI nx), some (qI w), none, some (qI hw), some (qI ow)] [qI k]
                        refine qJ.run hκ 4 (pc' := 9) (ls' := [some (qR 77), some (qI a), some (qI (k + 1)), none, some (qI nx), some (qI w), none, some (qI hw), some (qI ow)]) (st' := []) rfl ?_
                        refine qJ.dl [true, true, true, false, false, false, false, false, false] ?_
                        show qJ YX12_spell κ _ (qLy u, (q_row (q_row m 117 f) 118 g), y) 0 0 9 [some (qR 77), some (qI a), some (qI (k + 1)), none, none, none, none, none, none] []
                        exact qJ.cast (ih9  f g (k + 1) (by omega) (by omega) (stn) (fun q => by rw [show k + 1 - 1 = k by omega] at q; omega) (by omega)) (rfl) rfl rfl
                      · show qJ YX12_spell κ _ (qLy u, (q_row (q_row m 117 f) 118 g), y) 0 0 248 [some (qR 77), some (qI a), some (qI k), none, some (qI nx), some (qI w), none, some (qI hw), some (qI ow)] [qI k]
                        exfalso; omega
                    · show qJ YX12_spell κ _ (qLy u, (q_row (q_row m 117 f) 118 g), y) 0 0 229 [some (qR 77), some (qI a), some (qI k), none, some (qI nx), some (qI w), none, some (qI hw), some (qI ow)] []
                      refine qJ.run hκ 6 (pc' := 236) (ls' := [some (qR 77), some (qI a), some (qI k), none, some (qI nx), some (qI w), none, some (qI hw), some (qI ow)]) (st' := [qI k, qI a, qR 77, qI ow, qI a, qR 77]) rfl ?_
                      refine qJ.callV (As := [qI a, qI k]) (rest := [qI ow, qI a, qR 77]) hκ rfl kX12_346 (m_vA u (q_row (q_row m 117 f) 118 g) y a k (show rXn (q_row (q_row m 117 f) 118 g) from hX) ha (show 0 ≤ k ∧ k < m 17 a.toNat from by omega)) rfl rfl (by decide) rfl rfl (Nat.le_of_ble_eq_true rfl) (Nat.le_of_ble_eq_true rfl) (Nat.le_of_ble_eq_true rfl) (Or.inl (fun r h' e => by obtain ⟨rfl, rfl⟩ := e; rfl)) (fun r h' e => ?_)
                      obtain ⟨rfl, rfl⟩ := e
                      show qJ YX12_spell κ _ (qLy u, (q_row (q_row m 117 f) 118 g), y) 0 0 239 [some (qR 77), some (qI a), some (qI k), none, some (qI nx), some (qI w), none, some (qI hw), some (qI ow)] [qI (vA m a k), qI ow, qI a, qR 77]
                      refine qJ.callV (As := [qI a, qI ow, qI (vA m a k)]) (rest := []) hκ rfl kX12_339 (m_say u m y f g a ow (vA m a k) (by omega) (by omega) (by omega)) rfl rfl (by decide) rfl rfl (Nat.le_of_ble_eq_true rfl) (Nat.le_of_ble_eq_true rfl) (Nat.le_of_ble_eq_true rfl) (Or.inl (fun r h' e => by obtain ⟨rfl, f1, g1, rfl, hsay⟩ := e; rfl)) (fun r h' e => ?_)
                      obtain ⟨rfl, f1, g1, rfl, hsay⟩ := e
                      show qJ YX12_spell κ _ (qLy u, (q_row (q_row m 117 f1) 118 g1), y) 0 0 242 [some (qR 77), some (qI a), some (qI k), none, some (qI nx), some (qI w), none, some (qI hw), some (qI ow)] []
                      have w2 : w = 2 := by omega
                      have stn : STm m (m 117) (m 118) f1 g1 a (k + 1) := by
                        rw [← v140_3, w2, cV_2 hs v140_2] at pc0
                        rw [w2] at v140_4 v140_5
                        rw [if_pos (show aC m a k 2 = 2 ∨ aC m a k 2 = 3 by show m 19 _ = 2 ∨ m 19 _ = 3; omega)] at pc0
                        refine ST_say v140_6 (by omega) (by omega) hsay ?_ (by omega)
                        rw [pc0]; congr 2; congr 1; exact v140_5.symm
                      refine qJ.run hκ 2 (pc' := 245) (ls' := [some (qR 77), some (qI a), some (qI k), none, some (qI nx), some (qI w), none, some (qI hw), some (qI ow)]) (st' := [qI w, qI k]) rfl ?_
                      refine qJ.if_ne hκ (tgt := 252) rfl rfl (by omega) (fun c245 => ?_) (fun c245 => ?_)
                      · show qJ YX12_spell κ _ (qLy u, (q_row (q_row m 117 f1) 118 g1), y) 0 0 252 [some (qR 77), some (qI a), some (qI k), none, some (qI nx), some (qI w), none, some (qI hw), some (qI ow)] [qI k]
                        refine qJ.run hκ 4 (pc' := 9) (ls' := [some (qR 77), some (qI a), some (qI (k + 1)), none, some (qI nx), some (qI w), none, some (qI hw), some (qI ow)]) (st' := []) rfl ?_
                        refine qJ.dl [true, true, true, false, false, false, false, false, false] ?_
                        show qJ YX12_spell κ _ (qLy u, (q_row (q_row m 117 f1) 118 g1), y) 0 0 9 [some (qR 77), some (qI a), some (qI (k + 1)), none, none, none, none, none, none] []
                        exact qJ.cast (ih9  f1 g1 (k + 1) (by omega) (by omega) (stn) (fun q => by rw [show k + 1 - 1 = k by omega] at q; omega) (by omega)) (rfl) rfl rfl
                      · show qJ YX12_spell κ _ (qLy u, (q_row (q_row m 117 f1) 118 g1), y) 0 0 248 [some (qR 77), some (qI a), some (qI k), none, some (qI nx), some (qI w), none, some (qI hw), some (qI ow)] [qI k]
                        exfalso; omega
              · show qJ YX12_spell κ _ (qLy u, (q_row (q_row m 117 f) 118 g), y) 0 0 180 [some (qR 77), some (qI a), some (qI k), none, some (qI nx), some (qI w), none, some (qI hw), some (qI ow)] []
                refine qJ.run hκ 5 (pc' := 187) (ls' := [some (qR 77), some (qI a), some (qI k), none, some (qI nx), some (qI w), none, some (qI hw), some (qI ow)]) (st' := [qI 2, qI hw, qI ow, qI a, qR 77]) rfl ?_
                refine qJ.icmp_ne hκ (tgt := 199) rfl rfl (by omega) (by omega) (fun c187 => ?_) (fun c187 => ?_)
                · show qJ YX12_spell κ _ (qLy u, (q_row (q_row m 117 f) 118 g), y) 0 0 199 [some (qR 77), some (qI a), some (qI k), none, some (qI nx), some (qI w), none, some (qI hw), some (qI ow)] [qI ow, qI a, qR 77]
                  refine qJ.run hκ 3 (pc' := 202) (ls' := [some (qR 77), some (qI a), some (qI k), none, some (qI nx), some (qI w), none, some (qI hw), some (qI ow)]) (st' := [qI k, qI a, qR 77, qI ow, qI a, qR 77]) rfl ?_
                  refine qJ.callV (As := [qI a, qI k]) (rest := [qI ow, qI a, qR 77]) hκ rfl kX12_349 (m_vB u (q_row (q_row m 117 f) 118 g) y a k (show rXn (q_row (q_row m 117 f) 118 g) from hX) ha (show 0 ≤ k ∧ k < m 17 a.toNat from by omega)) rfl rfl (by decide) rfl rfl (Nat.le_of_ble_eq_true rfl) (Nat.le_of_ble_eq_true rfl) (Nat.le_of_ble_eq_true rfl) (Or.inl (fun r h' e => by obtain ⟨rfl, rfl⟩ := e; rfl)) (fun r h' e => ?_)
                  obtain ⟨rfl, rfl⟩ := e
                  show qJ YX12_spell κ _ (qLy u, (q_row (q_row m 117 f) 118 g), y) 0 0 205 [some (qR 77), some (qI a), some (qI k), none, some (qI nx), some (qI w), none, some (qI hw), some (qI ow)] [qI (vB m a k), qI ow, qI a, qR 77]
                  refine qJ.callV (As := [qI a, qI ow, qI (vB m a k)]) (rest := []) hκ rfl kX12_339 (m_say u m y f g a ow (vB m a k) (by omega) (by omega) (by omega)) rfl rfl (by decide) rfl rfl (Nat.le_of_ble_eq_true rfl) (Nat.le_of_ble_eq_true rfl) (Nat.le_of_ble_eq_true rfl) (Or.inl (fun r h' e => by obtain ⟨rfl, f1, g1, rfl, hsay⟩ := e; rfl)) (fun r h' e => ?_)
                  obtain ⟨rfl, f1, g1, rfl, hsay⟩ := e
                  show qJ YX12_spell κ _ (qLy u, (q_row (q_row m 117 f1) 118 g1), y) 0 0 208 [some (qR 77), some (qI a), some (qI k), none, some (qI nx), some (qI w), none, some (qI hw), some (qI ow)] []
                  have w1 : w = 1 := by omega
                  have stn : STm m (m 117) (m 118) f1 g1 a (k + 1) := by
                    rw [← v140_3, w1, cV_1] at pc0
                    rw [w1] at v140_4 v140_5
                    rw [if_neg (show ¬ aC m a k 1 = 0 by show ¬ m 19 _ = 0; omega)] at pc0
                    refine ST_say v140_6 (by omega) (by omega) hsay ?_ (by omega)
                    first
                    | (rw [if_pos (show aC m a k 1 = 2 by show m 19 _ = 2; omega)] at pc0; rw [pc0]; congr 2; congr 1; exact v140_5.symm)
                    | (rw [if_neg (show ¬ aC m a k 1 = 2 by show ¬ m 19 _ = 2; omega)] at pc0; rw [pc0]; congr 2; congr 1; exact v140_5.symm)
                  refine qJ.run hκ 3 (pc' := 245) (ls' := [some (qR 77), some (qI a), some (qI k), none, some (qI nx), some (qI w), none, some (qI hw), some (qI ow)]) (st' := [qI w, qI k]) rfl ?_
                  refine qJ.if_ne hκ (tgt := 252) rfl rfl (by omega) (fun c245 => ?_) (fun c245 => ?_)
                  · show qJ YX12_spell κ _ (qLy u, (q_row (q_row m 117 f1) 118 g1), y) 0 0 252 [some (qR 77), some (qI a), some (qI k), none, some (qI nx), some (qI w), none, some (qI hw), some (qI ow)] [qI k]
                    refine qJ.run hκ 4 (pc' := 9) (ls' := [some (qR 77), some (qI a), some (qI (k + 1)), none, some (qI nx), some (qI w), none, some (qI hw), some (qI ow)]) (st' := []) rfl ?_
                    refine qJ.dl [true, true, true, false, false, false, false, false, false] ?_
                    show qJ YX12_spell κ _ (qLy u, (q_row (q_row m 117 f1) 118 g1), y) 0 0 9 [some (qR 77), some (qI a), some (qI (k + 1)), none, none, none, none, none, none] []
                    exact qJ.cast (ih9  f1 g1 (k + 1) (by omega) (by omega) (stn) (fun q => by rw [show k + 1 - 1 = k by omega] at q; omega) (by omega)) (rfl) rfl rfl
                  · show qJ YX12_spell κ _ (qLy u, (q_row (q_row m 117 f1) 118 g1), y) 0 0 248 [some (qR 77), some (qI a), some (qI k), none, some (qI nx), some (qI w), none, some (qI hw), some (qI ow)] [qI k]
                    exfalso; omega
                · show qJ YX12_spell κ _ (qLy u, (q_row (q_row m 117 f) 118 g), y) 0 0 190 [some (qR 77), some (qI a), some (qI k), none, some (qI nx), some (qI w), none, some (qI hw), some (qI ow)] [qI ow, qI a, qR 77]
                  refine qJ.run hκ 3 (pc' := 193) (ls' := [some (qR 77), some (qI a), some (qI k), none, some (qI nx), some (qI w), none, some (qI hw), some (qI ow)]) (st' := [qI k, qI a, qR 77, qI ow, qI a, qR 77]) rfl ?_
                  refine qJ.callV (As := [qI a, qI k]) (rest := [qI ow, qI a, qR 77]) hκ rfl kX12_346 (m_vA u (q_row (q_row m 117 f) 118 g) y a k (show rXn (q_row (q_row m 117 f) 118 g) from hX) ha (show 0 ≤ k ∧ k < m 17 a.toNat from by omega)) rfl rfl (by decide) rfl rfl (Nat.le_of_ble_eq_true rfl) (Nat.le_of_ble_eq_true rfl) (Nat.le_of_ble_eq_true rfl) (Or.inl (fun r h' e => by obtain ⟨rfl, rfl⟩ := e; rfl)) (fun r h' e => ?_)
                  obtain ⟨rfl, rfl⟩ := e
                  show qJ YX12_spell κ _ (qLy u, (q_row (q_row m 117 f) 118 g), y) 0 0 196 [some (qR 77), some (qI a), some (qI k), none, some (qI nx), some (qI w), none, some (qI hw), some (qI ow)] [qI (vA m a k), qI ow, qI a, qR 77]
                  refine qJ.run hκ 1 (pc' := 205) (ls' := [some (qR 77), some (qI a), some (qI k), none, some (qI nx), some (qI w), none, some (qI hw), some (qI ow)]) (st' := [qI (vA m a k), qI ow, qI a, qR 77]) rfl ?_
                  refine qJ.callV (As := [qI a, qI ow, qI (vA m a k)]) (rest := []) hκ rfl kX12_339 (m_say u m y f g a ow (vA m a k) (by omega) (by omega) (by omega)) rfl rfl (by decide) rfl rfl (Nat.le_of_ble_eq_true rfl) (Nat.le_of_ble_eq_true rfl) (Nat.le_of_ble_eq_true rfl) (Or.inl (fun r h' e => by obtain ⟨rfl, f1, g1, rfl, hsay⟩ := e; rfl)) (fun r h' e => ?_)
                  obtain ⟨rfl, f1, g1, rfl, hsay⟩ := e
                  show qJ YX12_spell κ _ (qLy u, (q_row (q_row m 117 f1) 118 g1), y) 0 0 208 [some (qR 77), some (qI a), some (qI k), none, some (qI nx), some (qI w), none, some (qI hw), some (qI ow)] []
                  have w1 : w = 1 := by omega
                  have stn : STm m (m 117) (m 118) f1 g1 a (k + 1) := by
                    rw [← v140_3, w1, cV_1] at pc0
                    rw [w1] at v140_4 v140_5
                    rw [if_neg (show ¬ aC m a k 1 = 0 by show ¬ m 19 _ = 0; omega)] at pc0
                    refine ST_say v140_6 (by omega) (by omega) hsay ?_ (by omega)
                    first
                    | (rw [if_pos (show aC m a k 1 = 2 by show m 19 _ = 2; omega)] at pc0; rw [pc0]; congr 2; congr 1; exact v140_5.symm)
                    | (rw [if_neg (show ¬ aC m a k 1 = 2 by show ¬ m 19 _ = 2; omega)] at pc0; rw [pc0]; congr 2; congr 1; exact v140_5.symm)
                  refine qJ.run hκ 3 (pc' := 245) (ls' := [some (qR 77), some (qI a), some (qI k), none, some (qI nx), some (qI w), none, some (qI hw), some (qI ow)]) (st' := [qI w, qI k]) rfl ?_
                  refine qJ.if_ne hκ (tgt := 252) rfl rfl (by omega) (fun c245 => ?_) (fun c245 => ?_)
                  · show qJ YX12_spell κ _ (qLy u, (q_row (q_row m 117 f1) 118 g1), y) 0 0 252 [some (qR 77), some (qI a), some (qI k), none, some (qI nx), some (qI w), none, some (qI hw), some (qI ow)] [qI k]
                    refine qJ.run hκ 4 (pc' := 9) (ls' := [some (qR 77), some (qI a), some (qI (k + 1)), none, some (qI nx), some (qI w), none, some (qI hw), some (qI ow)]) (st' := []) rfl ?_
                    refine qJ.dl [true, true, true, false, false, false, false, false, false] ?_
                    show qJ YX12_spell κ _ (qLy u, (q_row (q_row m 117 f1) 118 g1), y) 0 0 9 [some (qR 77), some (qI a), some (qI (k + 1)), none, none, none, none, none, none] []
                    exact qJ.cast (ih9  f1 g1 (k + 1) (by omega) (by omega) (stn) (fun q => by rw [show k + 1 - 1 = k by omega] at q; omega) (by omega)) (rfl) rfl rfl
                  · show qJ YX12_spell κ _ (qLy u, (q_row (q_row m 117 f1) 118 g1), y) 0 0 248 [some (qR 77), some (qI a), some (qI k), none, some (qI nx), some (qI w), none, some (qI hw), some (qI ow)] [qI k]
                    exfalso; omega
          · show qJ YX12_spell κ _ (qLy u, (q_row (q_row m 117 f) 118 g), y) 0 0 145 [some (qR 77), some (qI a), some (qI k), none, some (qI nx), some (qI w), none, some (qI hw), some (qI ow)] []
            refine qJ.run hκ 3 (pc' := 149) (ls' := [some (qR 77), some (qI a), some (qI k), none, some (qI nx), some (qI w), none, some (qI hw), some (qI ow)]) (st' := [qI hw, qI a, qR 77]) rfl ?_
            refine qJ.if_ne hκ (tgt := 156) rfl rfl (by omega) (fun c149 => ?_) (fun c149 => ?_)
            · show qJ YX12_spell κ _ (qLy u, (q_row (q_row m 117 f) 118 g), y) 0 0 156 [some (qR 77), some (qI a), some (qI k), none, some (qI nx), some (qI w), none, some (qI hw), some (qI ow)] [qI a, qR 77]
              refine qJ.run hκ 2 (pc' := 160) (ls' := [some (qR 77), some (qI a), some (qI k), none, some (qI nx), some (qI w), none, some (qI hw), some (qI ow)]) (st' := [qI nx, qI ow, qI a, qR 77]) rfl ?_
              refine qJ.callS (As := [qI nx]) (rest := [qI ow, qI a, qR 77]) hκ rfl kX12_261 (m_vow u (q_row (q_row m 117 f) 118 g) y nx (by omega)) (by decide) rfl rfl (Nat.le_of_ble_eq_true rfl) (Nat.le_of_ble_eq_true rfl) (Nat.le_of_ble_eq_true rfl) (Or.inl (fun r h' e => by obtain ⟨rfl, rfl⟩ := e; rfl)) (fun r h' e => ?_)
              obtain ⟨rfl, rfl⟩ := e
              show qJ YX12_spell κ _ (qLy u, (q_row (q_row m 117 f) 118 g), y) 0 0 163 [some (qR 77), some (qI a), some (qI k), none, some (qI nx), some (qI w), none, some (qI hw), some (qI ow)] [qI (vow nx), qI ow, qI a, qR 77]
              refine qJ.callV (As := [qI a, qI ow, qI (vow nx)]) (rest := []) hκ rfl kX12_339 (m_say u m y f g a ow (vow nx) (by omega) (by omega) (by omega)) rfl rfl (by decide) rfl rfl (Nat.le_of_ble_eq_true rfl) (Nat.le_of_ble_eq_true rfl) (Nat.le_of_ble_eq_true rfl) (Or.inl (fun r h' e => by obtain ⟨rfl, f2, g2, rfl, hsay⟩ := e; rfl)) (fun r h' e => ?_)
              obtain ⟨rfl, f2, g2, rfl, hsay⟩ := e
              show qJ YX12_spell κ _ (qLy u, (q_row (q_row m 117 f2) 118 g2), y) 0 0 166 [some (qR 77), some (qI a), some (qI k), none, some (qI nx), some (qI w), none, some (qI hw), some (qI ow)] []
              have w0 : w = 0 := by omega
              have wv := v140_7 w0
              have stn2 : STm m (m 117) (m 118) f2 g2 a (k + 2) := by
                rw [← v140_3, w0, cV_0 hs v140_2] at pc0
                rw [w0] at v140_4 v140_5
                have h1 := ST_say v140_6 (by omega) (by omega) hsay (by rw [pc0, wv.1]; congr 2; congr 1; first | (rw [if_pos (show aC m a k 0 = 0 by show m 19 _ = 0; omega)]) | (rw [if_neg (show ¬ aC m a k 0 = 0 by show ¬ m 19 _ = 0; omega)]; exact v140_5.symm)) (by omega)
                have h2 := ST_no h1 (by omega) (by unfold pV; rw [if_pos wv.2.2, if_pos ⟨by omega, by rw [show k + 1 - 1 = k by omega]; omega⟩])
                rw [show k + 1 + 1 = k + 2 by omega] at h2
                exact h2
              refine qJ.run hκ 3 (pc' := 245) (ls' := [some (qR 77), some (qI a), some (qI k), none, some (qI nx), some (qI w), none, some (qI hw), some (qI ow)]) (st' := [qI w, qI k]) rfl ?_
              refine qJ.if_ne hκ (tgt := 252) rfl rfl (by omega) (fun c245 => ?_) (fun c245 => ?_)
              · show qJ YX12_spell κ _ (qLy u, (q_row (q_row m 117 f2) 118 g2), y) 0 0 252 [some (qR 77), some (qI a), some (qI k), none, some (qI nx), some (qI w), none, some (qI hw), some (qI ow)] [qI k]
                exfalso; omega
              · show qJ YX12_spell κ _ (qLy u, (q_row (q_row m 117 f2) 118 g2), y) 0 0 248 [some (qR 77), some (qI a), some (qI k), none, some (qI nx), some (qI w), none, some (qI hw), some (qI ow)] [qI k]
                refine qJ.run hκ 5 (pc' := 9) (ls' := [some (qR 77), some (qI a), some (qI (k + 2)), none, some (qI nx), some (qI w), none, some (qI hw), some (qI ow)]) (st' := []) rfl ?_
                refine qJ.dl [true, true, true, false, false, false, false, false, false] ?_
                show qJ YX12_spell κ _ (qLy u, (q_row (q_row m 117 f2) 118 g2), y) 0 0 9 [some (qR 77), some (qI a), some (qI (k + 2)), none, none, none, none, none, none] []
                exact qJ.cast (ih9  f2 g2 (k + 2) (by omega) (by omega) (stn2) (fun q => by rw [show k + 2 - 1 = k + 1 by omega] at q; omega) (by omega)) (rfl) rfl rfl
            · show qJ YX12_spell κ _ (qLy u, (q_row (q_row m 117 f) 118 g), y) 0 0 152 [some (qR 77), some (qI a), some (qI k), none, some (qI nx), some (qI w), none, some (qI hw), some (qI ow)] [qI a, qR 77]
              refine qJ.run hκ 3 (pc' := 160) (ls' := [some (qR 77), some (qI a), some (qI k), none, some (qI nx), some (qI w), none, some (qI hw), some (qI ow)]) (st' := [qI nx, qI 0, qI a, qR 77]) rfl ?_
              refine qJ.callS (As := [qI nx]) (rest := [qI 0, qI a, qR 77]) hκ rfl kX12_261 (m_vow u (q_row (q_row m 117 f) 118 g) y nx (by omega)) (by decide) rfl rfl (Nat.le_of_ble_eq_true rfl) (Nat.le_of_ble_eq_true rfl) (Nat.le_of_ble_eq_true rfl) (Or.inl (fun r h' e => by obtain ⟨rfl, rfl⟩ := e; rfl)) (fun r h' e => ?_)
              obtain ⟨rfl, rfl⟩ := e
              show qJ YX12_spell κ _ (qLy u, (q_row (q_row m 117 f) 118 g), y) 0 0 163 [some (qR 77), some (qI a), some (qI k), none, some (qI nx), some (qI w), none, some (qI hw), some (qI ow)] [qI (vow nx), qI 0, qI a, qR 77]
              refine qJ.callV (As := [qI a, qI 0, qI (vow nx)]) (rest := []) hκ rfl kX12_339 (m_say u m y f g a 0 (vow nx) (by omega) (by omega) (by omega)) rfl rfl (by decide) rfl rfl (Nat.le_of_ble_eq_true rfl) (Nat.le_of_ble_eq_true rfl) (Nat.le_of_ble_eq_true rfl) (Or.inl (fun r h' e => by obtain ⟨rfl, f2, g2, rfl, hsay⟩ := e; rfl)) (fun r h' e => ?_)
              obtain ⟨rfl, f2, g2, rfl, hsay⟩ := e
              show qJ YX12_spell κ _ (qLy u, (q_row (q_row m 117 f2) 118 g2), y) 0 0 166 [some (qR 77), some (qI a), some (qI k), none, some (qI nx), some (qI w), none, some (qI hw), some (qI ow)] []
              have w0 : w = 0 := by omega
              have wv := v140_7 w0
              have stn2 : STm m (m 117) (m 118) f2 g2 a (k + 2) := by
                rw [← v140_3, w0, cV_0 hs v140_2] at pc0
                rw [w0] at v140_4 v140_5
                have h1 := ST_say v140_6 (by omega) (by omega) hsay (by rw [pc0, wv.1]; congr 2; congr 1; first | (rw [if_pos (show aC m a k 0 = 0 by show m 19 _ = 0; omega)]) | (rw [if_neg (show ¬ aC m a k 0 = 0 by show ¬ m 19 _ = 0; omega)]; exact v140_5.symm)) (by omega)
                have h2 := ST_no h1 (by omega) (by unfold pV; rw [if_pos wv.2.2, if_pos ⟨by omega, by rw [show k + 1 - 1 = k by omega]; omega⟩])
                rw [show k + 1 + 1 = k + 2 by omega] at h2
                exact h2
              refine qJ.run hκ 3 (pc' := 245) (ls' := [some (qR 77), some (qI a), some (qI k), none, some (qI nx), some (qI w), none, some (qI hw), some (qI ow)]) (st' := [qI w, qI k]) rfl ?_
              refine qJ.if_ne hκ (tgt := 252) rfl rfl (by omega) (fun c245 => ?_) (fun c245 => ?_)
              · show qJ YX12_spell κ _ (qLy u, (q_row (q_row m 117 f2) 118 g2), y) 0 0 252 [some (qR 77), some (qI a), some (qI k), none, some (qI nx), some (qI w), none, some (qI hw), some (qI ow)] [qI k]
                exfalso; omega
              · show qJ YX12_spell κ _ (qLy u, (q_row (q_row m 117 f2) 118 g2), y) 0 0 248 [some (qR 77), some (qI a), some (qI k), none, some (qI nx), some (qI w), none, some (qI hw), some (qI ow)] [qI k]
                refine qJ.run hκ 5 (pc' := 9) (ls' := [some (qR 77), some (qI a), some (qI (k + 2)), none, some (qI nx), some (qI w), none, some (qI hw), some (qI ow)]) (st' := []) rfl ?_
                refine qJ.dl [true, true, true, false, false, false, false, false, false] ?_
                show qJ YX12_spell κ _ (qLy u, (q_row (q_row m 117 f2) 118 g2), y) 0 0 9 [some (qR 77), some (qI a), some (qI (k + 2)), none, none, none, none, none, none] []
                exact qJ.cast (ih9  f2 g2 (k + 2) (by omega) (by omega) (stn2) (fun q => by rw [show k + 2 - 1 = k + 1 by omega] at q; omega) (by omega)) (rfl) rfl rfl
      refine qJ.run hκ 4 (pc' := 15) (ls' := [some (qR 77), some (qI a), some (qI k), none, none, none, none, none, none]) (st' := [qI a, qR 102, qI k]) rfl ?_
      refine qJ.ald hκ rfl rfl rfl (by decide) (by omega) ?_
      show qJ YX12_spell κ _ (qLy u, (q_row (q_row m 117 f) 118 g), y) 0 0 16 [some (qR 77), some (qI a), some (qI k), none, none, none, none, none, none] [qI (m 102 a.toNat), qI k]
      refine qJ.icmp_ge hκ (tgt := 258) rfl rfl (by omega) (by omega) (fun c16 => ?_) (fun c16 => ?_)
      · show qJ YX12_spell κ _ (qLy u, (q_row (q_row m 117 f) 118 g), y) 0 0 258 [some (qR 77), some (qI a), some (qI k), none, none, none, none, none, none] []
        exact qJ.vret hκ rfl rfl (by decide) (by decide) (⟨rfl, f, g, rfl, by rw [← show k = m 17 a.toNat by omega]; exact v9_2⟩)
      · show qJ YX12_spell κ _ (qLy u, (q_row (q_row m 117 f) 118 g), y) 0 0 19 [some (qR 77), some (qI a), some (qI k), none, none, none, none, none, none] []
        have tk := lt_v hX ha (i := k) (by omega)
        have lk := hx.2.2 k (by omega) (by omega)
        have vrk := vow_r (lt m a k)
        have crk := cons_r (lt m a k)
        have gk : g a.toNat = (vN m a k.toNat : Nat) := v9_2.2.2.1
        have vlk := vN_le m a k.toNat
        have tv4 : (Lc m a k < 4 ∧ vow (lt m a k) = Lc m a k ∧ cons (lt m a k) = 0) ∨ (4 ≤ Lc m a k ∧ cons (lt m a k) = Lc m a k - 3) := by by_cases q : Lc m a k < 4; exact Or.inl ⟨q, by rw [tk.1, if_pos q], by rw [tk.2.1, if_pos q]⟩; exact Or.inr ⟨by omega, by rw [tk.2.1, if_neg q]⟩
        have nxF : (k + 1 < m 17 a.toNat ∧ ¬ lt m a (k + 1) = 0 ∧ (-128 ≤ lt m a (k + 1) ∧ lt m a (k + 1) ≤ 127) ∧ ((Lc m a (k + 1) < 4 ∧ vow (lt m a (k + 1)) = Lc m a (k + 1) ∧ 0 ≤ Lc m a (k + 1)) ∨ (4 ≤ Lc m a (k + 1) ∧ vow (lt m a (k + 1)) = -1))) ∨ (¬ k + 1 < m 17 a.toNat ∧ lt m a (k + 1) = 0) := by by_cases q : k + 1 < m 17 a.toNat; (have t2 := lt_v hX ha (i := k + 1) (by omega); have l2 := hx.2.2 (k + 1) (by omega) q; refine Or.inl ⟨q, t2.2.2.1, t2.2.2.2, ?_⟩; by_cases q2 : Lc m a (k + 1) < 4; exact Or.inl ⟨q2, by rw [t2.1, if_pos q2], l2.1⟩; exact Or.inr ⟨by omega, by rw [t2.1, if_neg q2]⟩); exact Or.inr ⟨q, ltr_0 q⟩
        refine qJ.run hκ 3 (pc' := 22) (ls' := [some (qR 77), some (qI a), some (qI k), none, none, none, none, none, none]) (st' := [qI k, qI a, qR 77]) rfl ?_
        refine qJ.callV (As := [qI a, qI k]) (rest := []) hκ rfl kX12_336 (m_letterAt u (q_row (q_row m 117 f) 118 g) y a k (show rXn (q_row (q_row m 117 f) 118 g) from hX) ha (by omega)) rfl rfl (by decide) rfl rfl (Nat.le_of_ble_eq_true rfl) (Nat.le_of_ble_eq_true rfl) (Nat.le_of_ble_eq_true rfl) (Or.inl (fun r h' e => by obtain ⟨rfl, rfl⟩ := e; rfl)) (fun r h' e => ?_)
        obtain ⟨rfl, rfl⟩ := e
        show qJ YX12_spell κ _ (qLy u, (q_row (q_row m 117 f) 118 g), y) 0 0 25 [some (qR 77), some (qI a), some (qI k), none, none, none, none, none, none] [qI (lt m a k)]
        refine qJ.callS (As := [qI (lt m a k)]) (rest := []) hκ rfl kX12_258 (m_cons u (q_row (q_row m 117 f) 118 g) y (lt m a k) (by omega)) (by decide) rfl rfl (Nat.le_of_ble_eq_true rfl) (Nat.le_of_ble_eq_true rfl) (Nat.le_of_ble_eq_true rfl) (Or.inl (fun r h' e => by obtain ⟨rfl, rfl⟩ := e; rfl)) (fun r h' e => ?_)
        obtain ⟨rfl, rfl⟩ := e
        show qJ YX12_spell κ _ (qLy u, (q_row (q_row m 117 f) 118 g), y) 0 0 28 [some (qR 77), some (qI a), some (qI k), none, none, none, none, none, none] [qI (cons (lt m a k))]
        refine qJ.run hκ 6 (pc' := 34) (ls' := [some (qR 77), some (qI a), some (qI k), some (qI (cons (lt m a k))), none, none, none, none, none]) (st' := [qI (k + 1), qI a, qR 77]) rfl ?_
        refine qJ.callV (As := [qI a, qI (k + 1)]) (rest := []) hκ rfl kX12_336 (m_letterAt u (q_row (q_row m 117 f) 118 g) y a (k + 1) (show rXn (q_row (q_row m 117 f) 118 g) from hX) ha (by omega)) rfl rfl (by decide) rfl rfl (Nat.le_of_ble_eq_true rfl) (Nat.le_of_ble_eq_true rfl) (Nat.le_of_ble_eq_true rfl) (Or.inl (fun r h' e => by obtain ⟨rfl, rfl⟩ := e; rfl)) (fun r h' e => ?_)
        obtain ⟨rfl, rfl⟩ := e
        show qJ YX12_spell κ _ (qLy u, (q_row (q_row m 117 f) 118 g), y) 0 0 37 [some (qR 77), some (qI a), some (qI k), some (qI (cons (lt m a k))), none, none, none, none, none] [qI (lt m a (k + 1))]
        refine qJ.run hκ 2 (pc' := 40) (ls' := [some (qR 77), some (qI a), some (qI k), some (qI (cons (lt m a k))), some (qI (lt m a (k + 1))), none, none, none, none]) (st' := [qI (cons (lt m a k))]) rfl ?_
        refine qJ.if_ne hκ (tgt := 64) rfl rfl (by omega) (fun c40 => ?_) (fun c40 => ?_)
        · show qJ YX12_spell κ _ (qLy u, (q_row (q_row m 117 f) 118 g), y) 0 0 64 [some (qR 77), some (qI a), some (qI k), some (qI (cons (lt m a k))), some (qI (lt m a (k + 1))), none, none, none, none] []
          have cK : cons (lt m a k) = Lc m a k - 3 := by omega
          have vrn := vow_r (lt m a (k + 1))
          have nxr : -128 ≤ lt m a (k + 1) ∧ lt m a (k + 1) ≤ 127 := by omega
          refine qJ.run hκ 1 (pc' := 66) (ls' := [some (qR 77), some (qI a), some (qI k), some (qI (cons (lt m a k))), some (qI (lt m a (k + 1))), none, none, none, none]) (st' := [qI (lt m a (k + 1))]) rfl ?_
          refine qJ.if_ne hκ (tgt := 73) rfl rfl (by omega) (fun c66 => ?_) (fun c66 => ?_)
          · show qJ YX12_spell κ _ (qLy u, (q_row (q_row m 117 f) 118 g), y) 0 0 73 [some (qR 77), some (qI a), some (qI k), some (qI (cons (lt m a k))), some (qI (lt m a (k + 1))), none, none, none, none] []
            refine qJ.run hκ 1 (pc' := 75) (ls' := [some (qR 77), some (qI a), some (qI k), some (qI (cons (lt m a k))), some (qI (lt m a (k + 1))), none, none, none, none]) (st' := [qI (lt m a (k + 1))]) rfl ?_
            refine qJ.callS (As := [qI (lt m a (k + 1))]) (rest := []) hκ rfl kX12_261 (m_vow u (q_row (q_row m 117 f) 118 g) y (lt m a (k + 1)) (by omega)) (by decide) rfl rfl (Nat.le_of_ble_eq_true rfl) (Nat.le_of_ble_eq_true rfl) (Nat.le_of_ble_eq_true rfl) (Or.inl (fun r h' e => by obtain ⟨rfl, rfl⟩ := e; rfl)) (fun r h' e => ?_)
            obtain ⟨rfl, rfl⟩ := e
            show qJ YX12_spell κ _ (qLy u, (q_row (q_row m 117 f) 118 g), y) 0 0 78 [some (qR 77), some (qI a), some (qI k), some (qI (cons (lt m a k))), some (qI (lt m a (k + 1))), none, none, none, none] [qI (vow (lt m a (k + 1)))]
            refine qJ.run hκ 1 (pc' := 79) (ls' := [some (qR 77), some (qI a), some (qI k), some (qI (cons (lt m a k))), some (qI (lt m a (k + 1))), none, none, none, none]) (st' := [qI (-1), qI (vow (lt m a (k + 1)))]) rfl ?_
            refine qJ.icmp_eq hκ (tgt := 86) rfl rfl (by omega) (by omega) (fun c79 => ?_) (fun c79 => ?_)
            · show qJ YX12_spell κ _ (qLy u, (q_row (q_row m 117 f) 118 g), y) 0 0 86 [some (qR 77), some (qI a), some (qI k), some (qI (cons (lt m a k))), some (qI (lt m a (k + 1))), none, none, none, none] []
              have wk : (1 : Int) = 0 → vow (lt m a (k + 1)) = vB m a k ∧ k + 1 < m 17 a.toNat ∧ Lc m a (k + 1) < 4 := fun q => by omega
              refine qJ.run hκ 5 (pc' := 93) (ls' := [some (qR 77), some (qI a), some (qI k), some (qI (cons (lt m a k))), some (qI (lt m a (k + 1))), some (qI 1), none, none, none]) (st' := [qI 1, qI (cons (lt m a k)), qR 77]) rfl ?_
              refine qJ.callV (As := [qI (cons (lt m a k)), qI 1]) (rest := []) hκ rfl kX12_343 (m_lineFor u (q_row (q_row m 117 f) 118 g) y (cons (lt m a k)) 1 (show rXl (q_row (q_row m 117 f) 118 g) from hl) (by omega) (by omega)) rfl rfl (by decide) rfl rfl (Nat.le_of_ble_eq_true rfl) (Nat.le_of_ble_eq_true rfl) (Nat.le_of_ble_eq_true rfl) (Or.inl (fun r h' e => by obtain ⟨rfl, rfl⟩ := e; rfl)) (fun r h' e => ?_)
              obtain ⟨rfl, rfl⟩ := e
              rw [show LFn (q_row (q_row m 117 f) 118 g) (cons (lt m a k)) 1 = LFn m (Lc m a k - 3) 1 from by rw [cK]; rfl]
              have lf := LF_s hl (c := Lc m a k - 3) (w := 1) (by omega) (by omega)
              have stK : stA m a k = 1 := by unfold stA; first | rw [if_pos (by omega)] | rw [if_neg (by omega), if_pos (by omega)] | rw [if_neg (by omega), if_neg (by omega)]
              have lfq : (LFn m (Lc m a k - 3) 1 = -1 ∧ (if LFn m (Lc m a k - 3) 1 = -1 then -1 else 4 * LFn m (Lc m a k - 3) 1) = -1) ∨ (¬ LFn m (Lc m a k - 3) 1 = -1 ∧ (if LFn m (Lc m a k - 3) 1 = -1 then -1 else 4 * LFn m (Lc m a k - 3) 1) = 4 * LFn m (Lc m a k - 3) 1 ∧ 0 ≤ LFn m (Lc m a k - 3) 1 ∧ LFn m (Lc m a k - 3) 1 < m 15 4) := by by_cases z : LFn m (Lc m a k - 3) 1 = -1; exact Or.inl ⟨z, if_pos z⟩; exact Or.inr ⟨z, if_neg z, (lf.2 z).1⟩
              show qJ YX12_spell κ _ (qLy u, (q_row (q_row m 117 f) 118 g), y) 0 0 96 [some (qR 77), some (qI a), some (qI k), some (qI (cons (lt m a k))), some (qI (lt m a (k + 1))), some (qI 1), none, none, none] [qI (if LFn m (Lc m a k - 3) 1 = -1 then -1 else 4 * LFn m (Lc m a k - 3) 1)]
              refine qJ.run hκ 3 (pc' := 101) (ls' := [some (qR 77), some (qI a), some (qI k), some (qI (cons (lt m a k))), some (qI (lt m a (k + 1))), some (qI 1), some (qI (if LFn m (Lc m a k - 3) 1 = -1 then -1 else 4 * LFn m (Lc m a k - 3) 1)), none, none]) (st' := [qI (-1), qI (if LFn m (Lc m a k - 3) 1 = -1 then -1 else 4 * LFn m (Lc m a k - 3) 1)]) rfl ?_
              refine qJ.icmp_ne hκ (tgt := 108) rfl rfl (by omega) (by omega) (fun c101 => ?_) (fun c101 => ?_)
              · show qJ YX12_spell κ _ (qLy u, (q_row (q_row m 117 f) 118 g), y) 0 0 108 [some (qR 77), some (qI a), some (qI k), some (qI (cons (lt m a k))), some (qI (lt m a (k + 1))), some (qI 1), some (qI (if LFn m (Lc m a k - 3) 1 = -1 then -1 else 4 * LFn m (Lc m a k - 3) 1)), none, none] []
                have lfy : ¬ LFn m (Lc m a k - 3) 1 = -1 := by rcases lfq with q | q; omega; exact q.1
                have lfv : (if LFn m (Lc m a k - 3) 1 = -1 then -1 else 4 * LFn m (Lc m a k - 3) 1) = 4 * LFn m (Lc m a k - 3) 1 := if_neg lfy
                have lle := hl.2.1 (LFn m (Lc m a k - 3) 1) (by omega) (by omega)
                rw [lfv]
                show qJ YX12_spell κ _ (qLy u, (q_row (q_row m 117 f) 118 g), y) 0 0 108 [some (qR 77), some (qI a), some (qI k), some (qI (cons (lt m a k))), some (qI (lt m a (k + 1))), some (qI 1), some (qI (4 * LFn m (Lc m a k - 3) 1)), none, none] []
                refine qJ.run hκ 5 (pc' := 116) (ls' := [some (qR 77), some (qI a), some (qI k), some (qI (cons (lt m a k))), some (qI (lt m a (k + 1))), some (qI 1), some (qI (4 * LFn m (Lc m a k - 3) 1)), none, none]) (st' := [qI ((4 * LFn m (Lc m a k - 3) 1) + 2), qR 106]) rfl ?_
                refine qJ.ald hκ rfl rfl rfl (by decide) (by omega) ?_
                show qJ YX12_spell κ _ (qLy u, (q_row (q_row m 117 f) 118 g), y) 0 0 117 [some (qR 77), some (qI a), some (qI k), some (qI (cons (lt m a k))), some (qI (lt m a (k + 1))), some (qI 1), some (qI (4 * LFn m (Lc m a k - 3) 1)), none, none] [qI (m 106 (((4 * LFn m (Lc m a k - 3) 1) + 2).toNat))]
                refine qJ.run hκ 3 (pc' := 122) (ls' := [some (qR 77), some (qI a), some (qI k), some (qI (cons (lt m a k))), some (qI (lt m a (k + 1))), some (qI 1), some (qI (4 * LFn m (Lc m a k - 3) 1)), some (qI (m 106 (((4 * LFn m (Lc m a k - 3) 1) + 2).toNat))), none]) (st' := [qI 3, qI (m 106 (((4 * LFn m (Lc m a k - 3) 1) + 2).toNat))]) rfl ?_
                refine qJ.icmp_ne hκ (tgt := 137) rfl rfl (by omega) (by omega) (fun c122 => ?_) (fun c122 => ?_)
                · show qJ YX12_spell κ _ (qLy u, (q_row (q_row m 117 f) 118 g), y) 0 0 137 [some (qR 77), some (qI a), some (qI k), some (qI (cons (lt m a k))), some (qI (lt m a (k + 1))), some (qI 1), some (qI (4 * LFn m (Lc m a k - 3) 1)), some (qI (m 106 (((4 * LFn m (Lc m a k - 3) 1) + 2).toNat))), none] []
                  refine qJ.run hκ 2 (pc' := 140) (ls' := [some (qR 77), some (qI a), some (qI k), some (qI (cons (lt m a k))), some (qI (lt m a (k + 1))), some (qI 1), some (qI (4 * LFn m (Lc m a k - 3) 1)), some (qI (m 106 (((4 * LFn m (Lc m a k - 3) 1) + 2).toNat))), some (qI (cons (lt m a k)))]) (st' := []) rfl ?_
                  refine qJ.dl [true, true, true, false, true, true, false, true, true] ?_
                  show qJ YX12_spell κ _ (qLy u, (q_row (q_row m 117 f) 118 g), y) 0 0 140 [some (qR 77), some (qI a), some (qI k), none, some (qI (lt m a (k + 1))), some (qI 1), none, some (qI (m 106 (((4 * LFn m (Lc m a k - 3) 1) + 2).toNat))), some (qI (cons (lt m a k)))] []
                  exact L140 1 f g (lt m a (k + 1)) 1 (m 106 (((4 * LFn m (Lc m a k - 3) 1) + 2).toNat)) (cons (lt m a k)) (by omega) (by omega) (by omega) (stK.symm) ((lf.2 lfy).2.1.symm) (by rw [if_neg (by rw [(lf.2 lfy).2.1]; exact c122)]; exact cK) (v9_2) (wk) (by omega) (by omega)
                · show qJ YX12_spell κ _ (qLy u, (q_row (q_row m 117 f) 118 g), y) 0 0 125 [some (qR 77), some (qI a), some (qI k), some (qI (cons (lt m a k))), some (qI (lt m a (k + 1))), some (qI 1), some (qI (4 * LFn m (Lc m a k - 3) 1)), some (qI (m 106 (((4 * LFn m (Lc m a k - 3) 1) + 2).toNat))), none] []
                  refine qJ.run hκ 5 (pc' := 133) (ls' := [some (qR 77), some (qI a), some (qI k), some (qI (cons (lt m a k))), some (qI (lt m a (k + 1))), some (qI 1), some (qI (4 * LFn m (Lc m a k - 3) 1)), some (qI (m 106 (((4 * LFn m (Lc m a k - 3) 1) + 2).toNat))), none]) (st' := [qI ((4 * LFn m (Lc m a k - 3) 1) + 3), qR 106]) rfl ?_
                  refine qJ.ald hκ rfl rfl rfl (by decide) (by omega) ?_
                  show qJ YX12_spell κ _ (qLy u, (q_row (q_row m 117 f) 118 g), y) 0 0 134 [some (qR 77), some (qI a), some (qI k), some (qI (cons (lt m a k))), some (qI (lt m a (k + 1))), some (qI 1), some (qI (4 * LFn m (Lc m a k - 3) 1)), some (qI (m 106 (((4 * LFn m (Lc m a k - 3) 1) + 2).toNat))), none] [qI (m 106 (((4 * LFn m (Lc m a k - 3) 1) + 3).toNat))]
                  refine qJ.run hκ 2 (pc' := 140) (ls' := [some (qR 77), some (qI a), some (qI k), some (qI (cons (lt m a k))), some (qI (lt m a (k + 1))), some (qI 1), some (qI (4 * LFn m (Lc m a k - 3) 1)), some (qI (m 106 (((4 * LFn m (Lc m a k - 3) 1) + 2).toNat))), some (qI (m 106 (((4 * LFn m (Lc m a k - 3) 1) + 3).toNat)))]) (st' := []) rfl ?_
                  refine qJ.dl [true, true, true, false, true, true, false, true, true] ?_
                  show qJ YX12_spell κ _ (qLy u, (q_row (q_row m 117 f) 118 g), y) 0 0 140 [some (qR 77), some (qI a), some (qI k), none, some (qI (lt m a (k + 1))), some (qI 1), none, some (qI (m 106 (((4 * LFn m (Lc m a k - 3) 1) + 2).toNat))), some (qI (m 106 (((4 * LFn m (Lc m a k - 3) 1) + 3).toNat)))] []
                  exact L140 1 f g (lt m a (k + 1)) 1 (m 106 (((4 * LFn m (Lc m a k - 3) 1) + 2).toNat)) (m 106 (((4 * LFn m (Lc m a k - 3) 1) + 3).toNat)) (by omega) (by omega) (by omega) (stK.symm) ((lf.2 lfy).2.1.symm) (by rw [if_pos (by rw [(lf.2 lfy).2.1]; omega)]; exact ((lf.2 lfy).2.2 (by rw [(lf.2 lfy).2.1]; omega)).symm) (v9_2) (wk) (by omega) (by omega)
              · show qJ YX12_spell κ _ (qLy u, (q_row (q_row m 117 f) 118 g), y) 0 0 104 [some (qR 77), some (qI a), some (qI k), some (qI (cons (lt m a k))), some (qI (lt m a (k + 1))), some (qI 1), some (qI (if LFn m (Lc m a k - 3) 1 = -1 then -1 else 4 * LFn m (Lc m a k - 3) 1)), none, none] []
                have lfn : LFn m (Lc m a k - 3) 1 = -1 := by rcases lfq with q | q; exact q.1; omega
                refine qJ.run hκ 5 (pc' := 122) (ls' := [some (qR 77), some (qI a), some (qI k), some (qI (cons (lt m a k))), some (qI (lt m a (k + 1))), some (qI 1), some (qI (if LFn m (Lc m a k - 3) 1 = -1 then -1 else 4 * LFn m (Lc m a k - 3) 1)), some (qI (-1)), none]) (st' := [qI 3, qI (-1)]) rfl ?_
                refine qJ.icmp_ne hκ (tgt := 137) rfl rfl (by omega) (by omega) (fun c122 => ?_) (fun c122 => ?_)
                · show qJ YX12_spell κ _ (qLy u, (q_row (q_row m 117 f) 118 g), y) 0 0 137 [some (qR 77), some (qI a), some (qI k), some (qI (cons (lt m a k))), some (qI (lt m a (k + 1))), some (qI 1), some (qI (if LFn m (Lc m a k - 3) 1 = -1 then -1 else 4 * LFn m (Lc m a k - 3) 1)), some (qI (-1)), none] []
                  refine qJ.run hκ 2 (pc' := 140) (ls' := [some (qR 77), some (qI a), some (qI k), some (qI (cons (lt m a k))), some (qI (lt m a (k + 1))), some (qI 1), some (qI (if LFn m (Lc m a k - 3) 1 = -1 then -1 else 4 * LFn m (Lc m a k - 3) 1)), some (qI (-1)), some (qI (cons (lt m a k)))]) (st' := []) rfl ?_
                  refine qJ.dl [true, true, true, false, true, true, false, true, true] ?_
                  show qJ YX12_spell κ _ (qLy u, (q_row (q_row m 117 f) 118 g), y) 0 0 140 [some (qR 77), some (qI a), some (qI k), none, some (qI (lt m a (k + 1))), some (qI 1), none, some (qI (-1)), some (qI (cons (lt m a k)))] []
                  exact L140 1 f g (lt m a (k + 1)) 1 (-1) (cons (lt m a k)) (by omega) (by omega) (by omega) (stK.symm) ((lf.1 lfn).symm) (by rw [if_neg (by rw [lf.1 lfn]; omega)]; exact cK) (v9_2) (wk) (by omega) (by omega)
                · exact absurd c122 (by decide)
            · show qJ YX12_spell κ _ (qLy u, (q_row (q_row m 117 f) 118 g), y) 0 0 82 [some (qR 77), some (qI a), some (qI k), some (qI (cons (lt m a k))), some (qI (lt m a (k + 1))), none, none, none, none] []
              have wk : (0 : Int) = 0 → vow (lt m a (k + 1)) = vB m a k ∧ k + 1 < m 17 a.toNat ∧ Lc m a (k + 1) < 4 := fun _ => ⟨by rw [vB_open (by omega) (by omega)]; omega, by omega, by omega⟩
              refine qJ.run hκ 6 (pc' := 93) (ls' := [some (qR 77), some (qI a), some (qI k), some (qI (cons (lt m a k))), some (qI (lt m a (k + 1))), some (qI 0), none, none, none]) (st' := [qI 0, qI (cons (lt m a k)), qR 77]) rfl ?_
              refine qJ.callV (As := [qI (cons (lt m a k)), qI 0]) (rest := []) hκ rfl kX12_343 (m_lineFor u (q_row (q_row m 117 f) 118 g) y (cons (lt m a k)) 0 (show rXl (q_row (q_row m 117 f) 118 g) from hl) (by omega) (by omega)) rfl rfl (by decide) rfl rfl (Nat.le_of_ble_eq_true rfl) (Nat.le_of_ble_eq_true rfl) (Nat.le_of_ble_eq_true rfl) (Or.inl (fun r h' e => by obtain ⟨rfl, rfl⟩ := e; rfl)) (fun r h' e => ?_)
              obtain ⟨rfl, rfl⟩ := e
              rw [show LFn (q_row (q_row m 117 f) 118 g) (cons (lt m a k)) 0 = LFn m (Lc m a k - 3) 0 from by rw [cK]; rfl]
              have lf := LF_s hl (c := Lc m a k - 3) (w := 0) (by omega) (by omega)
              have stK : stA m a k = 0 := by unfold stA; first | rw [if_pos (by omega)] | rw [if_neg (by omega), if_pos (by omega)] | rw [if_neg (by omega), if_neg (by omega)]
              have lfq : (LFn m (Lc m a k - 3) 0 = -1 ∧ (if LFn m (Lc m a k - 3) 0 = -1 then -1 else 4 * LFn m (Lc m a k - 3) 0) = -1) ∨ (¬ LFn m (Lc m a k - 3) 0 = -1 ∧ (if LFn m (Lc m a k - 3) 0 = -1 then -1 else 4 * LFn m (Lc m a k - 3) 0) = 4 * LFn m (Lc m a k - 3) 0 ∧ 0 ≤ LFn m (Lc m a k - 3) 0 ∧ LFn m (Lc m a k - 3) 0 < m 15 4) := by by_cases z : LFn m (Lc m a k - 3) 0 = -1; exact Or.inl ⟨z, if_pos z⟩; exact Or.inr ⟨z, if_neg z, (lf.2 z).1⟩
              show qJ YX12_spell κ _ (qLy u, (q_row (q_row m 117 f) 118 g), y) 0 0 96 [some (qR 77), some (qI a), some (qI k), some (qI (cons (lt m a k))), some (qI (lt m a (k + 1))), some (qI 0), none, none, none] [qI (if LFn m (Lc m a k - 3) 0 = -1 then -1 else 4 * LFn m (Lc m a k - 3) 0)]
              refine qJ.run hκ 3 (pc' := 101) (ls' := [some (qR 77), some (qI a), some (qI k), some (qI (cons (lt m a k))), some (qI (lt m a (k + 1))), some (qI 0), some (qI (if LFn m (Lc m a k - 3) 0 = -1 then -1 else 4 * LFn m (Lc m a k - 3) 0)), none, none]) (st' := [qI (-1), qI (if LFn m (Lc m a k - 3) 0 = -1 then -1 else 4 * LFn m (Lc m a k - 3) 0)]) rfl ?_
              refine qJ.icmp_ne hκ (tgt := 108) rfl rfl (by omega) (by omega) (fun c101 => ?_) (fun c101 => ?_)
              · show qJ YX12_spell κ _ (qLy u, (q_row (q_row m 117 f) 118 g), y) 0 0 108 [some (qR 77), some (qI a), some (qI k), some (qI (cons (lt m a k))), some (qI (lt m a (k + 1))), some (qI 0), some (qI (if LFn m (Lc m a k - 3) 0 = -1 then -1 else 4 * LFn m (Lc m a k - 3) 0)), none, none] []
                have lfy : ¬ LFn m (Lc m a k - 3) 0 = -1 := by rcases lfq with q | q; omega; exact q.1
                have lfv : (if LFn m (Lc m a k - 3) 0 = -1 then -1 else 4 * LFn m (Lc m a k - 3) 0) = 4 * LFn m (Lc m a k - 3) 0 := if_neg lfy
                have lle := hl.2.1 (LFn m (Lc m a k - 3) 0) (by omega) (by omega)
                rw [lfv]
                show qJ YX12_spell κ _ (qLy u, (q_row (q_row m 117 f) 118 g), y) 0 0 108 [some (qR 77), some (qI a), some (qI k), some (qI (cons (lt m a k))), some (qI (lt m a (k + 1))), some (qI 0), some (qI (4 * LFn m (Lc m a k - 3) 0)), none, none] []
                refine qJ.run hκ 5 (pc' := 116) (ls' := [some (qR 77), some (qI a), some (qI k), some (qI (cons (lt m a k))), some (qI (lt m a (k + 1))), some (qI 0), some (qI (4 * LFn m (Lc m a k - 3) 0)), none, none]) (st' := [qI ((4 * LFn m (Lc m a k - 3) 0) + 2), qR 106]) rfl ?_
                refine qJ.ald hκ rfl rfl rfl (by decide) (by omega) ?_
                show qJ YX12_spell κ _ (qLy u, (q_row (q_row m 117 f) 118 g), y) 0 0 117 [some (qR 77), some (qI a), some (qI k), some (qI (cons (lt m a k))), some (qI (lt m a (k + 1))), some (qI 0), some (qI (4 * LFn m (Lc m a k - 3) 0)), none, none] [qI (m 106 (((4 * LFn m (Lc m a k - 3) 0) + 2).toNat))]
                refine qJ.run hκ 3 (pc' := 122) (ls' := [some (qR 77), some (qI a), some (qI k), some (qI (cons (lt m a k))), some (qI (lt m a (k + 1))), some (qI 0), some (qI (4 * LFn m (Lc m a k - 3) 0)), some (qI (m 106 (((4 * LFn m (Lc m a k - 3) 0) + 2).toNat))), none]) (st' := [qI 3, qI (m 106 (((4 * LFn m (Lc m a k - 3) 0) + 2).toNat))]) rfl ?_
                refine qJ.icmp_ne hκ (tgt := 137) rfl rfl (by omega) (by omega) (fun c122 => ?_) (fun c122 => ?_)
                · show qJ YX12_spell κ _ (qLy u, (q_row (q_row m 117 f) 118 g), y) 0 0 137 [some (qR 77), some (qI a), some (qI k), some (qI (cons (lt m a k))), some (qI (lt m a (k + 1))), some (qI 0), some (qI (4 * LFn m (Lc m a k - 3) 0)), some (qI (m 106 (((4 * LFn m (Lc m a k - 3) 0) + 2).toNat))), none] []
                  refine qJ.run hκ 2 (pc' := 140) (ls' := [some (qR 77), some (qI a), some (qI k), some (qI (cons (lt m a k))), some (qI (lt m a (k + 1))), some (qI 0), some (qI (4 * LFn m (Lc m a k - 3) 0)), some (qI (m 106 (((4 * LFn m (Lc m a k - 3) 0) + 2).toNat))), some (qI (cons (lt m a k)))]) (st' := []) rfl ?_
                  refine qJ.dl [true, true, true, false, true, true, false, true, true] ?_
                  show qJ YX12_spell κ _ (qLy u, (q_row (q_row m 117 f) 118 g), y) 0 0 140 [some (qR 77), some (qI a), some (qI k), none, some (qI (lt m a (k + 1))), some (qI 0), none, some (qI (m 106 (((4 * LFn m (Lc m a k - 3) 0) + 2).toNat))), some (qI (cons (lt m a k)))] []
                  exact L140 1 f g (lt m a (k + 1)) 0 (m 106 (((4 * LFn m (Lc m a k - 3) 0) + 2).toNat)) (cons (lt m a k)) (by omega) (by omega) (by omega) (stK.symm) ((lf.2 lfy).2.1.symm) (by rw [if_neg (by rw [(lf.2 lfy).2.1]; exact c122)]; exact cK) (v9_2) (wk) (by omega) (by omega)
                · show qJ YX12_spell κ _ (qLy u, (q_row (q_row m 117 f) 118 g), y) 0 0 125 [some (qR 77), some (qI a), some (qI k), some (qI (cons (lt m a k))), some (qI (lt m a (k + 1))), some (qI 0), some (qI (4 * LFn m (Lc m a k - 3) 0)), some (qI (m 106 (((4 * LFn m (Lc m a k - 3) 0) + 2).toNat))), none] []
                  refine qJ.run hκ 5 (pc' := 133) (ls' := [some (qR 77), some (qI a), some (qI k), some (qI (cons (lt m a k))), some (qI (lt m a (k + 1))), some (qI 0), some (qI (4 * LFn m (Lc m a k - 3) 0)), some (qI (m 106 (((4 * LFn m (Lc m a k - 3) 0) + 2).toNat))), none]) (st' := [qI ((4 * LFn m (Lc m a k - 3) 0) + 3), qR 106]) rfl ?_
                  refine qJ.ald hκ rfl rfl rfl (by decide) (by omega) ?_
                  show qJ YX12_spell κ _ (qLy u, (q_row (q_row m 117 f) 118 g), y) 0 0 134 [some (qR 77), some (qI a), some (qI k), some (qI (cons (lt m a k))), some (qI (lt m a (k + 1))), some (qI 0), some (qI (4 * LFn m (Lc m a k - 3) 0)), some (qI (m 106 (((4 * LFn m (Lc m a k - 3) 0) + 2).toNat))), none] [qI (m 106 (((4 * LFn m (Lc m a k - 3) 0) + 3).toNat))]
                  refine qJ.run hκ 2 (pc' := 140) (ls' := [some (qR 77), some (qI a), some (qI k), some (qI (cons (lt m a k))), some (qI (lt m a (k + 1))), some (qI 0), some (qI (4 * LFn m (Lc m a k - 3) 0)), some (qI (m 106 (((4 * LFn m (Lc m a k - 3) 0) + 2).toNat))), some (qI (m 106 (((4 * LFn m (Lc m a k - 3) 0) + 3).toNat)))]) (st' := []) rfl ?_
                  refine qJ.dl [true, true, true, false, true, true, false, true, true] ?_
                  show qJ YX12_spell κ _ (qLy u, (q_row (q_row m 117 f) 118 g), y) 0 0 140 [some (qR 77), some (qI a), some (qI k), none, some (qI (lt m a (k + 1))), some (qI 0), none, some (qI (m 106 (((4 * LFn m (Lc m a k - 3) 0) + 2).toNat))), some (qI (m 106 (((4 * LFn m (Lc m a k - 3) 0) + 3).toNat)))] []
                  exact L140 1 f g (lt m a (k + 1)) 0 (m 106 (((4 * LFn m (Lc m a k - 3) 0) + 2).toNat)) (m 106 (((4 * LFn m (Lc m a k - 3) 0) + 3).toNat)) (by omega) (by omega) (by omega) (stK.symm) ((lf.2 lfy).2.1.symm) (by rw [if_pos (by rw [(lf.2 lfy).2.1]; omega)]; exact ((lf.2 lfy).2.2 (by rw [(lf.2 lfy).2.1]; omega)).symm) (v9_2) (wk) (by omega) (by omega)
              · show qJ YX12_spell κ _ (qLy u, (q_row (q_row m 117 f) 118 g), y) 0 0 104 [some (qR 77), some (qI a), some (qI k), some (qI (cons (lt m a k))), some (qI (lt m a (k + 1))), some (qI 0), some (qI (if LFn m (Lc m a k - 3) 0 = -1 then -1 else 4 * LFn m (Lc m a k - 3) 0)), none, none] []
                have lfn : LFn m (Lc m a k - 3) 0 = -1 := by rcases lfq with q | q; exact q.1; omega
                refine qJ.run hκ 5 (pc' := 122) (ls' := [some (qR 77), some (qI a), some (qI k), some (qI (cons (lt m a k))), some (qI (lt m a (k + 1))), some (qI 0), some (qI (if LFn m (Lc m a k - 3) 0 = -1 then -1 else 4 * LFn m (Lc m a k - 3) 0)), some (qI (-1)), none]) (st' := [qI 3, qI (-1)]) rfl ?_
                refine qJ.icmp_ne hκ (tgt := 137) rfl rfl (by omega) (by omega) (fun c122 => ?_) (fun c122 => ?_)
                · show qJ YX12_spell κ _ (qLy u, (q_row (q_row m 117 f) 118 g), y) 0 0 137 [some (qR 77), some (qI a), some (qI k), some (qI (cons (lt m a k))), some (qI (lt m a (k + 1))), some (qI 0), some (qI (if LFn m (Lc m a k - 3) 0 = -1 then -1 else 4 * LFn m (Lc m a k - 3) 0)), some (qI (-1)), none] []
                  refine qJ.run hκ 2 (pc' := 140) (ls' := [some (qR 77), some (qI a), some (qI k), some (qI (cons (lt m a k))), some (qI (lt m a (k + 1))), some (qI 0), some (qI (if LFn m (Lc m a k - 3) 0 = -1 then -1 else 4 * LFn m (Lc m a k - 3) 0)), some (qI (-1)), some (qI (cons (lt m a k)))]) (st' := []) rfl ?_
                  refine qJ.dl [true, true, true, false, true, true, false, true, true] ?_
                  show qJ YX12_spell κ _ (qLy u, (q_row (q_row m 117 f) 118 g), y) 0 0 140 [some (qR 77), some (qI a), some (qI k), none, some (qI (lt m a (k + 1))), some (qI 0), none, some (qI (-1)), some (qI (cons (lt m a k)))] []
                  exact L140 1 f g (lt m a (k + 1)) 0 (-1) (cons (lt m a k)) (by omega) (by omega) (by omega) (stK.symm) ((lf.1 lfn).symm) (by rw [if_neg (by rw [lf.1 lfn]; omega)]; exact cK) (v9_2) (wk) (by omega) (by omega)
                · exact absurd c122 (by decide)
          · show qJ YX12_spell κ _ (qLy u, (q_row (q_row m 117 f) 118 g), y) 0 0 69 [some (qR 77), some (qI a), some (qI k), some (qI (cons (lt m a k))), some (qI (lt m a (k + 1))), none, none, none, none] []
            have wk : (2 : Int) = 0 → vow (lt m a (k + 1)) = vB m a k ∧ k + 1 < m 17 a.toNat ∧ Lc m a (k + 1) < 4 := fun q => by omega
            refine qJ.run hκ 6 (pc' := 93) (ls' := [some (qR 77), some (qI a), some (qI k), some (qI (cons (lt m a k))), some (qI (lt m a (k + 1))), some (qI 2), none, none, none]) (st' := [qI 2, qI (cons (lt m a k)), qR 77]) rfl ?_
            refine qJ.callV (As := [qI (cons (lt m a k)), qI 2]) (rest := []) hκ rfl kX12_343 (m_lineFor u (q_row (q_row m 117 f) 118 g) y (cons (lt m a k)) 2 (show rXl (q_row (q_row m 117 f) 118 g) from hl) (by omega) (by omega)) rfl rfl (by decide) rfl rfl (Nat.le_of_ble_eq_true rfl) (Nat.le_of_ble_eq_true rfl) (Nat.le_of_ble_eq_true rfl) (Or.inl (fun r h' e => by obtain ⟨rfl, rfl⟩ := e; rfl)) (fun r h' e => ?_)
            obtain ⟨rfl, rfl⟩ := e
            rw [show LFn (q_row (q_row m 117 f) 118 g) (cons (lt m a k)) 2 = LFn m (Lc m a k - 3) 2 from by rw [cK]; rfl]
            have lf := LF_s hl (c := Lc m a k - 3) (w := 2) (by omega) (by omega)
            have stK : stA m a k = 2 := by unfold stA; first | rw [if_pos (by omega)] | rw [if_neg (by omega), if_pos (by omega)] | rw [if_neg (by omega), if_neg (by omega)]
            have lfq : (LFn m (Lc m a k - 3) 2 = -1 ∧ (if LFn m (Lc m a k - 3) 2 = -1 then -1 else 4 * LFn m (Lc m a k - 3) 2) = -1) ∨ (¬ LFn m (Lc m a k - 3) 2 = -1 ∧ (if LFn m (Lc m a k - 3) 2 = -1 then -1 else 4 * LFn m (Lc m a k - 3) 2) = 4 * LFn m (Lc m a k - 3) 2 ∧ 0 ≤ LFn m (Lc m a k - 3) 2 ∧ LFn m (Lc m a k - 3) 2 < m 15 4) := by by_cases z : LFn m (Lc m a k - 3) 2 = -1; exact Or.inl ⟨z, if_pos z⟩; exact Or.inr ⟨z, if_neg z, (lf.2 z).1⟩
            show qJ YX12_spell κ _ (qLy u, (q_row (q_row m 117 f) 118 g), y) 0 0 96 [some (qR 77), some (qI a), some (qI k), some (qI (cons (lt m a k))), some (qI (lt m a (k + 1))), some (qI 2), none, none, none] [qI (if LFn m (Lc m a k - 3) 2 = -1 then -1 else 4 * LFn m (Lc m a k - 3) 2)]
            refine qJ.run hκ 3 (pc' := 101) (ls' := [some (qR 77), some (qI a), some (qI k), some (qI (cons (lt m a k))), some (qI (lt m a (k + 1))), some (qI 2), some (qI (if LFn m (Lc m a k - 3) 2 = -1 then -1 else 4 * LFn m (Lc m a k - 3) 2)), none, none]) (st' := [qI (-1), qI (if LFn m (Lc m a k - 3) 2 = -1 then -1 else 4 * LFn m (Lc m a k - 3) 2)]) rfl ?_
            refine qJ.icmp_ne hκ (tgt := 108) rfl rfl (by omega) (by omega) (fun c101 => ?_) (fun c101 => ?_)
            · show qJ YX12_spell κ _ (qLy u, (q_row (q_row m 117 f) 118 g), y) 0 0 108 [some (qR 77), some (qI a), some (qI k), some (qI (cons (lt m a k))), some (qI (lt m a (k + 1))), some (qI 2), some (qI (if LFn m (Lc m a k - 3) 2 = -1 then -1 else 4 * LFn m (Lc m a k - 3) 2)), none, none] []
              have lfy : ¬ LFn m (Lc m a k - 3) 2 = -1 := by rcases lfq with q | q; omega; exact q.1
              have lfv : (if LFn m (Lc m a k - 3) 2 = -1 then -1 else 4 * LFn m (Lc m a k - 3) 2) = 4 * LFn m (Lc m a k - 3) 2 := if_neg lfy
              have lle := hl.2.1 (LFn m (Lc m a k - 3) 2) (by omega) (by omega)
              rw [lfv]
              show qJ YX12_spell κ _ (qLy u, (q_row (q_row m 117 f) 118 g), y) 0 0 108 [some (qR 77), some (qI a), some (qI k), some (qI (cons (lt m a k))), some (qI (lt m a (k + 1))), some (qI 2), some (qI (4 * LFn m (Lc m a k - 3) 2)), none, none] []
              refine qJ.run hκ 5 (pc' := 116) (ls' := [some (qR 77), some (qI a), some (qI k), some (qI (cons (lt m a k))), some (qI (lt m a (k + 1))), some (qI 2), some (qI (4 * LFn m (Lc m a k - 3) 2)), none, none]) (st' := [qI ((4 * LFn m (Lc m a k - 3) 2) + 2), qR 106]) rfl ?_
              refine qJ.ald hκ rfl rfl rfl (by decide) (by omega) ?_
              show qJ YX12_spell κ _ (qLy u, (q_row (q_row m 117 f) 118 g), y) 0 0 117 [some (qR 77), some (qI a), some (qI k), some (qI (cons (lt m a k))), some (qI (lt m a (k + 1))), some (qI 2), some (qI (4 * LFn m (Lc m a k - 3) 2)), none, none] [qI (m 106 (((4 * LFn m (Lc m a k - 3) 2) + 2).toNat))]
              refine qJ.run hκ 3 (pc' := 122) (ls' := [some (qR 77), some (qI a), some (qI k), some (qI (cons (lt m a k))), some (qI (lt m a (k + 1))), some (qI 2), some (qI (4 * LFn m (Lc m a k - 3) 2)), some (qI (m 106 (((4 * LFn m (Lc m a k - 3) 2) + 2).toNat))), none]) (st' := [qI 3, qI (m 106 (((4 * LFn m (Lc m a k - 3) 2) + 2).toNat))]) rfl ?_
              refine qJ.icmp_ne hκ (tgt := 137) rfl rfl (by omega) (by omega) (fun c122 => ?_) (fun c122 => ?_)
              · show qJ YX12_spell κ _ (qLy u, (q_row (q_row m 117 f) 118 g), y) 0 0 137 [some (qR 77), some (qI a), some (qI k), some (qI (cons (lt m a k))), some (qI (lt m a (k + 1))), some (qI 2), some (qI (4 * LFn m (Lc m a k - 3) 2)), some (qI (m 106 (((4 * LFn m (Lc m a k - 3) 2) + 2).toNat))), none] []
                refine qJ.run hκ 2 (pc' := 140) (ls' := [some (qR 77), some (qI a), some (qI k), some (qI (cons (lt m a k))), some (qI (lt m a (k + 1))), some (qI 2), some (qI (4 * LFn m (Lc m a k - 3) 2)), some (qI (m 106 (((4 * LFn m (Lc m a k - 3) 2) + 2).toNat))), some (qI (cons (lt m a k)))]) (st' := []) rfl ?_
                refine qJ.dl [true, true, true, false, true, true, false, true, true] ?_
                show qJ YX12_spell κ _ (qLy u, (q_row (q_row m 117 f) 118 g), y) 0 0 140 [some (qR 77), some (qI a), some (qI k), none, some (qI (lt m a (k + 1))), some (qI 2), none, some (qI (m 106 (((4 * LFn m (Lc m a k - 3) 2) + 2).toNat))), some (qI (cons (lt m a k)))] []
                exact L140 1 f g (lt m a (k + 1)) 2 (m 106 (((4 * LFn m (Lc m a k - 3) 2) + 2).toNat)) (cons (lt m a k)) (by omega) (by omega) (by omega) (stK.symm) ((lf.2 lfy).2.1.symm) (by rw [if_neg (by rw [(lf.2 lfy).2.1]; exact c122)]; exact cK) (v9_2) (wk) (by omega) (by omega)
              · show qJ YX12_spell κ _ (qLy u, (q_row (q_row m 117 f) 118 g), y) 0 0 125 [some (qR 77), some (qI a), some (qI k), some (qI (cons (lt m a k))), some (qI (lt m a (k + 1))), some (qI 2), some (qI (4 * LFn m (Lc m a k - 3) 2)), some (qI (m 106 (((4 * LFn m (Lc m a k - 3) 2) + 2).toNat))), none] []
                refine qJ.run hκ 5 (pc' := 133) (ls' := [some (qR 77), some (qI a), some (qI k), some (qI (cons (lt m a k))), some (qI (lt m a (k + 1))), some (qI 2), some (qI (4 * LFn m (Lc m a k - 3) 2)), some (qI (m 106 (((4 * LFn m (Lc m a k - 3) 2) + 2).toNat))), none]) (st' := [qI ((4 * LFn m (Lc m a k - 3) 2) + 3), qR 106]) rfl ?_
                refine qJ.ald hκ rfl rfl rfl (by decide) (by omega) ?_
                show qJ YX12_spell κ _ (qLy u, (q_row (q_row m 117 f) 118 g), y) 0 0 134 [some (qR 77), some (qI a), some (qI k), some (qI (cons (lt m a k))), some (qI (lt m a (k + 1))), some (qI 2), some (qI (4 * LFn m (Lc m a k - 3) 2)), some (qI (m 106 (((4 * LFn m (Lc m a k - 3) 2) + 2).toNat))), none] [qI (m 106 (((4 * LFn m (Lc m a k - 3) 2) + 3).toNat))]
                refine qJ.run hκ 2 (pc' := 140) (ls' := [some (qR 77), some (qI a), some (qI k), some (qI (cons (lt m a k))), some (qI (lt m a (k + 1))), some (qI 2), some (qI (4 * LFn m (Lc m a k - 3) 2)), some (qI (m 106 (((4 * LFn m (Lc m a k - 3) 2) + 2).toNat))), some (qI (m 106 (((4 * LFn m (Lc m a k - 3) 2) + 3).toNat)))]) (st' := []) rfl ?_
                refine qJ.dl [true, true, true, false, true, true, false, true, true] ?_
                show qJ YX12_spell κ _ (qLy u, (q_row (q_row m 117 f) 118 g), y) 0 0 140 [some (qR 77), some (qI a), some (qI k), none, some (qI (lt m a (k + 1))), some (qI 2), none, some (qI (m 106 (((4 * LFn m (Lc m a k - 3) 2) + 2).toNat))), some (qI (m 106 (((4 * LFn m (Lc m a k - 3) 2) + 3).toNat)))] []
                exact L140 1 f g (lt m a (k + 1)) 2 (m 106 (((4 * LFn m (Lc m a k - 3) 2) + 2).toNat)) (m 106 (((4 * LFn m (Lc m a k - 3) 2) + 3).toNat)) (by omega) (by omega) (by omega) (stK.symm) ((lf.2 lfy).2.1.symm) (by rw [if_pos (by rw [(lf.2 lfy).2.1]; omega)]; exact ((lf.2 lfy).2.2 (by rw [(lf.2 lfy).2.1]; omega)).symm) (v9_2) (wk) (by omega) (by omega)
            · show qJ YX12_spell κ _ (qLy u, (q_row (q_row m 117 f) 118 g), y) 0 0 104 [some (qR 77), some (qI a), some (qI k), some (qI (cons (lt m a k))), some (qI (lt m a (k + 1))), some (qI 2), some (qI (if LFn m (Lc m a k - 3) 2 = -1 then -1 else 4 * LFn m (Lc m a k - 3) 2)), none, none] []
              have lfn : LFn m (Lc m a k - 3) 2 = -1 := by rcases lfq with q | q; exact q.1; omega
              refine qJ.run hκ 5 (pc' := 122) (ls' := [some (qR 77), some (qI a), some (qI k), some (qI (cons (lt m a k))), some (qI (lt m a (k + 1))), some (qI 2), some (qI (if LFn m (Lc m a k - 3) 2 = -1 then -1 else 4 * LFn m (Lc m a k - 3) 2)), some (qI (-1)), none]) (st' := [qI 3, qI (-1)]) rfl ?_
              refine qJ.icmp_ne hκ (tgt := 137) rfl rfl (by omega) (by omega) (fun c122 => ?_) (fun c122 => ?_)
              · show qJ YX12_spell κ _ (qLy u, (q_row (q_row m 117 f) 118 g), y) 0 0 137 [some (qR 77), some (qI a), some (qI k), some (qI (cons (lt m a k))), some (qI (lt m a (k + 1))), some (qI 2), some (qI (if LFn m (Lc m a k - 3) 2 = -1 then -1 else 4 * LFn m (Lc m a k - 3) 2)), some (qI (-1)), none] []
                refine qJ.run hκ 2 (pc' := 140) (ls' := [some (qR 77), some (qI a), some (qI k), some (qI (cons (lt m a k))), some (qI (lt m a (k + 1))), some (qI 2), some (qI (if LFn m (Lc m a k - 3) 2 = -1 then -1 else 4 * LFn m (Lc m a k - 3) 2)), some (qI (-1)), some (qI (cons (lt m a k)))]) (st' := []) rfl ?_
                refine qJ.dl [true, true, true, false, true, true, false, true, true] ?_
                show qJ YX12_spell κ _ (qLy u, (q_row (q_row m 117 f) 118 g), y) 0 0 140 [some (qR 77), some (qI a), some (qI k), none, some (qI (lt m a (k + 1))), some (qI 2), none, some (qI (-1)), some (qI (cons (lt m a k)))] []
                exact L140 1 f g (lt m a (k + 1)) 2 (-1) (cons (lt m a k)) (by omega) (by omega) (by omega) (stK.symm) ((lf.1 lfn).symm) (by rw [if_neg (by rw [lf.1 lfn]; omega)]; exact cK) (v9_2) (wk) (by omega) (by omega)
              · exact absurd c122 (by decide)
        · show qJ YX12_spell κ _ (qLy u, (q_row (q_row m 117 f) 118 g), y) 0 0 43 [some (qR 77), some (qI a), some (qI k), some (qI (cons (lt m a k))), some (qI (lt m a (k + 1))), none, none, none, none] []
          refine qJ.run hκ 6 (pc' := 49) (ls' := [some (qR 77), some (qI a), some (qI k), some (qI (cons (lt m a k))), some (qI (lt m a (k + 1))), none, none, none, none]) (st' := [qI k, qI a, qR 77, qI 0, qI a, qR 77]) rfl ?_
          refine qJ.callV (As := [qI a, qI k]) (rest := [qI 0, qI a, qR 77]) hκ rfl kX12_336 (m_letterAt u (q_row (q_row m 117 f) 118 g) y a k (show rXn (q_row (q_row m 117 f) 118 g) from hX) ha (by omega)) rfl rfl (by decide) rfl rfl (Nat.le_of_ble_eq_true rfl) (Nat.le_of_ble_eq_true rfl) (Nat.le_of_ble_eq_true rfl) (Or.inl (fun r h' e => by obtain ⟨rfl, rfl⟩ := e; rfl)) (fun r h' e => ?_)
          obtain ⟨rfl, rfl⟩ := e
          show qJ YX12_spell κ _ (qLy u, (q_row (q_row m 117 f) 118 g), y) 0 0 52 [some (qR 77), some (qI a), some (qI k), some (qI (cons (lt m a k))), some (qI (lt m a (k + 1))), none, none, none, none] [qI (lt m a k), qI 0, qI a, qR 77]
          refine qJ.callS (As := [qI (lt m a k)]) (rest := [qI 0, qI a, qR 77]) hκ rfl kX12_261 (m_vow u (q_row (q_row m 117 f) 118 g) y (lt m a k) (by omega)) (by decide) rfl rfl (Nat.le_of_ble_eq_true rfl) (Nat.le_of_ble_eq_true rfl) (Nat.le_of_ble_eq_true rfl) (Or.inl (fun r h' e => by obtain ⟨rfl, rfl⟩ := e; rfl)) (fun r h' e => ?_)
          obtain ⟨rfl, rfl⟩ := e
          show qJ YX12_spell κ _ (qLy u, (q_row (q_row m 117 f) 118 g), y) 0 0 55 [some (qR 77), some (qI a), some (qI k), some (qI (cons (lt m a k))), some (qI (lt m a (k + 1))), none, none, none, none] [qI (vow (lt m a k)), qI 0, qI a, qR 77]
          refine qJ.callV (As := [qI a, qI 0, qI (vow (lt m a k))]) (rest := []) hκ rfl kX12_339 (m_say u m y f g a 0 (vow (lt m a k)) (by omega) (by omega) (by omega)) rfl rfl (by decide) rfl rfl (Nat.le_of_ble_eq_true rfl) (Nat.le_of_ble_eq_true rfl) (Nat.le_of_ble_eq_true rfl) (Or.inl (fun r h' e => by obtain ⟨rfl, f1, g1, rfl, hsay⟩ := e; rfl)) (fun r h' e => ?_)
          obtain ⟨rfl, f1, g1, rfl, hsay⟩ := e
          show qJ YX12_spell κ _ (qLy u, (q_row (q_row m 117 f1) 118 g1), y) 0 0 58 [some (qR 77), some (qI a), some (qI k), some (qI (cons (lt m a k))), some (qI (lt m a (k + 1))), none, none, none, none] []
          refine qJ.run hκ 2 (pc' := 9) (ls' := [some (qR 77), some (qI a), some (qI (k + 1)), some (qI (cons (lt m a k))), some (qI (lt m a (k + 1))), none, none, none, none]) (st' := []) rfl ?_
          refine qJ.dl [true, true, true, false, false, false, false, false, false] ?_
          show qJ YX12_spell κ _ (qLy u, (q_row (q_row m 117 f1) 118 g1), y) 0 0 9 [some (qR 77), some (qI a), some (qI (k + 1)), none, none, none, none, none, none] []
          exact qJ.cast (ih9  f1 g1 (k + 1) (by omega) (by omega) (ST_say v9_2 (by omega) (by omega) hsay (by unfold pV; rw [if_pos (by omega), if_neg (by omega), if_neg (by omega)]; omega) (by omega)) (fun q => by rw [show k + 1 - 1 = k by omega] at q; omega) (by omega)) (rfl) rfl rfl
  show qJ YX12_spell κ _ (qLy u, m, y) 0 0 0 [some (qR 77), some (qI a), none, none, none, none, none, none, none] []
  refine qJ.run hκ 4 (pc' := 6) (ls' := [some (qR 77), some (qI a), none, none, none, none, none, none, none]) (st' := [qI 0, qI a, qR 118]) rfl ?_
  refine qJ.ast hκ rfl rfl rfl (by decide) (by omega) ?_
  show qJ YX12_spell κ _ (qLy u, (q_up m 118 a.toNat 0), y) 0 0 7 [some (qR 77), some (qI a), none, none, none, none, none, none, none] []
  refine qJ.run hκ 2 (pc' := 9) (ls' := [some (qR 77), some (qI a), some (qI 0), none, none, none, none, none, none]) (st' := []) rfl ?_
  exact qJ.cast (L9 12 (m 117) (q_fu (m 118) a.toNat 0) 0 (by omega) (by omega) (⟨fun j _ => rfl, fun b hb => q_fu_ne hb, q_fu_eq, fun j h1 h2 => by omega⟩) (by omega) (by omega)) (by rw [q_up_row, q_row_self]) rfl rfl

/-! printed by p49.py: feed, end, fault, name -/
set_option maxRecDepth 100000 in
theorem x_feed (u : qU) (m y : qM) (a b c d e : Int) (hT : 0 ≤ m 1 4 ∧ m 1 4 ≤ 400) : qCt YX11_feed 2 0 0 [qR 0, qI a, qI b, qI c, qI d, qI e] (qLy u, m, y) (fun r h => (r = some (qI (m 1 4 + 20)) ∧ m 1 4 ≤ 380 ∧ ∃ gv, h = (qLy u, (q_up (q_row (q_row m 23 gv) 21 (fu20 (m 21) (m 1 4) a b c d e)) 1 4 (m 1 4 + 20)), y)) ∨ (r = some (qI (-1)) ∧ ¬ m 1 4 ≤ 380 ∧ h = (qLy u, m, y))) := by
  refine qCt.intro okX11_feed (Nat.le_of_ble_eq_true rfl) (fun κ hκ => ?_)
  obtain ⟨gv, hgv⟩ : ∃ gv, gv = q_fu (q_fu (q_fu (q_fu (q_fu (m 23) 0 a) 1 b) 2 c) 3 d) 4 e := ⟨_, rfl⟩
  have gve : ∀ k : Nat, k < 5 → gv k = wv a b c d e k := by rw [hgv]; exact wv_fu
  have g0 : gv 0 = a := gve 0 (by decide)
  have g1 : gv 1 = b := gve 1 (by decide)
  have g2 : gv 2 = c := gve 2 (by decide)
  have g3 : gv 3 = d := gve 3 (by decide)
  have g4 : gv 4 = e := gve 4 (by decide)
  show qJ YX11_feed κ _ (qLy u, m, y) 0 0 0 [some (qR 0), some (qI a), some (qI b), some (qI c), some (qI d), some (qI e), none] []
  refine qJ.run hκ 4 (pc' := 10) (ls' := [some (qR 0), some (qI a), some (qI b), some (qI c), some (qI d), some (qI e), none]) (st' := [qI 380, qI (m 1 4)]) rfl ?_
  refine qJ.icmp_le hκ (tgt := 15) rfl rfl (by omega) (by omega) (fun c10 => ?_) (fun c10 => ?_)
  · show qJ YX11_feed κ _ (qLy u, m, y) 0 0 15 [some (qR 0), some (qI a), some (qI b), some (qI c), some (qI d), some (qI e), none] []
    refine qJ.run hκ 6 (pc' := 23) (ls' := [some (qR 0), some (qI a), some (qI b), some (qI c), some (qI d), some (qI e), none]) (st' := [qI e, qI d, qI c, qI b, qI a, qR 0]) rfl ?_
    refine qJ.callV (As := [qI a, qI b, qI c, qI d, qI e]) (rest := []) hκ rfl kX11_89 (c_give u m y a b c d e) rfl rfl (by decide) rfl rfl (Nat.le_of_ble_eq_true rfl) (Nat.le_of_ble_eq_true rfl) (Nat.le_of_ble_eq_true rfl) (Or.inl (fun r h' e => by obtain ⟨rfl, rfl⟩ := e; rfl)) (fun r h' e => ?_)
    obtain ⟨rfl, rfl⟩ := e
    refine qJ.mc (m1 := (q_up (q_up (q_up (q_up (q_up m 23 0 a) 23 1 b) 23 2 c) 23 3 d) 23 4 e)) (m2 := (q_row m 23 gv)) (by rw [hgv, q_up5]) ?_
    show qJ YX11_feed κ _ (qLy u, (q_row m 23 gv), y) 0 0 26 [some (qR 0), some (qI a), some (qI b), some (qI c), some (qI d), some (qI e), none] []
    refine qJ.run hκ 6 (pc' := 36) (ls' := [some (qR 0), some (qI a), some (qI b), some (qI c), some (qI d), some (qI e), some (qI 0)]) (st' := [qI 5, qI 0]) rfl ?_
    refine qJ.icmp_ge hκ (tgt := 59) rfl rfl (by omega) (by omega) (fun c36 => ?_) (fun c36 => ?_)
    · exact absurd c36 (by decide)
    · show qJ YX11_feed κ _ (qLy u, (q_row m 23 gv), y) 0 0 39 [some (qR 0), some (qI a), some (qI b), some (qI c), some (qI d), some (qI e), some (qI 0)] []
      refine qJ.run hκ 5 (pc' := 49) (ls' := [some (qR 0), some (qI a), some (qI b), some (qI c), some (qI d), some (qI e), some (qI 0)]) (st' := [qI 0, qR 23, qR 1]) rfl ?_
      refine qJ.ald hκ rfl rfl rfl (by decide) (by omega) ?_
      show qJ YX11_feed κ _ (qLy u, (q_row m 23 gv), y) 0 0 50 [some (qR 0), some (qI a), some (qI b), some (qI c), some (qI d), some (qI e), some (qI 0)] [qI (gv 0), qR 1]
      refine qJ.mc (m1 := (q_row m 23 gv)) (m2 := (q_up (q_row (q_row m 23 gv) 21 (m 21)) 1 4 (m 1 4))) (by rw [q_row_id (m := q_row m 23 gv) (a := 21) (f := m 21) rfl, q_up_id (m := q_row m 23 gv) (a := 1) (k := 4) (v := m 1 4) rfl]) ?_
      refine qJ.callV (As := [qI (gv 0)]) (rest := []) hκ rfl kX11_275 (c_app u (q_row m 23 gv) y (m 21) (m 1 4) (gv 0) (by omega)) rfl rfl (by decide) rfl rfl (Nat.le_of_ble_eq_true rfl) (Nat.le_of_ble_eq_true rfl) (Nat.le_of_ble_eq_true rfl) (Or.inl (fun r h' e => by obtain ⟨rfl, rfl⟩ := e; rfl)) (fun r h' e => ?_)
      obtain ⟨rfl, rfl⟩ := e
      show qJ YX11_feed κ _ (qLy u, (q_up (q_row (q_row m 23 gv) 21 (fu4 (m 21) (m 1 4) (gv 0))) 1 4 ((m 1 4) + 4)), y) 0 0 53 [some (qR 0), some (qI a), some (qI b), some (qI c), some (qI d), some (qI e), some (qI 0)] []
      refine qJ.run hκ 6 (pc' := 36) (ls' := [some (qR 0), some (qI a), some (qI b), some (qI c), some (qI d), some (qI e), some (qI 1)]) (st' := [qI 5, qI 1]) rfl ?_
      refine qJ.icmp_ge hκ (tgt := 59) rfl rfl (by omega) (by omega) (fun c36 => ?_) (fun c36 => ?_)
      · exact absurd c36 (by decide)
      · show qJ YX11_feed κ _ (qLy u, (q_up (q_row (q_row m 23 gv) 21 (fu4 (m 21) (m 1 4) (gv 0))) 1 4 ((m 1 4) + 4)), y) 0 0 39 [some (qR 0), some (qI a), some (qI b), some (qI c), some (qI d), some (qI e), some (qI 1)] []
        refine qJ.run hκ 5 (pc' := 49) (ls' := [some (qR 0), some (qI a), some (qI b), some (qI c), some (qI d), some (qI e), some (qI 1)]) (st' := [qI 1, qR 23, qR 1]) rfl ?_
        refine qJ.ald hκ rfl rfl rfl (by decide) (by omega) ?_
        show qJ YX11_feed κ _ (qLy u, (q_up (q_row (q_row m 23 gv) 21 (fu4 (m 21) (m 1 4) (gv 0))) 1 4 ((m 1 4) + 4)), y) 0 0 50 [some (qR 0), some (qI a), some (qI b), some (qI c), some (qI d), some (qI e), some (qI 1)] [qI (gv 1), qR 1]
        refine qJ.callV (As := [qI (gv 1)]) (rest := []) hκ rfl kX11_275 (c_app u (q_row m 23 gv) y (fu4 (m 21) (m 1 4) (gv 0)) ((m 1 4) + 4) (gv 1) (by omega)) rfl rfl (by decide) rfl rfl (Nat.le_of_ble_eq_true rfl) (Nat.le_of_ble_eq_true rfl) (Nat.le_of_ble_eq_true rfl) (Or.inl (fun r h' e => by obtain ⟨rfl, rfl⟩ := e; rfl)) (fun r h' e => ?_)
        obtain ⟨rfl, rfl⟩ := e
        show qJ YX11_feed κ _ (qLy u, (q_up (q_row (q_row m 23 gv) 21 (fu4 (fu4 (m 21) (m 1 4) (gv 0)) ((m 1 4) + 4) (gv 1))) 1 4 (((m 1 4) + 4) + 4)), y) 0 0 53 [some (qR 0), some (qI a), some (qI b), some (qI c), some (qI d), some (qI e), some (qI 1)] []
        refine qJ.run hκ 6 (pc' := 36) (ls' := [some (qR 0), some (qI a), some (qI b), some (qI c), some (qI d), some (qI e), some (qI 2)]) (st' := [qI 5, qI 2]) rfl ?_
        refine qJ.icmp_ge hκ (tgt := 59) rfl rfl (by omega) (by omega) (fun c36 => ?_) (fun c36 => ?_)
        · exact absurd c36 (by decide)
        · show qJ YX11_feed κ _ (qLy u, (q_up (q_row (q_row m 23 gv) 21 (fu4 (fu4 (m 21) (m 1 4) (gv 0)) ((m 1 4) + 4) (gv 1))) 1 4 (((m 1 4) + 4) + 4)), y) 0 0 39 [some (qR 0), some (qI a), some (qI b), some (qI c), some (qI d), some (qI e), some (qI 2)] []
          refine qJ.run hκ 5 (pc' := 49) (ls' := [some (qR 0), some (qI a), some (qI b), some (qI c), some (qI d), some (qI e), some (qI 2)]) (st' := [qI 2, qR 23, qR 1]) rfl ?_
          refine qJ.ald hκ rfl rfl rfl (by decide) (by omega) ?_
          show qJ YX11_feed κ _ (qLy u, (q_up (q_row (q_row m 23 gv) 21 (fu4 (fu4 (m 21) (m 1 4) (gv 0)) ((m 1 4) + 4) (gv 1))) 1 4 (((m 1 4) + 4) + 4)), y) 0 0 50 [some (qR 0), some (qI a), some (qI b), some (qI c), some (qI d), some (qI e), some (qI 2)] [qI (gv 2), qR 1]
          refine qJ.callV (As := [qI (gv 2)]) (rest := []) hκ rfl kX11_275 (c_app u (q_row m 23 gv) y (fu4 (fu4 (m 21) (m 1 4) (gv 0)) ((m 1 4) + 4) (gv 1)) (((m 1 4) + 4) + 4) (gv 2) (by omega)) rfl rfl (by decide) rfl rfl (Nat.le_of_ble_eq_true rfl) (Nat.le_of_ble_eq_true rfl) (Nat.le_of_ble_eq_true rfl) (Or.inl (fun r h' e => by obtain ⟨rfl, rfl⟩ := e; rfl)) (fun r h' e => ?_)
          obtain ⟨rfl, rfl⟩ := e
          show qJ YX11_feed κ _ (qLy u, (q_up (q_row (q_row m 23 gv) 21 (fu4 (fu4 (fu4 (m 21) (m 1 4) (gv 0)) ((m 1 4) + 4) (gv 1)) (((m 1 4) + 4) + 4) (gv 2))) 1 4 ((((m 1 4) + 4) + 4) + 4)), y) 0 0 53 [some (qR 0), some (qI a), some (qI b), some (qI c), some (qI d), some (qI e), some (qI 2)] []
          refine qJ.run hκ 6 (pc' := 36) (ls' := [some (qR 0), some (qI a), some (qI b), some (qI c), some (qI d), some (qI e), some (qI 3)]) (st' := [qI 5, qI 3]) rfl ?_
          refine qJ.icmp_ge hκ (tgt := 59) rfl rfl (by omega) (by omega) (fun c36 => ?_) (fun c36 => ?_)
          · exact absurd c36 (by decide)
          · show qJ YX11_feed κ _ (qLy u, (q_up (q_row (q_row m 23 gv) 21 (fu4 (fu4 (fu4 (m 21) (m 1 4) (gv 0)) ((m 1 4) + 4) (gv 1)) (((m 1 4) + 4) + 4) (gv 2))) 1 4 ((((m 1 4) + 4) + 4) + 4)), y) 0 0 39 [some (qR 0), some (qI a), some (qI b), some (qI c), some (qI d), some (qI e), some (qI 3)] []
            refine qJ.run hκ 5 (pc' := 49) (ls' := [some (qR 0), some (qI a), some (qI b), some (qI c), some (qI d), some (qI e), some (qI 3)]) (st' := [qI 3, qR 23, qR 1]) rfl ?_
            refine qJ.ald hκ rfl rfl rfl (by decide) (by omega) ?_
            show qJ YX11_feed κ _ (qLy u, (q_up (q_row (q_row m 23 gv) 21 (fu4 (fu4 (fu4 (m 21) (m 1 4) (gv 0)) ((m 1 4) + 4) (gv 1)) (((m 1 4) + 4) + 4) (gv 2))) 1 4 ((((m 1 4) + 4) + 4) + 4)), y) 0 0 50 [some (qR 0), some (qI a), some (qI b), some (qI c), some (qI d), some (qI e), some (qI 3)] [qI (gv 3), qR 1]
            refine qJ.callV (As := [qI (gv 3)]) (rest := []) hκ rfl kX11_275 (c_app u (q_row m 23 gv) y (fu4 (fu4 (fu4 (m 21) (m 1 4) (gv 0)) ((m 1 4) + 4) (gv 1)) (((m 1 4) + 4) + 4) (gv 2)) ((((m 1 4) + 4) + 4) + 4) (gv 3) (by omega)) rfl rfl (by decide) rfl rfl (Nat.le_of_ble_eq_true rfl) (Nat.le_of_ble_eq_true rfl) (Nat.le_of_ble_eq_true rfl) (Or.inl (fun r h' e => by obtain ⟨rfl, rfl⟩ := e; rfl)) (fun r h' e => ?_)
            obtain ⟨rfl, rfl⟩ := e
            show qJ YX11_feed κ _ (qLy u, (q_up (q_row (q_row m 23 gv) 21 (fu4 (fu4 (fu4 (fu4 (m 21) (m 1 4) (gv 0)) ((m 1 4) + 4) (gv 1)) (((m 1 4) + 4) + 4) (gv 2)) ((((m 1 4) + 4) + 4) + 4) (gv 3))) 1 4 (((((m 1 4) + 4) + 4) + 4) + 4)), y) 0 0 53 [some (qR 0), some (qI a), some (qI b), some (qI c), some (qI d), some (qI e), some (qI 3)] []
            refine qJ.run hκ 6 (pc' := 36) (ls' := [some (qR 0), some (qI a), some (qI b), some (qI c), some (qI d), some (qI e), some (qI 4)]) (st' := [qI 5, qI 4]) rfl ?_
            refine qJ.icmp_ge hκ (tgt := 59) rfl rfl (by omega) (by omega) (fun c36 => ?_) (fun c36 => ?_)
            · exact absurd c36 (by decide)
            · show qJ YX11_feed κ _ (qLy u, (q_up (q_row (q_row m 23 gv) 21 (fu4 (fu4 (fu4 (fu4 (m 21) (m 1 4) (gv 0)) ((m 1 4) + 4) (gv 1)) (((m 1 4) + 4) + 4) (gv 2)) ((((m 1 4) + 4) + 4) + 4) (gv 3))) 1 4 (((((m 1 4) + 4) + 4) + 4) + 4)), y) 0 0 39 [some (qR 0), some (qI a), some (qI b), some (qI c), some (qI d), some (qI e), some (qI 4)] []
              refine qJ.run hκ 5 (pc' := 49) (ls' := [some (qR 0), some (qI a), some (qI b), some (qI c), some (qI d), some (qI e), some (qI 4)]) (st' := [qI 4, qR 23, qR 1]) rfl ?_
              refine qJ.ald hκ rfl rfl rfl (by decide) (by omega) ?_
              show qJ YX11_feed κ _ (qLy u, (q_up (q_row (q_row m 23 gv) 21 (fu4 (fu4 (fu4 (fu4 (m 21) (m 1 4) (gv 0)) ((m 1 4) + 4) (gv 1)) (((m 1 4) + 4) + 4) (gv 2)) ((((m 1 4) + 4) + 4) + 4) (gv 3))) 1 4 (((((m 1 4) + 4) + 4) + 4) + 4)), y) 0 0 50 [some (qR 0), some (qI a), some (qI b), some (qI c), some (qI d), some (qI e), some (qI 4)] [qI (gv 4), qR 1]
              refine qJ.callV (As := [qI (gv 4)]) (rest := []) hκ rfl kX11_275 (c_app u (q_row m 23 gv) y (fu4 (fu4 (fu4 (fu4 (m 21) (m 1 4) (gv 0)) ((m 1 4) + 4) (gv 1)) (((m 1 4) + 4) + 4) (gv 2)) ((((m 1 4) + 4) + 4) + 4) (gv 3)) (((((m 1 4) + 4) + 4) + 4) + 4) (gv 4) (by omega)) rfl rfl (by decide) rfl rfl (Nat.le_of_ble_eq_true rfl) (Nat.le_of_ble_eq_true rfl) (Nat.le_of_ble_eq_true rfl) (Or.inl (fun r h' e => by obtain ⟨rfl, rfl⟩ := e; rfl)) (fun r h' e => ?_)
              obtain ⟨rfl, rfl⟩ := e
              show qJ YX11_feed κ _ (qLy u, (q_up (q_row (q_row m 23 gv) 21 (fu4 (fu4 (fu4 (fu4 (fu4 (m 21) (m 1 4) (gv 0)) ((m 1 4) + 4) (gv 1)) (((m 1 4) + 4) + 4) (gv 2)) ((((m 1 4) + 4) + 4) + 4) (gv 3)) (((((m 1 4) + 4) + 4) + 4) + 4) (gv 4))) 1 4 ((((((m 1 4) + 4) + 4) + 4) + 4) + 4)), y) 0 0 53 [some (qR 0), some (qI a), some (qI b), some (qI c), some (qI d), some (qI e), some (qI 4)] []
              refine qJ.run hκ 6 (pc' := 36) (ls' := [some (qR 0), some (qI a), some (qI b), some (qI c), some (qI d), some (qI e), some (qI 5)]) (st' := [qI 5, qI 5]) rfl ?_
              refine qJ.icmp_ge hκ (tgt := 59) rfl rfl (by omega) (by omega) (fun c36 => ?_) (fun c36 => ?_)
              · show qJ YX11_feed κ _ (qLy u, (q_up (q_row (q_row m 23 gv) 21 (fu4 (fu4 (fu4 (fu4 (fu4 (m 21) (m 1 4) (gv 0)) ((m 1 4) + 4) (gv 1)) (((m 1 4) + 4) + 4) (gv 2)) ((((m 1 4) + 4) + 4) + 4) (gv 3)) (((((m 1 4) + 4) + 4) + 4) + 4) (gv 4))) 1 4 ((((((m 1 4) + 4) + 4) + 4) + 4) + 4)), y) 0 0 59 [some (qR 0), some (qI a), some (qI b), some (qI c), some (qI d), some (qI e), some (qI 5)] []
                refine qJ.run hκ 3 (pc' := 66) (ls' := [some (qR 0), some (qI a), some (qI b), some (qI c), some (qI d), some (qI e), some (qI 5)]) (st' := [qI ((((((m 1 4) + 4) + 4) + 4) + 4) + 4)]) rfl ?_
                exact qJ.iret hκ rfl rfl (by decide) (by decide) (Or.inl ⟨by congr 2; omega, by omega, gv, by rw [g0, g1, g2, g3, g4, show m 1 4 + 4 + 4 + 4 + 4 + 4 = m 1 4 + 20 by omega]; rfl⟩)
              · exact absurd c36 (by decide)
  · show qJ YX11_feed κ _ (qLy u, m, y) 0 0 13 [some (qR 0), some (qI a), some (qI b), some (qI c), some (qI d), some (qI e), none] []
    refine qJ.run hκ 1 (pc' := 14) (ls' := [some (qR 0), some (qI a), some (qI b), some (qI c), some (qI d), some (qI e), none]) (st' := [qI (-1)]) rfl ?_
    exact qJ.iret hκ rfl rfl (by decide) (by decide) (Or.inr ⟨rfl, by omega, rfl⟩)

set_option maxRecDepth 100000 in
theorem m_feed (u : qU) (m y : qM) (a b c d e : Int) (hT : 0 ≤ m 79 0 ∧ m 79 0 ≤ 400) : qCt YX12_feed 2 0 0 [qR 77, qI a, qI b, qI c, qI d, qI e] (qLy u, m, y) (fun r h => (r = some (qI (m 79 0 + 20)) ∧ m 79 0 ≤ 380 ∧ h = (qLy u, (q_up (q_row (q_up m 77 0 0) 78 (fu20 (m 78) (m 79 0) a b c d e)) 79 0 (m 79 0 + 20)), y)) ∨ (r = some (qI (-1)) ∧ ¬ m 79 0 ≤ 380 ∧ h = (qLy u, q_up m 77 0 0, y))) := by
  refine qCt.intro okX12_feed (Nat.le_of_ble_eq_true rfl) (fun κ hκ => ?_)
  show qJ YX12_feed κ _ (qLy u, m, y) 0 0 0 [some (qR 77), some (qI a), some (qI b), some (qI c), some (qI d), some (qI e)] []
  refine qJ.run hκ 2 (pc' := 2) (ls' := [some (qR 77), some (qI a), some (qI b), some (qI c), some (qI d), some (qI e)]) (st' := [qI 0, qR 77]) rfl ?_
  refine qJ.putI hκ rfl rfl rfl rfl (Or.inl rfl) ?_
  show qJ YX12_feed κ _ (qLy u, (q_up m 77 0 0), y) 0 0 5 [some (qR 77), some (qI a), some (qI b), some (qI c), some (qI d), some (qI e)] []
  refine qJ.run hκ 3 (pc' := 10) (ls' := [some (qR 77), some (qI a), some (qI b), some (qI c), some (qI d), some (qI e)]) (st' := [qI 0, qR 79]) rfl ?_
  refine qJ.ald hκ rfl rfl rfl (by decide) (by omega) ?_
  show qJ YX12_feed κ _ (qLy u, (q_up m 77 0 0), y) 0 0 11 [some (qR 77), some (qI a), some (qI b), some (qI c), some (qI d), some (qI e)] [qI (m 79 0)]
  refine qJ.run hκ 3 (pc' := 17) (ls' := [some (qR 77), some (qI a), some (qI b), some (qI c), some (qI d), some (qI e)]) (st' := [qI 400, qI ((m 79 0) + 20)]) rfl ?_
  refine qJ.icmp_le hκ (tgt := 22) rfl rfl (by omega) (by omega) (fun c17 => ?_) (fun c17 => ?_)
  · show qJ YX12_feed κ _ (qLy u, (q_up m 77 0 0), y) 0 0 22 [some (qR 77), some (qI a), some (qI b), some (qI c), some (qI d), some (qI e)] []
    refine qJ.run hκ 2 (pc' := 24) (ls' := [some (qR 77), some (qI a), some (qI b), some (qI c), some (qI d), some (qI e)]) (st' := [qI a, qR 77]) rfl ?_
    refine qJ.mc (m1 := (q_up m 77 0 0)) (m2 := (q_up (q_row (q_up m 77 0 0) 78 (m 78)) 79 0 (m 79 0))) (by rw [q_row_id (m := (q_up m 77 0 0)) (a := 78) (f := m 78) rfl, q_up_id (m := (q_up m 77 0 0)) (a := 79) (k := 0) (v := m 79 0) rfl]) ?_
    refine qJ.callV (As := [qI a]) (rest := []) hκ rfl kX12_252 (m_four u (q_up m 77 0 0) y (m 78) (m 79 0) a (by omega)) rfl rfl (by decide) rfl rfl (Nat.le_of_ble_eq_true rfl) (Nat.le_of_ble_eq_true rfl) (Nat.le_of_ble_eq_true rfl) (Or.inl (fun r h' e => by obtain ⟨rfl, rfl⟩ := e; rfl)) (fun r h' e => ?_)
    obtain ⟨rfl, rfl⟩ := e
    show qJ YX12_feed κ _ (qLy u, (q_up (q_row (q_up m 77 0 0) 78 (fu4 (m 78) (m 79 0) a)) 79 0 ((m 79 0) + 4)), y) 0 0 27 [some (qR 77), some (qI a), some (qI b), some (qI c), some (qI d), some (qI e)] []
    refine qJ.run hκ 2 (pc' := 29) (ls' := [some (qR 77), some (qI a), some (qI b), some (qI c), some (qI d), some (qI e)]) (st' := [qI b, qR 77]) rfl ?_
    refine qJ.callV (As := [qI b]) (rest := []) hκ rfl kX12_252 (m_four u (q_up m 77 0 0) y (fu4 (m 78) (m 79 0) a) ((m 79 0) + 4) b (by omega)) rfl rfl (by decide) rfl rfl (Nat.le_of_ble_eq_true rfl) (Nat.le_of_ble_eq_true rfl) (Nat.le_of_ble_eq_true rfl) (Or.inl (fun r h' e => by obtain ⟨rfl, rfl⟩ := e; rfl)) (fun r h' e => ?_)
    obtain ⟨rfl, rfl⟩ := e
    show qJ YX12_feed κ _ (qLy u, (q_up (q_row (q_up m 77 0 0) 78 (fu4 (fu4 (m 78) (m 79 0) a) ((m 79 0) + 4) b)) 79 0 (((m 79 0) + 4) + 4)), y) 0 0 32 [some (qR 77), some (qI a), some (qI b), some (qI c), some (qI d), some (qI e)] []
    refine qJ.run hκ 2 (pc' := 34) (ls' := [some (qR 77), some (qI a), some (qI b), some (qI c), some (qI d), some (qI e)]) (st' := [qI c, qR 77]) rfl ?_
    refine qJ.callV (As := [qI c]) (rest := []) hκ rfl kX12_252 (m_four u (q_up m 77 0 0) y (fu4 (fu4 (m 78) (m 79 0) a) ((m 79 0) + 4) b) (((m 79 0) + 4) + 4) c (by omega)) rfl rfl (by decide) rfl rfl (Nat.le_of_ble_eq_true rfl) (Nat.le_of_ble_eq_true rfl) (Nat.le_of_ble_eq_true rfl) (Or.inl (fun r h' e => by obtain ⟨rfl, rfl⟩ := e; rfl)) (fun r h' e => ?_)
    obtain ⟨rfl, rfl⟩ := e
    show qJ YX12_feed κ _ (qLy u, (q_up (q_row (q_up m 77 0 0) 78 (fu4 (fu4 (fu4 (m 78) (m 79 0) a) ((m 79 0) + 4) b) (((m 79 0) + 4) + 4) c)) 79 0 ((((m 79 0) + 4) + 4) + 4)), y) 0 0 37 [some (qR 77), some (qI a), some (qI b), some (qI c), some (qI d), some (qI e)] []
    refine qJ.run hκ 2 (pc' := 40) (ls' := [some (qR 77), some (qI a), some (qI b), some (qI c), some (qI d), some (qI e)]) (st' := [qI d, qR 77]) rfl ?_
    refine qJ.callV (As := [qI d]) (rest := []) hκ rfl kX12_252 (m_four u (q_up m 77 0 0) y (fu4 (fu4 (fu4 (m 78) (m 79 0) a) ((m 79 0) + 4) b) (((m 79 0) + 4) + 4) c) ((((m 79 0) + 4) + 4) + 4) d (by omega)) rfl rfl (by decide) rfl rfl (Nat.le_of_ble_eq_true rfl) (Nat.le_of_ble_eq_true rfl) (Nat.le_of_ble_eq_true rfl) (Or.inl (fun r h' e => by obtain ⟨rfl, rfl⟩ := e; rfl)) (fun r h' e => ?_)
    obtain ⟨rfl, rfl⟩ := e
    show qJ YX12_feed κ _ (qLy u, (q_up (q_row (q_up m 77 0 0) 78 (fu4 (fu4 (fu4 (fu4 (m 78) (m 79 0) a) ((m 79 0) + 4) b) (((m 79 0) + 4) + 4) c) ((((m 79 0) + 4) + 4) + 4) d)) 79 0 (((((m 79 0) + 4) + 4) + 4) + 4)), y) 0 0 43 [some (qR 77), some (qI a), some (qI b), some (qI c), some (qI d), some (qI e)] []
    refine qJ.run hκ 2 (pc' := 46) (ls' := [some (qR 77), some (qI a), some (qI b), some (qI c), some (qI d), some (qI e)]) (st' := [qI e, qR 77]) rfl ?_
    refine qJ.callV (As := [qI e]) (rest := []) hκ rfl kX12_252 (m_four u (q_up m 77 0 0) y (fu4 (fu4 (fu4 (fu4 (m 78) (m 79 0) a) ((m 79 0) + 4) b) (((m 79 0) + 4) + 4) c) ((((m 79 0) + 4) + 4) + 4) d) (((((m 79 0) + 4) + 4) + 4) + 4) e (by omega)) rfl rfl (by decide) rfl rfl (Nat.le_of_ble_eq_true rfl) (Nat.le_of_ble_eq_true rfl) (Nat.le_of_ble_eq_true rfl) (Or.inl (fun r h' e => by obtain ⟨rfl, rfl⟩ := e; rfl)) (fun r h' e => ?_)
    obtain ⟨rfl, rfl⟩ := e
    show qJ YX12_feed κ _ (qLy u, (q_up (q_row (q_up m 77 0 0) 78 (fu4 (fu4 (fu4 (fu4 (fu4 (m 78) (m 79 0) a) ((m 79 0) + 4) b) (((m 79 0) + 4) + 4) c) ((((m 79 0) + 4) + 4) + 4) d) (((((m 79 0) + 4) + 4) + 4) + 4) e)) 79 0 ((((((m 79 0) + 4) + 4) + 4) + 4) + 4)), y) 0 0 49 [some (qR 77), some (qI a), some (qI b), some (qI c), some (qI d), some (qI e)] []
    refine qJ.run hκ 3 (pc' := 54) (ls' := [some (qR 77), some (qI a), some (qI b), some (qI c), some (qI d), some (qI e)]) (st' := [qI 0, qR 79]) rfl ?_
    refine qJ.ald hκ rfl rfl rfl (by decide) (by omega) ?_
    show qJ YX12_feed κ _ (qLy u, (q_up (q_row (q_up m 77 0 0) 78 (fu4 (fu4 (fu4 (fu4 (fu4 (m 78) (m 79 0) a) ((m 79 0) + 4) b) (((m 79 0) + 4) + 4) c) ((((m 79 0) + 4) + 4) + 4) d) (((((m 79 0) + 4) + 4) + 4) + 4) e)) 79 0 ((((((m 79 0) + 4) + 4) + 4) + 4) + 4)), y) 0 0 55 [some (qR 77), some (qI a), some (qI b), some (qI c), some (qI d), some (qI e)] [qI ((((((m 79 0) + 4) + 4) + 4) + 4) + 4)]
    exact qJ.iret hκ rfl rfl (by decide) (by decide) (Or.inl ⟨by congr 2; omega, by omega, by rw [show m 79 0 + 4 + 4 + 4 + 4 + 4 = m 79 0 + 20 by omega]; rfl⟩)
  · show qJ YX12_feed κ _ (qLy u, (q_up m 77 0 0), y) 0 0 20 [some (qR 77), some (qI a), some (qI b), some (qI c), some (qI d), some (qI e)] []
    refine qJ.run hκ 1 (pc' := 21) (ls' := [some (qR 77), some (qI a), some (qI b), some (qI c), some (qI d), some (qI e)]) (st' := [qI (-1)]) rfl ?_
    exact qJ.iret hκ rfl rfl (by decide) (by decide) (Or.inr ⟨rfl, by omega, rfl⟩)

theorem rTp_feed {m m' : qM} {a b c d e : Int} (h : rTp m) (hl : m 1 4 ≤ 380) (h14 : m' 1 4 = m 1 4 + 20) (h15 : m' 1 5 = m 1 5 ∧ m' 1 6 = m 1 6) (h21 : m' 21 = fu20 (m 21) (m 1 4) a b c d e) (h78 : m' 78 = fu20 (m 78) (m 79 0) a b c d e) (h79 : m' 79 0 = m 79 0 + 20) (h80 : m' 80 0 = m 80 0 ∧ m' 81 0 = m 81 0) : rTp m' := by
  obtain ⟨⟨a1, a2⟩, a3, a4, a5⟩ := h
  rw [a2] at h78 h79
  refine ⟨⟨by omega, by omega⟩, fun j hj => ?_, by rw [h80.1, h80.2, h15.1, h15.2]; exact a4, by rw [h15.1, h15.2]; exact a5⟩
  rw [h14] at hj
  rw [h21, h78]
  constructor
  · unfold fu20
    exact fu4_eq (by omega) (fu4_eq (by omega) (fu4_eq (by omega) (fu4_eq (by omega) (fu4_eq (by omega) (fun j hj => (a3 j hj).1))))) j (by omega)
  · unfold fu20
    exact fu4_r (by omega) (fu4_r (by omega) (fu4_r (by omega) (fu4_r (by omega) (fu4_r (by omega) (fun j hj => (a3 j hj).2))))) j (by omega)
def ansFt (m : qM) (w : Int) : Int := if w = 0 then m 1 5 else if w = 1 then m 1 6 else -1
def vow (c : Int) : Int := if c = 97 then 0 else if c = 101 then 1 else if c = 105 then 2 else if c = 111 then 3 else -1
def cons (c : Int) : Int := if c = 107 then 1 else if c = 116 then 2 else if c = 112 then 3 else if c = 115 then 4 else if c = 110 then 5 else if c = 114 then 6 else 0
theorem lc_vc (c : Int) : lcode c = if vow c = -1 then (if cons c = 0 then -1 else cons c + 3) else vow c := by
  by_cases h1 : c = 97
  · subst h1; decide
  by_cases h2 : c = 101
  · subst h2; decide
  by_cases h3 : c = 105
  · subst h3; decide
  by_cases h4 : c = 111
  · subst h4; decide
  by_cases h5 : c = 107
  · subst h5; decide
  by_cases h6 : c = 116
  · subst h6; decide
  by_cases h7 : c = 112
  · subst h7; decide
  by_cases h8 : c = 115
  · subst h8; decide
  by_cases h9 : c = 110
  · subst h9; decide
  by_cases h10 : c = 114
  · subst h10; decide
  unfold lcode vow cons
  rw [if_neg h1, if_neg h2, if_neg h3, if_neg h4, if_neg h5, if_neg h6, if_neg h7, if_neg h8, if_neg h9, if_neg h10, if_neg h1, if_neg h2, if_neg h3, if_neg h4, if_pos rfl, if_neg h5, if_neg h6, if_neg h7, if_neg h8, if_neg h9, if_neg h10, if_pos rfl]
theorem vow_r (c : Int) : -1 ≤ vow c ∧ vow c ≤ 3 := by unfold vow; repeat' split
                                                       all_goals omega
theorem cons_r (c : Int) : 0 ≤ cons c ∧ cons c ≤ 6 := by unfold cons; repeat' split
                                                         all_goals omega
theorem lcode_r (c : Int) : -1 ≤ lcode c ∧ lcode c ≤ 9 := by
  rw [lc_vc]
  have := vow_r c
  have := cons_r c
  repeat' split
  all_goals omega
theorem byteF : ∀ x : Fin 256, (0 ≤ q_i2c (q_and ((x.val : Int) - 128) 255) ∧ q_i2c (q_and ((x.val : Int) - 128) 255) ≤ 255) ∧ lcode (q_i2c (q_and ((x.val : Int) - 128) 255)) = lcode ((x.val : Int) - 128) := by decide +kernel
theorem byte_l {b : Int} (h : -128 ≤ b ∧ b ≤ 127) : (0 ≤ q_i2c (q_and b 255) ∧ q_i2c (q_and b 255) ≤ 255) ∧ lcode (q_i2c (q_and b 255)) = lcode b := by
  have := byteF ⟨(b + 128).toNat, by omega⟩
  simp only [] at this
  rw [show (((b + 128).toNat : Nat) : Int) - 128 = b by omega] at this
  exact this
/-- the first byte that is no letter; 0 if there is none at all -/
def noL (f : Nat → Int) (n : Int) : Int := if n = 0 then 0 else q_fst (fun j => lcode (f j) < 0) n.toNat

set_option maxRecDepth 100000 in
theorem x_end (u : qU) (m y : qM) (v : Int) (hT : 0 ≤ m 1 4 ∧ m 1 4 ≤ 400) (h1 : qr v) : qCt YX11_end 1 0 0 [qR 0, qI v] (qLy u, m, y) (fun r h => (r = some (qI v) ∧ (0 ≤ v ∧ v ≤ m 1 4) ∧ h = (qLy u, q_up m 1 4 v, y)) ∨ (r = some (qI (-1)) ∧ ¬ (0 ≤ v ∧ v ≤ m 1 4) ∧ h = (qLy u, m, y))) := by
  refine qCt.intro okX11_end (Nat.le_of_ble_eq_true rfl) (fun κ hκ => ?_)
  show qJ YX11_end κ _ (qLy u, m, y) 0 0 0 [some (qR 0), some (qI v)] []
  refine qJ.run hκ 1 (pc' := 1) (ls' := [some (qR 0), some (qI v)]) (st' := [qI v]) rfl ?_
  refine qJ.if_lt hκ (tgt := 15) rfl rfl (by omega) (fun c1 => ?_) (fun c1 => ?_)
  · show qJ YX11_end κ _ (qLy u, m, y) 0 0 15 [some (qR 0), some (qI v)] []
    refine qJ.run hκ 1 (pc' := 16) (ls' := [some (qR 0), some (qI v)]) (st' := [qI (-1)]) rfl ?_
    exact qJ.iret hκ rfl rfl (by decide) (by decide) (Or.inr ⟨rfl, by omega, rfl⟩)
  · show qJ YX11_end κ _ (qLy u, m, y) 0 0 4 [some (qR 0), some (qI v)] []
    refine qJ.run hκ 4 (pc' := 12) (ls' := [some (qR 0), some (qI v)]) (st' := [qI (m 1 4), qI v]) rfl ?_
    refine qJ.icmp_le hκ (tgt := 17) rfl rfl (by omega) (by omega) (fun c12 => ?_) (fun c12 => ?_)
    · show qJ YX11_end κ _ (qLy u, m, y) 0 0 17 [some (qR 0), some (qI v)] []
      refine qJ.run hκ 3 (pc' := 22) (ls' := [some (qR 0), some (qI v)]) (st' := [qI v, qR 1]) rfl ?_
      refine qJ.putI hκ rfl rfl rfl rfl (Or.inl rfl) ?_
      show qJ YX11_end κ _ (qLy u, (q_up m 1 4 v), y) 0 0 25 [some (qR 0), some (qI v)] []
      refine qJ.run hκ 1 (pc' := 26) (ls' := [some (qR 0), some (qI v)]) (st' := [qI v]) rfl ?_
      exact qJ.iret hκ rfl rfl (by decide) (by decide) (Or.inl ⟨rfl, by omega, rfl⟩)
    · show qJ YX11_end κ _ (qLy u, m, y) 0 0 15 [some (qR 0), some (qI v)] []
      refine qJ.run hκ 1 (pc' := 16) (ls' := [some (qR 0), some (qI v)]) (st' := [qI (-1)]) rfl ?_
      exact qJ.iret hκ rfl rfl (by decide) (by decide) (Or.inr ⟨rfl, by omega, rfl⟩)

set_option maxRecDepth 100000 in
theorem m_end (u : qU) (m y : qM) (v : Int) (hT : 0 ≤ m 79 0 ∧ m 79 0 ≤ 400) (h1 : qr v) : qCt YX12_end 2 0 0 [qR 77, qI v] (qLy u, m, y) (fun r h => (r = some (qI v) ∧ (0 ≤ v ∧ v ≤ m 79 0) ∧ h = (qLy u, q_up (q_up m 77 0 0) 79 0 v, y)) ∨ (r = some (qI (-1)) ∧ ¬ (0 ≤ v ∧ v ≤ m 79 0) ∧ h = (qLy u, q_up m 77 0 0, y))) := by
  refine qCt.intro okX12_end (Nat.le_of_ble_eq_true rfl) (fun κ hκ => ?_)
  show qJ YX12_end κ _ (qLy u, m, y) 0 0 0 [some (qR 77), some (qI v)] []
  refine qJ.run hκ 2 (pc' := 2) (ls' := [some (qR 77), some (qI v)]) (st' := [qI 0, qR 77]) rfl ?_
  refine qJ.putI hκ rfl rfl rfl rfl (Or.inl rfl) ?_
  show qJ YX12_end κ _ (qLy u, (q_up m 77 0 0), y) 0 0 5 [some (qR 77), some (qI v)] []
  refine qJ.run hκ 5 (pc' := 12) (ls' := [some (qR 77), some (qI v)]) (st' := [qI 0, qR 79, qI 0, qI v]) rfl ?_
  refine qJ.ald hκ rfl rfl rfl (by decide) (by omega) ?_
  show qJ YX12_end κ _ (qLy u, (q_up m 77 0 0), y) 0 0 13 [some (qR 77), some (qI v)] [qI (m 79 0), qI 0, qI v]
  refine qJ.callS (As := [qI v, qI 0, qI (m 79 0)]) (rest := []) hκ rfl kX12_167 (c_in u (q_up m 77 0 0) y v 0 (m 79 0) (by omega) (by omega) (by omega)) (by decide) rfl rfl (Nat.le_of_ble_eq_true rfl) (Nat.le_of_ble_eq_true rfl) (Nat.le_of_ble_eq_true rfl) (Or.inl (fun r h' e => by obtain ⟨z13, rfl, hz13, rfl⟩ := e; rfl)) (fun r h' e => ?_)
  obtain ⟨z13, rfl, hz13, rfl⟩ := e
  show qJ YX12_end κ _ (qLy u, (q_up m 77 0 0), y) 0 0 16 [some (qR 77), some (qI v)] [qI z13]
  refine qJ.if_ne hκ (tgt := 21) rfl rfl (by omega) (fun c16 => ?_) (fun c16 => ?_)
  · show qJ YX12_end κ _ (qLy u, (q_up m 77 0 0), y) 0 0 21 [some (qR 77), some (qI v)] []
    refine qJ.run hκ 4 (pc' := 27) (ls' := [some (qR 77), some (qI v)]) (st' := [qI v, qI 0, qR 79]) rfl ?_
    refine qJ.ast hκ rfl rfl rfl (by decide) (by omega) ?_
    show qJ YX12_end κ _ (qLy u, (q_up (q_up m 77 0 0) 79 0 v), y) 0 0 28 [some (qR 77), some (qI v)] []
    refine qJ.run hκ 1 (pc' := 29) (ls' := [some (qR 77), some (qI v)]) (st' := [qI v]) rfl ?_
    exact qJ.iret hκ rfl rfl (by decide) (by decide) (Or.inl ⟨rfl, by omega, rfl⟩)
  · show qJ YX12_end κ _ (qLy u, (q_up m 77 0 0), y) 0 0 19 [some (qR 77), some (qI v)] []
    refine qJ.run hκ 1 (pc' := 20) (ls' := [some (qR 77), some (qI v)]) (st' := [qI (-1)]) rfl ?_
    exact qJ.iret hκ rfl rfl (by decide) (by decide) (Or.inr ⟨rfl, by omega, rfl⟩)

set_option maxRecDepth 100000 in
theorem x_fault (u : qU) (m y : qM) (w : Int) (h1 : qr w) : qCt YX11_fault 1 0 0 [qR 0, qI w] (qLy u, m, y) (fun r h => r = some (qI (ansFt m w)) ∧ h = (qLy u, m, y)) := by
  refine qCt.intro okX11_fault (Nat.le_of_ble_eq_true rfl) (fun κ hκ => ?_)
  show qJ YX11_fault κ _ (qLy u, m, y) 0 0 0 [some (qR 0), some (qI w)] []
  refine qJ.run hκ 1 (pc' := 1) (ls' := [some (qR 0), some (qI w)]) (st' := [qI w]) rfl ?_
  refine qJ.if_ne hκ (tgt := 12) rfl rfl (by omega) (fun c1 => ?_) (fun c1 => ?_)
  · show qJ YX11_fault κ _ (qLy u, m, y) 0 0 12 [some (qR 0), some (qI w)] []
    refine qJ.run hκ 2 (pc' := 14) (ls' := [some (qR 0), some (qI w)]) (st' := [qI 1, qI w]) rfl ?_
    refine qJ.icmp_ne hκ (tgt := 27) rfl rfl (by omega) (by omega) (fun c14 => ?_) (fun c14 => ?_)
    · show qJ YX11_fault κ _ (qLy u, m, y) 0 0 27 [some (qR 0), some (qI w)] []
      refine qJ.run hκ 1 (pc' := 28) (ls' := [some (qR 0), some (qI w)]) (st' := [qI (-1)]) rfl ?_
      exact qJ.iret hκ rfl rfl (by decide) (by decide) (by first | exact ⟨by unfold ansFt; rw [if_neg c1, if_pos c14], rfl⟩ | exact ⟨by unfold ansFt; rw [if_neg c1, if_neg c14], rfl⟩)
    · show qJ YX11_fault κ _ (qLy u, m, y) 0 0 17 [some (qR 0), some (qI w)] []
      refine qJ.run hκ 4 (pc' := 28) (ls' := [some (qR 0), some (qI w)]) (st' := [qI (m 1 6)]) rfl ?_
      exact qJ.iret hκ rfl rfl (by decide) (by decide) (by first | exact ⟨by unfold ansFt; rw [if_neg c1, if_pos c14], rfl⟩ | exact ⟨by unfold ansFt; rw [if_neg c1, if_neg c14], rfl⟩)
  · show qJ YX11_fault κ _ (qLy u, m, y) 0 0 4 [some (qR 0), some (qI w)] []
    refine qJ.run hκ 3 (pc' := 11) (ls' := [some (qR 0), some (qI w)]) (st' := [qI (m 1 5)]) rfl ?_
    exact qJ.iret hκ rfl rfl (by decide) (by decide) (⟨by unfold ansFt; rw [if_pos c1], rfl⟩)

set_option maxRecDepth 100000 in
theorem m_fault (u : qU) (m y : qM) (w : Int) (h1 : qr w) : qCt YX12_fault 1 0 0 [qR 77, qI w] (qLy u, m, y) (fun r h => r = some (qI (if w = 0 then m 80 0 else if w = 1 then m 81 0 else -1)) ∧ h = (qLy u, q_up m 77 0 0, y)) := by
  refine qCt.intro okX12_fault (Nat.le_of_ble_eq_true rfl) (fun κ hκ => ?_)
  show qJ YX12_fault κ _ (qLy u, m, y) 0 0 0 [some (qR 77), some (qI w)] []
  refine qJ.run hκ 2 (pc' := 2) (ls' := [some (qR 77), some (qI w)]) (st' := [qI 0, qR 77]) rfl ?_
  refine qJ.putI hκ rfl rfl rfl rfl (Or.inl rfl) ?_
  show qJ YX12_fault κ _ (qLy u, (q_up m 77 0 0), y) 0 0 5 [some (qR 77), some (qI w)] []
  refine qJ.run hκ 1 (pc' := 6) (ls' := [some (qR 77), some (qI w)]) (st' := [qI w]) rfl ?_
  refine qJ.if_ne hκ (tgt := 18) rfl rfl (by omega) (fun c6 => ?_) (fun c6 => ?_)
  · show qJ YX12_fault κ _ (qLy u, (q_up m 77 0 0), y) 0 0 18 [some (qR 77), some (qI w)] []
    refine qJ.run hκ 2 (pc' := 20) (ls' := [some (qR 77), some (qI w)]) (st' := [qI 1, qI w]) rfl ?_
    refine qJ.icmp_ne hκ (tgt := 32) rfl rfl (by omega) (by omega) (fun c20 => ?_) (fun c20 => ?_)
    · show qJ YX12_fault κ _ (qLy u, (q_up m 77 0 0), y) 0 0 32 [some (qR 77), some (qI w)] []
      refine qJ.run hκ 1 (pc' := 33) (ls' := [some (qR 77), some (qI w)]) (st' := [qI (-1)]) rfl ?_
      exact qJ.iret hκ rfl rfl (by decide) (by decide) (by first | exact ⟨by rw [if_pos c6], rfl⟩ | exact ⟨by rw [if_neg c6, if_pos c19], rfl⟩ | exact ⟨by rw [if_neg c6, if_pos c20], rfl⟩ | exact ⟨by rw [if_neg c6, if_neg c20], rfl⟩)
    · show qJ YX12_fault κ _ (qLy u, (q_up m 77 0 0), y) 0 0 23 [some (qR 77), some (qI w)] []
      refine qJ.run hκ 3 (pc' := 28) (ls' := [some (qR 77), some (qI w)]) (st' := [qI 0, qR 81]) rfl ?_
      refine qJ.ald hκ rfl rfl rfl (by decide) (by omega) ?_
      show qJ YX12_fault κ _ (qLy u, (q_up m 77 0 0), y) 0 0 29 [some (qR 77), some (qI w)] [qI (m 81 0)]
      refine qJ.run hκ 1 (pc' := 33) (ls' := [some (qR 77), some (qI w)]) (st' := [qI (m 81 0)]) rfl ?_
      exact qJ.iret hκ rfl rfl (by decide) (by decide) (by first | exact ⟨by rw [if_pos c6], rfl⟩ | exact ⟨by rw [if_neg c6, if_pos c19], rfl⟩ | exact ⟨by rw [if_neg c6, if_pos c20], rfl⟩ | exact ⟨by rw [if_neg c6, if_neg c20], rfl⟩)
  · show qJ YX12_fault κ _ (qLy u, (q_up m 77 0 0), y) 0 0 9 [some (qR 77), some (qI w)] []
    refine qJ.run hκ 3 (pc' := 14) (ls' := [some (qR 77), some (qI w)]) (st' := [qI 0, qR 80]) rfl ?_
    refine qJ.ald hκ rfl rfl rfl (by decide) (by omega) ?_
    show qJ YX12_fault κ _ (qLy u, (q_up m 77 0 0), y) 0 0 15 [some (qR 77), some (qI w)] [qI (m 80 0)]
    refine qJ.run hκ 1 (pc' := 33) (ls' := [some (qR 77), some (qI w)]) (st' := [qI (m 80 0)]) rfl ?_
    exact qJ.iret hκ rfl rfl (by decide) (by decide) (by first | exact ⟨by rw [if_pos c6], rfl⟩ | exact ⟨by rw [if_neg c6, if_pos c19], rfl⟩ | exact ⟨by rw [if_neg c6, if_pos c20], rfl⟩ | exact ⟨by rw [if_neg c6, if_neg c20], rfl⟩)

set_option maxRecDepth 100000 in
theorem m_cons (u : qU) (m y : qM) (c : Int) (h1 : qr c) : qCt YX12_consonantOf 1 0 0 [qI c] (qLy u, m, y) (fun r h => r = some (qI (cons c)) ∧ h = (qLy u, m, y)) := by
  refine qCt.intro okX12_consonantOf (Nat.le_of_ble_eq_true rfl) (fun κ hκ => ?_)
  show qJ YX12_consonantOf κ _ (qLy u, m, y) 0 0 0 [some (qI c)] []
  refine qJ.run hκ 2 (pc' := 3) (ls' := [some (qI c)]) (st' := [qI 107, qI c]) rfl ?_
  refine qJ.icmp_ne hκ (tgt := 10) rfl rfl (by omega) (by omega) (fun c3 => ?_) (fun c3 => ?_)
  · show qJ YX12_consonantOf κ _ (qLy u, m, y) 0 0 10 [some (qI c)] []
    refine qJ.run hκ 2 (pc' := 13) (ls' := [some (qI c)]) (st' := [qI 116, qI c]) rfl ?_
    refine qJ.icmp_ne hκ (tgt := 20) rfl rfl (by omega) (by omega) (fun c13 => ?_) (fun c13 => ?_)
    · show qJ YX12_consonantOf κ _ (qLy u, m, y) 0 0 20 [some (qI c)] []
      refine qJ.run hκ 2 (pc' := 23) (ls' := [some (qI c)]) (st' := [qI 112, qI c]) rfl ?_
      refine qJ.icmp_ne hκ (tgt := 30) rfl rfl (by omega) (by omega) (fun c23 => ?_) (fun c23 => ?_)
      · show qJ YX12_consonantOf κ _ (qLy u, m, y) 0 0 30 [some (qI c)] []
        refine qJ.run hκ 2 (pc' := 33) (ls' := [some (qI c)]) (st' := [qI 115, qI c]) rfl ?_
        refine qJ.icmp_ne hκ (tgt := 40) rfl rfl (by omega) (by omega) (fun c33 => ?_) (fun c33 => ?_)
        · show qJ YX12_consonantOf κ _ (qLy u, m, y) 0 0 40 [some (qI c)] []
          refine qJ.run hκ 2 (pc' := 43) (ls' := [some (qI c)]) (st' := [qI 110, qI c]) rfl ?_
          refine qJ.icmp_ne hκ (tgt := 50) rfl rfl (by omega) (by omega) (fun c43 => ?_) (fun c43 => ?_)
          · show qJ YX12_consonantOf κ _ (qLy u, m, y) 0 0 50 [some (qI c)] []
            refine qJ.run hκ 2 (pc' := 53) (ls' := [some (qI c)]) (st' := [qI 114, qI c]) rfl ?_
            refine qJ.icmp_ne hκ (tgt := 61) rfl rfl (by omega) (by omega) (fun c53 => ?_) (fun c53 => ?_)
            · show qJ YX12_consonantOf κ _ (qLy u, m, y) 0 0 61 [some (qI c)] []
              refine qJ.run hκ 1 (pc' := 62) (ls' := [some (qI c)]) (st' := [qI 0]) rfl ?_
              exact qJ.iret hκ rfl rfl (by decide) (by decide) (by first | exact ⟨by unfold cons; rw [if_pos c3], rfl⟩ | exact ⟨by unfold cons; rw [if_neg c3, if_pos c13], rfl⟩ | exact ⟨by unfold cons; rw [if_neg c3, if_neg c13, if_pos c23], rfl⟩ | exact ⟨by unfold cons; rw [if_neg c3, if_neg c13, if_neg c23, if_pos c33], rfl⟩ | exact ⟨by unfold cons; rw [if_neg c3, if_neg c13, if_neg c23, if_neg c33, if_pos c43], rfl⟩ | exact ⟨by unfold cons; rw [if_neg c3, if_neg c13, if_neg c23, if_neg c33, if_neg c43, if_pos c53], rfl⟩ | exact ⟨by unfold cons; rw [if_neg c3, if_neg c13, if_neg c23, if_neg c33, if_neg c43, if_neg c53], rfl⟩)
            · show qJ YX12_consonantOf κ _ (qLy u, m, y) 0 0 56 [some (qI c)] []
              refine qJ.run hκ 2 (pc' := 62) (ls' := [some (qI c)]) (st' := [qI 6]) rfl ?_
              exact qJ.iret hκ rfl rfl (by decide) (by decide) (by first | exact ⟨by unfold cons; rw [if_pos c3], rfl⟩ | exact ⟨by unfold cons; rw [if_neg c3, if_pos c13], rfl⟩ | exact ⟨by unfold cons; rw [if_neg c3, if_neg c13, if_pos c23], rfl⟩ | exact ⟨by unfold cons; rw [if_neg c3, if_neg c13, if_neg c23, if_pos c33], rfl⟩ | exact ⟨by unfold cons; rw [if_neg c3, if_neg c13, if_neg c23, if_neg c33, if_pos c43], rfl⟩ | exact ⟨by unfold cons; rw [if_neg c3, if_neg c13, if_neg c23, if_neg c33, if_neg c43, if_pos c53], rfl⟩ | exact ⟨by unfold cons; rw [if_neg c3, if_neg c13, if_neg c23, if_neg c33, if_neg c43, if_neg c53], rfl⟩)
          · show qJ YX12_consonantOf κ _ (qLy u, m, y) 0 0 46 [some (qI c)] []
            refine qJ.run hκ 2 (pc' := 62) (ls' := [some (qI c)]) (st' := [qI 5]) rfl ?_
            exact qJ.iret hκ rfl rfl (by decide) (by decide) (by first | exact ⟨by unfold cons; rw [if_pos c3], rfl⟩ | exact ⟨by unfold cons; rw [if_neg c3, if_pos c13], rfl⟩ | exact ⟨by unfold cons; rw [if_neg c3, if_neg c13, if_pos c23], rfl⟩ | exact ⟨by unfold cons; rw [if_neg c3, if_neg c13, if_neg c23, if_pos c33], rfl⟩ | exact ⟨by unfold cons; rw [if_neg c3, if_neg c13, if_neg c23, if_neg c33, if_pos c43], rfl⟩ | exact ⟨by unfold cons; rw [if_neg c3, if_neg c13, if_neg c23, if_neg c33, if_neg c43, if_pos c53], rfl⟩ | exact ⟨by unfold cons; rw [if_neg c3, if_neg c13, if_neg c23, if_neg c33, if_neg c43, if_neg c53], rfl⟩)
        · show qJ YX12_consonantOf κ _ (qLy u, m, y) 0 0 36 [some (qI c)] []
          refine qJ.run hκ 2 (pc' := 62) (ls' := [some (qI c)]) (st' := [qI 4]) rfl ?_
          exact qJ.iret hκ rfl rfl (by decide) (by decide) (by first | exact ⟨by unfold cons; rw [if_pos c3], rfl⟩ | exact ⟨by unfold cons; rw [if_neg c3, if_pos c13], rfl⟩ | exact ⟨by unfold cons; rw [if_neg c3, if_neg c13, if_pos c23], rfl⟩ | exact ⟨by unfold cons; rw [if_neg c3, if_neg c13, if_neg c23, if_pos c33], rfl⟩ | exact ⟨by unfold cons; rw [if_neg c3, if_neg c13, if_neg c23, if_neg c33, if_pos c43], rfl⟩ | exact ⟨by unfold cons; rw [if_neg c3, if_neg c13, if_neg c23, if_neg c33, if_neg c43, if_pos c53], rfl⟩ | exact ⟨by unfold cons; rw [if_neg c3, if_neg c13, if_neg c23, if_neg c33, if_neg c43, if_neg c53], rfl⟩)
      · show qJ YX12_consonantOf κ _ (qLy u, m, y) 0 0 26 [some (qI c)] []
        refine qJ.run hκ 2 (pc' := 62) (ls' := [some (qI c)]) (st' := [qI 3]) rfl ?_
        exact qJ.iret hκ rfl rfl (by decide) (by decide) (by first | exact ⟨by unfold cons; rw [if_pos c3], rfl⟩ | exact ⟨by unfold cons; rw [if_neg c3, if_pos c13], rfl⟩ | exact ⟨by unfold cons; rw [if_neg c3, if_neg c13, if_pos c23], rfl⟩ | exact ⟨by unfold cons; rw [if_neg c3, if_neg c13, if_neg c23, if_pos c33], rfl⟩ | exact ⟨by unfold cons; rw [if_neg c3, if_neg c13, if_neg c23, if_neg c33, if_pos c43], rfl⟩ | exact ⟨by unfold cons; rw [if_neg c3, if_neg c13, if_neg c23, if_neg c33, if_neg c43, if_pos c53], rfl⟩ | exact ⟨by unfold cons; rw [if_neg c3, if_neg c13, if_neg c23, if_neg c33, if_neg c43, if_neg c53], rfl⟩)
    · show qJ YX12_consonantOf κ _ (qLy u, m, y) 0 0 16 [some (qI c)] []
      refine qJ.run hκ 2 (pc' := 62) (ls' := [some (qI c)]) (st' := [qI 2]) rfl ?_
      exact qJ.iret hκ rfl rfl (by decide) (by decide) (by first | exact ⟨by unfold cons; rw [if_pos c3], rfl⟩ | exact ⟨by unfold cons; rw [if_neg c3, if_pos c13], rfl⟩ | exact ⟨by unfold cons; rw [if_neg c3, if_neg c13, if_pos c23], rfl⟩ | exact ⟨by unfold cons; rw [if_neg c3, if_neg c13, if_neg c23, if_pos c33], rfl⟩ | exact ⟨by unfold cons; rw [if_neg c3, if_neg c13, if_neg c23, if_neg c33, if_pos c43], rfl⟩ | exact ⟨by unfold cons; rw [if_neg c3, if_neg c13, if_neg c23, if_neg c33, if_neg c43, if_pos c53], rfl⟩ | exact ⟨by unfold cons; rw [if_neg c3, if_neg c13, if_neg c23, if_neg c33, if_neg c43, if_neg c53], rfl⟩)
  · show qJ YX12_consonantOf κ _ (qLy u, m, y) 0 0 6 [some (qI c)] []
    refine qJ.run hκ 2 (pc' := 62) (ls' := [some (qI c)]) (st' := [qI 1]) rfl ?_
    exact qJ.iret hκ rfl rfl (by decide) (by decide) (by first | exact ⟨by unfold cons; rw [if_pos c3], rfl⟩ | exact ⟨by unfold cons; rw [if_neg c3, if_pos c13], rfl⟩ | exact ⟨by unfold cons; rw [if_neg c3, if_neg c13, if_pos c23], rfl⟩ | exact ⟨by unfold cons; rw [if_neg c3, if_neg c13, if_neg c23, if_pos c33], rfl⟩ | exact ⟨by unfold cons; rw [if_neg c3, if_neg c13, if_neg c23, if_neg c33, if_pos c43], rfl⟩ | exact ⟨by unfold cons; rw [if_neg c3, if_neg c13, if_neg c23, if_neg c33, if_neg c43, if_pos c53], rfl⟩ | exact ⟨by unfold cons; rw [if_neg c3, if_neg c13, if_neg c23, if_neg c33, if_neg c43, if_neg c53], rfl⟩)

set_option maxRecDepth 100000 in
theorem m_vow (u : qU) (m y : qM) (c : Int) (h1 : qr c) : qCt YX12_vowelOf 1 0 0 [qI c] (qLy u, m, y) (fun r h => r = some (qI (vow c)) ∧ h = (qLy u, m, y)) := by
  refine qCt.intro okX12_vowelOf (Nat.le_of_ble_eq_true rfl) (fun κ hκ => ?_)
  show qJ YX12_vowelOf κ _ (qLy u, m, y) 0 0 0 [some (qI c)] []
  refine qJ.run hκ 2 (pc' := 3) (ls' := [some (qI c)]) (st' := [qI 97, qI c]) rfl ?_
  refine qJ.icmp_ne hκ (tgt := 10) rfl rfl (by omega) (by omega) (fun c3 => ?_) (fun c3 => ?_)
  · show qJ YX12_vowelOf κ _ (qLy u, m, y) 0 0 10 [some (qI c)] []
    refine qJ.run hκ 2 (pc' := 13) (ls' := [some (qI c)]) (st' := [qI 101, qI c]) rfl ?_
    refine qJ.icmp_ne hκ (tgt := 20) rfl rfl (by omega) (by omega) (fun c13 => ?_) (fun c13 => ?_)
    · show qJ YX12_vowelOf κ _ (qLy u, m, y) 0 0 20 [some (qI c)] []
      refine qJ.run hκ 2 (pc' := 23) (ls' := [some (qI c)]) (st' := [qI 105, qI c]) rfl ?_
      refine qJ.icmp_ne hκ (tgt := 30) rfl rfl (by omega) (by omega) (fun c23 => ?_) (fun c23 => ?_)
      · show qJ YX12_vowelOf κ _ (qLy u, m, y) 0 0 30 [some (qI c)] []
        refine qJ.run hκ 2 (pc' := 33) (ls' := [some (qI c)]) (st' := [qI 111, qI c]) rfl ?_
        refine qJ.icmp_ne hκ (tgt := 40) rfl rfl (by omega) (by omega) (fun c33 => ?_) (fun c33 => ?_)
        · show qJ YX12_vowelOf κ _ (qLy u, m, y) 0 0 40 [some (qI c)] []
          refine qJ.run hκ 1 (pc' := 41) (ls' := [some (qI c)]) (st' := [qI (-1)]) rfl ?_
          exact qJ.iret hκ rfl rfl (by decide) (by decide) (by first | exact ⟨by unfold vow; rw [if_pos c3], rfl⟩ | exact ⟨by unfold vow; rw [if_neg c3, if_pos c13], rfl⟩ | exact ⟨by unfold vow; rw [if_neg c3, if_neg c13, if_pos c23], rfl⟩ | exact ⟨by unfold vow; rw [if_neg c3, if_neg c13, if_neg c23, if_pos c33], rfl⟩ | exact ⟨by unfold vow; rw [if_neg c3, if_neg c13, if_neg c23, if_neg c33], rfl⟩)
        · show qJ YX12_vowelOf κ _ (qLy u, m, y) 0 0 36 [some (qI c)] []
          refine qJ.run hκ 2 (pc' := 41) (ls' := [some (qI c)]) (st' := [qI 3]) rfl ?_
          exact qJ.iret hκ rfl rfl (by decide) (by decide) (by first | exact ⟨by unfold vow; rw [if_pos c3], rfl⟩ | exact ⟨by unfold vow; rw [if_neg c3, if_pos c13], rfl⟩ | exact ⟨by unfold vow; rw [if_neg c3, if_neg c13, if_pos c23], rfl⟩ | exact ⟨by unfold vow; rw [if_neg c3, if_neg c13, if_neg c23, if_pos c33], rfl⟩ | exact ⟨by unfold vow; rw [if_neg c3, if_neg c13, if_neg c23, if_neg c33], rfl⟩)
      · show qJ YX12_vowelOf κ _ (qLy u, m, y) 0 0 26 [some (qI c)] []
        refine qJ.run hκ 2 (pc' := 41) (ls' := [some (qI c)]) (st' := [qI 2]) rfl ?_
        exact qJ.iret hκ rfl rfl (by decide) (by decide) (by first | exact ⟨by unfold vow; rw [if_pos c3], rfl⟩ | exact ⟨by unfold vow; rw [if_neg c3, if_pos c13], rfl⟩ | exact ⟨by unfold vow; rw [if_neg c3, if_neg c13, if_pos c23], rfl⟩ | exact ⟨by unfold vow; rw [if_neg c3, if_neg c13, if_neg c23, if_pos c33], rfl⟩ | exact ⟨by unfold vow; rw [if_neg c3, if_neg c13, if_neg c23, if_neg c33], rfl⟩)
    · show qJ YX12_vowelOf κ _ (qLy u, m, y) 0 0 16 [some (qI c)] []
      refine qJ.run hκ 2 (pc' := 41) (ls' := [some (qI c)]) (st' := [qI 1]) rfl ?_
      exact qJ.iret hκ rfl rfl (by decide) (by decide) (by first | exact ⟨by unfold vow; rw [if_pos c3], rfl⟩ | exact ⟨by unfold vow; rw [if_neg c3, if_pos c13], rfl⟩ | exact ⟨by unfold vow; rw [if_neg c3, if_neg c13, if_pos c23], rfl⟩ | exact ⟨by unfold vow; rw [if_neg c3, if_neg c13, if_neg c23, if_pos c33], rfl⟩ | exact ⟨by unfold vow; rw [if_neg c3, if_neg c13, if_neg c23, if_neg c33], rfl⟩)
  · show qJ YX12_vowelOf κ _ (qLy u, m, y) 0 0 6 [some (qI c)] []
    refine qJ.run hκ 2 (pc' := 41) (ls' := [some (qI c)]) (st' := [qI 0]) rfl ?_
    exact qJ.iret hκ rfl rfl (by decide) (by decide) (by first | exact ⟨by unfold vow; rw [if_pos c3], rfl⟩ | exact ⟨by unfold vow; rw [if_neg c3, if_pos c13], rfl⟩ | exact ⟨by unfold vow; rw [if_neg c3, if_neg c13, if_pos c23], rfl⟩ | exact ⟨by unfold vow; rw [if_neg c3, if_neg c13, if_neg c23, if_pos c33], rfl⟩ | exact ⟨by unfold vow; rw [if_neg c3, if_neg c13, if_neg c23, if_neg c33], rfl⟩)

set_option maxRecDepth 100000 in
theorem c_fnl (u : qU) (m y : qM) (n0 : Int) (h0 : 0 ≤ n0 ∧ n0 ≤ 400) (hb : ∀ j : Nat, (j : Int) < n0 → -128 ≤ m 21 j ∧ m 21 j ≤ 127) : qCt YX9_firstNoLetter 5 0 0 [qR 1, qI n0] (qLy u, m, y) (fun r h => r = some (qI (noL (m 21) n0)) ∧ h = (qLy u, m, y)) := by
  refine qCt.intro okX9_firstNoLetter (Nat.le_of_ble_eq_true rfl) (fun κ hκ => ?_)
  have L2 : ∀ (n : Nat) (i : Int), (0 ≤ i) → (i ≤ n0) → (q_fst (fun j => lcode (m 21 j) < 0) i.toNat = -1) → ((n0 - i).toNat) < n → qJ YX9_firstNoLetter κ (qFin (fun r h => r = some (qI (noL (m 21) n0)) ∧ h = (qLy u, m, y)) 0 0 κ) (qLy u, m, y) 0 0 2 [some (qR 1), some (qI n0), some (qI i)] [] := by
    intro n
    induction n with
    | zero => intro i _ _ _ hz0; omega
    | succ n ih2 =>
      intro i v2_0 v2_1 v2_2 v2_m
      refine qJ.run hκ 2 (pc' := 4) (ls' := [some (qR 1), some (qI n0), some (qI i)]) (st' := [qI n0, qI i]) rfl ?_
      refine qJ.icmp_ge hκ (tgt := 34) rfl rfl (by omega) (by omega) (fun c4 => ?_) (fun c4 => ?_)
      · show qJ YX9_firstNoLetter κ _ (qLy u, m, y) 0 0 34 [some (qR 1), some (qI n0), some (qI i)] []
        refine qJ.run hκ 1 (pc' := 35) (ls' := [some (qR 1), some (qI n0), some (qI i)]) (st' := [qI n0]) rfl ?_
        refine qJ.if_ne hκ (tgt := 42) rfl rfl (by omega) (fun c35 => ?_) (fun c35 => ?_)
        · show qJ YX9_firstNoLetter κ _ (qLy u, m, y) 0 0 42 [some (qR 1), some (qI n0), some (qI i)] []
          refine qJ.run hκ 1 (pc' := 43) (ls' := [some (qR 1), some (qI n0), some (qI i)]) (st' := [qI (-1)]) rfl ?_
          exact qJ.iret hκ rfl rfl (by decide) (by decide) (by first | exact ⟨by unfold noL; rw [if_pos (by omega)], rfl⟩ | exact ⟨by unfold noL; rw [if_neg (by omega), show n0.toNat = i.toNat by omega, v2_2], rfl⟩)
        · show qJ YX9_firstNoLetter κ _ (qLy u, m, y) 0 0 38 [some (qR 1), some (qI n0), some (qI i)] []
          refine qJ.run hκ 2 (pc' := 43) (ls' := [some (qR 1), some (qI n0), some (qI i)]) (st' := [qI 0]) rfl ?_
          exact qJ.iret hκ rfl rfl (by decide) (by decide) (by first | exact ⟨by unfold noL; rw [if_pos (by omega)], rfl⟩ | exact ⟨by unfold noL; rw [if_neg (by omega), show n0.toNat = i.toNat by omega, v2_2], rfl⟩)
      · show qJ YX9_firstNoLetter κ _ (qLy u, m, y) 0 0 7 [some (qR 1), some (qI n0), some (qI i)] []
        have bl := byte_l (hb i.toNat (by omega))
        have lr := lcode_r (m 21 i.toNat)
        refine qJ.ldcS hκ rfl (i := 0) (List.mem_of_getElem? (i := 0) rfl) ?_
        show qJ YX9_firstNoLetter κ _ (qLy u, m, y) 0 0 9 [some (qR 1), some (qI n0), some (qI i)] [qR 1000]
        refine qJ.run hκ 3 (pc' := 14) (ls' := [some (qR 1), some (qI n0), some (qI i)]) (st' := [qI i, qR 21, qR 1000]) rfl ?_
        refine qJ.ald hκ rfl rfl rfl (by decide) (by omega) ?_
        show qJ YX9_firstNoLetter κ _ (qLy u, m, y) 0 0 15 [some (qR 1), some (qI n0), some (qI i)] [qI (m 21 i.toNat), qR 1000]
        refine qJ.run hκ 3 (pc' := 20) (ls' := [some (qR 1), some (qI n0), some (qI i)]) (st' := [qI (q_i2c (q_and (m 21 i.toNat) 255)), qR 1000]) rfl ?_
        refine qJ.callVS (i := 0) (As := [qI (q_i2c (q_and (m 21 i.toNat) 255))]) (rest := []) hκ rfl kX9_57 (c_indexOf u m y (q_i2c (q_and (m 21 i.toNat) 255)) bl.1) (by decide) rfl (by decide) rfl rfl (Nat.le_of_ble_eq_true rfl) (Nat.le_of_ble_eq_true rfl) (Nat.le_of_ble_eq_true rfl) (Or.inl (fun r h' e => by obtain ⟨rfl, rfl⟩ := e; rfl)) (fun r h' e => ?_)
        obtain ⟨rfl, rfl⟩ := e
        rw [bl.2]
        show qJ YX9_firstNoLetter κ _ (qLy u, m, y) 0 0 23 [some (qR 1), some (qI n0), some (qI i)] [qI (lcode (m 21 i.toNat))]
        refine qJ.if_ge hκ (tgt := 28) rfl rfl (by omega) (fun c23 => ?_) (fun c23 => ?_)
        · show qJ YX9_firstNoLetter κ _ (qLy u, m, y) 0 0 28 [some (qR 1), some (qI n0), some (qI i)] []
          refine qJ.run hκ 2 (pc' := 2) (ls' := [some (qR 1), some (qI n0), some (qI (i + 1))]) (st' := []) rfl ?_
          exact ih2  (i + 1) (by omega) (by omega) (q_fst_no v2_0 v2_2 (fun z => by have z2 : lcode (m 21 i.toNat) < 0 := z; omega)) (by omega)
        · show qJ YX9_firstNoLetter κ _ (qLy u, m, y) 0 0 26 [some (qR 1), some (qI n0), some (qI i)] []
          refine qJ.run hκ 1 (pc' := 27) (ls' := [some (qR 1), some (qI n0), some (qI i)]) (st' := [qI i]) rfl ?_
          exact qJ.iret hκ rfl rfl (by decide) (by decide) (⟨by unfold noL; rw [if_neg (by omega), q_fst_hit (p := fun j => lcode (m 21 j) < 0) v2_0 v2_2 (show lcode (m 21 i.toNat) < 0 by omega) _ (by omega)], rfl⟩)
  show qJ YX9_firstNoLetter κ _ (qLy u, m, y) 0 0 0 [some (qR 1), some (qI n0), none] []
  refine qJ.run hκ 2 (pc' := 2) (ls' := [some (qR 1), some (qI n0), some (qI 0)]) (st' := []) rfl ?_
  exact L2 402 0 (by omega) (by omega) (rfl) (by omega)

set_option maxRecDepth 100000 in
theorem c_addName (u : qU) (m y : qM) (n0 dy : Int) (hn : 0 ≤ m 15 0 ∧ m 15 0 < 5) (h0 : 0 ≤ n0 ∧ n0 ≤ 10) (hb : ∀ j : Nat, (j : Int) < n0 → -128 ≤ m 21 j ∧ m 21 j ≤ 127) : qCt YX4_addName 5 0 0 [qR 15, qR 21, qI n0, qI dy] (qLy u, m, y) (fun r h => r = some (qI (m 15 0)) ∧ ∃ f, h = (qLy u, q_up (q_up (q_up (q_row m 16 f) 17 (m 15 0).toNat n0) 18 (m 15 0).toNat dy) 15 0 (m 15 0 + 1), y) ∧ (∀ j : Nat, (j : Int) < m 15 0 * 10 → f j = m 16 j) ∧ ∀ i : Int, 0 ≤ i → i < n0 → f (m 15 0 * 10 + i).toNat = lcode (m 21 i.toNat)) := by
  refine qCt.intro okX4_addName (Nat.le_of_ble_eq_true rfl) (fun κ hκ => ?_)
  have L3 : ∀ (n : Nat) (f : Nat → Int) (i : Int), (0 ≤ i) → (i ≤ n0) → ((∀ j : Nat, (j : Int) < m 15 0 * 10 → f j = m 16 j) ∧ ∀ k : Int, 0 ≤ k → k < i → f (m 15 0 * 10 + k).toNat = lcode (m 21 k.toNat)) → ((n0 - i).toNat) < n → qJ YX4_addName κ (qFin (fun r h => r = some (qI (m 15 0)) ∧ ∃ f, h = (qLy u, q_up (q_up (q_up (q_row m 16 f) 17 (m 15 0).toNat n0) 18 (m 15 0).toNat dy) 15 0 (m 15 0 + 1), y) ∧ (∀ j : Nat, (j : Int) < m 15 0 * 10 → f j = m 16 j) ∧ ∀ i : Int, 0 ≤ i → i < n0 → f (m 15 0 * 10 + i).toNat = lcode (m 21 i.toNat)) 0 0 κ) (qLy u, (q_row m 16 f), y) 0 0 3 [some (qR 15), some (qR 21), some (qI n0), some (qI dy), some (qI i)] [] := by
    intro n
    induction n with
    | zero => intro f i _ _ _ hz0; omega
    | succ n ih3 =>
      intro f i v3_0 v3_1 v3_2 v3_m
      refine qJ.run hκ 2 (pc' := 6) (ls' := [some (qR 15), some (qR 21), some (qI n0), some (qI dy), some (qI i)]) (st' := [qI n0, qI i]) rfl ?_
      refine qJ.icmp_ge hκ (tgt := 44) rfl rfl (by omega) (by omega) (fun c6 => ?_) (fun c6 => ?_)
      · show qJ YX4_addName κ _ (qLy u, (q_row m 16 f), y) 0 0 44 [some (qR 15), some (qR 21), some (qI n0), some (qI dy), some (qI i)] []
        refine qJ.run hκ 5 (pc' := 53) (ls' := [some (qR 15), some (qR 21), some (qI n0), some (qI dy), some (qI i)]) (st' := [qI n0, qI (m 15 0), qR 17]) rfl ?_
        refine qJ.ast hκ rfl rfl rfl (by decide) (by omega) ?_
        show qJ YX4_addName κ _ (qLy u, (q_up (q_row m 16 f) 17 ((m 15 0).toNat) n0), y) 0 0 54 [some (qR 15), some (qR 21), some (qI n0), some (qI dy), some (qI i)] []
        refine qJ.run hκ 5 (pc' := 63) (ls' := [some (qR 15), some (qR 21), some (qI n0), some (qI dy), some (qI i)]) (st' := [qI dy, qI (m 15 0), qR 18]) rfl ?_
        refine qJ.ast hκ rfl rfl rfl (by decide) (by omega) ?_
        show qJ YX4_addName κ _ (qLy u, (q_up (q_up (q_row m 16 f) 17 ((m 15 0).toNat) n0) 18 ((m 15 0).toNat) dy), y) 0 0 64 [some (qR 15), some (qR 21), some (qI n0), some (qI dy), some (qI i)] []
        refine qJ.run hκ 5 (pc' := 71) (ls' := [some (qR 15), some (qR 21), some (qI n0), some (qI dy), some (qI i)]) (st' := [qI ((m 15 0) + 1), qR 15]) rfl ?_
        refine qJ.putI hκ rfl rfl rfl rfl (Or.inl rfl) ?_
        show qJ YX4_addName κ _ (qLy u, (q_up (q_up (q_up (q_row m 16 f) 17 ((m 15 0).toNat) n0) 18 ((m 15 0).toNat) dy) 15 0 ((m 15 0) + 1)), y) 0 0 74 [some (qR 15), some (qR 21), some (qI n0), some (qI dy), some (qI i)] []
        refine qJ.run hκ 4 (pc' := 80) (ls' := [some (qR 15), some (qR 21), some (qI n0), some (qI dy), some (qI i)]) (st' := [qI (((m 15 0) + 1) - 1)]) rfl ?_
        exact qJ.iret hκ rfl rfl (by decide) (by decide) (⟨by congr 2; omega, f, rfl, v3_2.1, by rw [show n0 = i by omega]; exact v3_2.2⟩)
      · show qJ YX4_addName κ _ (qLy u, (q_row m 16 f), y) 0 0 9 [some (qR 15), some (qR 21), some (qI n0), some (qI dy), some (qI i)] []
        refine qJ.run hκ 8 (pc' := 23) (ls' := [some (qR 15), some (qR 21), some (qI n0), some (qI dy), some (qI i)]) (st' := [qI (((m 15 0) * 10) + i), qR 16]) rfl ?_
        have bl := byte_l (hb i.toNat (by omega))
        refine qJ.ldcS hκ rfl (i := 0) (List.mem_of_getElem? (i := 1) rfl) ?_
        show qJ YX4_addName κ _ (qLy u, (q_row m 16 f), y) 0 0 25 [some (qR 15), some (qR 21), some (qI n0), some (qI dy), some (qI i)] [qR 1000, qI (((m 15 0) * 10) + i), qR 16]
        refine qJ.run hκ 2 (pc' := 28) (ls' := [some (qR 15), some (qR 21), some (qI n0), some (qI dy), some (qI i)]) (st' := [qI i, qR 21, qR 1000, qI (((m 15 0) * 10) + i), qR 16]) rfl ?_
        refine qJ.ald hκ rfl rfl rfl (by decide) (by omega) ?_
        show qJ YX4_addName κ _ (qLy u, (q_row m 16 f), y) 0 0 29 [some (qR 15), some (qR 21), some (qI n0), some (qI dy), some (qI i)] [qI (m 21 i.toNat), qR 1000, qI (((m 15 0) * 10) + i), qR 16]
        refine qJ.run hκ 3 (pc' := 34) (ls' := [some (qR 15), some (qR 21), some (qI n0), some (qI dy), some (qI i)]) (st' := [qI (q_i2c (q_and (m 21 i.toNat) 255)), qR 1000, qI (((m 15 0) * 10) + i), qR 16]) rfl ?_
        refine qJ.callVS (i := 0) (As := [qI (q_i2c (q_and (m 21 i.toNat) 255))]) (rest := [qI (((m 15 0) * 10) + i), qR 16]) hκ rfl kX4_42 (c_indexOf u (q_row m 16 f) y (q_i2c (q_and (m 21 i.toNat) 255)) bl.1) (by decide) rfl (by decide) rfl rfl (Nat.le_of_ble_eq_true rfl) (Nat.le_of_ble_eq_true rfl) (Nat.le_of_ble_eq_true rfl) (Or.inl (fun r h' e => by obtain ⟨rfl, rfl⟩ := e; rfl)) (fun r h' e => ?_)
        obtain ⟨rfl, rfl⟩ := e
        rw [bl.2]
        show qJ YX4_addName κ _ (qLy u, (q_row m 16 f), y) 0 0 37 [some (qR 15), some (qR 21), some (qI n0), some (qI dy), some (qI i)] [qI (lcode (m 21 i.toNat)), qI (((m 15 0) * 10) + i), qR 16]
        refine qJ.ast hκ rfl rfl rfl (by decide) (by omega) ?_
        refine qJ.mc (m1 := (q_up (q_row m 16 f) 16 ((((m 15 0) * 10) + i).toNat) (lcode (m 21 i.toNat)))) (m2 := (q_row m 16 (q_fu f ((((m 15 0) * 10) + i).toNat) (lcode (m 21 i.toNat))))) (by rw [q_up_row_eq]) ?_
        show qJ YX4_addName κ _ (qLy u, (q_row m 16 (q_fu f ((((m 15 0) * 10) + i).toNat) (lcode (m 21 i.toNat)))), y) 0 0 38 [some (qR 15), some (qR 21), some (qI n0), some (qI dy), some (qI i)] []
        refine qJ.run hκ 2 (pc' := 3) (ls' := [some (qR 15), some (qR 21), some (qI n0), some (qI dy), some (qI (i + 1))]) (st' := []) rfl ?_
        exact qJ.cast (ih3  (q_fu f ((((m 15 0) * 10) + i).toNat) (lcode (m 21 i.toNat))) (i + 1) (by omega) (by omega) (⟨fun j hj => by rw [q_fu_ne (by omega)]; exact v3_2.1 j hj, fun k h1 h2 => by by_cases e : k = i; (subst e; rw [q_fu_eq]); rw [q_fu_ne (by omega)]; exact v3_2.2 k h1 (by omega)⟩) (by omega)) (rfl) rfl rfl
  show qJ YX4_addName κ _ (qLy u, m, y) 0 0 0 [some (qR 15), some (qR 21), some (qI n0), some (qI dy), none] []
  refine qJ.run hκ 2 (pc' := 3) (ls' := [some (qR 15), some (qR 21), some (qI n0), some (qI dy), some (qI 0)]) (st' := []) rfl ?_
  exact qJ.cast (L3 11 (m 16) 0 (by omega) (by omega) (⟨fun j _ => rfl, fun k h1 h2 => by omega⟩) (by omega)) (by rw [q_row_self]) rfl rfl

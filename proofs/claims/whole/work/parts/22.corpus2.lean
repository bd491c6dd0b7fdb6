/-! printed by p22.py: Corpus, the rest -/
/-- a place that a filled word shares with another one, or that is free -/
abbrev fbB (m : qM) (w v : Int) (k : Nat) : Prop := ¬ ((k : Int) = m 5 w.toNat ∨ (k : Int) = m 4 w.toNat - 1 ∧ (¬ m 5 w.toNat = m 4 w.toNat - 1 ∧ 3 ≤ m 4 w.toNat)) ∧ ¬ m 3 (w * 5 + (k : Int)).toNat = m 3 (v * 5 + (k : Int)).toNat
theorem fbB_i {m : qM} {w v i : Int} (h : 0 ≤ i) : fbB m w v i.toNat ↔ ¬ (i = m 5 w.toNat ∨ i = m 4 w.toNat - 1 ∧ (¬ m 5 w.toNat = m 4 w.toNat - 1 ∧ 3 ≤ m 4 w.toNat)) ∧ ¬ m 3 (w * 5 + i).toNat = m 3 (v * 5 + i).toNat := by
  unfold fbB
  rw [show ((i.toNat : Nat) : Int) = i by omega]
abbrev fbQ (m : qM) (w v : Int) : Prop := (m 4 w.toNat = m 4 v.toNat ∧ m 5 v.toNat = -1) ∧ q_cnt (fbB m w v) (m 4 w.toNat).toNat = 0

set_option maxRecDepth 100000 in
theorem c_isFilledBy (u : qU) (m y : qM) (w v : Int) (h0 : 0 ≤ m 2 0 ∧ m 2 0 ≤ 60) (hW : gW m) (hw : 0 ≤ w ∧ w < m 2 0) (hv : 0 ≤ v ∧ v < m 2 0) : qCt YX1_isFilledBy 2 0 0 [qR 2, qI w, qI v] (qLy u, m, y) (fun r h => r = some (qI (if fbQ m w v then 1 else 0)) ∧ h = (qLy u, m, y)) := by
  refine qCt.intro okX1_isFilledBy (Nat.le_of_ble_eq_true rfl) (fun κ hκ => ?_)
  have w1 := hW w hw.1 hw.2
  have w2 := hW v hv.1 hv.2
  have L70 : ∀ (n : Nat) (b : Int) (i : Int), (0 ≤ i) → (i ≤ m 4 w.toNat) → (m 4 w.toNat = m 4 v.toNat ∧ m 5 v.toNat = -1) → (q_cnt (fbB m w v) i.toNat = 0) → ((b = 1 ∧ ¬ m 5 w.toNat = m 4 w.toNat - 1 ∧ 3 ≤ m 4 w.toNat) ∨ (b = 0 ∧ ¬ (¬ m 5 w.toNat = m 4 w.toNat - 1 ∧ 3 ≤ m 4 w.toNat))) → ((m 4 w.toNat - i).toNat) < n → qJ YX1_isFilledBy κ (qFin (fun r h => r = some (qI (if fbQ m w v then 1 else 0)) ∧ h = (qLy u, m, y)) 0 0 κ) (qLy u, m, y) 0 0 70 [some (qR 2), some (qI w), some (qI v), some (qI (m 5 w.toNat)), some (qI (m 4 w.toNat - 1)), some (qI b), some (qI i), none] [] := by
    intro n
    induction n with
    | zero => intro b i _ _ _ _ _ hz0; omega
    | succ n ih70 =>
      intro b i v70_0 v70_1 v70_2 v70_3 v70_4 v70_m
      refine qJ.run hκ 2 (pc' := 74) (ls' := [some (qR 2), some (qI w), some (qI v), some (qI (m 5 w.toNat)), some (qI (m 4 w.toNat - 1)), some (qI b), some (qI i), none]) (st' := [qI (m 4 w.toNat - 1), qI i]) rfl ?_
      refine qJ.icmp_gt hκ (tgt := 132) rfl rfl (by omega) (by omega) (fun c74 => ?_) (fun c74 => ?_)
      · show qJ YX1_isFilledBy κ _ (qLy u, m, y) 0 0 132 [some (qR 2), some (qI w), some (qI v), some (qI (m 5 w.toNat)), some (qI (m 4 w.toNat - 1)), some (qI b), some (qI i), none] []
        refine qJ.run hκ 1 (pc' := 133) (ls' := [some (qR 2), some (qI w), some (qI v), some (qI (m 5 w.toNat)), some (qI (m 4 w.toNat - 1)), some (qI b), some (qI i), none]) (st' := [qI 1]) rfl ?_
        exact qJ.bret hκ rfl rfl (by omega) (by decide) (by decide) (by refine ⟨?_, rfl⟩; rw [if_pos ⟨v70_2, by rw [show (m 4 w.toNat).toNat = i.toNat by omega]; exact v70_3⟩])
      · show qJ YX1_isFilledBy κ _ (qLy u, m, y) 0 0 77 [some (qR 2), some (qI w), some (qI v), some (qI (m 5 w.toNat)), some (qI (m 4 w.toNat - 1)), some (qI b), some (qI i), none] []
        have w3 := w1.2.2 i v70_0 (by omega)
        have w4 := w2.2.2 i v70_0 (by omega)
        refine qJ.run hκ 2 (pc' := 80) (ls' := [some (qR 2), some (qI w), some (qI v), some (qI (m 5 w.toNat)), some (qI (m 4 w.toNat - 1)), some (qI b), some (qI i), none]) (st' := [qI (m 5 w.toNat), qI i]) rfl ?_
        refine qJ.icmp_eq hκ (tgt := 95) rfl rfl (by omega) (by omega) (fun c80 => ?_) (fun c80 => ?_)
        · show qJ YX1_isFilledBy κ _ (qLy u, m, y) 0 0 95 [some (qR 2), some (qI w), some (qI v), some (qI (m 5 w.toNat)), some (qI (m 4 w.toNat - 1)), some (qI b), some (qI i), none] []
          refine qJ.run hκ 4 (pc' := 104) (ls' := [some (qR 2), some (qI w), some (qI v), some (qI (m 5 w.toNat)), some (qI (m 4 w.toNat - 1)), some (qI b), some (qI i), some (qI 1)]) (st' := [qI 1]) rfl ?_
          refine qJ.if_ne hκ (tgt := 126) rfl rfl (by omega) (fun c104 => ?_) (fun c104 => ?_)
          · show qJ YX1_isFilledBy κ _ (qLy u, m, y) 0 0 126 [some (qR 2), some (qI w), some (qI v), some (qI (m 5 w.toNat)), some (qI (m 4 w.toNat - 1)), some (qI b), some (qI i), some (qI 1)] []
            refine qJ.run hκ 2 (pc' := 70) (ls' := [some (qR 2), some (qI w), some (qI v), some (qI (m 5 w.toNat)), some (qI (m 4 w.toNat - 1)), some (qI b), some (qI (i + 1)), some (qI 1)]) (st' := []) rfl ?_
            refine qJ.dl [true, true, true, true, true, true, true, false] ?_
            show qJ YX1_isFilledBy κ _ (qLy u, m, y) 0 0 70 [some (qR 2), some (qI w), some (qI v), some (qI (m 5 w.toNat)), some (qI (m 4 w.toNat - 1)), some (qI b), some (qI (i + 1)), none] []
            exact ih70  b (i + 1) (by omega) (by omega) (by omega) (by rw [q_cnt_s v70_0, if_neg (fun z => by have := ((fbB_i v70_0).mp z).1; omega)]; omega) (by omega) (by omega)
          · exact absurd c104 (by decide)
        · show qJ YX1_isFilledBy κ _ (qLy u, m, y) 0 0 83 [some (qR 2), some (qI w), some (qI v), some (qI (m 5 w.toNat)), some (qI (m 4 w.toNat - 1)), some (qI b), some (qI i), none] []
          refine qJ.run hκ 2 (pc' := 87) (ls' := [some (qR 2), some (qI w), some (qI v), some (qI (m 5 w.toNat)), some (qI (m 4 w.toNat - 1)), some (qI b), some (qI i), none]) (st' := [qI (m 4 w.toNat - 1), qI i]) rfl ?_
          refine qJ.icmp_ne hκ (tgt := 99) rfl rfl (by omega) (by omega) (fun c87 => ?_) (fun c87 => ?_)
          · show qJ YX1_isFilledBy κ _ (qLy u, m, y) 0 0 99 [some (qR 2), some (qI w), some (qI v), some (qI (m 5 w.toNat)), some (qI (m 4 w.toNat - 1)), some (qI b), some (qI i), none] []
            refine qJ.run hκ 3 (pc' := 104) (ls' := [some (qR 2), some (qI w), some (qI v), some (qI (m 5 w.toNat)), some (qI (m 4 w.toNat - 1)), some (qI b), some (qI i), some (qI 0)]) (st' := [qI 0]) rfl ?_
            refine qJ.if_ne hκ (tgt := 126) rfl rfl (by omega) (fun c104 => ?_) (fun c104 => ?_)
            · exact absurd c104 (by decide)
            · show qJ YX1_isFilledBy κ _ (qLy u, m, y) 0 0 107 [some (qR 2), some (qI w), some (qI v), some (qI (m 5 w.toNat)), some (qI (m 4 w.toNat - 1)), some (qI b), some (qI i), some (qI 0)] []
              refine qJ.run hκ 3 (pc' := 111) (ls' := [some (qR 2), some (qI w), some (qI v), some (qI (m 5 w.toNat)), some (qI (m 4 w.toNat - 1)), some (qI b), some (qI i), some (qI 0)]) (st' := [qI i, qI w, qR 2]) rfl ?_
              refine qJ.callV (As := [qI w, qI i]) (rest := []) hκ rfl kX1_57 (c_signAt u m y w i (by omega)) rfl rfl (by decide) rfl rfl (Nat.le_of_ble_eq_true rfl) (Nat.le_of_ble_eq_true rfl) (Nat.le_of_ble_eq_true rfl) (Or.inl (fun r h' e => by obtain ⟨rfl, rfl⟩ := e; rfl)) (fun r h' e => ?_)
              obtain ⟨rfl, rfl⟩ := e
              show qJ YX1_isFilledBy κ _ (qLy u, m, y) 0 0 114 [some (qR 2), some (qI w), some (qI v), some (qI (m 5 w.toNat)), some (qI (m 4 w.toNat - 1)), some (qI b), some (qI i), some (qI 0)] [qI (m 3 ((w * 5 + i).toNat))]
              refine qJ.run hκ 3 (pc' := 118) (ls' := [some (qR 2), some (qI w), some (qI v), some (qI (m 5 w.toNat)), some (qI (m 4 w.toNat - 1)), some (qI b), some (qI i), some (qI 0)]) (st' := [qI i, qI v, qR 2, qI (m 3 ((w * 5 + i).toNat))]) rfl ?_
              refine qJ.callV (As := [qI v, qI i]) (rest := [qI (m 3 ((w * 5 + i).toNat))]) hκ rfl kX1_57 (c_signAt u m y v i (by omega)) rfl rfl (by decide) rfl rfl (Nat.le_of_ble_eq_true rfl) (Nat.le_of_ble_eq_true rfl) (Nat.le_of_ble_eq_true rfl) (Or.inl (fun r h' e => by obtain ⟨rfl, rfl⟩ := e; rfl)) (fun r h' e => ?_)
              obtain ⟨rfl, rfl⟩ := e
              show qJ YX1_isFilledBy κ _ (qLy u, m, y) 0 0 121 [some (qR 2), some (qI w), some (qI v), some (qI (m 5 w.toNat)), some (qI (m 4 w.toNat - 1)), some (qI b), some (qI i), some (qI 0)] [qI (m 3 ((v * 5 + i).toNat)), qI (m 3 ((w * 5 + i).toNat))]
              refine qJ.icmp_eq hκ (tgt := 126) rfl rfl (by omega) (by omega) (fun c121 => ?_) (fun c121 => ?_)
              · show qJ YX1_isFilledBy κ _ (qLy u, m, y) 0 0 126 [some (qR 2), some (qI w), some (qI v), some (qI (m 5 w.toNat)), some (qI (m 4 w.toNat - 1)), some (qI b), some (qI i), some (qI 0)] []
                refine qJ.run hκ 2 (pc' := 70) (ls' := [some (qR 2), some (qI w), some (qI v), some (qI (m 5 w.toNat)), some (qI (m 4 w.toNat - 1)), some (qI b), some (qI (i + 1)), some (qI 0)]) (st' := []) rfl ?_
                refine qJ.dl [true, true, true, true, true, true, true, false] ?_
                show qJ YX1_isFilledBy κ _ (qLy u, m, y) 0 0 70 [some (qR 2), some (qI w), some (qI v), some (qI (m 5 w.toNat)), some (qI (m 4 w.toNat - 1)), some (qI b), some (qI (i + 1)), none] []
                exact ih70  b (i + 1) (by omega) (by omega) (by omega) (by rw [q_cnt_s v70_0, if_neg (fun z => ((fbB_i v70_0).mp z).2 c121)]; omega) (by omega) (by omega)
              · show qJ YX1_isFilledBy κ _ (qLy u, m, y) 0 0 124 [some (qR 2), some (qI w), some (qI v), some (qI (m 5 w.toNat)), some (qI (m 4 w.toNat - 1)), some (qI b), some (qI i), some (qI 0)] []
                refine qJ.run hκ 1 (pc' := 125) (ls' := [some (qR 2), some (qI w), some (qI v), some (qI (m 5 w.toNat)), some (qI (m 4 w.toNat - 1)), some (qI b), some (qI i), some (qI 0)]) (st' := [qI 0]) rfl ?_
                exact qJ.bret hκ rfl rfl (by omega) (by decide) (by decide) (by refine ⟨?_, rfl⟩; rw [if_neg (fun z => q_cnt_pos v70_0 (by omega) ((fbB_i v70_0).mpr ⟨by omega, c121⟩) z.2)])
          · show qJ YX1_isFilledBy κ _ (qLy u, m, y) 0 0 90 [some (qR 2), some (qI w), some (qI v), some (qI (m 5 w.toNat)), some (qI (m 4 w.toNat - 1)), some (qI b), some (qI i), none] []
            refine qJ.run hκ 1 (pc' := 92) (ls' := [some (qR 2), some (qI w), some (qI v), some (qI (m 5 w.toNat)), some (qI (m 4 w.toNat - 1)), some (qI b), some (qI i), none]) (st' := [qI b]) rfl ?_
            refine qJ.if_eq hκ (tgt := 99) rfl rfl (by omega) (fun c92 => ?_) (fun c92 => ?_)
            · show qJ YX1_isFilledBy κ _ (qLy u, m, y) 0 0 99 [some (qR 2), some (qI w), some (qI v), some (qI (m 5 w.toNat)), some (qI (m 4 w.toNat - 1)), some (qI b), some (qI i), none] []
              refine qJ.run hκ 3 (pc' := 104) (ls' := [some (qR 2), some (qI w), some (qI v), some (qI (m 5 w.toNat)), some (qI (m 4 w.toNat - 1)), some (qI b), some (qI i), some (qI 0)]) (st' := [qI 0]) rfl ?_
              refine qJ.if_ne hκ (tgt := 126) rfl rfl (by omega) (fun c104 => ?_) (fun c104 => ?_)
              · exact absurd c104 (by decide)
              · show qJ YX1_isFilledBy κ _ (qLy u, m, y) 0 0 107 [some (qR 2), some (qI w), some (qI v), some (qI (m 5 w.toNat)), some (qI (m 4 w.toNat - 1)), some (qI b), some (qI i), some (qI 0)] []
                refine qJ.run hκ 3 (pc' := 111) (ls' := [some (qR 2), some (qI w), some (qI v), some (qI (m 5 w.toNat)), some (qI (m 4 w.toNat - 1)), some (qI b), some (qI i), some (qI 0)]) (st' := [qI i, qI w, qR 2]) rfl ?_
                refine qJ.callV (As := [qI w, qI i]) (rest := []) hκ rfl kX1_57 (c_signAt u m y w i (by omega)) rfl rfl (by decide) rfl rfl (Nat.le_of_ble_eq_true rfl) (Nat.le_of_ble_eq_true rfl) (Nat.le_of_ble_eq_true rfl) (Or.inl (fun r h' e => by obtain ⟨rfl, rfl⟩ := e; rfl)) (fun r h' e => ?_)
                obtain ⟨rfl, rfl⟩ := e
                show qJ YX1_isFilledBy κ _ (qLy u, m, y) 0 0 114 [some (qR 2), some (qI w), some (qI v), some (qI (m 5 w.toNat)), some (qI (m 4 w.toNat - 1)), some (qI b), some (qI i), some (qI 0)] [qI (m 3 ((w * 5 + i).toNat))]
                refine qJ.run hκ 3 (pc' := 118) (ls' := [some (qR 2), some (qI w), some (qI v), some (qI (m 5 w.toNat)), some (qI (m 4 w.toNat - 1)), some (qI b), some (qI i), some (qI 0)]) (st' := [qI i, qI v, qR 2, qI (m 3 ((w * 5 + i).toNat))]) rfl ?_
                refine qJ.callV (As := [qI v, qI i]) (rest := [qI (m 3 ((w * 5 + i).toNat))]) hκ rfl kX1_57 (c_signAt u m y v i (by omega)) rfl rfl (by decide) rfl rfl (Nat.le_of_ble_eq_true rfl) (Nat.le_of_ble_eq_true rfl) (Nat.le_of_ble_eq_true rfl) (Or.inl (fun r h' e => by obtain ⟨rfl, rfl⟩ := e; rfl)) (fun r h' e => ?_)
                obtain ⟨rfl, rfl⟩ := e
                show qJ YX1_isFilledBy κ _ (qLy u, m, y) 0 0 121 [some (qR 2), some (qI w), some (qI v), some (qI (m 5 w.toNat)), some (qI (m 4 w.toNat - 1)), some (qI b), some (qI i), some (qI 0)] [qI (m 3 ((v * 5 + i).toNat)), qI (m 3 ((w * 5 + i).toNat))]
                refine qJ.icmp_eq hκ (tgt := 126) rfl rfl (by omega) (by omega) (fun c121 => ?_) (fun c121 => ?_)
                · show qJ YX1_isFilledBy κ _ (qLy u, m, y) 0 0 126 [some (qR 2), some (qI w), some (qI v), some (qI (m 5 w.toNat)), some (qI (m 4 w.toNat - 1)), some (qI b), some (qI i), some (qI 0)] []
                  refine qJ.run hκ 2 (pc' := 70) (ls' := [some (qR 2), some (qI w), some (qI v), some (qI (m 5 w.toNat)), some (qI (m 4 w.toNat - 1)), some (qI b), some (qI (i + 1)), some (qI 0)]) (st' := []) rfl ?_
                  refine qJ.dl [true, true, true, true, true, true, true, false] ?_
                  show qJ YX1_isFilledBy κ _ (qLy u, m, y) 0 0 70 [some (qR 2), some (qI w), some (qI v), some (qI (m 5 w.toNat)), some (qI (m 4 w.toNat - 1)), some (qI b), some (qI (i + 1)), none] []
                  exact ih70  b (i + 1) (by omega) (by omega) (by omega) (by rw [q_cnt_s v70_0, if_neg (fun z => ((fbB_i v70_0).mp z).2 c121)]; omega) (by omega) (by omega)
                · show qJ YX1_isFilledBy κ _ (qLy u, m, y) 0 0 124 [some (qR 2), some (qI w), some (qI v), some (qI (m 5 w.toNat)), some (qI (m 4 w.toNat - 1)), some (qI b), some (qI i), some (qI 0)] []
                  refine qJ.run hκ 1 (pc' := 125) (ls' := [some (qR 2), some (qI w), some (qI v), some (qI (m 5 w.toNat)), some (qI (m 4 w.toNat - 1)), some (qI b), some (qI i), some (qI 0)]) (st' := [qI 0]) rfl ?_
                  exact qJ.bret hκ rfl rfl (by omega) (by decide) (by decide) (by refine ⟨?_, rfl⟩; rw [if_neg (fun z => q_cnt_pos v70_0 (by omega) ((fbB_i v70_0).mpr ⟨by omega, c121⟩) z.2)])
            · show qJ YX1_isFilledBy κ _ (qLy u, m, y) 0 0 95 [some (qR 2), some (qI w), some (qI v), some (qI (m 5 w.toNat)), some (qI (m 4 w.toNat - 1)), some (qI b), some (qI i), none] []
              refine qJ.run hκ 4 (pc' := 104) (ls' := [some (qR 2), some (qI w), some (qI v), some (qI (m 5 w.toNat)), some (qI (m 4 w.toNat - 1)), some (qI b), some (qI i), some (qI 1)]) (st' := [qI 1]) rfl ?_
              refine qJ.if_ne hκ (tgt := 126) rfl rfl (by omega) (fun c104 => ?_) (fun c104 => ?_)
              · show qJ YX1_isFilledBy κ _ (qLy u, m, y) 0 0 126 [some (qR 2), some (qI w), some (qI v), some (qI (m 5 w.toNat)), some (qI (m 4 w.toNat - 1)), some (qI b), some (qI i), some (qI 1)] []
                refine qJ.run hκ 2 (pc' := 70) (ls' := [some (qR 2), some (qI w), some (qI v), some (qI (m 5 w.toNat)), some (qI (m 4 w.toNat - 1)), some (qI b), some (qI (i + 1)), some (qI 1)]) (st' := []) rfl ?_
                refine qJ.dl [true, true, true, true, true, true, true, false] ?_
                show qJ YX1_isFilledBy κ _ (qLy u, m, y) 0 0 70 [some (qR 2), some (qI w), some (qI v), some (qI (m 5 w.toNat)), some (qI (m 4 w.toNat - 1)), some (qI b), some (qI (i + 1)), none] []
                exact ih70  b (i + 1) (by omega) (by omega) (by omega) (by rw [q_cnt_s v70_0, if_neg (fun z => by have := ((fbB_i v70_0).mp z).1; omega)]; omega) (by omega) (by omega)
              · exact absurd c104 (by decide)
  show qJ YX1_isFilledBy κ _ (qLy u, m, y) 0 0 0 [some (qR 2), some (qI w), some (qI v), none, none, none, none, none] []
  refine qJ.run hκ 3 (pc' := 5) (ls' := [some (qR 2), some (qI w), some (qI v), none, none, none, none, none]) (st' := [qI w, qR 4]) rfl ?_
  refine qJ.ald hκ rfl rfl rfl (by decide) (by omega) ?_
  show qJ YX1_isFilledBy κ _ (qLy u, m, y) 0 0 6 [some (qR 2), some (qI w), some (qI v), none, none, none, none, none] [qI (m 4 w.toNat)]
  refine qJ.run hκ 3 (pc' := 11) (ls' := [some (qR 2), some (qI w), some (qI v), none, none, none, none, none]) (st' := [qI v, qR 4, qI (m 4 w.toNat)]) rfl ?_
  refine qJ.ald hκ rfl rfl rfl (by decide) (by omega) ?_
  show qJ YX1_isFilledBy κ _ (qLy u, m, y) 0 0 12 [some (qR 2), some (qI w), some (qI v), none, none, none, none, none] [qI (m 4 v.toNat), qI (m 4 w.toNat)]
  refine qJ.icmp_ne hκ (tgt := 25) rfl rfl (by omega) (by omega) (fun c12 => ?_) (fun c12 => ?_)
  · show qJ YX1_isFilledBy κ _ (qLy u, m, y) 0 0 25 [some (qR 2), some (qI w), some (qI v), none, none, none, none, none] []
    refine qJ.run hκ 1 (pc' := 26) (ls' := [some (qR 2), some (qI w), some (qI v), none, none, none, none, none]) (st' := [qI 0]) rfl ?_
    exact qJ.bret hκ rfl rfl (by omega) (by decide) (by decide) (by refine ⟨?_, rfl⟩; rw [if_neg (fun z => by have := z.1; omega)])
  · show qJ YX1_isFilledBy κ _ (qLy u, m, y) 0 0 15 [some (qR 2), some (qI w), some (qI v), none, none, none, none, none] []
    refine qJ.run hκ 3 (pc' := 20) (ls' := [some (qR 2), some (qI w), some (qI v), none, none, none, none, none]) (st' := [qI v, qR 5]) rfl ?_
    refine qJ.ald hκ rfl rfl rfl (by decide) (by omega) ?_
    show qJ YX1_isFilledBy κ _ (qLy u, m, y) 0 0 21 [some (qR 2), some (qI w), some (qI v), none, none, none, none, none] [qI (m 5 v.toNat)]
    refine qJ.run hκ 1 (pc' := 22) (ls' := [some (qR 2), some (qI w), some (qI v), none, none, none, none, none]) (st' := [qI (-1), qI (m 5 v.toNat)]) rfl ?_
    refine qJ.icmp_eq hκ (tgt := 27) rfl rfl (by omega) (by omega) (fun c22 => ?_) (fun c22 => ?_)
    · show qJ YX1_isFilledBy κ _ (qLy u, m, y) 0 0 27 [some (qR 2), some (qI w), some (qI v), none, none, none, none, none] []
      refine qJ.run hκ 3 (pc' := 32) (ls' := [some (qR 2), some (qI w), some (qI v), none, none, none, none, none]) (st' := [qI w, qR 5]) rfl ?_
      refine qJ.ald hκ rfl rfl rfl (by decide) (by omega) ?_
      show qJ YX1_isFilledBy κ _ (qLy u, m, y) 0 0 33 [some (qR 2), some (qI w), some (qI v), none, none, none, none, none] [qI (m 5 w.toNat)]
      refine qJ.run hκ 4 (pc' := 39) (ls' := [some (qR 2), some (qI w), some (qI v), some (qI (m 5 w.toNat)), none, none, none, none]) (st' := [qI w, qR 4]) rfl ?_
      refine qJ.ald hκ rfl rfl rfl (by decide) (by omega) ?_
      show qJ YX1_isFilledBy κ _ (qLy u, m, y) 0 0 40 [some (qR 2), some (qI w), some (qI v), some (qI (m 5 w.toNat)), none, none, none, none] [qI (m 4 w.toNat)]
      refine qJ.run hκ 5 (pc' := 47) (ls' := [some (qR 2), some (qI w), some (qI v), some (qI (m 5 w.toNat)), some (qI ((m 4 w.toNat) - 1)), none, none, none]) (st' := [qI ((m 4 w.toNat) - 1), qI (m 5 w.toNat)]) rfl ?_
      refine qJ.icmp_eq hκ (tgt := 64) rfl rfl (by omega) (by omega) (fun c47 => ?_) (fun c47 => ?_)
      · show qJ YX1_isFilledBy κ _ (qLy u, m, y) 0 0 64 [some (qR 2), some (qI w), some (qI v), some (qI (m 5 w.toNat)), some (qI ((m 4 w.toNat) - 1)), none, none, none] []
        refine qJ.run hκ 4 (pc' := 70) (ls' := [some (qR 2), some (qI w), some (qI v), some (qI (m 5 w.toNat)), some (qI ((m 4 w.toNat) - 1)), some (qI 0), some (qI 0), none]) (st' := []) rfl ?_
        exact L70 7 0 0 (by omega) (by omega) (by omega) (rfl) (by omega) (by omega)
      · show qJ YX1_isFilledBy κ _ (qLy u, m, y) 0 0 50 [some (qR 2), some (qI w), some (qI v), some (qI (m 5 w.toNat)), some (qI ((m 4 w.toNat) - 1)), none, none, none] []
        refine qJ.run hκ 3 (pc' := 55) (ls' := [some (qR 2), some (qI w), some (qI v), some (qI (m 5 w.toNat)), some (qI ((m 4 w.toNat) - 1)), none, none, none]) (st' := [qI w, qR 4]) rfl ?_
        refine qJ.ald hκ rfl rfl rfl (by decide) (by omega) ?_
        show qJ YX1_isFilledBy κ _ (qLy u, m, y) 0 0 56 [some (qR 2), some (qI w), some (qI v), some (qI (m 5 w.toNat)), some (qI ((m 4 w.toNat) - 1)), none, none, none] [qI (m 4 w.toNat)]
        refine qJ.run hκ 1 (pc' := 57) (ls' := [some (qR 2), some (qI w), some (qI v), some (qI (m 5 w.toNat)), some (qI ((m 4 w.toNat) - 1)), none, none, none]) (st' := [qI 3, qI (m 4 w.toNat)]) rfl ?_
        refine qJ.icmp_lt hκ (tgt := 64) rfl rfl (by omega) (by omega) (fun c57 => ?_) (fun c57 => ?_)
        · show qJ YX1_isFilledBy κ _ (qLy u, m, y) 0 0 64 [some (qR 2), some (qI w), some (qI v), some (qI (m 5 w.toNat)), some (qI ((m 4 w.toNat) - 1)), none, none, none] []
          refine qJ.run hκ 4 (pc' := 70) (ls' := [some (qR 2), some (qI w), some (qI v), some (qI (m 5 w.toNat)), some (qI ((m 4 w.toNat) - 1)), some (qI 0), some (qI 0), none]) (st' := []) rfl ?_
          exact L70 7 0 0 (by omega) (by omega) (by omega) (rfl) (by omega) (by omega)
        · show qJ YX1_isFilledBy κ _ (qLy u, m, y) 0 0 60 [some (qR 2), some (qI w), some (qI v), some (qI (m 5 w.toNat)), some (qI ((m 4 w.toNat) - 1)), none, none, none] []
          refine qJ.run hκ 5 (pc' := 70) (ls' := [some (qR 2), some (qI w), some (qI v), some (qI (m 5 w.toNat)), some (qI ((m 4 w.toNat) - 1)), some (qI 1), some (qI 0), none]) (st' := []) rfl ?_
          exact L70 7 1 0 (by omega) (by omega) (by omega) (rfl) (by omega) (by omega)
    · show qJ YX1_isFilledBy κ _ (qLy u, m, y) 0 0 25 [some (qR 2), some (qI w), some (qI v), none, none, none, none, none] []
      refine qJ.run hκ 1 (pc' := 26) (ls' := [some (qR 2), some (qI w), some (qI v), none, none, none, none, none]) (st' := [qI 0]) rfl ?_
      exact qJ.bret hκ rfl rfl (by omega) (by decide) (by decide) (by refine ⟨?_, rfl⟩; rw [if_neg (fun z => by have := z.1; omega)])

/-- the signs that fill a word's gap, as bits, by the first n words -/
def fM (m : qM) (w : Int) : Nat → Int
  | 0 => 0
  | v + 1 => if fbQ m w v then q_or (fM m w v) (q_shl 1 (m 3 ((v : Int) * 5 + m 5 w.toNat).toNat)) else fM m w v
theorem fM_s {m : qM} {w v : Int} (h : 0 ≤ v) : fM m w (v + 1).toNat = if fbQ m w v then q_or (fM m w v.toNat) (q_shl 1 (m 3 (v * 5 + m 5 w.toNat).toNat)) else fM m w v.toNat := by
  rw [show (v + 1).toNat = v.toNat + 1 by omega, fM, show ((v.toNat : Nat) : Int) = v by omega]

set_option maxRecDepth 100000 in
theorem c_fillMask (u : qU) (m y : qM) (w hz : Int) (n0 : Nat) (hp : q_pfx (m 7) hz (m 2 0).toNat = n0) (h0 : 0 ≤ m 2 0 ∧ m 2 0 ≤ 60) (hW : gW m) (h1 : qr hz) (hw : 0 ≤ w ∧ w < m 2 0) (hgp : 0 ≤ m 5 w.toNat) (hS7 : ∀ k : Int, 0 ≤ k → k < m 2 0 → qr (m 7 k.toNat)) : qCt YX1_fillMask 3 0 0 [qR 2, qI w, qI hz] (qLy u, m, y) (fun r h => r = some (qI (fM m w n0)) ∧ h = (qLy u, m, y)) := by
  refine qCt.intro okX1_fillMask (Nat.le_of_ble_eq_true rfl) (fun κ hκ => ?_)
  have p0 := q_pfx_le (m 7) hz (m 2 0).toNat
  rw [hp] at p0
  have w1 := hW w hw.1 hw.2
  have L12 : ∀ (n : Nat) (c : Int) (v : Int), (0 ≤ v) → (v ≤ (n0 : Int)) → (c = fM m w v.toNat) → (((n0 : Int) - v).toNat) < n → qJ YX1_fillMask κ (qFin (fun r h => r = some (qI (fM m w n0)) ∧ h = (qLy u, m, y)) 0 0 κ) (qLy u, m, y) 0 0 12 [some (qR 2), some (qI w), some (qI hz), some (qI c), some (qI (n0 : Int)), some (qI v)] [] := by
    intro n
    induction n with
    | zero => intro c v _ _ _ hz0; omega
    | succ n ih12 =>
      intro c v v12_0 v12_1 v12_2 v12_m
      refine qJ.run hκ 2 (pc' := 16) (ls' := [some (qR 2), some (qI w), some (qI hz), some (qI c), some (qI (n0 : Int)), some (qI v)]) (st' := [qI (n0 : Int), qI v]) rfl ?_
      refine qJ.icmp_ge hκ (tgt := 52) rfl rfl (by omega) (by omega) (fun c16 => ?_) (fun c16 => ?_)
      · show qJ YX1_fillMask κ _ (qLy u, m, y) 0 0 52 [some (qR 2), some (qI w), some (qI hz), some (qI c), some (qI (n0 : Int)), some (qI v)] []
        refine qJ.run hκ 1 (pc' := 53) (ls' := [some (qR 2), some (qI w), some (qI hz), some (qI c), some (qI (n0 : Int)), some (qI v)]) (st' := [qI c]) rfl ?_
        exact qJ.iret hκ rfl rfl (by decide) (by decide) (by refine ⟨?_, rfl⟩; rw [v12_2, show v.toNat = n0 by omega])
      · show qJ YX1_fillMask κ _ (qLy u, m, y) 0 0 19 [some (qR 2), some (qI w), some (qI hz), some (qI c), some (qI (n0 : Int)), some (qI v)] []
        refine qJ.run hκ 3 (pc' := 23) (ls' := [some (qR 2), some (qI w), some (qI hz), some (qI c), some (qI (n0 : Int)), some (qI v)]) (st' := [qI v, qI w, qR 2]) rfl ?_
        refine qJ.callV (As := [qI w, qI v]) (rest := []) hκ rfl kX1_71 (c_isFilledBy u m y w v h0 hW (by omega) (by omega)) rfl rfl (by decide) rfl rfl (Nat.le_of_ble_eq_true rfl) (Nat.le_of_ble_eq_true rfl) (Nat.le_of_ble_eq_true rfl) (Or.inl (fun r h' e => by obtain ⟨rfl, rfl⟩ := e; rfl)) (fun r h' e => ?_)
        obtain ⟨rfl, rfl⟩ := e
        show qJ YX1_fillMask κ _ (qLy u, m, y) 0 0 26 [some (qR 2), some (qI w), some (qI hz), some (qI c), some (qI (n0 : Int)), some (qI v)] [qI (if fbQ m w v then 1 else 0)]
        have q1 := q_ite01 (fbQ m w v)
        refine qJ.if_eq hκ (tgt := 46) rfl rfl (by omega) (fun c26 => ?_) (fun c26 => ?_)
        · show qJ YX1_fillMask κ _ (qLy u, m, y) 0 0 46 [some (qR 2), some (qI w), some (qI hz), some (qI c), some (qI (n0 : Int)), some (qI v)] []
          refine qJ.run hκ 2 (pc' := 12) (ls' := [some (qR 2), some (qI w), some (qI hz), some (qI c), some (qI (n0 : Int)), some (qI (v + 1))]) (st' := []) rfl ?_
          exact ih12  c (v + 1) (by omega) (by omega) (by rw [fM_s v12_0, if_neg (fun z => by rw [if_pos z] at c26; omega)]; exact v12_2) (by omega)
        · show qJ YX1_fillMask κ _ (qLy u, m, y) 0 0 29 [some (qR 2), some (qI w), some (qI hz), some (qI c), some (qI (n0 : Int)), some (qI v)] []
          refine qJ.run hκ 7 (pc' := 39) (ls' := [some (qR 2), some (qI w), some (qI hz), some (qI c), some (qI (n0 : Int)), some (qI v)]) (st' := [qI w, qR 5, qI v, qR 2, qI 1, qI c]) rfl ?_
          refine qJ.ald hκ rfl rfl rfl (by decide) (by omega) ?_
          show qJ YX1_fillMask κ _ (qLy u, m, y) 0 0 40 [some (qR 2), some (qI w), some (qI hz), some (qI c), some (qI (n0 : Int)), some (qI v)] [qI (m 5 w.toNat), qI v, qR 2, qI 1, qI c]
          refine qJ.callV (As := [qI v, qI (m 5 w.toNat)]) (rest := [qI 1, qI c]) hκ rfl kX1_57 (c_signAt u m y v (m 5 w.toNat) (by omega)) rfl rfl (by decide) rfl rfl (Nat.le_of_ble_eq_true rfl) (Nat.le_of_ble_eq_true rfl) (Nat.le_of_ble_eq_true rfl) (Or.inl (fun r h' e => by obtain ⟨rfl, rfl⟩ := e; rfl)) (fun r h' e => ?_)
          obtain ⟨rfl, rfl⟩ := e
          show qJ YX1_fillMask κ _ (qLy u, m, y) 0 0 43 [some (qR 2), some (qI w), some (qI hz), some (qI c), some (qI (n0 : Int)), some (qI v)] [qI (m 3 ((v * 5 + (m 5 w.toNat)).toNat)), qI 1, qI c]
          refine qJ.run hκ 5 (pc' := 12) (ls' := [some (qR 2), some (qI w), some (qI hz), some (qI (q_or c (q_shl 1 (m 3 ((v * 5 + (m 5 w.toNat)).toNat))))), some (qI (n0 : Int)), some (qI (v + 1))]) (st' := []) rfl ?_
          exact ih12  (q_or c (q_shl 1 (m 3 ((v * 5 + (m 5 w.toNat)).toNat)))) (v + 1) (by omega) (by omega) (by rw [fM_s v12_0, if_pos (by by_cases z : fbQ m w v; exact z; rw [if_neg z] at c26; exact absurd rfl c26), v12_2]) (by omega)
  show qJ YX1_fillMask κ _ (qLy u, m, y) 0 0 0 [some (qR 2), some (qI w), some (qI hz), none, none, none] []
  refine qJ.run hκ 4 (pc' := 4) (ls' := [some (qR 2), some (qI w), some (qI hz), some (qI 0), none, none]) (st' := [qI hz, qR 2]) rfl ?_
  refine qJ.callV (As := [qI hz]) (rest := []) hκ rfl kX1_61 (hp ▸ c_seenWords u m y hz h0 h1 hS7) rfl rfl (by decide) rfl rfl (Nat.le_of_ble_eq_true rfl) (Nat.le_of_ble_eq_true rfl) (Nat.le_of_ble_eq_true rfl) (Or.inl (fun r h' e => by obtain ⟨rfl, rfl⟩ := e; rfl)) (fun r h' e => ?_)
  obtain ⟨rfl, rfl⟩ := e
  show qJ YX1_fillMask κ _ (qLy u, m, y) 0 0 7 [some (qR 2), some (qI w), some (qI hz), some (qI 0), none, none] [qI (n0 : Int)]
  refine qJ.run hκ 3 (pc' := 12) (ls' := [some (qR 2), some (qI w), some (qI hz), some (qI 0), some (qI (n0 : Int)), some (qI 0)]) (st' := []) rfl ?_
  exact L12 (n0 + 1) 0 0 (by omega) (by omega) (rfl) (by omega)

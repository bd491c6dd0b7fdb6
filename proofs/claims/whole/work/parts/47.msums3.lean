/-! printed by p47.py: agree, setsBut; sets, ratio, sureRatio, odd of the model -/
set_option maxRecDepth 100000 in
theorem m_agree (u : qU) (m y : qM) (f g : Nat → Int) (t bt : Int) (hR : rL m) (hP : PA m f g (m 12 0)) (ht : 0 ≤ t ∧ t < 1331) (hb : qr bt) : qCt YX12_agree 2 0 0 [qR 77, qI t, qI bt] (qLy u, (q_row (q_row m 114 f) 115 g), y) (fun r h => ∃ z : Int, r = some (qI z) ∧ (z = 1 ∧ oBut m bt t.toNat ∨ z = 0 ∧ ¬ oBut m bt t.toNat) ∧ h = (qLy u, (q_row (q_row m 114 f) 115 g), y)) := by
  refine qCt.intro okX12_agree (Nat.le_of_ble_eq_true rfl) (fun κ hκ => ?_)
  obtain ⟨⟨l0, l1, l2⟩, l3, l4, l5⟩ := hR.1
  have r0 := rt_r (t := t.toNat) (w := 0) (by omega)
  have r1 := rt_r (t := t.toNat) (w := 1) (by omega)
  have r2 := rt_r (t := t.toNat) (w := 2) (by omega)
  have L28 : ∀ (n : Nat) (a : Int), (0 ≤ a) → (a ≤ m 12 0) → (q_cnt (dBut m bt t.toNat) a.toNat = 0) → ((m 12 0 - a).toNat) < n → qJ YX12_agree κ (qFin (fun r h => ∃ z : Int, r = some (qI z) ∧ (z = 1 ∧ oBut m bt t.toNat ∨ z = 0 ∧ ¬ oBut m bt t.toNat) ∧ h = (qLy u, (q_row (q_row m 114 f) 115 g), y)) 0 0 κ) (qLy u, (q_row (q_row m 114 f) 115 g), y) 0 0 28 [some (qR 77), some (qI t), some (qI bt), some (qI (rt t.toNat 0)), some (qI (rt t.toNat 0 * rt t.toNat 1)), some (qI (rt t.toNat 0 * rt t.toNat 1 * rt t.toNat 2)), some (qI a), none] [] := by
    intro n
    induction n with
    | zero => intro a _ _ _ hz0; omega
    | succ n ih28 =>
      intro a v28_0 v28_1 v28_2 v28_m
      refine qJ.run hκ 4 (pc' := 35) (ls' := [some (qR 77), some (qI t), some (qI bt), some (qI (rt t.toNat 0)), some (qI (rt t.toNat 0 * rt t.toNat 1)), some (qI (rt t.toNat 0 * rt t.toNat 1 * rt t.toNat 2)), some (qI a), none]) (st' := [qI 0, qR 96, qI a]) rfl ?_
      refine qJ.ald hκ rfl rfl rfl (by decide) (by omega) ?_
      show qJ YX12_agree κ _ (qLy u, (q_row (q_row m 114 f) 115 g), y) 0 0 36 [some (qR 77), some (qI t), some (qI bt), some (qI (rt t.toNat 0)), some (qI (rt t.toNat 0 * rt t.toNat 1)), some (qI (rt t.toNat 0 * rt t.toNat 1 * rt t.toNat 2)), some (qI a), none] [qI (m 96 0), qI a]
      refine qJ.icmp_ge hκ (tgt := 117) rfl rfl (by omega) (by omega) (fun c36 => ?_) (fun c36 => ?_)
      · show qJ YX12_agree κ _ (qLy u, (q_row (q_row m 114 f) 115 g), y) 0 0 117 [some (qR 77), some (qI t), some (qI bt), some (qI (rt t.toNat 0)), some (qI (rt t.toNat 0 * rt t.toNat 1)), some (qI (rt t.toNat 0 * rt t.toNat 1 * rt t.toNat 2)), some (qI a), none] []
        refine qJ.run hκ 1 (pc' := 118) (ls' := [some (qR 77), some (qI t), some (qI bt), some (qI (rt t.toNat 0)), some (qI (rt t.toNat 0 * rt t.toNat 1)), some (qI (rt t.toNat 0 * rt t.toNat 1 * rt t.toNat 2)), some (qI a), none]) (st' := [qI 1]) rfl ?_
        exact qJ.bret hκ rfl rfl (by omega) (by decide) (by decide) (⟨1, rfl, Or.inl ⟨rfl, by unfold oBut; rw [show m 12 0 = a by omega]; exact v28_2⟩, rfl⟩)
      · show qJ YX12_agree κ _ (qLy u, (q_row (q_row m 114 f) 115 g), y) 0 0 39 [some (qR 77), some (qI t), some (qI bt), some (qI (rt t.toNat 0)), some (qI (rt t.toNat 0 * rt t.toNat 1)), some (qI (rt t.toNat 0 * rt t.toNat 1 * rt t.toNat 2)), some (qI a), none] []
        have pa := hP a.toNat (by omega)
        have ga := pa.1
        have gi := q_ite01 (cA m (nR m) a.toNat)
        have g0 : g a.toNat = 0 ∨ g a.toNat = 1 := by rw [ga]; split <;> omega
        refine qJ.run hκ 6 (pc' := 48) (ls' := [some (qR 77), some (qI t), some (qI bt), some (qI (rt t.toNat 0)), some (qI (rt t.toNat 0 * rt t.toNat 1)), some (qI (rt t.toNat 0 * rt t.toNat 1 * rt t.toNat 2)), some (qI a), some (qI (4 * a))]) (st' := [qI bt, qI a]) rfl ?_
        refine qJ.icmp_eq hκ (tgt := 111) rfl rfl (by omega) (by omega) (fun c48 => ?_) (fun c48 => ?_)
        · show qJ YX12_agree κ _ (qLy u, (q_row (q_row m 114 f) 115 g), y) 0 0 111 [some (qR 77), some (qI t), some (qI bt), some (qI (rt t.toNat 0)), some (qI (rt t.toNat 0 * rt t.toNat 1)), some (qI (rt t.toNat 0 * rt t.toNat 1 * rt t.toNat 2)), some (qI a), some (qI (4 * a))] []
          refine qJ.run hκ 2 (pc' := 28) (ls' := [some (qR 77), some (qI t), some (qI bt), some (qI (rt t.toNat 0)), some (qI (rt t.toNat 0 * rt t.toNat 1)), some (qI (rt t.toNat 0 * rt t.toNat 1 * rt t.toNat 2)), some (qI (a + 1)), some (qI (4 * a))]) (st' := []) rfl ?_
          refine qJ.dl [true, true, true, true, true, true, true, false] ?_
          show qJ YX12_agree κ _ (qLy u, (q_row (q_row m 114 f) 115 g), y) 0 0 28 [some (qR 77), some (qI t), some (qI bt), some (qI (rt t.toNat 0)), some (qI (rt t.toNat 0 * rt t.toNat 1)), some (qI (rt t.toNat 0 * rt t.toNat 1 * rt t.toNat 2)), some (qI (a + 1)), none] []
          exact ih28  (a + 1) (by omega) (by omega) (by rw [q_cnt_s v28_0, if_neg (fun z => z.1 (by rw [q_tn v28_0]; exact c48))]; omega) (by omega)
        · show qJ YX12_agree κ _ (qLy u, (q_row (q_row m 114 f) 115 g), y) 0 0 51 [some (qR 77), some (qI t), some (qI bt), some (qI (rt t.toNat 0)), some (qI (rt t.toNat 0 * rt t.toNat 1)), some (qI (rt t.toNat 0 * rt t.toNat 1 * rt t.toNat 2)), some (qI a), some (qI (4 * a))] []
          refine qJ.run hκ 3 (pc' := 57) (ls' := [some (qR 77), some (qI t), some (qI bt), some (qI (rt t.toNat 0)), some (qI (rt t.toNat 0 * rt t.toNat 1)), some (qI (rt t.toNat 0 * rt t.toNat 1 * rt t.toNat 2)), some (qI a), some (qI (4 * a))]) (st' := [qI a, qR 115]) rfl ?_
          refine qJ.ald hκ rfl rfl rfl (by decide) (by omega) ?_
          show qJ YX12_agree κ _ (qLy u, (q_row (q_row m 114 f) 115 g), y) 0 0 58 [some (qR 77), some (qI t), some (qI bt), some (qI (rt t.toNat 0)), some (qI (rt t.toNat 0 * rt t.toNat 1)), some (qI (rt t.toNat 0 * rt t.toNat 1 * rt t.toNat 2)), some (qI a), some (qI (4 * a))] [qI (g a.toNat)]
          refine qJ.if_eq hκ (tgt := 111) rfl rfl (by omega) (fun c58 => ?_) (fun c58 => ?_)
          · show qJ YX12_agree κ _ (qLy u, (q_row (q_row m 114 f) 115 g), y) 0 0 111 [some (qR 77), some (qI t), some (qI bt), some (qI (rt t.toNat 0)), some (qI (rt t.toNat 0 * rt t.toNat 1)), some (qI (rt t.toNat 0 * rt t.toNat 1 * rt t.toNat 2)), some (qI a), some (qI (4 * a))] []
            refine qJ.run hκ 2 (pc' := 28) (ls' := [some (qR 77), some (qI t), some (qI bt), some (qI (rt t.toNat 0)), some (qI (rt t.toNat 0 * rt t.toNat 1)), some (qI (rt t.toNat 0 * rt t.toNat 1 * rt t.toNat 2)), some (qI (a + 1)), some (qI (4 * a))]) (st' := []) rfl ?_
            refine qJ.dl [true, true, true, true, true, true, true, false] ?_
            show qJ YX12_agree κ _ (qLy u, (q_row (q_row m 114 f) 115 g), y) 0 0 28 [some (qR 77), some (qI t), some (qI bt), some (qI (rt t.toNat 0)), some (qI (rt t.toNat 0 * rt t.toNat 1)), some (qI (rt t.toNat 0 * rt t.toNat 1 * rt t.toNat 2)), some (qI (a + 1)), none] []
            exact ih28  (a + 1) (by omega) (by omega) (by rw [q_cnt_s v28_0, if_neg (fun z => by rw [ga, if_pos z.2.1] at c58; exact absurd c58 (by decide))]; omega) (by omega)
          · show qJ YX12_agree κ _ (qLy u, (q_row (q_row m 114 f) 115 g), y) 0 0 61 [some (qR 77), some (qI t), some (qI bt), some (qI (rt t.toNat 0)), some (qI (rt t.toNat 0 * rt t.toNat 1)), some (qI (rt t.toNat 0 * rt t.toNat 1 * rt t.toNat 2)), some (qI a), some (qI (4 * a))] []
            have hcA : cA m (nR m) a.toNat := by by_cases z : cA m (nR m) a.toNat; exact z; rw [ga, if_neg z] at c58; exact absurd rfl c58
            have w0 := pa.2.1 hcA 0 (by decide)
            have w1 := pa.2.1 hcA 1 (by decide)
            have w2 := pa.2.1 hcA 2 (by decide)
            have w3 := pa.2.1 hcA 3 (by decide)
            have b0 := pa.2.2 0 (by decide)
            have b1 := pa.2.2 1 (by decide)
            have b2 := pa.2.2 2 (by decide)
            have b3 := pa.2.2 3 (by decide)
            rw [show 4 * a.toNat + 0 = (4 * a).toNat by omega] at w0 b0
            rw [show 4 * a.toNat + 1 = (4 * a + 1).toNat by omega] at w1 b1
            rw [show 4 * a.toNat + 2 = (4 * a + 2).toNat by omega] at w2 b2
            rw [show 4 * a.toNat + 3 = (4 * a + 3).toNat by omega] at w3 b3
            have wq : qr (f (4 * a).toNat + f (4 * a + 1).toNat * rt t.toNat 0 + f (4 * a + 2).toNat * (rt t.toNat 0 * rt t.toNat 1) + f (4 * a + 3).toNat * (rt t.toNat 0 * rt t.toNat 1 * rt t.toNat 2)) := wo_b (by omega) (by omega) (by omega) (by omega) r0 r1 r2
            have wE : f (4 * a).toNat + f (4 * a + 1).toNat * rt t.toNat 0 + f (4 * a + 2).toNat * (rt t.toNat 0 * rt t.toNat 1) + f (4 * a + 3).toNat * (rt t.toNat 0 * rt t.toNat 1 * rt t.toNat 2) = - wo m (nR m) a.toNat (rt t.toNat 0) (rt t.toNat 1) (rt t.toNat 2) := by unfold wo; rw [w0, w1, w2, w3, Int.neg_mul, Int.neg_mul, Int.neg_mul]; omega
            refine qJ.run hκ 3 (pc' := 67) (ls' := [some (qR 77), some (qI t), some (qI bt), some (qI (rt t.toNat 0)), some (qI (rt t.toNat 0 * rt t.toNat 1)), some (qI (rt t.toNat 0 * rt t.toNat 1 * rt t.toNat 2)), some (qI a), some (qI (4 * a))]) (st' := [qI (4 * a), qR 114]) rfl ?_
            refine qJ.ald hκ rfl rfl rfl (by decide) (by omega) ?_
            show qJ YX12_agree κ _ (qLy u, (q_row (q_row m 114 f) 115 g), y) 0 0 68 [some (qR 77), some (qI t), some (qI bt), some (qI (rt t.toNat 0)), some (qI (rt t.toNat 0 * rt t.toNat 1)), some (qI (rt t.toNat 0 * rt t.toNat 1 * rt t.toNat 2)), some (qI a), some (qI (4 * a))] [qI (f ((4 * a).toNat))]
            refine qJ.run hκ 5 (pc' := 76) (ls' := [some (qR 77), some (qI t), some (qI bt), some (qI (rt t.toNat 0)), some (qI (rt t.toNat 0 * rt t.toNat 1)), some (qI (rt t.toNat 0 * rt t.toNat 1 * rt t.toNat 2)), some (qI a), some (qI (4 * a))]) (st' := [qI ((4 * a) + 1), qR 114, qI (f ((4 * a).toNat))]) rfl ?_
            refine qJ.ald hκ rfl rfl rfl (by decide) (by omega) ?_
            show qJ YX12_agree κ _ (qLy u, (q_row (q_row m 114 f) 115 g), y) 0 0 77 [some (qR 77), some (qI t), some (qI bt), some (qI (rt t.toNat 0)), some (qI (rt t.toNat 0 * rt t.toNat 1)), some (qI (rt t.toNat 0 * rt t.toNat 1 * rt t.toNat 2)), some (qI a), some (qI (4 * a))] [qI (f (((4 * a) + 1).toNat)), qI (f ((4 * a).toNat))]
            refine qJ.run hκ 8 (pc' := 88) (ls' := [some (qR 77), some (qI t), some (qI bt), some (qI (rt t.toNat 0)), some (qI (rt t.toNat 0 * rt t.toNat 1)), some (qI (rt t.toNat 0 * rt t.toNat 1 * rt t.toNat 2)), some (qI a), some (qI (4 * a))]) (st' := [qI ((4 * a) + 2), qR 114, qI ((f ((4 * a).toNat)) + ((f (((4 * a) + 1).toNat)) * (rt t.toNat 0)))]) rfl ?_
            refine qJ.ald hκ rfl rfl rfl (by decide) (by omega) ?_
            show qJ YX12_agree κ _ (qLy u, (q_row (q_row m 114 f) 115 g), y) 0 0 89 [some (qR 77), some (qI t), some (qI bt), some (qI (rt t.toNat 0)), some (qI (rt t.toNat 0 * rt t.toNat 1)), some (qI (rt t.toNat 0 * rt t.toNat 1 * rt t.toNat 2)), some (qI a), some (qI (4 * a))] [qI (f (((4 * a) + 2).toNat)), qI ((f ((4 * a).toNat)) + ((f (((4 * a) + 1).toNat)) * (rt t.toNat 0)))]
            refine qJ.run hκ 8 (pc' := 101) (ls' := [some (qR 77), some (qI t), some (qI bt), some (qI (rt t.toNat 0)), some (qI (rt t.toNat 0 * rt t.toNat 1)), some (qI (rt t.toNat 0 * rt t.toNat 1 * rt t.toNat 2)), some (qI a), some (qI (4 * a))]) (st' := [qI ((4 * a) + 3), qR 114, qI (((f ((4 * a).toNat)) + ((f (((4 * a) + 1).toNat)) * (rt t.toNat 0))) + ((f (((4 * a) + 2).toNat)) * (rt t.toNat 0 * rt t.toNat 1)))]) rfl ?_
            refine qJ.ald hκ rfl rfl rfl (by decide) (by omega) ?_
            show qJ YX12_agree κ _ (qLy u, (q_row (q_row m 114 f) 115 g), y) 0 0 102 [some (qR 77), some (qI t), some (qI bt), some (qI (rt t.toNat 0)), some (qI (rt t.toNat 0 * rt t.toNat 1)), some (qI (rt t.toNat 0 * rt t.toNat 1 * rt t.toNat 2)), some (qI a), some (qI (4 * a))] [qI (f (((4 * a) + 3).toNat)), qI (((f ((4 * a).toNat)) + ((f (((4 * a) + 1).toNat)) * (rt t.toNat 0))) + ((f (((4 * a) + 2).toNat)) * (rt t.toNat 0 * rt t.toNat 1)))]
            refine qJ.run hκ 3 (pc' := 106) (ls' := [some (qR 77), some (qI t), some (qI bt), some (qI (rt t.toNat 0)), some (qI (rt t.toNat 0 * rt t.toNat 1)), some (qI (rt t.toNat 0 * rt t.toNat 1 * rt t.toNat 2)), some (qI a), some (qI (4 * a))]) (st' := [qI ((((f ((4 * a).toNat)) + ((f (((4 * a) + 1).toNat)) * (rt t.toNat 0))) + ((f (((4 * a) + 2).toNat)) * (rt t.toNat 0 * rt t.toNat 1))) + ((f (((4 * a) + 3).toNat)) * (rt t.toNat 0 * rt t.toNat 1 * rt t.toNat 2)))]) rfl ?_
            refine qJ.if_eq hκ (tgt := 111) rfl rfl (by omega) (fun c106 => ?_) (fun c106 => ?_)
            · show qJ YX12_agree κ _ (qLy u, (q_row (q_row m 114 f) 115 g), y) 0 0 111 [some (qR 77), some (qI t), some (qI bt), some (qI (rt t.toNat 0)), some (qI (rt t.toNat 0 * rt t.toNat 1)), some (qI (rt t.toNat 0 * rt t.toNat 1 * rt t.toNat 2)), some (qI a), some (qI (4 * a))] []
              refine qJ.run hκ 2 (pc' := 28) (ls' := [some (qR 77), some (qI t), some (qI bt), some (qI (rt t.toNat 0)), some (qI (rt t.toNat 0 * rt t.toNat 1)), some (qI (rt t.toNat 0 * rt t.toNat 1 * rt t.toNat 2)), some (qI (a + 1)), some (qI (4 * a))]) (st' := []) rfl ?_
              refine qJ.dl [true, true, true, true, true, true, true, false] ?_
              show qJ YX12_agree κ _ (qLy u, (q_row (q_row m 114 f) 115 g), y) 0 0 28 [some (qR 77), some (qI t), some (qI bt), some (qI (rt t.toNat 0)), some (qI (rt t.toNat 0 * rt t.toNat 1)), some (qI (rt t.toNat 0 * rt t.toNat 1 * rt t.toNat 2)), some (qI (a + 1)), none] []
              exact ih28  (a + 1) (by omega) (by omega) (by rw [q_cnt_s v28_0, if_neg (fun z => z.2.2 (by omega))]; omega) (by omega)
            · show qJ YX12_agree κ _ (qLy u, (q_row (q_row m 114 f) 115 g), y) 0 0 109 [some (qR 77), some (qI t), some (qI bt), some (qI (rt t.toNat 0)), some (qI (rt t.toNat 0 * rt t.toNat 1)), some (qI (rt t.toNat 0 * rt t.toNat 1 * rt t.toNat 2)), some (qI a), some (qI (4 * a))] []
              refine qJ.run hκ 1 (pc' := 110) (ls' := [some (qR 77), some (qI t), some (qI bt), some (qI (rt t.toNat 0)), some (qI (rt t.toNat 0 * rt t.toNat 1)), some (qI (rt t.toNat 0 * rt t.toNat 1 * rt t.toNat 2)), some (qI a), some (qI (4 * a))]) (st' := [qI 0]) rfl ?_
              exact qJ.bret hκ rfl rfl (by omega) (by decide) (by decide) (⟨0, rfl, Or.inr ⟨rfl, fun z => q_cnt_pos (p := dBut m bt t.toNat) v28_0 (by omega) ⟨by rw [q_tn v28_0]; exact c48, hcA, fun q => c106 (by rw [wE, q]; rfl)⟩ z⟩, rfl⟩)
  show qJ YX12_agree κ _ (qLy u, (q_row (q_row m 114 f) 115 g), y) 0 0 0 [some (qR 77), some (qI t), some (qI bt), none, none, none, none, none] []
  refine qJ.run hκ 2 (pc' := 2) (ls' := [some (qR 77), some (qI t), some (qI bt), none, none, none, none, none]) (st' := [qI 0, qI t]) rfl ?_
  refine qJ.callS (As := [qI t, qI 0]) (rest := []) hκ rfl kX12_240 (m_ratioOf u (q_row (q_row m 114 f) 115 g) y t 0 (by omega) (by omega)) (by decide) rfl rfl (Nat.le_of_ble_eq_true rfl) (Nat.le_of_ble_eq_true rfl) (Nat.le_of_ble_eq_true rfl) (Or.inl (fun r h' e => by obtain ⟨rfl, rfl⟩ := e; rfl)) (fun r h' e => ?_)
  obtain ⟨rfl, rfl⟩ := e
  show qJ YX12_agree κ _ (qLy u, (q_row (q_row m 114 f) 115 g), y) 0 0 5 [some (qR 77), some (qI t), some (qI bt), none, none, none, none, none] [qI (rt t.toNat 0)]
  refine qJ.run hκ 4 (pc' := 9) (ls' := [some (qR 77), some (qI t), some (qI bt), some (qI (rt t.toNat 0)), none, none, none, none]) (st' := [qI 1, qI t, qI (rt t.toNat 0)]) rfl ?_
  refine qJ.callS (As := [qI t, qI 1]) (rest := [qI (rt t.toNat 0)]) hκ rfl kX12_240 (m_ratioOf u (q_row (q_row m 114 f) 115 g) y t 1 (by omega) (by omega)) (by decide) rfl rfl (Nat.le_of_ble_eq_true rfl) (Nat.le_of_ble_eq_true rfl) (Nat.le_of_ble_eq_true rfl) (Or.inl (fun r h' e => by obtain ⟨rfl, rfl⟩ := e; rfl)) (fun r h' e => ?_)
  obtain ⟨rfl, rfl⟩ := e
  show qJ YX12_agree κ _ (qLy u, (q_row (q_row m 114 f) 115 g), y) 0 0 12 [some (qR 77), some (qI t), some (qI bt), some (qI (rt t.toNat 0)), none, none, none, none] [qI (rt t.toNat 1), qI (rt t.toNat 0)]
  refine qJ.run hκ 5 (pc' := 19) (ls' := [some (qR 77), some (qI t), some (qI bt), some (qI (rt t.toNat 0)), some (qI ((rt t.toNat 0) * (rt t.toNat 1))), none, none, none]) (st' := [qI 2, qI t, qI ((rt t.toNat 0) * (rt t.toNat 1))]) rfl ?_
  refine qJ.callS (As := [qI t, qI 2]) (rest := [qI ((rt t.toNat 0) * (rt t.toNat 1))]) hκ rfl kX12_240 (m_ratioOf u (q_row (q_row m 114 f) 115 g) y t 2 (by omega) (by omega)) (by decide) rfl rfl (Nat.le_of_ble_eq_true rfl) (Nat.le_of_ble_eq_true rfl) (Nat.le_of_ble_eq_true rfl) (Or.inl (fun r h' e => by obtain ⟨rfl, rfl⟩ := e; rfl)) (fun r h' e => ?_)
  obtain ⟨rfl, rfl⟩ := e
  show qJ YX12_agree κ _ (qLy u, (q_row (q_row m 114 f) 115 g), y) 0 0 22 [some (qR 77), some (qI t), some (qI bt), some (qI (rt t.toNat 0)), some (qI ((rt t.toNat 0) * (rt t.toNat 1))), none, none, none] [qI (rt t.toNat 2), qI ((rt t.toNat 0) * (rt t.toNat 1))]
  refine qJ.run hκ 4 (pc' := 28) (ls' := [some (qR 77), some (qI t), some (qI bt), some (qI (rt t.toNat 0)), some (qI ((rt t.toNat 0) * (rt t.toNat 1))), some (qI (((rt t.toNat 0) * (rt t.toNat 1)) * (rt t.toNat 2))), some (qI 0), none]) (st' := []) rfl ?_
  exact L28 11 0 (by omega) (by omega) (rfl) (by omega)

set_option maxRecDepth 100000 in
theorem m_setsBut (u : qU) (m y : qM) (f g : Nat → Int) (bt : Int) (hR : rL m) (hP : PA m f g (m 12 0)) (hb : qr bt) : qCt YX12_setsBut 3 0 0 [qR 77, qI bt] (qLy u, (q_row (q_row m 114 f) 115 g), y) (fun r h => r = some (qI (q_cnt (oBut m bt) 1331 : Nat)) ∧ h = (qLy u, (q_row (q_row m 114 f) 115 g), y)) := by
  refine qCt.intro okX12_setsBut (Nat.le_of_ble_eq_true rfl) (fun κ hκ => ?_)
  have L4 : ∀ (n : Nat) (c : Int) (t : Int), (0 ≤ t) → (t ≤ 1331) → (c = (q_cnt (oBut m bt) t.toNat : Nat)) → ((1331 - t).toNat) < n → qJ YX12_setsBut κ (qFin (fun r h => r = some (qI (q_cnt (oBut m bt) 1331 : Nat)) ∧ h = (qLy u, (q_row (q_row m 114 f) 115 g), y)) 0 0 κ) (qLy u, (q_row (q_row m 114 f) 115 g), y) 0 0 4 [some (qR 77), some (qI bt), some (qI c), some (qI t)] [] := by
    intro n
    induction n with
    | zero => intro c t _ _ _ hz0; omega
    | succ n ih4 =>
      intro c t v4_0 v4_1 v4_2 v4_m
      refine qJ.run hκ 2 (pc' := 8) (ls' := [some (qR 77), some (qI bt), some (qI c), some (qI t)]) (st' := [qI 1331, qI t]) rfl ?_
      refine qJ.icmp_ge hκ (tgt := 34) rfl rfl (by omega) (by omega) (fun c8 => ?_) (fun c8 => ?_)
      · show qJ YX12_setsBut κ _ (qLy u, (q_row (q_row m 114 f) 115 g), y) 0 0 34 [some (qR 77), some (qI bt), some (qI c), some (qI t)] []
        refine qJ.run hκ 1 (pc' := 35) (ls' := [some (qR 77), some (qI bt), some (qI c), some (qI t)]) (st' := [qI c]) rfl ?_
        exact qJ.iret hκ rfl rfl (by decide) (by decide) (⟨by congr 2; rw [v4_2, show t = 1331 by omega]; rfl, rfl⟩)
      · show qJ YX12_setsBut κ _ (qLy u, (q_row (q_row m 114 f) 115 g), y) 0 0 11 [some (qR 77), some (qI bt), some (qI c), some (qI t)] []
        refine qJ.run hκ 4 (pc' := 15) (ls' := [some (qR 77), some (qI bt), some (qI c), some (qI t)]) (st' := [qI bt, qI t, qR 77, qI c]) rfl ?_
        refine qJ.callV (As := [qI t, qI bt]) (rest := [qI c]) hκ rfl kX12_243 (m_agree u m y f g t bt hR hP (by omega) (by omega)) rfl rfl (by decide) rfl rfl (Nat.le_of_ble_eq_true rfl) (Nat.le_of_ble_eq_true rfl) (Nat.le_of_ble_eq_true rfl) (Or.inl (fun r h' e => by obtain ⟨z15, rfl, hz15, rfl⟩ := e; rfl)) (fun r h' e => ?_)
        obtain ⟨z15, rfl, hz15, rfl⟩ := e
        show qJ YX12_setsBut κ _ (qLy u, (q_row (q_row m 114 f) 115 g), y) 0 0 18 [some (qR 77), some (qI bt), some (qI c), some (qI t)] [qI z15, qI c]
        refine qJ.if_eq hκ (tgt := 25) rfl rfl (by omega) (fun c18 => ?_) (fun c18 => ?_)
        · show qJ YX12_setsBut κ _ (qLy u, (q_row (q_row m 114 f) 115 g), y) 0 0 25 [some (qR 77), some (qI bt), some (qI c), some (qI t)] [qI c]
          refine qJ.run hκ 5 (pc' := 4) (ls' := [some (qR 77), some (qI bt), some (qI (c + 0)), some (qI (t + 1))]) (st' := []) rfl ?_
          exact ih4  (c + 0) (t + 1) (by omega) (by omega) (by rw [q_cnt_s v4_0, if_neg (by omega)]; omega) (by omega)
        · show qJ YX12_setsBut κ _ (qLy u, (q_row (q_row m 114 f) 115 g), y) 0 0 21 [some (qR 77), some (qI bt), some (qI c), some (qI t)] [qI c]
          refine qJ.run hκ 6 (pc' := 4) (ls' := [some (qR 77), some (qI bt), some (qI (c + 1)), some (qI (t + 1))]) (st' := []) rfl ?_
          exact ih4  (c + 1) (t + 1) (by omega) (by omega) (by rw [q_cnt_s v4_0, if_pos (by omega)]; omega) (by omega)
  show qJ YX12_setsBut κ _ (qLy u, (q_row (q_row m 114 f) 115 g), y) 0 0 0 [some (qR 77), some (qI bt), none, none] []
  refine qJ.run hκ 4 (pc' := 4) (ls' := [some (qR 77), some (qI bt), some (qI 0), some (qI 0)]) (st' := []) rfl ?_
  exact L4 1332 0 0 (by omega) (by omega) (rfl) (by omega)

theorem nR_o {m m' : qM} (h : keep kObs m' = keep kObs m) : nR m' = nR m := by
  show nR (keep kObs m') = nR (keep kObs m)
  rw [h]
theorem sOK_o {m m' : qM} (h13 : m' 13 = m 13) (n t : Nat) : sOK m' n t ↔ sOK m n t := by
  unfold sOK dis cA wo xE sP nP tL isP isT
  rw [h13]
theorem spo_o {m m' : qM} (h13 : m' 13 = m 13) (n a t : Nat) : spo m' n a t ↔ spo m n a t := by
  unfold spo dis cA wo xE sP nP tL isP isT
  rw [h13]
theorem q_nth_c {p q : Nat → Prop} [DecidablePred p] [DecidablePred q] {k : Int} (h : ∀ s, p s ↔ q s) (n : Nat) : q_nth p k n = q_nth q k n := by
  unfold q_nth
  refine q_fst_c n fun s _ => ?_
  rw [q_cnt_c (p := p) (q := q) s (fun j _ => h j), h s]
theorem ansSets_o {m m' : qM} (h : keep kObs m' = keep kObs m) : ansSets m' = ansSets m := by
  have e : m' 13 = m 13 := congrFun h 13
  unfold ansSets
  rw [nR_o h, q_cnt_c (q := sOK m (nR m)) 1331 (fun t _ => sOK_o e _ t)]
theorem ansRat_o {m m' : qM} (h : keep kObs m' = keep kObs m) (k w : Int) : ansRat m' k w = ansRat m k w := by
  have e : m' 13 = m 13 := congrFun h 13
  unfold ansRat
  rw [nR_o h, q_nth_c (q := sOK m (nR m)) (fun t => sOK_o e _ t)]
theorem ansSur_o {m m' : qM} (h : keep kObs m' = keep kObs m) (w : Int) : ansSur m' w = ansSur m w := by
  have e : m' 13 = m 13 := congrFun h 13
  unfold ansSur
  rw [nR_o h, q_cnt_c (q := sOK m (nR m)) 1331 (fun t _ => sOK_o e _ t), (rmin_c e _ _ _).1, (rmin_c e _ _ _).2]
theorem ansOdd_o {m m' : qM} (h : keep kObs m' = keep kObs m) (k : Int) : ansOdd m' k = ansOdd m k := by
  have e : m' 13 = m 13 := congrFun h 13
  unfold ansOdd
  rw [nR_o h, q_cnt_c (q := sOK m (nR m)) 1331 (fun t _ => sOK_o e _ t), q_nth_c (q := fun a => spo m (nR m) a 1331) (fun a => spo_o e _ a _)]
theorem sets_e {m : qM} (h : rL m) : q_cnt (oBut m (-1)) 1331 = q_cnt (sOK m (nR m)) 1331 := q_cnt_c _ fun t _ => oBut_1 h

set_option maxRecDepth 100000 in
theorem b_sets (u : qU) (m y : qM) (hR : rL m) (hd8 : rA m) {κ : qK} (hκ : qCx YX12_sets 4 0 0 κ) : qJ YX12_sets κ (qFin (fun r h => ∃ m', r = some (qI (ansSets m )) ∧ h = (qLy u, m', y) ∧ keep kObs m' = keep kObs m) 0 0 κ) (qLy u, m, y) 0 0 5 [some (qR 77)] [] := by
  have hd9 := hd8
  obtain ⟨-, ⟨a3, a4, a5⟩, -, b3, b4, b5⟩ := hd9
  obtain ⟨⟨l0, l1, l2⟩, l3, l4, l5⟩ := hR.1
  have hV : qr (m 83 0) := by omega
  have hh := hz_eq hd8
  have zr := gHz_r hd8
  refine qJ.run hκ 1 (pc' := 6) (ls' := [some (qR 77)]) (st' := [qR 77]) rfl ?_
  refine qJ.callV (As := []) (rest := []) hκ rfl kX12_246 (m_look u m y hR hd8) rfl rfl (by decide) rfl rfl (Nat.le_of_ble_eq_true rfl) (Nat.le_of_ble_eq_true rfl) (Nat.le_of_ble_eq_true rfl) (Or.inl (fun r h' e => by obtain ⟨rfl, f, g, rfl, hP⟩ := e; rfl)) (fun r h' e => ?_)
  obtain ⟨rfl, f, g, rfl, hP⟩ := e
  show qJ YX12_sets κ _ (qLy u, (q_row (q_row m 114 f) 115 g), y) 0 0 9 [some (qR 77)] []
  refine qJ.run hκ 2 (pc' := 11) (ls' := [some (qR 77)]) (st' := [qI (-1), qR 77]) rfl ?_
  refine qJ.callV (As := [qI (-1)]) (rest := []) hκ rfl kX12_249 (m_setsBut u m y f g (-1) hR hP (by omega)) rfl rfl (by decide) rfl rfl (Nat.le_of_ble_eq_true rfl) (Nat.le_of_ble_eq_true rfl) (Nat.le_of_ble_eq_true rfl) (Or.inl (fun r h' e => by obtain ⟨rfl, rfl⟩ := e; rfl)) (fun r h' e => ?_)
  obtain ⟨rfl, rfl⟩ := e
  show qJ YX12_sets κ _ (qLy u, (q_row (q_row m 114 f) 115 g), y) 0 0 14 [some (qR 77)] [qI (q_cnt (oBut m (-1)) 1331 : Nat)]
  exact qJ.iret hκ rfl rfl (by decide) (by decide) (⟨_, by unfold ansSets; rw [sets_e hR], rfl, (Eq.trans (keep_row (by intro j; rfl)) (Eq.trans (keep_row (by intro j; rfl)) rfl))⟩)
set_option maxRecDepth 100000 in
theorem w_sets (u : qU) (m y : qM) (hR : rL m) (hd8 : rA m) : qCt YX12_sets 4 0 0 [qR 77] (qLy u, m, y) (fun r h => ∃ m', r = some (qI (ansSets (q_up m 77 0 0) )) ∧ h = (qLy u, m', y) ∧ keep kObs m' = keep kObs (q_up m 77 0 0)) := by
  refine qCt.intro okX12_sets (Nat.le_of_ble_eq_true rfl) (fun κ hκ => ?_)
  show qJ YX12_sets κ _ (qLy u, m, y) 0 0 0 [some (qR 77)] []
  refine qJ.run hκ 2 (pc' := 2) (ls' := [some (qR 77)]) (st' := [qI 0, qR 77]) rfl ?_
  refine qJ.putI hκ rfl rfl rfl rfl (Or.inl rfl) ?_
  show qJ YX12_sets κ _ (qLy u, (q_up m 77 0 0), y) 0 0 5 [some (qR 77)] []
  exact b_sets u (q_up m 77 0 0) y  (show rL (q_up m 77 0 0) from hR) (show rA (q_up m 77 0 0) from hd8) hκ
theorem m_sets (u : qU) (m y : qM) (hR : rL m) (hd8 : rA m) : qCt YX12_sets 4 0 0 [qR 77] (qLy u, m, y) (fun r h => ∃ m', r = some (qI (ansSets m )) ∧ h = (qLy u, m', y) ∧ keep kObs m' = keep kObs m) := by
  refine (w_sets u m y  hR hd8).weak ?_
  rintro r h ⟨m', e1, e2, e3⟩
  exact ⟨m', by rw [e1, ansSets_o (keep_up (by rfl))], e2, e3.trans (keep_up (by rfl))⟩

set_option maxRecDepth 100000 in
theorem b_ratio (u : qU) (m y : qM) (k w : Int) (hR : rL m) (hd8 : rA m) (h1 : qr k) (h2 : qr w) {κ : qK} (hκ : qCx YX12_ratio 4 0 0 κ) : qJ YX12_ratio κ (qFin (fun r h => ∃ m', r = some (qI (ansRat m k w)) ∧ h = (qLy u, m', y) ∧ keep kObs m' = keep kObs m) 0 0 κ) (qLy u, m, y) 0 0 5 [some (qR 77), some (qI k), some (qI w), none, none] [] := by
  have hd9 := hd8
  obtain ⟨-, ⟨a3, a4, a5⟩, -, b3, b4, b5⟩ := hd9
  obtain ⟨⟨l0, l1, l2⟩, l3, l4, l5⟩ := hR.1
  have hV : qr (m 83 0) := by omega
  have hh := hz_eq hd8
  have zr := gHz_r hd8
  have L25 : ∀ (n : Nat) (f : Nat → Int) (g : Nat → Int) (c : Int) (t : Int), (0 ≤ t) → (t ≤ 1331) → (PA m f g (m 12 0)) → (c = (q_cnt (sOK m (nR m)) t.toNat : Nat)) → (q_nth (sOK m (nR m)) k t.toNat = -1) → (0 ≤ w ∧ w ≤ 2) → ((1331 - t).toNat) < n → qJ YX12_ratio κ (qFin (fun r h => ∃ m', r = some (qI (ansRat m k w)) ∧ h = (qLy u, m', y) ∧ keep kObs m' = keep kObs m) 0 0 κ) (qLy u, (q_row (q_row m 114 f) 115 g), y) 0 0 25 [some (qR 77), some (qI k), some (qI w), some (qI c), some (qI t)] [] := by
    intro n
    induction n with
    | zero => intro f g c t _ _ _ _ _ _ hz0; omega
    | succ n ih25 =>
      intro f g c t v25_0 v25_1 v25_2 v25_3 v25_4 v25_5 v25_m
      have cl := q_cnt_le (sOK m (nR m)) t.toNat
      refine qJ.run hκ 2 (pc' := 30) (ls' := [some (qR 77), some (qI k), some (qI w), some (qI c), some (qI t)]) (st' := [qI 1331, qI t]) rfl ?_
      refine qJ.icmp_ge hκ (tgt := 64) rfl rfl (by omega) (by omega) (fun c30 => ?_) (fun c30 => ?_)
      · show qJ YX12_ratio κ _ (qLy u, (q_row (q_row m 114 f) 115 g), y) 0 0 64 [some (qR 77), some (qI k), some (qI w), some (qI c), some (qI t)] []
        refine qJ.run hκ 1 (pc' := 65) (ls' := [some (qR 77), some (qI k), some (qI w), some (qI c), some (qI t)]) (st' := [qI (-1)]) rfl ?_
        exact qJ.iret hκ rfl rfl (by decide) (by decide) (⟨_, by unfold ansRat; rw [if_pos v25_5, if_pos (by rw [show t = 1331 by omega] at v25_4; exact v25_4)], rfl, (Eq.trans (keep_row (by intro j; rfl)) (Eq.trans (keep_row (by intro j; rfl)) rfl))⟩)
      · show qJ YX12_ratio κ _ (qLy u, (q_row (q_row m 114 f) 115 g), y) 0 0 33 [some (qR 77), some (qI k), some (qI w), some (qI c), some (qI t)] []
        refine qJ.run hκ 3 (pc' := 37) (ls' := [some (qR 77), some (qI k), some (qI w), some (qI c), some (qI t)]) (st' := [qI (-1), qI t, qR 77]) rfl ?_
        refine qJ.callV (As := [qI t, qI (-1)]) (rest := []) hκ rfl kX12_243 (m_agree u m y f g t (-1) hR v25_2 (by omega) (by omega)) rfl rfl (by decide) rfl rfl (Nat.le_of_ble_eq_true rfl) (Nat.le_of_ble_eq_true rfl) (Nat.le_of_ble_eq_true rfl) (Or.inl (fun r h' e => by obtain ⟨z37, rfl, hz0, rfl⟩ := e; rfl)) (fun r h' e => ?_)
        obtain ⟨z37, rfl, hz0, rfl⟩ := e
        show qJ YX12_ratio κ _ (qLy u, (q_row (q_row m 114 f) 115 g), y) 0 0 40 [some (qR 77), some (qI k), some (qI w), some (qI c), some (qI t)] [qI z37]
        have hz : (z37 = 1 ∧ sOK m (nR m) t.toNat) ∨ (z37 = 0 ∧ ¬ sOK m (nR m) t.toNat) := by rw [← oBut_1 hR]; exact hz0
        refine qJ.if_eq hκ (tgt := 58) rfl rfl (by omega) (fun c40 => ?_) (fun c40 => ?_)
        · show qJ YX12_ratio κ _ (qLy u, (q_row (q_row m 114 f) 115 g), y) 0 0 58 [some (qR 77), some (qI k), some (qI w), some (qI c), some (qI t)] []
          refine qJ.run hκ 2 (pc' := 25) (ls' := [some (qR 77), some (qI k), some (qI w), some (qI c), some (qI (t + 1))]) (st' := []) rfl ?_
          exact ih25  f g c (t + 1) (by omega) (by omega) (v25_2) (by rw [q_cnt_s v25_0, if_neg (by omega)]; omega) (q_fst_no v25_0 v25_4 (fun z => by have := z.1; omega)) (by omega) (by omega)
        · show qJ YX12_ratio κ _ (qLy u, (q_row (q_row m 114 f) 115 g), y) 0 0 43 [some (qR 77), some (qI k), some (qI w), some (qI c), some (qI t)] []
          refine qJ.run hκ 2 (pc' := 45) (ls' := [some (qR 77), some (qI k), some (qI w), some (qI c), some (qI t)]) (st' := [qI k, qI c]) rfl ?_
          refine qJ.icmp_ne hκ (tgt := 55) rfl rfl (by omega) (by omega) (fun c45 => ?_) (fun c45 => ?_)
          · show qJ YX12_ratio κ _ (qLy u, (q_row (q_row m 114 f) 115 g), y) 0 0 55 [some (qR 77), some (qI k), some (qI w), some (qI c), some (qI t)] []
            refine qJ.run hκ 3 (pc' := 25) (ls' := [some (qR 77), some (qI k), some (qI w), some (qI (c + 1)), some (qI (t + 1))]) (st' := []) rfl ?_
            exact ih25  f g (c + 1) (t + 1) (by omega) (by omega) (v25_2) (by rw [q_cnt_s v25_0, if_pos (by omega)]; omega) (q_fst_no v25_0 v25_4 (fun z => by have := z.2; omega)) (by omega) (by omega)
          · show qJ YX12_ratio κ _ (qLy u, (q_row (q_row m 114 f) 115 g), y) 0 0 48 [some (qR 77), some (qI k), some (qI w), some (qI c), some (qI t)] []
            refine qJ.run hκ 2 (pc' := 51) (ls' := [some (qR 77), some (qI k), some (qI w), some (qI c), some (qI t)]) (st' := [qI w, qI t]) rfl ?_
            refine qJ.callS (As := [qI t, qI w]) (rest := []) hκ rfl kX12_240 (m_ratioOf u (q_row (q_row m 114 f) 115 g) y t w (by omega) (by omega)) (by decide) rfl rfl (Nat.le_of_ble_eq_true rfl) (Nat.le_of_ble_eq_true rfl) (Nat.le_of_ble_eq_true rfl) (Or.inl (fun r h' e => by obtain ⟨rfl, rfl⟩ := e; rfl)) (fun r h' e => ?_)
            obtain ⟨rfl, rfl⟩ := e
            show qJ YX12_ratio κ _ (qLy u, (q_row (q_row m 114 f) 115 g), y) 0 0 54 [some (qR 77), some (qI k), some (qI w), some (qI c), some (qI t)] [qI (rt t.toNat w.toNat)]
            exact qJ.iret hκ rfl rfl (by decide) (by decide) (by
      have hn : q_nth (sOK m (nR m)) k 1331 = t := q_fst_hit (p := fun s => sOK m (nR m) s ∧ ((q_cnt (sOK m (nR m)) s : Nat) : Int) = k) v25_0 v25_4 ⟨by omega, by omega⟩ 1331 (by omega)
      exact ⟨_, by unfold ansRat; rw [if_pos v25_5, hn, if_neg (by omega)], rfl, (Eq.trans (keep_row (by intro j; rfl)) (Eq.trans (keep_row (by intro j; rfl)) rfl))⟩)
  refine qJ.run hκ 3 (pc' := 8) (ls' := [some (qR 77), some (qI k), some (qI w), none, none]) (st' := [qI 2, qI 0, qI w]) rfl ?_
  refine qJ.callS (As := [qI w, qI 0, qI 2]) (rest := []) hκ rfl kX12_167 (c_in u m y w 0 2 (by omega) (by omega) (by omega)) (by decide) rfl rfl (Nat.le_of_ble_eq_true rfl) (Nat.le_of_ble_eq_true rfl) (Nat.le_of_ble_eq_true rfl) (Or.inl (fun r h' e => by obtain ⟨z8, rfl, hz8, rfl⟩ := e; rfl)) (fun r h' e => ?_)
  obtain ⟨z8, rfl, hz8, rfl⟩ := e
  show qJ YX12_ratio κ _ (qLy u, m, y) 0 0 11 [some (qR 77), some (qI k), some (qI w), none, none] [qI z8]
  refine qJ.if_ne hκ (tgt := 16) rfl rfl (by omega) (fun c11 => ?_) (fun c11 => ?_)
  · show qJ YX12_ratio κ _ (qLy u, m, y) 0 0 16 [some (qR 77), some (qI k), some (qI w), none, none] []
    refine qJ.run hκ 1 (pc' := 17) (ls' := [some (qR 77), some (qI k), some (qI w), none, none]) (st' := [qR 77]) rfl ?_
    refine qJ.callV (As := []) (rest := []) hκ rfl kX12_246 (m_look u m y hR hd8) rfl rfl (by decide) rfl rfl (Nat.le_of_ble_eq_true rfl) (Nat.le_of_ble_eq_true rfl) (Nat.le_of_ble_eq_true rfl) (Or.inl (fun r h' e => by obtain ⟨rfl, f, g, rfl, hP⟩ := e; rfl)) (fun r h' e => ?_)
    obtain ⟨rfl, f, g, rfl, hP⟩ := e
    show qJ YX12_ratio κ _ (qLy u, (q_row (q_row m 114 f) 115 g), y) 0 0 20 [some (qR 77), some (qI k), some (qI w), none, none] []
    refine qJ.run hκ 4 (pc' := 25) (ls' := [some (qR 77), some (qI k), some (qI w), some (qI 0), some (qI 0)]) (st' := []) rfl ?_
    exact L25 1332 f g 0 0 (by omega) (by omega) (hP) (rfl) (rfl) (by omega) (by omega)
  · show qJ YX12_ratio κ _ (qLy u, m, y) 0 0 14 [some (qR 77), some (qI k), some (qI w), none, none] []
    refine qJ.run hκ 1 (pc' := 15) (ls' := [some (qR 77), some (qI k), some (qI w), none, none]) (st' := [qI (-1)]) rfl ?_
    exact qJ.iret hκ rfl rfl (by decide) (by decide) (⟨m, by unfold ansRat; rw [if_neg (fun z => by omega)], rfl, rfl⟩)
set_option maxRecDepth 100000 in
theorem w_ratio (u : qU) (m y : qM) (k w : Int) (hR : rL m) (hd8 : rA m) (h1 : qr k) (h2 : qr w) : qCt YX12_ratio 4 0 0 [qR 77, qI k, qI w] (qLy u, m, y) (fun r h => ∃ m', r = some (qI (ansRat (q_up m 77 0 0) k w)) ∧ h = (qLy u, m', y) ∧ keep kObs m' = keep kObs (q_up m 77 0 0)) := by
  refine qCt.intro okX12_ratio (Nat.le_of_ble_eq_true rfl) (fun κ hκ => ?_)
  show qJ YX12_ratio κ _ (qLy u, m, y) 0 0 0 [some (qR 77), some (qI k), some (qI w), none, none] []
  refine qJ.run hκ 2 (pc' := 2) (ls' := [some (qR 77), some (qI k), some (qI w), none, none]) (st' := [qI 0, qR 77]) rfl ?_
  refine qJ.putI hκ rfl rfl rfl rfl (Or.inl rfl) ?_
  show qJ YX12_ratio κ _ (qLy u, (q_up m 77 0 0), y) 0 0 5 [some (qR 77), some (qI k), some (qI w), none, none] []
  exact b_ratio u (q_up m 77 0 0) y k w (show rL (q_up m 77 0 0) from hR) (show rA (q_up m 77 0 0) from hd8) h1 h2 hκ
theorem m_ratio (u : qU) (m y : qM) (k w : Int) (hR : rL m) (hd8 : rA m) (h1 : qr k) (h2 : qr w) : qCt YX12_ratio 4 0 0 [qR 77, qI k, qI w] (qLy u, m, y) (fun r h => ∃ m', r = some (qI (ansRat m k w)) ∧ h = (qLy u, m', y) ∧ keep kObs m' = keep kObs m) := by
  refine (w_ratio u m y k w hR hd8 h1 h2).weak ?_
  rintro r h ⟨m', e1, e2, e3⟩
  exact ⟨m', by rw [e1, ansRat_o (keep_up (by rfl))], e2, e3.trans (keep_up (by rfl))⟩

set_option maxRecDepth 100000 in
theorem b_sureRatio (u : qU) (m y : qM) (w : Int) (hR : rL m) (hd8 : rA m) (h1 : qr w) {κ : qK} (hκ : qCx YX12_sureRatio 4 0 0 κ) : qJ YX12_sureRatio κ (qFin (fun r h => ∃ m', r = some (qI (ansSur m w)) ∧ h = (qLy u, m', y) ∧ keep kObs m' = keep kObs m) 0 0 κ) (qLy u, m, y) 0 0 5 [some (qR 77), some (qI w), none, none, none] [] := by
  have hd9 := hd8
  obtain ⟨-, ⟨a3, a4, a5⟩, -, b3, b4, b5⟩ := hd9
  obtain ⟨⟨l0, l1, l2⟩, l3, l4, l5⟩ := hR.1
  have hV : qr (m 83 0) := by omega
  have hh := hz_eq hd8
  have zr := gHz_r hd8
  have L24 : ∀ (n : Nat) (f : Nat → Int) (g : Nat → Int) (c : Int) (t : Int), (0 ≤ t) → (t ≤ 1331) → (PA m f g (m 12 0)) → (c = sur m (nR m) w.toNat t.toNat) → (0 ≤ w ∧ w ≤ 2) → ((1331 - t).toNat) < n → qJ YX12_sureRatio κ (qFin (fun r h => ∃ m', r = some (qI (ansSur m w)) ∧ h = (qLy u, m', y) ∧ keep kObs m' = keep kObs m) 0 0 κ) (qLy u, (q_row (q_row m 114 f) 115 g), y) 0 0 24 [some (qR 77), some (qI w), some (qI c), some (qI t), none] [] := by
    intro n
    induction n with
    | zero => intro f g c t _ _ _ _ _ hz0; omega
    | succ n ih24 =>
      intro f g c t v24_0 v24_1 v24_2 v24_3 v24_4 v24_m
      have se := sur_e (m := m) (nn := nR m) (w := w.toNat) t.toNat (by omega)
      have mm := rmm_r (m := m) (n := nR m) (w := w.toNat) t.toNat (by omega)
      have sr : -1 ≤ sur m (nR m) w.toNat t.toNat ∧ sur m (nR m) w.toNat t.toNat ≤ 12 := by rw [se.1]; split; omega; split <;> omega
      refine qJ.run hκ 2 (pc' := 28) (ls' := [some (qR 77), some (qI w), some (qI c), some (qI t), none]) (st' := [qI 1331, qI t]) rfl ?_
      refine qJ.icmp_ge hκ (tgt := 70) rfl rfl (by omega) (by omega) (fun c28 => ?_) (fun c28 => ?_)
      · show qJ YX12_sureRatio κ _ (qLy u, (q_row (q_row m 114 f) 115 g), y) 0 0 70 [some (qR 77), some (qI w), some (qI c), some (qI t), none] []
        refine qJ.run hκ 1 (pc' := 71) (ls' := [some (qR 77), some (qI w), some (qI c), some (qI t), none]) (st' := [qI c]) rfl ?_
        refine qJ.if_ne hκ (tgt := 78) rfl rfl (by omega) (fun c71 => ?_) (fun c71 => ?_)
        · show qJ YX12_sureRatio κ _ (qLy u, (q_row (q_row m 114 f) 115 g), y) 0 0 78 [some (qR 77), some (qI w), some (qI c), some (qI t), none] []
          refine qJ.run hκ 1 (pc' := 79) (ls' := [some (qR 77), some (qI w), some (qI c), some (qI t), none]) (st' := [qI c]) rfl ?_
          exact qJ.iret hκ rfl rfl (by decide) (by decide) (by
      have te : t.toNat = 1331 := by omega
      rw [te] at se v24_3 mm
      refine ⟨_, ?_, rfl, (Eq.trans (keep_row (by intro j; rfl)) (Eq.trans (keep_row (by intro j; rfl)) rfl))⟩
      unfold ansSur
      congr 2
      have s1 := se.1
      by_cases q : q_cnt (sOK m (nR m)) 1331 = 0
      · rw [if_pos q] at s1
        rw [if_neg (fun z => by have := z.2.1; omega)]
        all_goals omega
      · rw [if_neg q] at s1
        by_cases q2 : rmin m (nR m) w.toNat 1331 = rmax m (nR m) w.toNat 1331
        · rw [if_pos q2] at s1
          rw [if_pos ⟨v24_4, by omega, q2⟩]
          all_goals omega
        · rw [if_neg q2] at s1
          rw [if_neg (fun z => q2 z.2.2)]
          all_goals omega)
        · show qJ YX12_sureRatio κ _ (qLy u, (q_row (q_row m 114 f) 115 g), y) 0 0 74 [some (qR 77), some (qI w), some (qI c), some (qI t), none] []
          refine qJ.run hκ 2 (pc' := 79) (ls' := [some (qR 77), some (qI w), some (qI c), some (qI t), none]) (st' := [qI (-1)]) rfl ?_
          exact qJ.iret hκ rfl rfl (by decide) (by decide) (by
      have te : t.toNat = 1331 := by omega
      rw [te] at se v24_3 mm
      refine ⟨_, ?_, rfl, (Eq.trans (keep_row (by intro j; rfl)) (Eq.trans (keep_row (by intro j; rfl)) rfl))⟩
      unfold ansSur
      congr 2
      have s1 := se.1
      by_cases q : q_cnt (sOK m (nR m)) 1331 = 0
      · rw [if_pos q] at s1
        rw [if_neg (fun z => by have := z.2.1; omega)]
        all_goals omega
      · rw [if_neg q] at s1
        by_cases q2 : rmin m (nR m) w.toNat 1331 = rmax m (nR m) w.toNat 1331
        · rw [if_pos q2] at s1
          rw [if_pos ⟨v24_4, by omega, q2⟩]
          all_goals omega
        · rw [if_neg q2] at s1
          rw [if_neg (fun z => q2 z.2.2)]
          all_goals omega)
      · show qJ YX12_sureRatio κ _ (qLy u, (q_row (q_row m 114 f) 115 g), y) 0 0 31 [some (qR 77), some (qI w), some (qI c), some (qI t), none] []
        refine qJ.run hκ 3 (pc' := 34) (ls' := [some (qR 77), some (qI w), some (qI c), some (qI t), none]) (st' := [qI (-1), qI t, qR 77]) rfl ?_
        refine qJ.callV (As := [qI t, qI (-1)]) (rest := []) hκ rfl kX12_243 (m_agree u m y f g t (-1) hR v24_2 (by omega) (by omega)) rfl rfl (by decide) rfl rfl (Nat.le_of_ble_eq_true rfl) (Nat.le_of_ble_eq_true rfl) (Nat.le_of_ble_eq_true rfl) (Or.inl (fun r h' e => by obtain ⟨z34, rfl, hz0, rfl⟩ := e; rfl)) (fun r h' e => ?_)
        obtain ⟨z34, rfl, hz0, rfl⟩ := e
        show qJ YX12_sureRatio κ _ (qLy u, (q_row (q_row m 114 f) 115 g), y) 0 0 37 [some (qR 77), some (qI w), some (qI c), some (qI t), none] [qI z34]
        have hz : (z34 = 1 ∧ sOK m (nR m) t.toNat) ∨ (z34 = 0 ∧ ¬ sOK m (nR m) t.toNat) := by rw [← oBut_1 hR]; exact hz0
        have rr := rt_r (t := t.toNat) (w := w.toNat) (by omega)
        refine qJ.if_eq hκ (tgt := 64) rfl rfl (by omega) (fun c37 => ?_) (fun c37 => ?_)
        · show qJ YX12_sureRatio κ _ (qLy u, (q_row (q_row m 114 f) 115 g), y) 0 0 64 [some (qR 77), some (qI w), some (qI c), some (qI t), none] []
          refine qJ.run hκ 2 (pc' := 24) (ls' := [some (qR 77), some (qI w), some (qI c), some (qI (t + 1)), none]) (st' := []) rfl ?_
          exact ih24  f g c (t + 1) (by omega) (by omega) (v24_2) (by rw [show (t + 1).toNat = t.toNat + 1 by omega]; unfold sur; rw [if_neg (by omega)]; exact v24_3) (by omega) (by omega)
        · show qJ YX12_sureRatio κ _ (qLy u, (q_row (q_row m 114 f) 115 g), y) 0 0 40 [some (qR 77), some (qI w), some (qI c), some (qI t), none] []
          refine qJ.run hκ 2 (pc' := 42) (ls' := [some (qR 77), some (qI w), some (qI c), some (qI t), none]) (st' := [qI w, qI t]) rfl ?_
          refine qJ.callS (As := [qI t, qI w]) (rest := []) hκ rfl kX12_240 (m_ratioOf u (q_row (q_row m 114 f) 115 g) y t w (by omega) (by omega)) (by decide) rfl rfl (Nat.le_of_ble_eq_true rfl) (Nat.le_of_ble_eq_true rfl) (Nat.le_of_ble_eq_true rfl) (Or.inl (fun r h' e => by obtain ⟨rfl, rfl⟩ := e; rfl)) (fun r h' e => ?_)
          obtain ⟨rfl, rfl⟩ := e
          show qJ YX12_sureRatio κ _ (qLy u, (q_row (q_row m 114 f) 115 g), y) 0 0 45 [some (qR 77), some (qI w), some (qI c), some (qI t), none] [qI (rt t.toNat w.toNat)]
          refine qJ.run hκ 2 (pc' := 48) (ls' := [some (qR 77), some (qI w), some (qI c), some (qI t), some (qI (rt t.toNat w.toNat))]) (st' := [qI c]) rfl ?_
          refine qJ.if_eq hκ (tgt := 57) rfl rfl (by omega) (fun c48 => ?_) (fun c48 => ?_)
          · show qJ YX12_sureRatio κ _ (qLy u, (q_row (q_row m 114 f) 115 g), y) 0 0 57 [some (qR 77), some (qI w), some (qI c), some (qI t), some (qI (rt t.toNat w.toNat))] []
            refine qJ.run hκ 5 (pc' := 24) (ls' := [some (qR 77), some (qI w), some (qI (rt t.toNat w.toNat)), some (qI (t + 1)), some (qI (rt t.toNat w.toNat))]) (st' := []) rfl ?_
            refine qJ.dl [true, true, true, true, false] ?_
            show qJ YX12_sureRatio κ _ (qLy u, (q_row (q_row m 114 f) 115 g), y) 0 0 24 [some (qR 77), some (qI w), some (qI (rt t.toNat w.toNat)), some (qI (t + 1)), none] []
            exact ih24  f g (rt t.toNat w.toNat) (t + 1) (by omega) (by omega) (v24_2) (by rw [show (t + 1).toNat = t.toNat + 1 by omega]; unfold sur; rw [if_pos (by omega), if_pos (Or.inl (by omega))]) (by omega) (by omega)
          · show qJ YX12_sureRatio κ _ (qLy u, (q_row (q_row m 114 f) 115 g), y) 0 0 51 [some (qR 77), some (qI w), some (qI c), some (qI t), some (qI (rt t.toNat w.toNat))] []
            refine qJ.run hκ 2 (pc' := 54) (ls' := [some (qR 77), some (qI w), some (qI c), some (qI t), some (qI (rt t.toNat w.toNat))]) (st' := [qI (rt t.toNat w.toNat), qI c]) rfl ?_
            refine qJ.icmp_ne hκ (tgt := 62) rfl rfl (by omega) (by omega) (fun c54 => ?_) (fun c54 => ?_)
            · show qJ YX12_sureRatio κ _ (qLy u, (q_row (q_row m 114 f) 115 g), y) 0 0 62 [some (qR 77), some (qI w), some (qI c), some (qI t), some (qI (rt t.toNat w.toNat))] []
              refine qJ.run hκ 4 (pc' := 24) (ls' := [some (qR 77), some (qI w), some (qI (-1)), some (qI (t + 1)), some (qI (rt t.toNat w.toNat))]) (st' := []) rfl ?_
              refine qJ.dl [true, true, true, true, false] ?_
              show qJ YX12_sureRatio κ _ (qLy u, (q_row (q_row m 114 f) 115 g), y) 0 0 24 [some (qR 77), some (qI w), some (qI (-1)), some (qI (t + 1)), none] []
              exact ih24  f g (-1) (t + 1) (by omega) (by omega) (v24_2) (by rw [show (t + 1).toNat = t.toNat + 1 by omega]; unfold sur; rw [if_pos (by omega), if_neg (by omega)]) (by omega) (by omega)
            · show qJ YX12_sureRatio κ _ (qLy u, (q_row (q_row m 114 f) 115 g), y) 0 0 57 [some (qR 77), some (qI w), some (qI c), some (qI t), some (qI (rt t.toNat w.toNat))] []
              refine qJ.run hκ 5 (pc' := 24) (ls' := [some (qR 77), some (qI w), some (qI (rt t.toNat w.toNat)), some (qI (t + 1)), some (qI (rt t.toNat w.toNat))]) (st' := []) rfl ?_
              refine qJ.dl [true, true, true, true, false] ?_
              show qJ YX12_sureRatio κ _ (qLy u, (q_row (q_row m 114 f) 115 g), y) 0 0 24 [some (qR 77), some (qI w), some (qI (rt t.toNat w.toNat)), some (qI (t + 1)), none] []
              exact ih24  f g (rt t.toNat w.toNat) (t + 1) (by omega) (by omega) (v24_2) (by rw [show (t + 1).toNat = t.toNat + 1 by omega]; unfold sur; rw [if_pos (by omega), if_pos (Or.inr (by omega))]) (by omega) (by omega)
  refine qJ.run hκ 3 (pc' := 8) (ls' := [some (qR 77), some (qI w), none, none, none]) (st' := [qI 2, qI 0, qI w]) rfl ?_
  refine qJ.callS (As := [qI w, qI 0, qI 2]) (rest := []) hκ rfl kX12_167 (c_in u m y w 0 2 (by omega) (by omega) (by omega)) (by decide) rfl rfl (Nat.le_of_ble_eq_true rfl) (Nat.le_of_ble_eq_true rfl) (Nat.le_of_ble_eq_true rfl) (Or.inl (fun r h' e => by obtain ⟨z8, rfl, hz8, rfl⟩ := e; rfl)) (fun r h' e => ?_)
  obtain ⟨z8, rfl, hz8, rfl⟩ := e
  show qJ YX12_sureRatio κ _ (qLy u, m, y) 0 0 11 [some (qR 77), some (qI w), none, none, none] [qI z8]
  refine qJ.if_ne hκ (tgt := 16) rfl rfl (by omega) (fun c11 => ?_) (fun c11 => ?_)
  · show qJ YX12_sureRatio κ _ (qLy u, m, y) 0 0 16 [some (qR 77), some (qI w), none, none, none] []
    refine qJ.run hκ 1 (pc' := 17) (ls' := [some (qR 77), some (qI w), none, none, none]) (st' := [qR 77]) rfl ?_
    refine qJ.callV (As := []) (rest := []) hκ rfl kX12_246 (m_look u m y hR hd8) rfl rfl (by decide) rfl rfl (Nat.le_of_ble_eq_true rfl) (Nat.le_of_ble_eq_true rfl) (Nat.le_of_ble_eq_true rfl) (Or.inl (fun r h' e => by obtain ⟨rfl, f, g, rfl, hP⟩ := e; rfl)) (fun r h' e => ?_)
    obtain ⟨rfl, f, g, rfl, hP⟩ := e
    show qJ YX12_sureRatio κ _ (qLy u, (q_row (q_row m 114 f) 115 g), y) 0 0 20 [some (qR 77), some (qI w), none, none, none] []
    refine qJ.run hκ 4 (pc' := 24) (ls' := [some (qR 77), some (qI w), some (qI 0), some (qI 0), none]) (st' := []) rfl ?_
    exact L24 1332 f g 0 0 (by omega) (by omega) (hP) (rfl) (by omega) (by omega)
  · show qJ YX12_sureRatio κ _ (qLy u, m, y) 0 0 14 [some (qR 77), some (qI w), none, none, none] []
    refine qJ.run hκ 1 (pc' := 15) (ls' := [some (qR 77), some (qI w), none, none, none]) (st' := [qI (-1)]) rfl ?_
    exact qJ.iret hκ rfl rfl (by decide) (by decide) (⟨m, by unfold ansSur; rw [if_neg (fun z => by omega)], rfl, rfl⟩)
set_option maxRecDepth 100000 in
theorem w_sureRatio (u : qU) (m y : qM) (w : Int) (hR : rL m) (hd8 : rA m) (h1 : qr w) : qCt YX12_sureRatio 4 0 0 [qR 77, qI w] (qLy u, m, y) (fun r h => ∃ m', r = some (qI (ansSur (q_up m 77 0 0) w)) ∧ h = (qLy u, m', y) ∧ keep kObs m' = keep kObs (q_up m 77 0 0)) := by
  refine qCt.intro okX12_sureRatio (Nat.le_of_ble_eq_true rfl) (fun κ hκ => ?_)
  show qJ YX12_sureRatio κ _ (qLy u, m, y) 0 0 0 [some (qR 77), some (qI w), none, none, none] []
  refine qJ.run hκ 2 (pc' := 2) (ls' := [some (qR 77), some (qI w), none, none, none]) (st' := [qI 0, qR 77]) rfl ?_
  refine qJ.putI hκ rfl rfl rfl rfl (Or.inl rfl) ?_
  show qJ YX12_sureRatio κ _ (qLy u, (q_up m 77 0 0), y) 0 0 5 [some (qR 77), some (qI w), none, none, none] []
  exact b_sureRatio u (q_up m 77 0 0) y w (show rL (q_up m 77 0 0) from hR) (show rA (q_up m 77 0 0) from hd8) h1 hκ
theorem m_sureRatio (u : qU) (m y : qM) (w : Int) (hR : rL m) (hd8 : rA m) (h1 : qr w) : qCt YX12_sureRatio 4 0 0 [qR 77, qI w] (qLy u, m, y) (fun r h => ∃ m', r = some (qI (ansSur m w)) ∧ h = (qLy u, m', y) ∧ keep kObs m' = keep kObs m) := by
  refine (w_sureRatio u m y w hR hd8 h1).weak ?_
  rintro r h ⟨m', e1, e2, e3⟩
  exact ⟨m', by rw [e1, ansSur_o (keep_up (by rfl))], e2, e3.trans (keep_up (by rfl))⟩

theorem spo_no {m : qM} {a t : Nat} (h : rL m) (ha : m 12 0 ≤ (a : Int)) : ¬ spo m (nR m) a t := fun z => z ((q_cnt_no _).mpr fun s _ q => cA_no h.1 ha (nD_le m _) q.2.1)
theorem odd_end {m : qM} {k a : Int} (h : rL m) (ha : m 12 0 = a) (h0 : 0 ≤ a ∧ a ≤ 10) (hn : q_nth (fun a => spo m (nR m) a 1331) k a.toNat = -1) : q_nth (fun a => spo m (nR m) a 1331) k 10 = -1 := by
  unfold q_nth at *
  have key : ∀ d : Nat, a.toNat + d ≤ 10 → q_fst (fun s => spo m (nR m) s 1331 ∧ ((q_cnt (fun a => spo m (nR m) a 1331) s : Nat) : Int) = k) (a.toNat + d) = -1 := by
    intro d
    induction d with
    | zero => intro _; exact hn
    | succ d ih =>
      intro hd
      have := ih (by omega)
      show (if _ ∧ _ then _ else _) = -1
      rw [if_neg (fun q => spo_no h (show m 12 0 ≤ ((a.toNat + d : Nat) : Int) by omega) q.2.1)]
      exact this
  have := key (10 - a.toNat) (by omega)
  rw [show a.toNat + (10 - a.toNat) = 10 by omega] at this
  exact this

set_option maxRecDepth 100000 in
theorem b_odd (u : qU) (m y : qM) (k : Int) (hR : rL m) (hd8 : rA m) (h1 : qr k) {κ : qK} (hκ : qCx YX12_odd 4 0 0 κ) : qJ YX12_odd κ (qFin (fun r h => ∃ m', r = some (qI (ansOdd m k)) ∧ h = (qLy u, m', y) ∧ keep kObs m' = keep kObs m) 0 0 κ) (qLy u, m, y) 0 0 5 [some (qR 77), some (qI k), none, none] [] := by
  have hd9 := hd8
  obtain ⟨-, ⟨a3, a4, a5⟩, -, b3, b4, b5⟩ := hd9
  obtain ⟨⟨l0, l1, l2⟩, l3, l4, l5⟩ := hR.1
  have hV : qr (m 83 0) := by omega
  have hh := hz_eq hd8
  have zr := gHz_r hd8
  have L23 : ∀ (n : Nat) (f : Nat → Int) (g : Nat → Int) (c : Int) (a : Int), (0 ≤ a) → (a ≤ m 12 0) → (PA m f g (m 12 0)) → (c = (q_cnt (fun a => spo m (nR m) a 1331) a.toNat : Nat)) → (q_nth (fun a => spo m (nR m) a 1331) k a.toNat = -1) → (q_cnt (sOK m (nR m)) 1331 = 0) → ((m 12 0 - a).toNat) < n → qJ YX12_odd κ (qFin (fun r h => ∃ m', r = some (qI (ansOdd m k)) ∧ h = (qLy u, m', y) ∧ keep kObs m' = keep kObs m) 0 0 κ) (qLy u, (q_row (q_row m 114 f) 115 g), y) 0 0 23 [some (qR 77), some (qI k), some (qI c), some (qI a)] [] := by
    intro n
    induction n with
    | zero => intro f g c a _ _ _ _ _ _ hz0; omega
    | succ n ih23 =>
      intro f g c a v23_0 v23_1 v23_2 v23_3 v23_4 v23_5 v23_m
      have cl := q_cnt_le (fun a => spo m (nR m) a 1331) a.toNat
      refine qJ.run hκ 4 (pc' := 29) (ls' := [some (qR 77), some (qI k), some (qI c), some (qI a)]) (st' := [qI 0, qR 96, qI a]) rfl ?_
      refine qJ.ald hκ rfl rfl rfl (by decide) (by omega) ?_
      show qJ YX12_odd κ _ (qLy u, (q_row (q_row m 114 f) 115 g), y) 0 0 30 [some (qR 77), some (qI k), some (qI c), some (qI a)] [qI (m 96 0), qI a]
      refine qJ.icmp_ge hκ (tgt := 66) rfl rfl (by omega) (by omega) (fun c30 => ?_) (fun c30 => ?_)
      · show qJ YX12_odd κ _ (qLy u, (q_row (q_row m 114 f) 115 g), y) 0 0 66 [some (qR 77), some (qI k), some (qI c), some (qI a)] []
        refine qJ.run hκ 1 (pc' := 67) (ls' := [some (qR 77), some (qI k), some (qI c), some (qI a)]) (st' := [qI (-1)]) rfl ?_
        exact qJ.iret hκ rfl rfl (by decide) (by decide) (⟨_, by unfold ansOdd; rw [if_neg (by omega), odd_end hR (by omega) (by omega) v23_4], rfl, (Eq.trans (keep_row (by intro j; rfl)) (Eq.trans (keep_row (by intro j; rfl)) rfl))⟩)
      · show qJ YX12_odd κ _ (qLy u, (q_row (q_row m 114 f) 115 g), y) 0 0 33 [some (qR 77), some (qI k), some (qI c), some (qI a)] []
        have pa := v23_2 a.toNat (by omega)
        have ga := pa.1
        have g0 : g a.toNat = 0 ∨ g a.toNat = 1 := by rw [ga]; split <;> omega
        have oi := odd_iff (a := a.toNat) hR (by omega) v23_5
        rw [q_tn v23_0] at oi
        have ol := q_cnt_le (oBut m a) 1331
        refine qJ.run hκ 3 (pc' := 38) (ls' := [some (qR 77), some (qI k), some (qI c), some (qI a)]) (st' := [qI a, qR 115]) rfl ?_
        refine qJ.ald hκ rfl rfl rfl (by decide) (by omega) ?_
        show qJ YX12_odd κ _ (qLy u, (q_row (q_row m 114 f) 115 g), y) 0 0 39 [some (qR 77), some (qI k), some (qI c), some (qI a)] [qI (g a.toNat)]
        refine qJ.if_eq hκ (tgt := 60) rfl rfl (by omega) (fun c39 => ?_) (fun c39 => ?_)
        · show qJ YX12_odd κ _ (qLy u, (q_row (q_row m 114 f) 115 g), y) 0 0 60 [some (qR 77), some (qI k), some (qI c), some (qI a)] []
          have ns : ¬ spo m (nR m) a.toNat 1331 := fun z => by rw [ga, if_pos (oi.mpr z).1] at c39; exact absurd c39 (by decide)
          refine qJ.run hκ 2 (pc' := 23) (ls' := [some (qR 77), some (qI k), some (qI c), some (qI (a + 1))]) (st' := []) rfl ?_
          exact ih23  f g c (a + 1) (by omega) (by omega) (v23_2) (by rw [q_cnt_s v23_0, if_neg ns]; omega) (q_fst_no v23_0 v23_4 (fun z => ns z.1)) (by omega) (by omega)
        · show qJ YX12_odd κ _ (qLy u, (q_row (q_row m 114 f) 115 g), y) 0 0 42 [some (qR 77), some (qI k), some (qI c), some (qI a)] []
          have hcA : cA m (nR m) a.toNat := by by_cases z : cA m (nR m) a.toNat; exact z; rw [ga, if_neg z] at c39; exact absurd rfl c39
          refine qJ.run hκ 2 (pc' := 44) (ls' := [some (qR 77), some (qI k), some (qI c), some (qI a)]) (st' := [qI a, qR 77]) rfl ?_
          refine qJ.callV (As := [qI a]) (rest := []) hκ rfl kX12_249 (m_setsBut u m y f g a hR v23_2 (by omega)) rfl rfl (by decide) rfl rfl (Nat.le_of_ble_eq_true rfl) (Nat.le_of_ble_eq_true rfl) (Nat.le_of_ble_eq_true rfl) (Or.inl (fun r h' e => by obtain ⟨rfl, rfl⟩ := e; rfl)) (fun r h' e => ?_)
          obtain ⟨rfl, rfl⟩ := e
          show qJ YX12_odd κ _ (qLy u, (q_row (q_row m 114 f) 115 g), y) 0 0 47 [some (qR 77), some (qI k), some (qI c), some (qI a)] [qI (q_cnt (oBut m a) 1331 : Nat)]
          refine qJ.if_le hκ (tgt := 60) rfl rfl (by omega) (fun c47 => ?_) (fun c47 => ?_)
          · show qJ YX12_odd κ _ (qLy u, (q_row (q_row m 114 f) 115 g), y) 0 0 60 [some (qR 77), some (qI k), some (qI c), some (qI a)] []
            refine qJ.run hκ 2 (pc' := 23) (ls' := [some (qR 77), some (qI k), some (qI c), some (qI (a + 1))]) (st' := []) rfl ?_
            exact ih23  f g c (a + 1) (by omega) (by omega) (v23_2) (by rw [q_cnt_s v23_0, if_neg (fun z => by have := (oi.mpr z).2; omega)]; omega) (q_fst_no v23_0 v23_4 (fun z => by have := (oi.mpr z.1).2; omega)) (by omega) (by omega)
          · show qJ YX12_odd κ _ (qLy u, (q_row (q_row m 114 f) 115 g), y) 0 0 50 [some (qR 77), some (qI k), some (qI c), some (qI a)] []
            refine qJ.run hκ 2 (pc' := 52) (ls' := [some (qR 77), some (qI k), some (qI c), some (qI a)]) (st' := [qI k, qI c]) rfl ?_
            refine qJ.icmp_ne hκ (tgt := 57) rfl rfl (by omega) (by omega) (fun c52 => ?_) (fun c52 => ?_)
            · show qJ YX12_odd κ _ (qLy u, (q_row (q_row m 114 f) 115 g), y) 0 0 57 [some (qR 77), some (qI k), some (qI c), some (qI a)] []
              refine qJ.run hκ 3 (pc' := 23) (ls' := [some (qR 77), some (qI k), some (qI (c + 1)), some (qI (a + 1))]) (st' := []) rfl ?_
              exact ih23  f g (c + 1) (a + 1) (by omega) (by omega) (v23_2) (by rw [q_cnt_s v23_0, if_pos (oi.mp ⟨hcA, by omega⟩)]; omega) (q_fst_no v23_0 v23_4 (fun z => by have := z.2; omega)) (by omega) (by omega)
            · show qJ YX12_odd κ _ (qLy u, (q_row (q_row m 114 f) 115 g), y) 0 0 55 [some (qR 77), some (qI k), some (qI c), some (qI a)] []
              refine qJ.run hκ 1 (pc' := 56) (ls' := [some (qR 77), some (qI k), some (qI c), some (qI a)]) (st' := [qI a]) rfl ?_
              exact qJ.iret hκ rfl rfl (by decide) (by decide) (⟨_, by unfold ansOdd; rw [if_neg (by omega)]; unfold q_nth; rw [q_fst_hit (p := fun s => spo m (nR m) s 1331 ∧ ((q_cnt (fun a => spo m (nR m) a 1331) s : Nat) : Int) = k) v23_0 v23_4 ⟨oi.mp ⟨hcA, by omega⟩, by omega⟩ 10 (by omega)], rfl, (Eq.trans (keep_row (by intro j; rfl)) (Eq.trans (keep_row (by intro j; rfl)) rfl))⟩)
  refine qJ.run hκ 1 (pc' := 6) (ls' := [some (qR 77), some (qI k), none, none]) (st' := [qR 77]) rfl ?_
  refine qJ.callV (As := []) (rest := []) hκ rfl kX12_246 (m_look u m y hR hd8) rfl rfl (by decide) rfl rfl (Nat.le_of_ble_eq_true rfl) (Nat.le_of_ble_eq_true rfl) (Nat.le_of_ble_eq_true rfl) (Or.inl (fun r h' e => by obtain ⟨rfl, f, g, rfl, hP⟩ := e; rfl)) (fun r h' e => ?_)
  obtain ⟨rfl, f, g, rfl, hP⟩ := e
  show qJ YX12_odd κ _ (qLy u, (q_row (q_row m 114 f) 115 g), y) 0 0 9 [some (qR 77), some (qI k), none, none] []
  refine qJ.run hκ 2 (pc' := 11) (ls' := [some (qR 77), some (qI k), none, none]) (st' := [qI (-1), qR 77]) rfl ?_
  have ol := q_cnt_le (oBut m (-1)) 1331
  refine qJ.callV (As := [qI (-1)]) (rest := []) hκ rfl kX12_249 (m_setsBut u m y f g (-1) hR hP (by omega)) rfl rfl (by decide) rfl rfl (Nat.le_of_ble_eq_true rfl) (Nat.le_of_ble_eq_true rfl) (Nat.le_of_ble_eq_true rfl) (Or.inl (fun r h' e => by obtain ⟨rfl, rfl⟩ := e; rfl)) (fun r h' e => ?_)
  obtain ⟨rfl, rfl⟩ := e
  show qJ YX12_odd κ _ (qLy u, (q_row (q_row m 114 f) 115 g), y) 0 0 14 [some (qR 77), some (qI k), none, none] [qI (q_cnt (oBut m (-1)) 1331 : Nat)]
  refine qJ.if_le hκ (tgt := 19) rfl rfl (by omega) (fun c14 => ?_) (fun c14 => ?_)
  · show qJ YX12_odd κ _ (qLy u, (q_row (q_row m 114 f) 115 g), y) 0 0 19 [some (qR 77), some (qI k), none, none] []
    refine qJ.run hκ 4 (pc' := 23) (ls' := [some (qR 77), some (qI k), some (qI 0), some (qI 0)]) (st' := []) rfl ?_
    exact L23 11 f g 0 0 (by omega) (by omega) (hP) (rfl) (rfl) (by rw [← sets_e hR]; omega) (by omega)
  · show qJ YX12_odd κ _ (qLy u, (q_row (q_row m 114 f) 115 g), y) 0 0 17 [some (qR 77), some (qI k), none, none] []
    refine qJ.run hκ 1 (pc' := 18) (ls' := [some (qR 77), some (qI k), none, none]) (st' := [qI (-1)]) rfl ?_
    exact qJ.iret hκ rfl rfl (by decide) (by decide) (⟨_, by unfold ansOdd; rw [if_pos (by rw [← sets_e hR]; omega)], rfl, (Eq.trans (keep_row (by intro j; rfl)) (Eq.trans (keep_row (by intro j; rfl)) rfl))⟩)
set_option maxRecDepth 100000 in
theorem w_odd (u : qU) (m y : qM) (k : Int) (hR : rL m) (hd8 : rA m) (h1 : qr k) : qCt YX12_odd 4 0 0 [qR 77, qI k] (qLy u, m, y) (fun r h => ∃ m', r = some (qI (ansOdd (q_up m 77 0 0) k)) ∧ h = (qLy u, m', y) ∧ keep kObs m' = keep kObs (q_up m 77 0 0)) := by
  refine qCt.intro okX12_odd (Nat.le_of_ble_eq_true rfl) (fun κ hκ => ?_)
  show qJ YX12_odd κ _ (qLy u, m, y) 0 0 0 [some (qR 77), some (qI k), none, none] []
  refine qJ.run hκ 2 (pc' := 2) (ls' := [some (qR 77), some (qI k), none, none]) (st' := [qI 0, qR 77]) rfl ?_
  refine qJ.putI hκ rfl rfl rfl rfl (Or.inl rfl) ?_
  show qJ YX12_odd κ _ (qLy u, (q_up m 77 0 0), y) 0 0 5 [some (qR 77), some (qI k), none, none] []
  exact b_odd u (q_up m 77 0 0) y k (show rL (q_up m 77 0 0) from hR) (show rA (q_up m 77 0 0) from hd8) h1 hκ
theorem m_odd (u : qU) (m y : qM) (k : Int) (hR : rL m) (hd8 : rA m) (h1 : qr k) : qCt YX12_odd 4 0 0 [qR 77, qI k] (qLy u, m, y) (fun r h => ∃ m', r = some (qI (ansOdd m k)) ∧ h = (qLy u, m', y) ∧ keep kObs m' = keep kObs m) := by
  refine (w_odd u m y k hR hd8 h1).weak ?_
  rintro r h ⟨m', e1, e2, e3⟩
  exact ⟨m', by rw [e1, ansOdd_o (keep_up (by rfl))], e2, e3.trans (keep_up (by rfl))⟩

/-! printed by p46.py: the model looks at its accounts; its answers -/
theorem f99_n {m : qM} {f : Nat → Int} {a k i s5 : Int} (h5 : (s5 = 1 ∧ m 98 (5 * (6 * a + k) + 4).toNat ≤ hHz m) ∨ (s5 = 0 ∧ ¬ m 98 (5 * (6 * a + k) + 4).toNat ≤ hHz m)) (hk : 0 ≤ k) (h : ∀ j : Int, 0 ≤ j → j < 4 → f (4 * a + j).toNat = mSk m a j.toNat (hHz m) k.toNat + (if j < i ∧ s5 = 1 then m 98 (5 * (6 * a + k) + j).toNat else 0)) (hi : i = 4 ∨ s5 = 0) : ∀ j : Int, 0 ≤ j → j < 4 → f (4 * a + j).toNat = mSk m a j.toNat (hHz m) (k + 1).toNat := by
  intro j j0 j1
  rw [h j j0 j1, mSk_s hk, q_tn j0]
  congr 1
  rcases h5 with ⟨z1, z2⟩ | ⟨z1, z2⟩
  · rw [if_pos z2, if_pos (by omega)]
  · rw [if_neg z2, if_neg (by omega)]

set_option maxRecDepth 100000 in
theorem m_look (u : qU) (m y : qM) (hR : rL m) (hd8 : rA m) : qCt YX12_lookAtAccounts 2 0 0 [qR 77] (qLy u, m, y) (fun r h => r = none ∧ ∃ f g, h = (qLy u, q_row (q_row m 114 f) 115 g, y) ∧ PA m f g (m 12 0)) := by
  refine qCt.intro okX12_lookAtAccounts (Nat.le_of_ble_eq_true rfl) (fun κ hκ => ?_)
  have hd9 := hd8
  obtain ⟨-, ⟨a3, a4, a5⟩, -, b3, b4, b5⟩ := hd9
  obtain ⟨⟨l0, l1, l2⟩, l3, l4, l5⟩ := hR.1
  have hV : qr (m 83 0) := by omega
  have hh := hz_eq hd8
  have zr := gHz_r hd8
  have L2 : ∀ (n : Nat) (f : Nat → Int) (g : Nat → Int) (a : Int), (0 ≤ a) → (a ≤ m 12 0) → (PA m f g a) → ((m 12 0 - a).toNat) < n → qJ YX12_lookAtAccounts κ (qFin (fun r h => r = none ∧ ∃ f g, h = (qLy u, q_row (q_row m 114 f) 115 g, y) ∧ PA m f g (m 12 0)) 0 0 κ) (qLy u, (q_row (q_row m 114 f) 115 g), y) 0 0 2 [some (qR 77), some (qI a), none, none, none, none, none] [] := by
    intro n
    induction n with
    | zero => intro f g a _ _ _ hz0; omega
    | succ n ih2 =>
      intro f g a v2_0 v2_1 v2_2 v2_m
      have L210 : ∀ (n : Nat) (f : Nat → Int) (g : Nat → Int) (c : Int) (t : Int) (i : Int), (0 ≤ i) → (i ≤ 4) → (∀ j : Int, 0 ≤ j → j < 4 → f (4 * a + j).toNat = mS m a j.toNat (hHz m) - (if j < i ∧ 0 ≤ t then m 100 (5000 * a + 5 * t + j).toNat else 0)) → (0 ≤ a ∧ a < m 12 0) → (PA m f g a) → (t = mT m a (hHz m)) → (c = (mN m a (hHz m) : Nat)) → (g a.toNat = if 0 < c ∧ 0 ≤ t then 1 else 0) → ((4 - i).toNat) < n → qJ YX12_lookAtAccounts κ (qFin (fun r h => r = none ∧ ∃ f g, h = (qLy u, q_row (q_row m 114 f) 115 g, y) ∧ PA m f g (m 12 0)) 0 0 κ) (qLy u, (q_row (q_row m 114 f) 115 g), y) 0 0 210 [some (qR 77), some (qI a), some (qI c), some (qI t), some (qI i), none, none] [] := by
        intro n
        induction n with
        | zero => intro f g c t i _ _ _ _ _ _ _ _ hz0; omega
        | succ n ih210 =>
          intro f g c t i v210_0 v210_1 v210_2 v210_3 v210_4 v210_5 v210_6 v210_7 v210_m
          have hA := hR.2 a (by omega) (by omega)
          have h97 := hA.1.1
          have h99 := hA.1.2.2.1
          have tr2 : -1 ≤ t ∧ t < (((m 99 a.toNat).toNat : Nat) : Int) := by rw [v210_5]; exact q_lst_r _ _
          refine qJ.run hκ 2 (pc' := 213) (ls' := [some (qR 77), some (qI a), some (qI c), some (qI t), some (qI i), none, none]) (st' := [qI 4, qI i]) rfl ?_
          refine qJ.icmp_ge hκ (tgt := 257) rfl rfl (by omega) (by omega) (fun c213 => ?_) (fun c213 => ?_)
          · show qJ YX12_lookAtAccounts κ _ (qLy u, (q_row (q_row m 114 f) 115 g), y) 0 0 257 [some (qR 77), some (qI a), some (qI c), some (qI t), some (qI i), none, none] []
            refine qJ.run hκ 2 (pc' := 2) (ls' := [some (qR 77), some (qI (a + 1)), some (qI c), some (qI t), some (qI i), none, none]) (st' := []) rfl ?_
            refine qJ.dl [true, true, false, false, false, false, false] ?_
            show qJ YX12_lookAtAccounts κ _ (qLy u, (q_row (q_row m 114 f) 115 g), y) 0 0 2 [some (qR 77), some (qI (a + 1)), none, none, none, none, none] []
            exact qJ.cast (ih2  f g (a + 1) (by omega) (by omega) (PA_s hR hh v210_3 v210_4 v210_5 v210_6 v210_7 (fun j hj => by have := v210_2 (j : Int) (by omega) (by omega); rw [show ((j : Int)).toNat = j by omega] at this; rw [this]; congr 1; by_cases q : 0 ≤ t; rw [if_pos q, if_pos ⟨by omega, q⟩]; rw [if_neg q, if_neg (fun w => q w.2)])) (by omega)) (rfl) rfl rfl
          · show qJ YX12_lookAtAccounts κ _ (qLy u, (q_row (q_row m 114 f) 115 g), y) 0 0 216 [some (qR 77), some (qI a), some (qI c), some (qI t), some (qI i), none, none] []
            refine qJ.run hκ 1 (pc' := 217) (ls' := [some (qR 77), some (qI a), some (qI c), some (qI t), some (qI i), none, none]) (st' := [qI t]) rfl ?_
            refine qJ.if_lt hκ (tgt := 257) rfl rfl (by omega) (fun c217 => ?_) (fun c217 => ?_)
            · show qJ YX12_lookAtAccounts κ _ (qLy u, (q_row (q_row m 114 f) 115 g), y) 0 0 257 [some (qR 77), some (qI a), some (qI c), some (qI t), some (qI i), none, none] []
              refine qJ.run hκ 2 (pc' := 2) (ls' := [some (qR 77), some (qI (a + 1)), some (qI c), some (qI t), some (qI i), none, none]) (st' := []) rfl ?_
              refine qJ.dl [true, true, false, false, false, false, false] ?_
              show qJ YX12_lookAtAccounts κ _ (qLy u, (q_row (q_row m 114 f) 115 g), y) 0 0 2 [some (qR 77), some (qI (a + 1)), none, none, none, none, none] []
              exact qJ.cast (ih2  f g (a + 1) (by omega) (by omega) (PA_s hR hh v210_3 v210_4 v210_5 v210_6 v210_7 (fun j hj => by have := v210_2 (j : Int) (by omega) (by omega); rw [show ((j : Int)).toNat = j by omega] at this; rw [this, if_neg (by omega), if_neg (by omega)])) (by omega)) (rfl) rfl rfl
            · show qJ YX12_lookAtAccounts κ _ (qLy u, (q_row (q_row m 114 f) 115 g), y) 0 0 220 [some (qR 77), some (qI a), some (qI c), some (qI t), some (qI i), none, none] []
              have tt := (hA.1.2.2.2 t (by omega) (by omega)).1 i (by omega) (by omega)
              refine qJ.run hκ 8 (pc' := 231) (ls' := [some (qR 77), some (qI a), some (qI c), some (qI t), some (qI i), none, none]) (st' := [qI ((4 * a) + i), qR 114, qI ((4 * a) + i), qR 114]) rfl ?_
              refine qJ.ald hκ rfl rfl rfl (by decide) (by omega) ?_
              show qJ YX12_lookAtAccounts κ _ (qLy u, (q_row (q_row m 114 f) 115 g), y) 0 0 232 [some (qR 77), some (qI a), some (qI c), some (qI t), some (qI i), none, none] [qI (f (((4 * a) + i).toNat)), qI ((4 * a) + i), qR 114]
              refine qJ.run hκ 11 (pc' := 248) (ls' := [some (qR 77), some (qI a), some (qI c), some (qI t), some (qI i), none, none]) (st' := [qI (((5000 * a) + (5 * t)) + i), qR 100, qI (f (((4 * a) + i).toNat)), qI ((4 * a) + i), qR 114]) rfl ?_
              refine qJ.ald hκ rfl rfl rfl (by decide) (by omega) ?_
              show qJ YX12_lookAtAccounts κ _ (qLy u, (q_row (q_row m 114 f) 115 g), y) 0 0 249 [some (qR 77), some (qI a), some (qI c), some (qI t), some (qI i), none, none] [qI (m 100 ((((5000 * a) + (5 * t)) + i).toNat)), qI (f (((4 * a) + i).toNat)), qI ((4 * a) + i), qR 114]
              refine qJ.run hκ 1 (pc' := 250) (ls' := [some (qR 77), some (qI a), some (qI c), some (qI t), some (qI i), none, none]) (st' := [qI ((f (((4 * a) + i).toNat)) - (m 100 ((((5000 * a) + (5 * t)) + i).toNat))), qI ((4 * a) + i), qR 114]) rfl ?_
              refine qJ.ast hκ rfl rfl rfl (by decide) (by omega) ?_
              refine qJ.mc (m1 := (q_up (q_row (q_row m 114 f) 115 g) 114 (((4 * a) + i).toNat) ((f (((4 * a) + i).toNat)) - (m 100 ((((5000 * a) + (5 * t)) + i).toNat))))) (m2 := (q_row (q_row m 114 (q_fu f (((4 * a) + i).toNat) ((f (((4 * a) + i).toNat)) - (m 100 ((((5000 * a) + (5 * t)) + i).toNat))))) 115 g)) (by rw [q_up_row_ne (a := 114) (b := 115) (by decide), q_up_row_eq]) ?_
              show qJ YX12_lookAtAccounts κ _ (qLy u, (q_row (q_row m 114 (q_fu f (((4 * a) + i).toNat) ((f (((4 * a) + i).toNat)) - (m 100 ((((5000 * a) + (5 * t)) + i).toNat))))) 115 g), y) 0 0 251 [some (qR 77), some (qI a), some (qI c), some (qI t), some (qI i), none, none] []
              refine qJ.run hκ 2 (pc' := 210) (ls' := [some (qR 77), some (qI a), some (qI c), some (qI t), some (qI (i + 1)), none, none]) (st' := []) rfl ?_
              exact ih210  (q_fu f (((4 * a) + i).toNat) ((f (((4 * a) + i).toNat)) - (m 100 ((((5000 * a) + (5 * t)) + i).toNat)))) g c t (i + 1) (by omega) (by omega) (fun j j0 j1 => by by_cases e : j = i; (subst e; rw [q_fu_eq, v210_2 j (by omega) (by omega), if_neg (by omega), if_pos (by omega)]; omega); rw [q_fu_ne (by omega), v210_2 j j0 j1]; by_cases g2 : j < i ∧ 0 ≤ t; rw [if_pos g2, if_pos (by omega)]; rw [if_neg g2, if_neg (by omega)]) (by omega) (PA_c v210_4 (fun j hj => q_fu_ne (by omega)) (fun j hj => rfl)) (v210_5) (by omega) (v210_7) (by omega)
      have L155 : ∀ (n : Nat) (f : Nat → Int) (g : Nat → Int) (c : Int) (t : Int), (-1 ≤ t) → (t < m 99 a.toNat) → (0 ≤ a ∧ a < m 12 0) → (PA m f g a) → (c = (mN m a (hHz m) : Nat)) → (∀ j : Int, 0 ≤ j → j < 4 → f (4 * a + j).toNat = mS m a j.toNat (hHz m)) → (mT m a (hHz m) = q_lst (fun t => m 100 (5000 * a + 5 * (t : Int) + 4).toNat ≤ hHz m) (t + 1).toNat) → ((t + 1).toNat) < n → qJ YX12_lookAtAccounts κ (qFin (fun r h => r = none ∧ ∃ f g, h = (qLy u, q_row (q_row m 114 f) 115 g, y) ∧ PA m f g (m 12 0)) 0 0 κ) (qLy u, (q_row (q_row m 114 f) 115 g), y) 0 0 155 [some (qR 77), some (qI a), some (qI c), some (qI t), none, none, none] [] := by
        intro n
        induction n with
        | zero => intro f g c t _ _ _ _ _ _ _ hz0; omega
        | succ n ih155 =>
          intro f g c t v155_0 v155_1 v155_2 v155_3 v155_4 v155_5 v155_6 v155_m
          have hA := hR.2 a (by omega) (by omega)
          have h97 := hA.1.1
          have h99 := hA.1.2.2.1
          refine qJ.run hκ 1 (pc' := 156) (ls' := [some (qR 77), some (qI a), some (qI c), some (qI t), none, none, none]) (st' := [qI t]) rfl ?_
          refine qJ.if_lt hκ (tgt := 188) rfl rfl (by omega) (fun c156 => ?_) (fun c156 => ?_)
          · show qJ YX12_lookAtAccounts κ _ (qLy u, (q_row (q_row m 114 f) 115 g), y) 0 0 188 [some (qR 77), some (qI a), some (qI c), some (qI t), none, none, none] []
            have v155x : t = mT m a (hHz m) := by rw [v155_6]; by_cases q : 0 ≤ t; (rw [q_lst_s q, q_tn q, if_pos (by omega)]); (rw [show (t + 1).toNat = 0 by omega]; show t = -1; omega)
            have cl := q_cnt_le (fun j => m 98 (5 * (6 * a + (j : Int)) + 4).toNat ≤ hHz m) (m 97 a.toNat).toNat
            have mne : mN m a (hHz m) = q_cnt (fun j => m 98 (5 * (6 * a + (j : Int)) + 4).toNat ≤ hHz m) (m 97 a.toNat).toNat := rfl
            have z210 : ∀ j : Int, 0 ≤ j → j < 4 → f (4 * a + j).toNat = mS m a j.toNat (hHz m) - (if j < 0 ∧ 0 ≤ t then m 100 (5000 * a + 5 * t + j).toNat else 0) := fun j j0 j1 => by rw [if_neg (by omega), v155_5 j j0 j1]; omega
            refine qJ.run hκ 4 (pc' := 194) (ls' := [some (qR 77), some (qI a), some (qI c), some (qI t), none, none, none]) (st' := [qI c, qI a, qR 115]) rfl ?_
            refine qJ.if_le hκ (tgt := 205) rfl rfl (by omega) (fun c194 => ?_) (fun c194 => ?_)
            · show qJ YX12_lookAtAccounts κ _ (qLy u, (q_row (q_row m 114 f) 115 g), y) 0 0 205 [some (qR 77), some (qI a), some (qI c), some (qI t), none, none, none] [qI a, qR 115]
              refine qJ.run hκ 1 (pc' := 206) (ls' := [some (qR 77), some (qI a), some (qI c), some (qI t), none, none, none]) (st' := [qI 0, qI a, qR 115]) rfl ?_
              refine qJ.ast hκ rfl rfl rfl (by decide) (by omega) ?_
              refine qJ.mc (m1 := (q_up (q_row (q_row m 114 f) 115 g) 115 a.toNat (q_nar 2 0))) (m2 := (q_up (q_row (q_row m 114 f) 115 g) 115 a.toNat 0)) (by rw [q_n2 (by omega)]) ?_
              refine qJ.mc (m1 := (q_up (q_row (q_row m 114 f) 115 g) 115 a.toNat 0)) (m2 := (q_row (q_row m 114 f) 115 (q_fu g a.toNat 0))) (by rw [q_up_row_eq]) ?_
              show qJ YX12_lookAtAccounts κ _ (qLy u, (q_row (q_row m 114 f) 115 (q_fu g a.toNat 0)), y) 0 0 207 [some (qR 77), some (qI a), some (qI c), some (qI t), none, none, none] []
              refine qJ.run hκ 2 (pc' := 210) (ls' := [some (qR 77), some (qI a), some (qI c), some (qI t), some (qI 0), none, none]) (st' := []) rfl ?_
              exact L210 5 f (q_fu g a.toNat 0) c t 0 (by omega) (by omega) (z210) (by omega) (PA_c v155_3 (fun j hj => rfl) (fun j hj => q_fu_ne (by omega))) (v155x) (by omega) (by rw [q_fu_eq, if_neg (by omega)]) (by omega)
            · show qJ YX12_lookAtAccounts κ _ (qLy u, (q_row (q_row m 114 f) 115 g), y) 0 0 197 [some (qR 77), some (qI a), some (qI c), some (qI t), none, none, none] [qI a, qR 115]
              refine qJ.run hκ 1 (pc' := 198) (ls' := [some (qR 77), some (qI a), some (qI c), some (qI t), none, none, none]) (st' := [qI t, qI a, qR 115]) rfl ?_
              refine qJ.if_lt hκ (tgt := 205) rfl rfl (by omega) (fun c198 => ?_) (fun c198 => ?_)
              · show qJ YX12_lookAtAccounts κ _ (qLy u, (q_row (q_row m 114 f) 115 g), y) 0 0 205 [some (qR 77), some (qI a), some (qI c), some (qI t), none, none, none] [qI a, qR 115]
                refine qJ.run hκ 1 (pc' := 206) (ls' := [some (qR 77), some (qI a), some (qI c), some (qI t), none, none, none]) (st' := [qI 0, qI a, qR 115]) rfl ?_
                refine qJ.ast hκ rfl rfl rfl (by decide) (by omega) ?_
                refine qJ.mc (m1 := (q_up (q_row (q_row m 114 f) 115 g) 115 a.toNat (q_nar 2 0))) (m2 := (q_up (q_row (q_row m 114 f) 115 g) 115 a.toNat 0)) (by rw [q_n2 (by omega)]) ?_
                refine qJ.mc (m1 := (q_up (q_row (q_row m 114 f) 115 g) 115 a.toNat 0)) (m2 := (q_row (q_row m 114 f) 115 (q_fu g a.toNat 0))) (by rw [q_up_row_eq]) ?_
                show qJ YX12_lookAtAccounts κ _ (qLy u, (q_row (q_row m 114 f) 115 (q_fu g a.toNat 0)), y) 0 0 207 [some (qR 77), some (qI a), some (qI c), some (qI t), none, none, none] []
                refine qJ.run hκ 2 (pc' := 210) (ls' := [some (qR 77), some (qI a), some (qI c), some (qI t), some (qI 0), none, none]) (st' := []) rfl ?_
                exact L210 5 f (q_fu g a.toNat 0) c t 0 (by omega) (by omega) (z210) (by omega) (PA_c v155_3 (fun j hj => rfl) (fun j hj => q_fu_ne (by omega))) (v155x) (by omega) (by rw [q_fu_eq, if_neg (by omega)]) (by omega)
              · show qJ YX12_lookAtAccounts κ _ (qLy u, (q_row (q_row m 114 f) 115 g), y) 0 0 201 [some (qR 77), some (qI a), some (qI c), some (qI t), none, none, none] [qI a, qR 115]
                refine qJ.run hκ 2 (pc' := 206) (ls' := [some (qR 77), some (qI a), some (qI c), some (qI t), none, none, none]) (st' := [qI 1, qI a, qR 115]) rfl ?_
                refine qJ.ast hκ rfl rfl rfl (by decide) (by omega) ?_
                refine qJ.mc (m1 := (q_up (q_row (q_row m 114 f) 115 g) 115 a.toNat (q_nar 2 1))) (m2 := (q_up (q_row (q_row m 114 f) 115 g) 115 a.toNat 1)) (by rw [q_n2 (by omega)]) ?_
                refine qJ.mc (m1 := (q_up (q_row (q_row m 114 f) 115 g) 115 a.toNat 1)) (m2 := (q_row (q_row m 114 f) 115 (q_fu g a.toNat 1))) (by rw [q_up_row_eq]) ?_
                show qJ YX12_lookAtAccounts κ _ (qLy u, (q_row (q_row m 114 f) 115 (q_fu g a.toNat 1)), y) 0 0 207 [some (qR 77), some (qI a), some (qI c), some (qI t), none, none, none] []
                refine qJ.run hκ 2 (pc' := 210) (ls' := [some (qR 77), some (qI a), some (qI c), some (qI t), some (qI 0), none, none]) (st' := []) rfl ?_
                exact L210 5 f (q_fu g a.toNat 1) c t 0 (by omega) (by omega) (z210) (by omega) (PA_c v155_3 (fun j hj => rfl) (fun j hj => q_fu_ne (by omega))) (v155x) (by omega) (by rw [q_fu_eq, if_pos (by omega)]) (by omega)
          · show qJ YX12_lookAtAccounts κ _ (qLy u, (q_row (q_row m 114 f) 115 g), y) 0 0 159 [some (qR 77), some (qI a), some (qI c), some (qI t), none, none, none] []
            have tt := (hA.1.2.2.2 t (by omega) (by omega)).2.1
            refine qJ.run hκ 11 (pc' := 174) (ls' := [some (qR 77), some (qI a), some (qI c), some (qI t), none, none, none]) (st' := [qI (((5000 * a) + (5 * t)) + 4), qR 100]) rfl ?_
            refine qJ.ald hκ rfl rfl rfl (by decide) (by omega) ?_
            show qJ YX12_lookAtAccounts κ _ (qLy u, (q_row (q_row m 114 f) 115 g), y) 0 0 175 [some (qR 77), some (qI a), some (qI c), some (qI t), none, none, none] [qI (m 100 ((((5000 * a) + (5 * t)) + 4).toNat))]
            refine qJ.run hκ 1 (pc' := 176) (ls' := [some (qR 77), some (qI a), some (qI c), some (qI t), none, none, none]) (st' := [qR 77, qI (m 100 ((((5000 * a) + (5 * t)) + 4).toNat))]) rfl ?_
            refine qJ.callV (As := []) (rest := [qI (m 100 ((((5000 * a) + (5 * t)) + 4).toNat))]) hκ rfl kX12_175 (c_viewDay u (q_row (q_row m 114 f) 115 g) y hV) rfl rfl (by decide) rfl rfl (Nat.le_of_ble_eq_true rfl) (Nat.le_of_ble_eq_true rfl) (Nat.le_of_ble_eq_true rfl) (Or.inl (fun r h' e => by obtain ⟨rfl, rfl⟩ := e; rfl)) (fun r h' e => ?_)
            obtain ⟨rfl, rfl⟩ := e
            show qJ YX12_lookAtAccounts κ _ (qLy u, (q_row (q_row m 114 f) 115 g), y) 0 0 179 [some (qR 77), some (qI a), some (qI c), some (qI t), none, none, none] [qI (hHz m), qI (m 100 ((((5000 * a) + (5 * t)) + 4).toNat))]
            refine qJ.icmp_le hκ (tgt := 188) rfl rfl (by omega) (by omega) (fun c179 => ?_) (fun c179 => ?_)
            · show qJ YX12_lookAtAccounts κ _ (qLy u, (q_row (q_row m 114 f) 115 g), y) 0 0 188 [some (qR 77), some (qI a), some (qI c), some (qI t), none, none, none] []
              have v155x : t = mT m a (hHz m) := by rw [v155_6]; by_cases q : 0 ≤ t; (rw [q_lst_s q, q_tn q, if_pos (by omega)]); (rw [show (t + 1).toNat = 0 by omega]; show t = -1; omega)
              have cl := q_cnt_le (fun j => m 98 (5 * (6 * a + (j : Int)) + 4).toNat ≤ hHz m) (m 97 a.toNat).toNat
              have mne : mN m a (hHz m) = q_cnt (fun j => m 98 (5 * (6 * a + (j : Int)) + 4).toNat ≤ hHz m) (m 97 a.toNat).toNat := rfl
              have z210 : ∀ j : Int, 0 ≤ j → j < 4 → f (4 * a + j).toNat = mS m a j.toNat (hHz m) - (if j < 0 ∧ 0 ≤ t then m 100 (5000 * a + 5 * t + j).toNat else 0) := fun j j0 j1 => by rw [if_neg (by omega), v155_5 j j0 j1]; omega
              refine qJ.run hκ 4 (pc' := 194) (ls' := [some (qR 77), some (qI a), some (qI c), some (qI t), none, none, none]) (st' := [qI c, qI a, qR 115]) rfl ?_
              refine qJ.if_le hκ (tgt := 205) rfl rfl (by omega) (fun c194 => ?_) (fun c194 => ?_)
              · show qJ YX12_lookAtAccounts κ _ (qLy u, (q_row (q_row m 114 f) 115 g), y) 0 0 205 [some (qR 77), some (qI a), some (qI c), some (qI t), none, none, none] [qI a, qR 115]
                refine qJ.run hκ 1 (pc' := 206) (ls' := [some (qR 77), some (qI a), some (qI c), some (qI t), none, none, none]) (st' := [qI 0, qI a, qR 115]) rfl ?_
                refine qJ.ast hκ rfl rfl rfl (by decide) (by omega) ?_
                refine qJ.mc (m1 := (q_up (q_row (q_row m 114 f) 115 g) 115 a.toNat (q_nar 2 0))) (m2 := (q_up (q_row (q_row m 114 f) 115 g) 115 a.toNat 0)) (by rw [q_n2 (by omega)]) ?_
                refine qJ.mc (m1 := (q_up (q_row (q_row m 114 f) 115 g) 115 a.toNat 0)) (m2 := (q_row (q_row m 114 f) 115 (q_fu g a.toNat 0))) (by rw [q_up_row_eq]) ?_
                show qJ YX12_lookAtAccounts κ _ (qLy u, (q_row (q_row m 114 f) 115 (q_fu g a.toNat 0)), y) 0 0 207 [some (qR 77), some (qI a), some (qI c), some (qI t), none, none, none] []
                refine qJ.run hκ 2 (pc' := 210) (ls' := [some (qR 77), some (qI a), some (qI c), some (qI t), some (qI 0), none, none]) (st' := []) rfl ?_
                exact L210 5 f (q_fu g a.toNat 0) c t 0 (by omega) (by omega) (z210) (by omega) (PA_c v155_3 (fun j hj => rfl) (fun j hj => q_fu_ne (by omega))) (v155x) (by omega) (by rw [q_fu_eq, if_neg (by omega)]) (by omega)
              · show qJ YX12_lookAtAccounts κ _ (qLy u, (q_row (q_row m 114 f) 115 g), y) 0 0 197 [some (qR 77), some (qI a), some (qI c), some (qI t), none, none, none] [qI a, qR 115]
                refine qJ.run hκ 1 (pc' := 198) (ls' := [some (qR 77), some (qI a), some (qI c), some (qI t), none, none, none]) (st' := [qI t, qI a, qR 115]) rfl ?_
                refine qJ.if_lt hκ (tgt := 205) rfl rfl (by omega) (fun c198 => ?_) (fun c198 => ?_)
                · show qJ YX12_lookAtAccounts κ _ (qLy u, (q_row (q_row m 114 f) 115 g), y) 0 0 205 [some (qR 77), some (qI a), some (qI c), some (qI t), none, none, none] [qI a, qR 115]
                  refine qJ.run hκ 1 (pc' := 206) (ls' := [some (qR 77), some (qI a), some (qI c), some (qI t), none, none, none]) (st' := [qI 0, qI a, qR 115]) rfl ?_
                  refine qJ.ast hκ rfl rfl rfl (by decide) (by omega) ?_
                  refine qJ.mc (m1 := (q_up (q_row (q_row m 114 f) 115 g) 115 a.toNat (q_nar 2 0))) (m2 := (q_up (q_row (q_row m 114 f) 115 g) 115 a.toNat 0)) (by rw [q_n2 (by omega)]) ?_
                  refine qJ.mc (m1 := (q_up (q_row (q_row m 114 f) 115 g) 115 a.toNat 0)) (m2 := (q_row (q_row m 114 f) 115 (q_fu g a.toNat 0))) (by rw [q_up_row_eq]) ?_
                  show qJ YX12_lookAtAccounts κ _ (qLy u, (q_row (q_row m 114 f) 115 (q_fu g a.toNat 0)), y) 0 0 207 [some (qR 77), some (qI a), some (qI c), some (qI t), none, none, none] []
                  refine qJ.run hκ 2 (pc' := 210) (ls' := [some (qR 77), some (qI a), some (qI c), some (qI t), some (qI 0), none, none]) (st' := []) rfl ?_
                  exact L210 5 f (q_fu g a.toNat 0) c t 0 (by omega) (by omega) (z210) (by omega) (PA_c v155_3 (fun j hj => rfl) (fun j hj => q_fu_ne (by omega))) (v155x) (by omega) (by rw [q_fu_eq, if_neg (by omega)]) (by omega)
                · show qJ YX12_lookAtAccounts κ _ (qLy u, (q_row (q_row m 114 f) 115 g), y) 0 0 201 [some (qR 77), some (qI a), some (qI c), some (qI t), none, none, none] [qI a, qR 115]
                  refine qJ.run hκ 2 (pc' := 206) (ls' := [some (qR 77), some (qI a), some (qI c), some (qI t), none, none, none]) (st' := [qI 1, qI a, qR 115]) rfl ?_
                  refine qJ.ast hκ rfl rfl rfl (by decide) (by omega) ?_
                  refine qJ.mc (m1 := (q_up (q_row (q_row m 114 f) 115 g) 115 a.toNat (q_nar 2 1))) (m2 := (q_up (q_row (q_row m 114 f) 115 g) 115 a.toNat 1)) (by rw [q_n2 (by omega)]) ?_
                  refine qJ.mc (m1 := (q_up (q_row (q_row m 114 f) 115 g) 115 a.toNat 1)) (m2 := (q_row (q_row m 114 f) 115 (q_fu g a.toNat 1))) (by rw [q_up_row_eq]) ?_
                  show qJ YX12_lookAtAccounts κ _ (qLy u, (q_row (q_row m 114 f) 115 (q_fu g a.toNat 1)), y) 0 0 207 [some (qR 77), some (qI a), some (qI c), some (qI t), none, none, none] []
                  refine qJ.run hκ 2 (pc' := 210) (ls' := [some (qR 77), some (qI a), some (qI c), some (qI t), some (qI 0), none, none]) (st' := []) rfl ?_
                  exact L210 5 f (q_fu g a.toNat 1) c t 0 (by omega) (by omega) (z210) (by omega) (PA_c v155_3 (fun j hj => rfl) (fun j hj => q_fu_ne (by omega))) (v155x) (by omega) (by rw [q_fu_eq, if_pos (by omega)]) (by omega)
            · show qJ YX12_lookAtAccounts κ _ (qLy u, (q_row (q_row m 114 f) 115 g), y) 0 0 182 [some (qR 77), some (qI a), some (qI c), some (qI t), none, none, none] []
              refine qJ.run hκ 2 (pc' := 155) (ls' := [some (qR 77), some (qI a), some (qI c), some (qI (t + (-1))), none, none, none]) (st' := []) rfl ?_
              exact ih155  f g c (t + (-1)) (by omega) (by omega) (by omega) (v155_3) (by omega) (v155_5) (by rw [v155_6, q_lst_s (show 0 ≤ t by omega), q_tn (show 0 ≤ t by omega), if_neg (by omega), show (t + -1 + 1).toNat = t.toNat by omega]) (by omega)
      have L40 : ∀ (n : Nat) (f : Nat → Int) (g : Nat → Int) (c : Int) (k : Int), (0 ≤ k) → (k ≤ m 97 a.toNat) → (0 ≤ a ∧ a < m 12 0) → (0 ≤ c ∧ c ≤ 6) → (PA m f g a) → (c = (q_cnt (fun j => m 98 (5 * (6 * a + (j : Int)) + 4).toNat ≤ hHz m) k.toNat : Nat)) → (∀ j : Int, 0 ≤ j → j < 4 → f (4 * a + j).toNat = mSk m a j.toNat (hHz m) k.toNat) → ((m 97 a.toNat - k).toNat) < n → qJ YX12_lookAtAccounts κ (qFin (fun r h => r = none ∧ ∃ f g, h = (qLy u, q_row (q_row m 114 f) 115 g, y) ∧ PA m f g (m 12 0)) 0 0 κ) (qLy u, (q_row (q_row m 114 f) 115 g), y) 0 0 40 [some (qR 77), some (qI a), some (qI c), some (qI k), none, none, none] [] := by
        intro n
        induction n with
        | zero => intro f g c k _ _ _ _ _ _ _ hz0; omega
        | succ n ih40 =>
          intro f g c k v40_0 v40_1 v40_2 v40_3 v40_4 v40_5 v40_6 v40_m
          have L99 : ∀ (n : Nat) (f : Nat → Int) (g : Nat → Int) (c : Int) (s5 : Int) (i : Int), (0 ≤ i) → (i ≤ 4) → (∀ j : Int, 0 ≤ j → j < 4 → f (4 * a + j).toNat = mSk m a j.toNat (hHz m) k.toNat + (if j < i ∧ s5 = 1 then m 98 (5 * (6 * a + k) + j).toNat else 0)) → (0 ≤ c ∧ c ≤ 6) → (PA m f g a) → (c = (q_cnt (fun j => m 98 (5 * (6 * a + (j : Int)) + 4).toNat ≤ hHz m) (k + 1).toNat : Nat)) → ((s5 = 1 ∧ m 98 (5 * (6 * a + k) + 4).toNat ≤ hHz m) ∨ (s5 = 0 ∧ ¬ m 98 (5 * (6 * a + k) + 4).toNat ≤ hHz m)) → (k < m 97 a.toNat) → ((4 - i).toNat) < n → qJ YX12_lookAtAccounts κ (qFin (fun r h => r = none ∧ ∃ f g, h = (qLy u, q_row (q_row m 114 f) 115 g, y) ∧ PA m f g (m 12 0)) 0 0 κ) (qLy u, (q_row (q_row m 114 f) 115 g), y) 0 0 99 [some (qR 77), some (qI a), some (qI c), some (qI k), some (qI (5 * (6 * a + k))), some (qI s5), some (qI i)] [] := by
            intro n
            induction n with
            | zero => intro f g c s5 i _ _ _ _ _ _ _ _ hz0; omega
            | succ n ih99 =>
              intro f g c s5 i v99_0 v99_1 v99_2 v99_3 v99_4 v99_5 v99_6 v99_7 v99_m
              have hA := hR.2 a (by omega) (by omega)
              have h97 := hA.1.1
              have h99 := hA.1.2.2.1
              refine qJ.run hκ 2 (pc' := 102) (ls' := [some (qR 77), some (qI a), some (qI c), some (qI k), some (qI (5 * (6 * a + k))), some (qI s5), some (qI i)]) (st' := [qI 4, qI i]) rfl ?_
              refine qJ.icmp_ge hκ (tgt := 140) rfl rfl (by omega) (by omega) (fun c102 => ?_) (fun c102 => ?_)
              · show qJ YX12_lookAtAccounts κ _ (qLy u, (q_row (q_row m 114 f) 115 g), y) 0 0 140 [some (qR 77), some (qI a), some (qI c), some (qI k), some (qI (5 * (6 * a + k))), some (qI s5), some (qI i)] []
                refine qJ.run hκ 2 (pc' := 40) (ls' := [some (qR 77), some (qI a), some (qI c), some (qI (k + 1)), some (qI (5 * (6 * a + k))), some (qI s5), some (qI i)]) (st' := []) rfl ?_
                refine qJ.dl [true, true, true, true, false, false, false] ?_
                show qJ YX12_lookAtAccounts κ _ (qLy u, (q_row (q_row m 114 f) 115 g), y) 0 0 40 [some (qR 77), some (qI a), some (qI c), some (qI (k + 1)), none, none, none] []
                exact ih40  f g c (k + 1) (by omega) (by omega) (by omega) (by omega) (v99_4) (v99_5) (f99_n v99_6 v40_0 v99_2 (Or.inl (by omega))) (by omega)
              · show qJ YX12_lookAtAccounts κ _ (qLy u, (q_row (q_row m 114 f) 115 g), y) 0 0 105 [some (qR 77), some (qI a), some (qI c), some (qI k), some (qI (5 * (6 * a + k))), some (qI s5), some (qI i)] []
                have pl := hA.1.2.1 k (by omega) (by omega)
                have pli := pl.1 i (by omega) (by omega)
                refine qJ.run hκ 1 (pc' := 107) (ls' := [some (qR 77), some (qI a), some (qI c), some (qI k), some (qI (5 * (6 * a + k))), some (qI s5), some (qI i)]) (st' := [qI s5]) rfl ?_
                refine qJ.if_eq hκ (tgt := 140) rfl rfl (by omega) (fun c107 => ?_) (fun c107 => ?_)
                · show qJ YX12_lookAtAccounts κ _ (qLy u, (q_row (q_row m 114 f) 115 g), y) 0 0 140 [some (qR 77), some (qI a), some (qI c), some (qI k), some (qI (5 * (6 * a + k))), some (qI s5), some (qI i)] []
                  refine qJ.run hκ 2 (pc' := 40) (ls' := [some (qR 77), some (qI a), some (qI c), some (qI (k + 1)), some (qI (5 * (6 * a + k))), some (qI s5), some (qI i)]) (st' := []) rfl ?_
                  refine qJ.dl [true, true, true, true, false, false, false] ?_
                  show qJ YX12_lookAtAccounts κ _ (qLy u, (q_row (q_row m 114 f) 115 g), y) 0 0 40 [some (qR 77), some (qI a), some (qI c), some (qI (k + 1)), none, none, none] []
                  exact ih40  f g c (k + 1) (by omega) (by omega) (by omega) (by omega) (v99_4) (v99_5) (f99_n v99_6 v40_0 v99_2 (Or.inr (by omega))) (by omega)
                · show qJ YX12_lookAtAccounts κ _ (qLy u, (q_row (q_row m 114 f) 115 g), y) 0 0 110 [some (qR 77), some (qI a), some (qI c), some (qI k), some (qI (5 * (6 * a + k))), some (qI s5), some (qI i)] []
                  refine qJ.run hκ 8 (pc' := 121) (ls' := [some (qR 77), some (qI a), some (qI c), some (qI k), some (qI (5 * (6 * a + k))), some (qI s5), some (qI i)]) (st' := [qI ((4 * a) + i), qR 114, qI ((4 * a) + i), qR 114]) rfl ?_
                  refine qJ.ald hκ rfl rfl rfl (by decide) (by omega) ?_
                  show qJ YX12_lookAtAccounts κ _ (qLy u, (q_row (q_row m 114 f) 115 g), y) 0 0 122 [some (qR 77), some (qI a), some (qI c), some (qI k), some (qI (5 * (6 * a + k))), some (qI s5), some (qI i)] [qI (f (((4 * a) + i).toNat)), qI ((4 * a) + i), qR 114]
                  refine qJ.run hκ 5 (pc' := 131) (ls' := [some (qR 77), some (qI a), some (qI c), some (qI k), some (qI (5 * (6 * a + k))), some (qI s5), some (qI i)]) (st' := [qI ((5 * (6 * a + k)) + i), qR 98, qI (f (((4 * a) + i).toNat)), qI ((4 * a) + i), qR 114]) rfl ?_
                  refine qJ.ald hκ rfl rfl rfl (by decide) (by omega) ?_
                  show qJ YX12_lookAtAccounts κ _ (qLy u, (q_row (q_row m 114 f) 115 g), y) 0 0 132 [some (qR 77), some (qI a), some (qI c), some (qI k), some (qI (5 * (6 * a + k))), some (qI s5), some (qI i)] [qI (m 98 (((5 * (6 * a + k)) + i).toNat)), qI (f (((4 * a) + i).toNat)), qI ((4 * a) + i), qR 114]
                  refine qJ.run hκ 1 (pc' := 133) (ls' := [some (qR 77), some (qI a), some (qI c), some (qI k), some (qI (5 * (6 * a + k))), some (qI s5), some (qI i)]) (st' := [qI ((f (((4 * a) + i).toNat)) + (m 98 (((5 * (6 * a + k)) + i).toNat))), qI ((4 * a) + i), qR 114]) rfl ?_
                  refine qJ.ast hκ rfl rfl rfl (by decide) (by omega) ?_
                  refine qJ.mc (m1 := (q_up (q_row (q_row m 114 f) 115 g) 114 (((4 * a) + i).toNat) ((f (((4 * a) + i).toNat)) + (m 98 (((5 * (6 * a + k)) + i).toNat))))) (m2 := (q_row (q_row m 114 (q_fu f (((4 * a) + i).toNat) ((f (((4 * a) + i).toNat)) + (m 98 (((5 * (6 * a + k)) + i).toNat))))) 115 g)) (by rw [q_up_row_ne (a := 114) (b := 115) (by decide), q_up_row_eq]) ?_
                  show qJ YX12_lookAtAccounts κ _ (qLy u, (q_row (q_row m 114 (q_fu f (((4 * a) + i).toNat) ((f (((4 * a) + i).toNat)) + (m 98 (((5 * (6 * a + k)) + i).toNat))))) 115 g), y) 0 0 134 [some (qR 77), some (qI a), some (qI c), some (qI k), some (qI (5 * (6 * a + k))), some (qI s5), some (qI i)] []
                  refine qJ.run hκ 2 (pc' := 99) (ls' := [some (qR 77), some (qI a), some (qI c), some (qI k), some (qI (5 * (6 * a + k))), some (qI s5), some (qI (i + 1))]) (st' := []) rfl ?_
                  exact ih99  (q_fu f (((4 * a) + i).toNat) ((f (((4 * a) + i).toNat)) + (m 98 (((5 * (6 * a + k)) + i).toNat)))) g c s5 (i + 1) (by omega) (by omega) (fun j j0 j1 => by by_cases e : j = i; (subst e; rw [q_fu_eq, v99_2 j (by omega) (by omega), if_neg (by omega), if_pos (by omega)]; omega); rw [q_fu_ne (by omega), v99_2 j j0 j1]; by_cases g2 : j < i ∧ s5 = 1; rw [if_pos g2, if_pos (by omega)]; rw [if_neg g2, if_neg (by omega)]) (by omega) (PA_c v99_4 (fun j hj => q_fu_ne (by omega)) (fun j hj => rfl)) (v99_5) (v99_6) (by omega) (by omega)
          have hA := hR.2 a (by omega) (by omega)
          have h97 := hA.1.1
          have h99 := hA.1.2.2.1
          refine qJ.run hκ 4 (pc' := 46) (ls' := [some (qR 77), some (qI a), some (qI c), some (qI k), none, none, none]) (st' := [qI a, qR 97, qI k]) rfl ?_
          refine qJ.ald hκ rfl rfl rfl (by decide) (by omega) ?_
          show qJ YX12_lookAtAccounts κ _ (qLy u, (q_row (q_row m 114 f) 115 g), y) 0 0 47 [some (qR 77), some (qI a), some (qI c), some (qI k), none, none, none] [qI (m 97 a.toNat), qI k]
          refine qJ.icmp_ge hκ (tgt := 146) rfl rfl (by omega) (by omega) (fun c47 => ?_) (fun c47 => ?_)
          · show qJ YX12_lookAtAccounts κ _ (qLy u, (q_row (q_row m 114 f) 115 g), y) 0 0 146 [some (qR 77), some (qI a), some (qI c), some (qI k), none, none, none] []
            refine qJ.run hκ 3 (pc' := 151) (ls' := [some (qR 77), some (qI a), some (qI c), some (qI k), none, none, none]) (st' := [qI a, qR 99]) rfl ?_
            refine qJ.ald hκ rfl rfl rfl (by decide) (by omega) ?_
            show qJ YX12_lookAtAccounts κ _ (qLy u, (q_row (q_row m 114 f) 115 g), y) 0 0 152 [some (qR 77), some (qI a), some (qI c), some (qI k), none, none, none] [qI (m 99 a.toNat)]
            refine qJ.run hκ 3 (pc' := 155) (ls' := [some (qR 77), some (qI a), some (qI c), some (qI ((m 99 a.toNat) - 1)), none, none, none]) (st' := []) rfl ?_
            exact L155 1002 f g c ((m 99 a.toNat) - 1) (by omega) (by omega) (by omega) (v40_4) (by rw [v40_5, show k.toNat = (m 97 a.toNat).toNat by omega]; rfl) (fun j j0 j1 => by rw [v40_6 j j0 j1, show k.toNat = (m 97 a.toNat).toNat by omega]; rfl) (by rw [show (m 99 a.toNat - 1 + 1).toNat = (m 99 a.toNat).toNat by omega]; rfl) (by omega)
          · show qJ YX12_lookAtAccounts κ _ (qLy u, (q_row (q_row m 114 f) 115 g), y) 0 0 50 [some (qR 77), some (qI a), some (qI c), some (qI k), none, none, none] []
            have pl := hA.1.2.1 k (by omega) (by omega)
            have pl4 := pl.2
            refine qJ.run hκ 13 (pc' := 68) (ls' := [some (qR 77), some (qI a), some (qI c), some (qI k), some (qI (5 * ((6 * a) + k))), none, none]) (st' := [qI ((5 * ((6 * a) + k)) + 4), qR 98]) rfl ?_
            refine qJ.ald hκ rfl rfl rfl (by decide) (by omega) ?_
            show qJ YX12_lookAtAccounts κ _ (qLy u, (q_row (q_row m 114 f) 115 g), y) 0 0 69 [some (qR 77), some (qI a), some (qI c), some (qI k), some (qI (5 * ((6 * a) + k))), none, none] [qI (m 98 (((5 * ((6 * a) + k)) + 4).toNat))]
            refine qJ.run hκ 1 (pc' := 70) (ls' := [some (qR 77), some (qI a), some (qI c), some (qI k), some (qI (5 * ((6 * a) + k))), none, none]) (st' := [qR 77, qI (m 98 (((5 * ((6 * a) + k)) + 4).toNat))]) rfl ?_
            refine qJ.callV (As := []) (rest := [qI (m 98 (((5 * ((6 * a) + k)) + 4).toNat))]) hκ rfl kX12_175 (c_viewDay u (q_row (q_row m 114 f) 115 g) y hV) rfl rfl (by decide) rfl rfl (Nat.le_of_ble_eq_true rfl) (Nat.le_of_ble_eq_true rfl) (Nat.le_of_ble_eq_true rfl) (Or.inl (fun r h' e => by obtain ⟨rfl, rfl⟩ := e; rfl)) (fun r h' e => ?_)
            obtain ⟨rfl, rfl⟩ := e
            show qJ YX12_lookAtAccounts κ _ (qLy u, (q_row (q_row m 114 f) 115 g), y) 0 0 73 [some (qR 77), some (qI a), some (qI c), some (qI k), some (qI (5 * ((6 * a) + k))), none, none] [qI (hHz m), qI (m 98 (((5 * ((6 * a) + k)) + 4).toNat))]
            refine qJ.icmp_gt hκ (tgt := 80) rfl rfl (by omega) (by omega) (fun c73 => ?_) (fun c73 => ?_)
            · show qJ YX12_lookAtAccounts κ _ (qLy u, (q_row (q_row m 114 f) 115 g), y) 0 0 80 [some (qR 77), some (qI a), some (qI c), some (qI k), some (qI (5 * ((6 * a) + k))), none, none] []
              refine qJ.run hκ 4 (pc' := 86) (ls' := [some (qR 77), some (qI a), some (qI c), some (qI k), some (qI (5 * ((6 * a) + k))), some (qI 0), none]) (st' := [qI 0, qI c]) rfl ?_
              refine qJ.if_eq hκ (tgt := 93) rfl rfl (by omega) (fun c86 => ?_) (fun c86 => ?_)
              · show qJ YX12_lookAtAccounts κ _ (qLy u, (q_row (q_row m 114 f) 115 g), y) 0 0 93 [some (qR 77), some (qI a), some (qI c), some (qI k), some (qI (5 * ((6 * a) + k))), some (qI 0), none] [qI c]
                have cq := q_cnt_le (fun j => m 98 (5 * (6 * a + (j : Int)) + 4).toNat ≤ hHz m) k.toNat
                refine qJ.run hκ 5 (pc' := 99) (ls' := [some (qR 77), some (qI a), some (qI (c + 0)), some (qI k), some (qI (5 * ((6 * a) + k))), some (qI 0), some (qI 0)]) (st' := []) rfl ?_
                exact L99 5 f g (c + 0) 0 0 (by omega) (by omega) (fun j j0 j1 => by rw [if_neg (by omega), v40_6 j j0 j1]; omega) (by omega) (v40_4) (by rw [q_cnt_s v40_0, q_tn v40_0, if_neg (by omega)]; omega) (Or.inr ⟨rfl, by omega⟩) (by omega) (by omega)
              · exact absurd c86 (by decide)
            · show qJ YX12_lookAtAccounts κ _ (qLy u, (q_row (q_row m 114 f) 115 g), y) 0 0 76 [some (qR 77), some (qI a), some (qI c), some (qI k), some (qI (5 * ((6 * a) + k))), none, none] []
              refine qJ.run hκ 5 (pc' := 86) (ls' := [some (qR 77), some (qI a), some (qI c), some (qI k), some (qI (5 * ((6 * a) + k))), some (qI 1), none]) (st' := [qI 1, qI c]) rfl ?_
              refine qJ.if_eq hκ (tgt := 93) rfl rfl (by omega) (fun c86 => ?_) (fun c86 => ?_)
              · exact absurd c86 (by decide)
              · show qJ YX12_lookAtAccounts κ _ (qLy u, (q_row (q_row m 114 f) 115 g), y) 0 0 89 [some (qR 77), some (qI a), some (qI c), some (qI k), some (qI (5 * ((6 * a) + k))), some (qI 1), none] [qI c]
                have cq := q_cnt_le (fun j => m 98 (5 * (6 * a + (j : Int)) + 4).toNat ≤ hHz m) k.toNat
                refine qJ.run hκ 6 (pc' := 99) (ls' := [some (qR 77), some (qI a), some (qI (c + 1)), some (qI k), some (qI (5 * ((6 * a) + k))), some (qI 1), some (qI 0)]) (st' := []) rfl ?_
                exact L99 5 f g (c + 1) 1 0 (by omega) (by omega) (fun j j0 j1 => by rw [if_neg (by omega), v40_6 j j0 j1]; omega) (by omega) (v40_4) (by rw [q_cnt_s v40_0, q_tn v40_0, if_pos (by omega)]; omega) (Or.inl ⟨rfl, by omega⟩) (by omega) (by omega)
      have L16 : ∀ (n : Nat) (f : Nat → Int) (g : Nat → Int) (i : Int), (0 ≤ i) → (i ≤ 4) → (0 ≤ a ∧ a < m 12 0) → (PA m f g a) → (∀ j : Int, 0 ≤ j → j < i → f (4 * a + j).toNat = 0) → ((4 - i).toNat) < n → qJ YX12_lookAtAccounts κ (qFin (fun r h => r = none ∧ ∃ f g, h = (qLy u, q_row (q_row m 114 f) 115 g, y) ∧ PA m f g (m 12 0)) 0 0 κ) (qLy u, (q_row (q_row m 114 f) 115 g), y) 0 0 16 [some (qR 77), some (qI a), some (qI 0), some (qI i), none, none, none] [] := by
        intro n
        induction n with
        | zero => intro f g i _ _ _ _ _ hz0; omega
        | succ n ih16 =>
          intro f g i v16_0 v16_1 v16_2 v16_3 v16_4 v16_m
          have hA := hR.2 a (by omega) (by omega)
          have h97 := hA.1.1
          have h99 := hA.1.2.2.1
          refine qJ.run hκ 2 (pc' := 18) (ls' := [some (qR 77), some (qI a), some (qI 0), some (qI i), none, none, none]) (st' := [qI 4, qI i]) rfl ?_
          refine qJ.icmp_ge hκ (tgt := 38) rfl rfl (by omega) (by omega) (fun c18 => ?_) (fun c18 => ?_)
          · show qJ YX12_lookAtAccounts κ _ (qLy u, (q_row (q_row m 114 f) 115 g), y) 0 0 38 [some (qR 77), some (qI a), some (qI 0), some (qI i), none, none, none] []
            refine qJ.run hκ 2 (pc' := 40) (ls' := [some (qR 77), some (qI a), some (qI 0), some (qI 0), none, none, none]) (st' := []) rfl ?_
            exact L40 8 f g 0 0 (by omega) (by omega) (by omega) (by omega) (v16_3) (rfl) (fun j j0 j1 => by rw [v16_4 j j0 (by omega)]; rfl) (by omega)
          · show qJ YX12_lookAtAccounts κ _ (qLy u, (q_row (q_row m 114 f) 115 g), y) 0 0 21 [some (qR 77), some (qI a), some (qI 0), some (qI i), none, none, none] []
            refine qJ.run hκ 8 (pc' := 31) (ls' := [some (qR 77), some (qI a), some (qI 0), some (qI i), none, none, none]) (st' := [qI 0, qI ((4 * a) + i), qR 114]) rfl ?_
            refine qJ.ast hκ rfl rfl rfl (by decide) (by omega) ?_
            refine qJ.mc (m1 := (q_up (q_row (q_row m 114 f) 115 g) 114 (((4 * a) + i).toNat) 0)) (m2 := (q_row (q_row m 114 (q_fu f (((4 * a) + i).toNat) 0)) 115 g)) (by rw [q_up_row_ne (a := 114) (b := 115) (by decide), q_up_row_eq]) ?_
            show qJ YX12_lookAtAccounts κ _ (qLy u, (q_row (q_row m 114 (q_fu f (((4 * a) + i).toNat) 0)) 115 g), y) 0 0 32 [some (qR 77), some (qI a), some (qI 0), some (qI i), none, none, none] []
            refine qJ.run hκ 2 (pc' := 16) (ls' := [some (qR 77), some (qI a), some (qI 0), some (qI (i + 1)), none, none, none]) (st' := []) rfl ?_
            exact ih16  (q_fu f (((4 * a) + i).toNat) 0) g (i + 1) (by omega) (by omega) (by omega) (PA_c v16_3 (fun j hj => q_fu_ne (by omega)) (fun j hj => rfl)) (fun j j0 j1 => by by_cases e : j = i; (subst e; rw [q_fu_eq]); rw [q_fu_ne (by omega)]; exact v16_4 j j0 (by omega)) (by omega)
      refine qJ.run hκ 4 (pc' := 8) (ls' := [some (qR 77), some (qI a), none, none, none, none, none]) (st' := [qI 0, qR 96, qI a]) rfl ?_
      refine qJ.ald hκ rfl rfl rfl (by decide) (by omega) ?_
      show qJ YX12_lookAtAccounts κ _ (qLy u, (q_row (q_row m 114 f) 115 g), y) 0 0 9 [some (qR 77), some (qI a), none, none, none, none, none] [qI (m 96 0), qI a]
      refine qJ.icmp_ge hκ (tgt := 263) rfl rfl (by omega) (by omega) (fun c9 => ?_) (fun c9 => ?_)
      · show qJ YX12_lookAtAccounts κ _ (qLy u, (q_row (q_row m 114 f) 115 g), y) 0 0 263 [some (qR 77), some (qI a), none, none, none, none, none] []
        exact qJ.vret hκ rfl rfl (by decide) (by decide) (⟨rfl, f, g, rfl, by rw [show m 12 0 = a by omega]; exact v2_2⟩)
      · show qJ YX12_lookAtAccounts κ _ (qLy u, (q_row (q_row m 114 f) 115 g), y) 0 0 12 [some (qR 77), some (qI a), none, none, none, none, none] []
        have hA := hR.2 a (by omega) (by omega)
        have h97 := hA.1.1
        have h99 := hA.1.2.2.1
        refine qJ.run hκ 4 (pc' := 16) (ls' := [some (qR 77), some (qI a), some (qI 0), some (qI 0), none, none, none]) (st' := []) rfl ?_
        exact L16 5 f g 0 (by omega) (by omega) (by omega) (v2_2) (fun j j0 j1 => by omega) (by omega)
  show qJ YX12_lookAtAccounts κ _ (qLy u, m, y) 0 0 0 [some (qR 77), none, none, none, none, none, none] []
  refine qJ.run hκ 2 (pc' := 2) (ls' := [some (qR 77), some (qI 0), none, none, none, none, none]) (st' := []) rfl ?_
  exact qJ.cast (L2 11 (m 114) (m 115) 0 (by omega) (by omega) (fun b hb => by omega) (by omega)) (by rw [q_row_self, q_row_self]) rfl rfl

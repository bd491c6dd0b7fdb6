/-! printed by p40.py: a count more -/
theorem wv_lC {x a b c d ac k dy e : Int} (h : isRow x a b c d ac k dy) {i : Nat} (hi : i < 4) : lC x i = wv a b c d e i := by
  obtain ⟨-, -, -, -, y4, y5, y6, y7⟩ := h
  have : i = 0 ∨ i = 1 ∨ i = 2 ∨ i = 3 := by omega
  rcases this with rfl | rfl | rfl | rfl
  · exact y4
  · exact y5
  · exact y6
  · exact y7
theorem wv_9 {a b c d e : Int} (hc : (0 ≤ a ∧ a ≤ 9) ∧ (0 ≤ b ∧ b ≤ 9) ∧ (0 ≤ c ∧ c ≤ 9) ∧ (0 ≤ d ∧ d ≤ 9)) {i : Nat} (hi : i < 4) : 0 ≤ wv a b c d e i ∧ wv a b c d e i ≤ 9 := by
  have : i = 0 ∨ i = 1 ∨ i = 2 ∨ i = 3 := by omega
  rcases this with rfl | rfl | rfl | rfl
  · exact hc.1
  · exact hc.2.1
  · exact hc.2.2.1
  · exact hc.2.2.2
theorem rL_cnt0 {m m' : qM} {x a b c d ac : Int} (h : rL m) (hx : isRow x a b c d ac 0 (m 1 8)) (hc : (0 ≤ a ∧ a ≤ 9) ∧ (0 ≤ b ∧ b ≤ 9) ∧ (0 ≤ c ∧ c ≤ 9) ∧ (0 ≤ d ∧ d ≤ 9)) (hac : 0 ≤ ac ∧ ac < m 12 0) (h8 : 0 ≤ m 1 8) (hl : lApp m m' x) (hN : m 12 1 < 512) (h6 : m 14 ac.toNat < 6)
    (h1 : m' 1 = m 1) (h120 : m' 12 0 = m 12 0) (h14 : m' 14 = q_fu (m 14) ac.toNat (m 14 ac.toNat + 1)) (h96 : m' 96 0 = m 96 0) (h97 : m' 97 = q_fu (m 97) ac.toNat (m 97 ac.toNat + 1)) (h98 : m' 98 = fu5 (m 98) (5 * (6 * ac + m 97 ac.toNat)) a b c d (m 1 8)) (h99 : m' 99 = m 99) (h100 : m' 100 = m 100) : rL m' := by
  have hr := rLr_app h.1 hx hc hac h8 hl hN h1 h120 (fun a p q => by rw [h14, q_fu_ne (by omega)]) h96
  have hA := h.2 ac hac.1 hac.2
  obtain ⟨⟨⟨q1, q2⟩, q3, q4, q5⟩, hE⟩ := hA
  have h10 := h.1.1.1
  refine ⟨hr, fun a' a0 a1 => ?_⟩
  rw [h120] at a1
  by_cases e : a' = ac
  · subst e
    have p97 : m' 97 a'.toNat = m 97 a'.toNat + 1 := by rw [h97, q_fu_eq]
    have inn : ∀ i : Int, 0 ≤ i → i < 5 → m' 98 (5 * (6 * a' + m 97 a'.toNat) + i).toNat = wv a b c d (m 1 8) i.toNat := fun i i0 i1 => by rw [h98, fu5_in (by omega) ⟨i0, i1⟩]
    have out : ∀ j i : Int, 0 ≤ j → j < m 97 a'.toNat → 0 ≤ i → i < 5 → m' 98 (5 * (6 * a' + j) + i).toNat = m 98 (5 * (6 * a' + j) + i).toNat := fun j i j0 j1 i0 i1 => by rw [h98, fu5_out (by omega) (by omega)]
    refine ⟨⟨⟨by rw [p97, h14, q_fu_eq, q1], by rw [h14, q_fu_eq]; omega⟩, fun j j0 j1 => ?_, by rw [h99]; exact q4, fun t t0 t1 => by rw [h99] at t1 ⊢; rw [h100, h1]; exact q5 t t0 t1⟩, fun D => ?_⟩
    · rw [p97] at j1
      rw [h1]
      by_cases e2 : j = m 97 a'.toNat
      · subst e2
        refine ⟨fun i i0 i1 => ?_, ?_⟩
        · rw [inn i i0 (by omega)]; exact wv_9 hc (by omega)
        · rw [inn 4 (by omega) (by omega)]
          show 0 ≤ m 1 8 ∧ m 1 8 ≤ m 1 8
          omega
      · refine ⟨fun i i0 i1 => ?_, ?_⟩
        · rw [out j i j0 (by omega) i0 (by omega)]; exact (q3 j j0 (by omega)).1 i i0 i1
        · rw [out j 4 j0 (by omega) (by omega) (by omega)]; exact (q3 j j0 (by omega)).2
    · obtain ⟨p1, p2, p3, p4⟩ := hE D
      have h0 := h.1.1.2.1.1
      have hd : ∀ k : Nat, k < (m 12 1).toNat → lD (m 13 k) ≤ lD x := fun k hk => by rw [hx.2.2.2.1]; exact rLr_d h.1 k hk
      have pn : (m' 97 a'.toNat).toNat = (m 97 a'.toNat).toNat + 1 := by rw [p97]; omega
      have pc : (((m 97 a'.toNat).toNat : Nat) : Int) = m 97 a'.toNat := by omega
      have e1 : tL m' (nD m' D) a' = tL m (nD m D) a' := by rw [tL_D hl h0 hd, if_neg (fun q => by have := q.2.2; rw [hx.2.2.1] at this; omega)]
      have eT : mT m' a' D = mT m a' D := by unfold mT; rw [h99, h100]
      refine ⟨fun i hi => ?_, ?_, ?_, fun q i hi => ?_⟩
      · rw [sP_D hl h0 hd, p1 i hi, hx.2.2.2.1, hx.2.1, hx.2.2.1]
        unfold mS
        rw [pn]
        show _ = q_sum _ (m 97 a'.toNat).toNat + (if m' 98 (5 * (6 * a' + (((m 97 a'.toNat).toNat : Nat) : Int)) + 4).toNat ≤ D then m' 98 (5 * (6 * a' + (((m 97 a'.toNat).toNat : Nat) : Int)) + (i : Int)).toNat else 0)
        rw [pc, inn 4 (by omega) (by omega), inn (i : Int) (by omega) (by omega), show ((i : Int)).toNat = i by omega]
        congr 1
        · refine q_sum_c _ fun j hj => ?_
          rw [out (j : Int) 4 (by omega) (by omega) (by omega) (by omega), out (j : Int) (i : Int) (by omega) (by omega) (by omega) (by omega)]
        · show _ = if m 1 8 ≤ D then _ else 0
          by_cases z : m 1 8 ≤ D
          · rw [if_pos z, if_pos ⟨z, rfl, rfl⟩, wv_lC (e := m 1 8) hx hi]
          · rw [if_neg z, if_neg (fun w => z w.1)]
      · rw [nP_D hl h0 hd, p2, hx.2.2.2.1, hx.2.1, hx.2.2.1]
        unfold mN
        rw [pn]
        show _ = q_cnt _ (m 97 a'.toNat).toNat + (if m' 98 (5 * (6 * a' + (((m 97 a'.toNat).toNat : Nat) : Int)) + 4).toNat ≤ D then 1 else 0)
        rw [pc, inn 4 (by omega) (by omega)]
        congr 1
        · refine q_cnt_c _ fun j hj => ?_
          rw [out (j : Int) 4 (by omega) (by omega) (by omega) (by omega)]
        · show _ = if m 1 8 ≤ D then 1 else 0
          by_cases z : m 1 8 ≤ D
          · rw [if_pos z, if_pos ⟨z, rfl, rfl⟩]
          · rw [if_neg z, if_neg (fun w => z w.1)]
      · rw [e1, eT]; exact p3
      · rw [e1] at q ⊢
        have tl := tL_lt (m := m) (a := a') (n := nD m D)
        have nl := nD_le m D
        have tr2 : -1 ≤ tL m (nD m D) a' := (q_lst_r (isT m a') (nD m D)).1
        rw [hl.2, q_fu_ne (by omega), p4 q i hi, eT, h100]
  · have hA2 := h.2 a' a0 a1
    have e97 : m' 97 a'.toNat = m 97 a'.toNat := by rw [h97, q_fu_ne (by omega)]
    have b2 := hA2.1.1
    have out : ∀ j i : Int, 0 ≤ j → j < m 97 a'.toNat → 0 ≤ i → i < 5 → m' 98 (5 * (6 * a' + j) + i).toNat = m 98 (5 * (6 * a' + j) + i).toNat := fun j i j0 j1 i0 i1 => by rw [h98, fu5_out (by omega) (by omega)]
    refine ⟨⟨⟨by rw [e97, h14, q_fu_ne (by omega)]; exact b2.1, by rw [h14, q_fu_ne (by omega)]; exact b2.2⟩, fun j j0 j1 => ?_, by rw [h99]; exact hA2.1.2.2.1, fun t t0 t1 => by rw [h99] at t1 ⊢; rw [h100, h1]; exact hA2.1.2.2.2 t t0 t1⟩, ?_⟩
    · rw [e97] at j1
      rw [h1]
      refine ⟨fun i i0 i1 => ?_, ?_⟩
      · rw [out j i j0 j1 i0 (by omega)]; exact (hA2.1.2.1 j j0 j1).1 i i0 i1
      · rw [out j 4 j0 j1 (by omega) (by omega)]; exact (hA2.1.2.1 j j0 j1).2
    · refine rLe_other hA2.2 h.1 hx hl e (fun D i hi => ?_) (fun D => ?_) (fun D => by unfold mT; rw [h99, h100]) (fun t _ _ i _ => Or.inl (by rw [h100]))
      · unfold mS
        rw [e97]
        refine q_sum_c _ fun j hj => ?_
        rw [out (j : Int) 4 (by omega) (by omega) (by omega) (by omega)]
        by_cases z : m 98 (5 * (6 * a' + (j : Int)) + 4).toNat ≤ D
        · rw [if_pos z, if_pos z]
          rw [out (j : Int) (i : Int) (by omega) (by omega) (by omega) (by omega)]
        · rw [if_neg z, if_neg z]
      · unfold mN
        rw [e97]
        refine q_cnt_c _ fun j hj => ?_
        rw [out (j : Int) 4 (by omega) (by omega) (by omega) (by omega)]
theorem rL_cnt1 {m m' : qM} {x a b c d ac kk : Int} (h : rL m) (hx : isRow x a b c d ac 1 (m 1 8)) (hc : (0 ≤ a ∧ a ≤ 9) ∧ (0 ≤ b ∧ b ≤ 9) ∧ (0 ≤ c ∧ c ≤ 9) ∧ (0 ≤ d ∧ d ≤ 9)) (hac : 0 ≤ ac ∧ ac < m 12 0) (h8 : 0 ≤ m 1 8 ∧ m 1 8 ≤ 999) (hl : lApp m m' x) (hN : m 12 1 < 512)
    (hk : (kk = m 99 ac.toNat - 1 ∧ 0 < m 99 ac.toNat ∧ m 100 (5000 * ac + 5 * (m 99 ac.toNat - 1) + 4).toNat = m 1 8) ∨ (kk = m 99 ac.toNat ∧ (m 99 ac.toNat ≤ 0 ∨ ¬ m 100 (5000 * ac + 5 * (m 99 ac.toNat - 1) + 4).toNat = m 1 8)))
    (h1 : m' 1 = m 1) (h120 : m' 12 0 = m 12 0) (h14 : m' 14 = m 14) (h96 : m' 96 0 = m 96 0) (h97 : m' 97 = m 97) (h98 : m' 98 = m 98) (h99 : m' 99 = q_fu (m 99) ac.toNat (kk + 1)) (h100 : m' 100 = fu5 (m 100) (5000 * ac + 5 * kk) a b c d (m 1 8)) : rL m' := by
  have hr := rLr_app h.1 hx hc hac h8.1 hl hN h1 h120 (fun a p q => by rw [h14]) h96
  have hA := h.2 ac hac.1 hac.2
  obtain ⟨⟨⟨q1, q2⟩, q3, q4, q5⟩, hE⟩ := hA
  have h10 := h.1.1.1
  have last : 0 < m 99 ac.toNat → m 99 ac.toNat - 1 ≤ m 100 (5000 * ac + 5 * (m 99 ac.toNat - 1) + 4).toNat ∧ m 100 (5000 * ac + 5 * (m 99 ac.toNat - 1) + 4).toNat ≤ m 1 8 := fun z => (q5 (m 99 ac.toNat - 1) (by omega) (by omega)).2.1
  have kr : 0 ≤ kk ∧ kk ≤ m 1 8 := by
    by_cases z : 0 < m 99 ac.toNat
    · have := last z; omega
    · omega
  have k9 : kk ≤ 999 := by omega
  have kle : kk ≤ m 99 ac.toNat := by omega
  refine ⟨hr, fun a' a0 a1 => ?_⟩
  rw [h120] at a1
  by_cases e : a' = ac
  · subst e
    have p99 : m' 99 a'.toNat = kk + 1 := by rw [h99, q_fu_eq]
    have inn : ∀ i : Int, 0 ≤ i → i < 5 → m' 100 (5000 * a' + 5 * kk + i).toNat = wv a b c d (m 1 8) i.toNat := fun i i0 i1 => by rw [h100, fu5_in (by omega) ⟨i0, i1⟩]
    have out : ∀ t i : Int, 0 ≤ t → t < kk → 0 ≤ i → i < 5 → m' 100 (5000 * a' + 5 * t + i).toNat = m 100 (5000 * a' + 5 * t + i).toNat := fun t i t0 t1 i0 i1 => by rw [h100, fu5_out (by omega) (by omega)]
    have prev : ∀ t : Int, 0 ≤ t → t + 1 = kk → m 100 (5000 * a' + 5 * t + 4).toNat < m 1 8 := fun t t0 t1 => by
      rcases hk with ⟨k1, k2, k3⟩ | ⟨k1, k2⟩
      · have := (q5 t t0 (by omega)).2.2 (by omega)
        rw [show t + 1 = m 99 a'.toNat - 1 by omega, k3] at this
        exact this
      · have := last (by omega)
        rw [show t = m 99 a'.toNat - 1 by omega]
        omega
    refine ⟨⟨by rw [h97, h14]; exact ⟨q1, q2⟩, fun j j0 j1 => by rw [h97] at j1; rw [h98, h1]; exact q3 j j0 j1, by rw [p99]; omega, fun t t0 t1 => ?_⟩, fun D => ?_⟩
    · rw [p99] at t1 ⊢
      rw [h1]
      by_cases e2 : t = kk
      · subst e2
        refine ⟨fun i i0 i1 => by rw [inn i i0 (by omega)]; exact wv_9 hc (by omega), ?_, fun z => by omega⟩
        rw [inn 4 (by omega) (by omega)]
        show t ≤ m 1 8 ∧ m 1 8 ≤ m 1 8
        omega
      · have o := q5 t t0 (by omega)
        refine ⟨fun i i0 i1 => by rw [out t i t0 (by omega) i0 (by omega)]; exact o.1 i i0 i1, by rw [out t 4 t0 (by omega) (by omega) (by omega)]; exact o.2.1, fun z => ?_⟩
        rw [out t 4 t0 (by omega) (by omega) (by omega)]
        by_cases e3 : t + 1 = kk
        · rw [e3, inn 4 (by omega) (by omega)]
          exact prev t t0 e3
        · rw [out (t + 1) 4 (by omega) (by omega) (by omega) (by omega)]
          exact o.2.2 (by omega)
    · obtain ⟨p1, p2, p3, p4⟩ := hE D
      have h0 := h.1.1.2.1.1
      have hd : ∀ k : Nat, k < (m 12 1).toNat → lD (m 13 k) ≤ lD x := fun k hk => by rw [hx.2.2.2.1]; exact rLr_d h.1 k hk
      have eT : mT m' a' D = if m 1 8 ≤ D then kk else mT m a' D := by
        unfold mT
        rw [p99, show (kk + 1).toNat = kk.toNat + 1 by omega]
        show (if m' 100 (5000 * a' + 5 * ((kk.toNat : Nat) : Int) + 4).toNat ≤ D then ((kk.toNat : Nat) : Int) else q_lst (fun t => m' 100 (5000 * a' + 5 * (t : Int) + 4).toNat ≤ D) kk.toNat) = _
        rw [q_tn kr.1, inn 4 (by omega) (by omega)]
        show (if m 1 8 ≤ D then kk else _) = _
        by_cases z : m 1 8 ≤ D
        · rw [if_pos z, if_pos z]
        · rw [if_neg z, if_neg z, q_lst_c (q := fun t => m 100 (5000 * a' + 5 * (t : Int) + 4).toNat ≤ D) kk.toNat (fun t ht => by rw [out (t : Int) 4 (by omega) (by omega) (by omega) (by omega)])]
          rcases hk with ⟨k1, k2, k3⟩ | ⟨k1, k2⟩
          · rw [show (m 99 a'.toNat).toNat = kk.toNat + 1 by omega]
            show _ = if m 100 (5000 * a' + 5 * ((kk.toNat : Nat) : Int) + 4).toNat ≤ D then ((kk.toNat : Nat) : Int) else _
            rw [q_tn kr.1, if_neg (by rw [k1, k3]; exact z)]
          · rw [show (m 99 a'.toNat).toNat = kk.toNat by omega]
      have mlt : ¬ m 1 8 ≤ D → mT m a' D < kk := fun z => by
        rw [if_neg z] at eT
        have : mT m' a' D < kk + 1 := by
          have := (q_lst_r (fun t => m' 100 (5000 * a' + 5 * (t : Int) + 4).toNat ≤ D) (m' 99 a'.toNat).toNat).2
          unfold mT
          rw [p99] at this ⊢
          omega
        by_cases q : mT m a' D = kk
        · exfalso
          have hp := lst_p (p := fun t => m' 100 (5000 * a' + 5 * (t : Int) + 4).toNat ≤ D) (m' 99 a'.toNat).toNat (by show ¬ mT m' a' D = -1; omega)
          have hp2 : m' 100 (5000 * a' + 5 * (((mT m' a' D).toNat : Nat) : Int) + 4).toNat ≤ D := hp
          rw [eT, q, q_tn kr.1, inn 4 (by omega) (by omega)] at hp2
          exact z hp2
        · omega
      have e1 : tL m' (nD m' D) a' = if m 1 8 ≤ D then m 12 1 else tL m (nD m D) a' := by
        rw [tL_D hl h0 hd, hx.2.2.2.1, hx.2.1, hx.2.2.1]
        by_cases z : m 1 8 ≤ D
        · rw [if_pos z, if_pos ⟨z, rfl, rfl⟩]
        · rw [if_neg z, if_neg (fun w => z w.1)]
      refine ⟨fun i hi => ?_, ?_, ?_, fun q i hi => ?_⟩
      · rw [sP_D hl h0 hd, if_neg (fun q => by have := q.2.2; rw [hx.2.2.1] at this; omega), p1 i hi]
        unfold mS
        rw [h97, h98]; omega
      · rw [nP_D hl h0 hd, if_neg (fun q => by have := q.2.2; rw [hx.2.2.1] at this; omega), p2]
        unfold mN
        rw [h97, h98]; omega
      · rw [e1, eT]
        by_cases z : m 1 8 ≤ D
        · rw [if_pos z, if_pos z]; omega
        · rw [if_neg z, if_neg z]; exact p3
      · rw [e1] at q ⊢
        rw [eT]
        by_cases z : m 1 8 ≤ D
        · rw [if_pos z, if_pos z, hl.2, q_fu_eq, inn (i : Int) (by omega) (by omega), show ((i : Int)).toNat = i by omega]
          exact wv_lC hx hi
        · rw [if_neg z] at q
          rw [if_neg z, if_neg z]
          have tl := tL_lt (m := m) (a := a') (n := nD m D)
          have nl := nD_le m D
          have tr2 : -1 ≤ tL m (nD m D) a' := (q_lst_r (isT m a') (nD m D)).1
          have mr2 : -1 ≤ mT m a' D := (q_lst_r _ _).1
          have mn : ¬ mT m a' D = -1 := fun w => q (p3.mpr w)
          rw [hl.2, q_fu_ne (by omega), p4 q i hi, out (mT m a' D) (i : Int) (by omega) (mlt z) (by omega) (by omega)]
  · have hA2 := h.2 a' a0 a1
    have e99 : m' 99 a'.toNat = m 99 a'.toNat := by rw [h99, q_fu_ne (by omega)]
    have b2 := hA2.1.2.2.1
    have out : ∀ t i : Int, 0 ≤ t → t < m 99 a'.toNat → 0 ≤ i → i < 5 → m' 100 (5000 * a' + 5 * t + i).toNat = m 100 (5000 * a' + 5 * t + i).toNat := fun t i t0 t1 i0 i1 => by rw [h100, fu5_out (by omega) (by omega)]
    refine ⟨⟨by rw [h97, h14]; exact hA2.1.1, fun j j0 j1 => by rw [h97] at j1; rw [h98, h1]; exact hA2.1.2.1 j j0 j1, by rw [e99]; exact b2, fun t t0 t1 => ?_⟩, ?_⟩
    · rw [e99] at t1 ⊢
      rw [h1]
      have o := hA2.1.2.2.2 t t0 t1
      refine ⟨fun i i0 i1 => by rw [out t i t0 t1 i0 (by omega)]; exact o.1 i i0 i1, by rw [out t 4 t0 t1 (by omega) (by omega)]; exact o.2.1, fun z => ?_⟩
      rw [out t 4 t0 t1 (by omega) (by omega), out (t + 1) 4 (by omega) z (by omega) (by omega)]
      exact o.2.2 z
    · refine rLe_other hA2.2 h.1 hx hl e (fun D i _ => by unfold mS; rw [h97, h98]) (fun D => by unfold mN; rw [h97, h98]) (fun D => ?_) (fun t t0 t1 i i4 => ?_)
      · unfold mT
        rw [e99]
        exact q_lst_c _ fun t ht => by rw [out (t : Int) 4 (by omega) (by omega) (by omega) (by omega)]
      · by_cases z : t = -1
        · exact Or.inr z
        · exact Or.inl (out t (i : Int) (by omega) t1 (by omega) (by omega))

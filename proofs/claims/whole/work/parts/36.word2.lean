/-! printed by p36.py: a word more -/
theorem rC_word {m m1 m2 : qM} {n nm : Int} {g : Nat → Int} (h : rC m) (hg : 1 ≤ n ∧ wOK g n ∧ wG g n) (hr : m 2 0 < 60 ∧ m 2 2 < 150 ∧ (nm = 0 ∨ m 2 1 < 12)) (hnm : nm = 0 ∨ nm = 1) (h1 : cWd m m1 n nm g) (h2 : mWd m1 m2 n nm g) : rC m2 := by
  obtain ⟨k1, -, ⟨p20, p21, p22⟩, ⟨p3, p3n⟩, ⟨p5, p5n⟩, ⟨p4, p6, p7, p8⟩, p9, p10, p11⟩ := h1
  obtain ⟨k2, ⟨r85, r86, r92⟩, ⟨r87, r87n⟩, ⟨r88, r89, r90, r91⟩, r93, r94, r95⟩ := h2
  have c1 : m2 1 = m1 1 := congrFun k2 1
  have c2 : m2 2 = m1 2 := congrFun k2 2
  have c3 : m2 3 = m1 3 := congrFun k2 3
  have c4 : m2 4 = m1 4 := congrFun k2 4
  have c5 : m2 5 = m1 5 := congrFun k2 5
  have c6 : m2 6 = m1 6 := congrFun k2 6
  have c7 : m2 7 = m1 7 := congrFun k2 7
  have c8 : m2 8 = m1 8 := congrFun k2 8
  have c9 : m2 9 = m1 9 := congrFun k2 9
  have c10 : m2 10 = m1 10 := congrFun k2 10
  have c11 : m2 11 = m1 11 := congrFun k2 11
  have c82 : m2 82 = m1 82 := congrFun k2 82
  have c83 : m2 83 = m1 83 := congrFun k2 83
  have c84 : m2 84 = m1 84 := congrFun k2 84
  have d1 : m1 1 = m 1 := congrFun k1 1
  have d82 : m1 82 = m 82 := congrFun k1 82
  have d83 : m1 83 = m 83 := congrFun k1 83
  have d84 : m1 84 = m 84 := congrFun k1 84
  have d85 : m1 85 = m 85 := congrFun k1 85
  have d86 : m1 86 = m 86 := congrFun k1 86
  have d87 : m1 87 = m 87 := congrFun k1 87
  have d88 : m1 88 = m 88 := congrFun k1 88
  have d89 : m1 89 = m 89 := congrFun k1 89
  have d90 : m1 90 = m 90 := congrFun k1 90
  have d91 : m1 91 = m 91 := congrFun k1 91
  have d92 : m1 92 = m 92 := congrFun k1 92
  have d93 : m1 93 = m 93 := congrFun k1 93
  have d94 : m1 94 = m 94 := congrFun k1 94
  have d95 : m1 95 = m 95 := congrFun k1 95
  obtain ⟨⟨⟨x1, x2, x3⟩, ⟨z1, z2, z3⟩, ⟨y1, y2, y3⟩, y4, y5, y6⟩, hW, hRW, hT, hRT, hS⟩ := h
  rw [d85, y1] at r85 r87 r87n r88 r89 r90 r91 r93
  rw [d86, y2] at r86
  rw [d92, y3] at r92 r93 r94 r95
  rw [d84, y6] at r89
  rw [d82, y4] at r90 r95
  rw [d87] at r87
  rw [d88] at r88
  rw [d89] at r89
  rw [d90] at r90
  rw [d91] at r91
  rw [d93] at r93
  rw [d94] at r94
  rw [d95] at r95
  obtain ⟨w1, hw⟩ : ∃ w : Nat, m 2 0 = (w : Int) := ⟨(m 2 0).toNat, by omega⟩
  obtain ⟨t1, ht⟩ : ∃ t : Nat, m 2 2 = (t : Int) := ⟨(m 2 2).toNat, by omega⟩
  have hwn : (m 2 0).toNat = w1 := by omega
  have htn : (m 2 2).toNat = t1 := by omega
  rw [hwn] at p4 p5 p5n p6 p7 p8 r88 r89 r90 r91
  rw [htn] at p9 p10 p11 r93 r94 r95
  have cn : ∀ t : Nat, t ≤ t1 → q_cnt (fun j => m2 10 j = -1) t = q_cnt (fun j => m 10 j = -1) t := fun t ht => q_cnt_c t fun j hj => by
    show m2 10 j = -1 ↔ m 10 j = -1
    rw [c10, p10, q_fu_ne (by omega)]
  have fs : ((q_cnt (fun j => m 10 j = -1) t1 : Nat) : Int) = m 2 0 := by rw [← htn]; exact hS.2.2.1
  have hlr := q_lst_r (fun k => g k = 20) n.toNat
  have gn := hg.2.1.1
  refine ⟨⟨⟨by rw [c2, p20]; omega, by rw [c2, p21]; omega, by rw [c2, p22]; omega⟩, by rw [c1, d1]; exact ⟨z1, z2, z3⟩, ⟨by rw [r85, c2, p20], by rw [r86, c2, p21], by rw [r92, c2, p22]⟩, by rw [c82, d82, c1, d1]; exact y4, by rw [c83, d83, c1, d1]; exact y5, by rw [c84, d84, c1, d1]; exact y6⟩, ?_, ?_, ?_, ?_, ?_⟩
  · intro v v0 v1
    rw [c2, p20] at v1
    by_cases e : v = m 2 0
    · rw [show v.toNat = w1 by omega, c4, p4, q_fu_eq, c5, p5n]
      refine ⟨by omega, by omega, fun i i0 i1 => ?_⟩
      rw [c3, e, p3n i i0 i1]
      refine ⟨hg.2.1.2.1 i.toNat (by omega), fun q => ?_, fun q => ?_⟩
      · rw [lst_u (p := fun k => g k = 20) (i := i.toNat) hg.2.2 (by omega) q]; omega
      · have := lst_p (p := fun k => g k = 20) n.toNat (by omega)
        rw [← q] at this
        exact this
    · rw [c4, p4, q_fu_ne (by omega), c5, p5 _ (by omega)]
      have a := hW v v0 (by omega)
      refine ⟨a.1, a.2.1, fun i i0 i1 => ?_⟩
      rw [c3, p3 _ (by omega)]
      exact a.2.2 i i0 i1
  · intro v v0 v1
    rw [c2, p20] at v1
    by_cases e : v = m 2 0
    · rw [show v.toNat = w1 by omega, c4, p4, r88, q_fu_eq, q_fu_eq, r89, c6, p6, q_fu_eq, q_fu_eq, r90, c7, p7, q_fu_eq, q_fu_eq, r91, c8, p8, q_fu_eq, q_fu_eq, c1, d1]
      refine ⟨⟨rfl, rfl, rfl, rfl⟩, ⟨z3, by omega, hnm⟩, fun i i0 i1 => ?_⟩
      rw [c3, e, p3n i i0 i1, r87n i i0 i1]
    · rw [c4, p4, r88, q_fu_ne (by omega), q_fu_ne (by omega), r89, c6, p6, q_fu_ne (by omega), q_fu_ne (by omega), r90, c7, p7, q_fu_ne (by omega), q_fu_ne (by omega), r91, c8, p8, q_fu_ne (by omega), q_fu_ne (by omega), c1, d1]
      have a := hRW v v0 (by omega)
      have a2 := hW v v0 (by omega)
      refine ⟨a.1, a.2.1, fun i i0 i1 => ?_⟩
      rw [c3, p3 _ (by omega), r87 _ (by omega)]
      exact a.2.2 i i0 i1
  · intro t t0 t2
    rw [c2, p22] at t2
    rw [cn t.toNat (by omega)]
    rw [c2, p20]
    by_cases e : t = m 2 2
    · rw [show t.toNat = t1 by omega, c9, p9, c10, p10, q_fu_eq, q_fu_eq]
      exact ⟨by omega, by omega, fun _ => by rw [fs], fun q => absurd rfl q⟩
    · rw [c9, p9, c10, p10, q_fu_ne (by omega), q_fu_ne (by omega)]
      have a := hT t t0 (by omega)
      exact ⟨a.1, by omega, a.2.2⟩
  · intro t t0 t2
    rw [c2, p22] at t2
    by_cases e : t = m 2 2
    · rw [show t.toNat = t1 by omega, c9, p9, c10, p10, c11, p11, r93, r94, r95, q_fu_eq, q_fu_eq, q_fu_eq, q_fu_eq, q_fu_eq, q_fu_eq, c1, d1, c7, p7]
      refine ⟨⟨rfl, rfl, rfl⟩, by omega, fun _ => ?_⟩
      rw [hwn, q_fu_eq]
    · have a := hRT t t0 (by omega)
      have b := (hT t t0 (by omega)).2.1
      rw [c9, p9, c10, p10, c11, p11, r93, r94, r95, q_fu_ne (by omega), q_fu_ne (by omega), q_fu_ne (by omega), q_fu_ne (by omega), q_fu_ne (by omega), q_fu_ne (by omega), c1, d1, c7, p7, q_fu_ne (by omega)]
      exact a
  · refine ⟨fun j k a b => ?_, fun j k a b => ?_, ?_, ?_⟩
    · rw [c2, p20] at b
      rw [c7, p7]
      by_cases z : k = w1
      · subst z
        rw [q_fu_eq]
        by_cases q : j = k
        · subst q; rw [q_fu_eq]; exact Int.le_refl _
        · rw [q_fu_ne q]
          have := (hRW (j : Int) (by omega) (by omega)).2.1.2.1.2
          rw [show ((j : Int)).toNat = j by omega] at this
          exact this
      · rw [q_fu_ne z, q_fu_ne (by omega)]
        exact hS.1 j k a (by omega)
    · rw [c2, p22] at b
      rw [c11, p11]
      by_cases z : k = t1
      · subst z
        rw [q_fu_eq]
        by_cases q : j = k
        · subst q; rw [q_fu_eq]; exact Int.le_refl _
        · rw [q_fu_ne q]
          have := (hRT (j : Int) (by omega) (by omega)).2.1.2
          rw [show ((j : Int)).toNat = j by omega] at this
          exact this
      · rw [q_fu_ne z, q_fu_ne (by omega)]
        exact hS.2.1 j k a (by omega)
    · rw [c2, p22, p20, show (m 2 2 + 1).toNat = t1 + 1 by omega]
      show ((q_cnt (fun j => m2 10 j = -1) (t1 + 1) : Nat) : Int) = _
      have e : q_cnt (fun j => m2 10 j = -1) (t1 + 1) = q_cnt (fun j => m2 10 j = -1) t1 + (if m2 10 t1 = -1 then 1 else 0) := rfl
      rw [e, cn _ (Nat.le_refl _), c10, p10, q_fu_eq, if_pos rfl]
      omega
    · rw [c2, p20, p21, c8, p8, show (m 2 0 + 1).toNat = w1 + 1 by omega]
      show q_sum (q_fu (m 8) w1 nm) w1 + q_fu (m 8) w1 nm w1 = _
      rw [q_fu_eq, q_sum_c (g := m 8) w1 (fun k hk => q_fu_ne (by omega)), ← hS.2.2.2, hwn]

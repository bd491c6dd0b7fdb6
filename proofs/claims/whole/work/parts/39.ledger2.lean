/-! printed by p39.py: accounts stay alike -/
/-- a row more in the ledger -/
def lApp (m m' : qM) (x : Int) : Prop := m' 12 1 = m 12 1 + 1 ∧ m' 13 = q_fu (m 13) (m 12 1).toNat x
theorem nD_full {m : qM} {D d0 : Int} (h : ∀ k : Nat, k < (m 12 1).toNat → lD (m 13 k) ≤ d0) (hD : d0 ≤ D) : nD m D = (m 12 1).toNat := q_pfx_full _ fun k hk => Int.le_trans (h k hk) hD
theorem nD_le (m : qM) (D : Int) : nD m D ≤ (m 12 1).toNat := q_pfx_le _ _ _
theorem nD_app {m m' : qM} {x D : Int} (hl : lApp m m' x) (h0 : 0 ≤ m 12 1) (h : ∀ k : Nat, k < (m 12 1).toNat → lD (m 13 k) ≤ lD x) : nD m' D = if lD x ≤ D then (m 12 1).toNat + 1 else nD m D := by
  obtain ⟨h1, h2⟩ := hl
  unfold nD
  rw [h1, show (m 12 1 + 1).toNat = (m 12 1).toNat + 1 by omega, q_pfx_app (f := fun k => lD (m 13 k)) (n := (m 12 1).toNat) (fun k hk => by rw [h2, q_fu_ne (by omega)]) (fun k hk => by show lD (m 13 k) ≤ lD (m' 13 (m 12 1).toNat); rw [h2, q_fu_eq]; exact h k hk)]
  show (if lD (m' 13 (m 12 1).toNat) ≤ D then _ else _) = _
  rw [h2, q_fu_eq]
theorem isP_old {m m' : qM} {x a : Int} {k : Nat} (hl : lApp m m' x) (hk : k < (m 12 1).toNat) : isP m' a k ↔ isP m a k := by
  unfold isP
  rw [hl.2, q_fu_ne (by omega)]
theorem isT_old {m m' : qM} {x a : Int} {k : Nat} (hl : lApp m m' x) (hk : k < (m 12 1).toNat) : isT m' a k ↔ isT m a k := by
  unfold isT
  rw [hl.2, q_fu_ne (by omega)]
theorem sP_old {m m' : qM} {x a : Int} {n i : Nat} (hl : lApp m m' x) (hn : n ≤ (m 12 1).toNat) : sP m' n a i = sP m n a i := by
  refine q_sum_c n fun k hk => ?_
  have e := isP_old (a := a) hl (show k < (m 12 1).toNat by omega)
  have e2 : m' 13 k = m 13 k := by rw [hl.2, q_fu_ne (by omega)]
  show (if isP m' a k then lC (m' 13 k) i else 0) = if isP m a k then lC (m 13 k) i else 0
  by_cases z : isP m a k
  · rw [if_pos z, if_pos (e.mpr z), e2]
  · rw [if_neg z, if_neg (fun q => z (e.mp q))]
theorem nP_old {m m' : qM} {x a : Int} {n : Nat} (hl : lApp m m' x) (hn : n ≤ (m 12 1).toNat) : nP m' n a = nP m n a := q_cnt_c n fun k hk => isP_old hl (by omega)
theorem tL_old {m m' : qM} {x a : Int} {n : Nat} (hl : lApp m m' x) (hn : n ≤ (m 12 1).toNat) : tL m' n a = tL m n a := q_lst_c n fun k hk => isT_old hl (by omega)
theorem sP_D {m m' : qM} {x a D : Int} {i : Nat} (hl : lApp m m' x) (h0 : 0 ≤ m 12 1) (h : ∀ k : Nat, k < (m 12 1).toNat → lD (m 13 k) ≤ lD x) : sP m' (nD m' D) a i = sP m (nD m D) a i + if lD x ≤ D ∧ lA x = a ∧ lK x = 0 then lC x i else 0 := by
  rw [nD_app hl h0 h]
  by_cases z : lD x ≤ D
  · rw [if_pos z, nD_full h z]
    show sP m' (m 12 1).toNat a i + (if isP m' a (m 12 1).toNat then lC (m' 13 (m 12 1).toNat) i else 0) = _
    rw [sP_old hl (Nat.le_refl _)]
    congr 1
    have e : m' 13 (m 12 1).toNat = x := by rw [hl.2, q_fu_eq]
    unfold isP
    rw [e]
    by_cases q : lA x = a ∧ lK x = 0
    · rw [if_pos q, if_pos ⟨z, q⟩]
    · rw [if_neg q, if_neg (fun w => q w.2)]
  · rw [if_neg z, if_neg (fun w => z w.1), sP_old hl (nD_le m D)]; omega
theorem nP_D {m m' : qM} {x a D : Int} (hl : lApp m m' x) (h0 : 0 ≤ m 12 1) (h : ∀ k : Nat, k < (m 12 1).toNat → lD (m 13 k) ≤ lD x) : nP m' (nD m' D) a = nP m (nD m D) a + if lD x ≤ D ∧ lA x = a ∧ lK x = 0 then 1 else 0 := by
  rw [nD_app hl h0 h]
  by_cases z : lD x ≤ D
  · rw [if_pos z, nD_full h z]
    show nP m' (m 12 1).toNat a + (if isP m' a (m 12 1).toNat then 1 else 0) = _
    rw [nP_old hl (Nat.le_refl _)]
    congr 1
    have e : m' 13 (m 12 1).toNat = x := by rw [hl.2, q_fu_eq]
    unfold isP
    rw [e]
    by_cases q : lA x = a ∧ lK x = 0
    · rw [if_pos q, if_pos ⟨z, q⟩]
    · rw [if_neg q, if_neg (fun w => q w.2)]
  · rw [if_neg z, if_neg (fun w => z w.1), nP_old hl (nD_le m D)]; omega
theorem tL_D {m m' : qM} {x a D : Int} (hl : lApp m m' x) (h0 : 0 ≤ m 12 1) (h : ∀ k : Nat, k < (m 12 1).toNat → lD (m 13 k) ≤ lD x) : tL m' (nD m' D) a = if lD x ≤ D ∧ lA x = a ∧ lK x = 1 then m 12 1 else tL m (nD m D) a := by
  rw [nD_app hl h0 h]
  by_cases z : lD x ≤ D
  · rw [if_pos z, nD_full h z]
    show (if isT m' a (m 12 1).toNat then (((m 12 1).toNat : Nat) : Int) else tL m' (m 12 1).toNat a) = _
    rw [tL_old hl (Nat.le_refl _)]
    have e : m' 13 (m 12 1).toNat = x := by rw [hl.2, q_fu_eq]
    unfold isT
    rw [e]
    by_cases q : lA x = a ∧ lK x = 1
    · rw [if_pos q, if_pos ⟨z, q⟩]; omega
    · rw [if_neg q, if_neg (fun w => q w.2)]
  · rw [if_neg z, if_neg (fun w => z w.1), tL_old hl (nD_le m D)]
theorem tL_lt {m : qM} {a : Int} {n : Nat} : tL m n a < (n : Int) := (q_lst_r _ n).2
/-- the same rows, as they are -/
theorem rLe_c {m m' : qM} {a : Int} (h12 : m' 12 1 = m 12 1) (h13 : m' 13 = m 13) (h97 : m' 97 a.toNat = m 97 a.toNat) (h98 : m' 98 = m 98) (h99 : m' 99 a.toNat = m 99 a.toNat) (h100 : m' 100 = m 100) (h : rLe m a) : rLe m' a := by
  unfold rLe nD sP nP tL mS mN mT isP isT at *
  rw [h12, h13, h97, h98, h99, h100]
  exact h
theorem rLm_c {m m' : qM} {a : Int} (h1 : m 1 8 ≤ m' 1 8) (h14 : m' 14 a.toNat = m 14 a.toNat) (h97 : m' 97 a.toNat = m 97 a.toNat) (h98 : m' 98 = m 98) (h99 : m' 99 a.toNat = m 99 a.toNat) (h100 : m' 100 = m 100) (h : rLm m a) : rLm m' a := by
  unfold rLm at *
  rw [h14, h97, h98, h99, h100]
  obtain ⟨p1, p2, p3, p4⟩ := h
  exact ⟨p1, fun j j0 j1 => ⟨(p2 j j0 j1).1, by have := (p2 j j0 j1).2; omega⟩, p3, fun t t0 t1 => ⟨(p4 t t0 t1).1, by have := (p4 t t0 t1).2.1; omega, (p4 t t0 t1).2.2⟩⟩
theorem rL_day {m m' : qM} (h1 : m 1 8 ≤ m' 1 8) (h12 : m' 12 = m 12) (h13 : m' 13 = m 13) (h14 : m' 14 = m 14) (h96 : m' 96 = m 96) (h97 : m' 97 = m 97) (h98 : m' 98 = m 98) (h99 : m' 99 = m 99) (h100 : m' 100 = m 100) (h : rL m) : rL m' := by
  obtain ⟨⟨a1, a2, a3, a4⟩, b⟩ := h
  refine ⟨⟨by rw [h12, h96]; exact a1, fun k k0 k1 => ?_, by rw [h12, h13]; exact a3, by rw [h12, h14]; exact a4⟩, fun a a0 a1 => ?_⟩
  · rw [h12] at k1
    rw [h12, h13]
    have := a2 k k0 k1
    exact ⟨this.1, this.2.1, this.2.2.1, by have := this.2.2.2; omega⟩
  · rw [h12] at a1
    have := b a a0 a1
    exact ⟨rLm_c h1 (by rw [h14]) (by rw [h97]) h98 (by rw [h99]) h100 this.1, rLe_c (by rw [h12]) h13 (by rw [h97]) h98 (by rw [h99]) h100 this.2⟩
theorem rL_acc {m m' : qM} (h : rL m) (hlt : m 12 0 < 10) (h1 : m' 1 = m 1) (h120 : m' 12 0 = m 12 0 + 1) (h121 : m' 12 1 = m 12 1) (h13 : m' 13 = m 13) (h14 : m' 14 = m 14) (h96 : m' 96 0 = m 96 0 + 1) (h97 : m' 97 = q_fu (m 97) (m 12 0).toNat 0) (h98 : m' 98 = m 98) (h99 : m' 99 = q_fu (m 99) (m 12 0).toNat 0) (h100 : m' 100 = m 100) : rL m' := by
  obtain ⟨⟨⟨x1, x2, x3⟩, a2, a3, a4⟩, b⟩ := h
  have nk : ∀ k : Nat, k < (m 12 1).toNat → ¬ lA (m 13 k) = m 12 0 := fun k hk q => by
    have := (a2 (k : Int) (by omega) (by omega)).2.1
    rw [show ((k : Int)).toNat = k by omega] at this
    omega
  refine ⟨⟨⟨by rw [h120]; omega, by rw [h121]; exact x2, by rw [h96, h120, x3]⟩, fun k k0 k1 => ?_, by rw [h121, h13]; exact a3, fun a a0 a1 => by rw [h120] at a0; rw [h14]; exact a4 a (by omega) a1⟩, fun a a0 a1 => ?_⟩
  · rw [h121] at k1
    rw [h120, h13, h1]
    have := a2 k k0 k1
    exact ⟨this.1, by have := this.2.1; omega, this.2.2.1, this.2.2.2⟩
  · rw [h120] at a1
    by_cases e : a = m 12 0
    · have z97 : m' 97 a.toNat = 0 := by rw [h97, e, q_fu_eq]
      have z99 : m' 99 a.toNat = 0 := by rw [h99, e, q_fu_eq]
      have z14 : m' 14 a.toNat = 0 := by rw [h14]; exact a4 a (by omega) (by omega)
      refine ⟨⟨⟨by rw [z97, z14], by rw [z14]; omega⟩, fun j j0 j1 => by rw [z97] at j1; omega, by rw [z99]; omega, fun t t0 t1 => by rw [z99] at t1; omega⟩, fun D => ?_⟩
      have nn : nD m' D = nD m D := by unfold nD; rw [h121, h13]
      have nl := nD_le m D
      have cS : ∀ i : Nat, sP m' (nD m' D) a i = 0 := fun i => by
        rw [nn]
        unfold sP
        have : ∀ n : Nat, n ≤ (m 12 1).toNat → q_sum (fun k => if isP m' a k then lC (m' 13 k) i else 0) n = 0 := by
          intro n
          induction n with
          | zero => intro _; rfl
          | succ n ih =>
            intro hn
            show q_sum _ n + (if isP m' a n then lC (m' 13 n) i else 0) = 0
            rw [ih (by omega), if_neg (fun q => nk n (by omega) (by have := q.1; rw [h13] at this; omega))]; rfl
        exact this _ nl
      have cN : nP m' (nD m' D) a = 0 := by
        rw [nn]
        exact (q_cnt_no _).mpr fun j hj q => nk j (by omega) (by have := q.1; rw [h13] at this; omega)
      have cT : tL m' (nD m' D) a = -1 := by
        rw [nn]
        unfold tL
        have : ∀ n : Nat, n ≤ (m 12 1).toNat → q_lst (isT m' a) n = -1 := by
          intro n
          induction n with
          | zero => intro _; rfl
          | succ n ih =>
            intro hn
            show (if isT m' a n then (n : Int) else q_lst (isT m' a) n) = -1
            rw [if_neg (fun q => nk n (by omega) (by have := q.1; rw [h13] at this; omega)), ih (by omega)]
        exact this _ nl
      refine ⟨fun i _ => ?_, ?_, ?_, fun q => absurd cT q⟩
      · rw [cS]; unfold mS; rw [z97]; rfl
      · rw [cN]; unfold mN; rw [z97]; rfl
      · rw [cT]; unfold mT; rw [z99]; exact ⟨fun _ => rfl, fun _ => rfl⟩
    · have := b a a0 (by omega)
      have e97 : m' 97 a.toNat = m 97 a.toNat := by rw [h97, q_fu_ne (by omega)]
      have e99 : m' 99 a.toNat = m 99 a.toNat := by rw [h99, q_fu_ne (by omega)]
      exact ⟨rLm_c (by rw [h1]; exact Int.le_refl _) (by rw [h14]) e97 h98 e99 h100 this.1, rLe_c h121 h13 e97 h98 e99 h100 this.2⟩
/-- what the class adds, whatever the kind -/
theorem rLr_app {m m' : qM} {x a b c d ac k : Int} (h : rLr m) (hx : isRow x a b c d ac k (m 1 8)) (hc : (0 ≤ a ∧ a ≤ 9) ∧ (0 ≤ b ∧ b ≤ 9) ∧ (0 ≤ c ∧ c ≤ 9) ∧ (0 ≤ d ∧ d ≤ 9)) (hac : 0 ≤ ac ∧ ac < m 12 0) (h8 : 0 ≤ m 1 8) (hl : lApp m m' x) (hN : m 12 1 < 512) (h1 : m' 1 = m 1) (h120 : m' 12 0 = m 12 0) (h14 : ∀ a : Int, m 12 0 ≤ a → a < 10 → m' 14 a.toNat = m 14 a.toNat) (h96 : m' 96 0 = m 96 0) : rLr m' := by
  obtain ⟨⟨x1, x2, x3⟩, a2, a3, a4⟩ := h
  obtain ⟨y0, y1, y2, y3, y4, y5, y6, y7⟩ := hx
  have xe : m' 13 (m 12 1).toNat = x := by rw [hl.2, q_fu_eq]
  refine ⟨⟨by rw [h120]; exact x1, by rw [hl.1]; omega, by rw [h96, h120]; exact x3⟩, fun k k0 k1 => ?_, fun i j hij hj => ?_, fun a p q => by rw [h120] at p; rw [h14 a p q]; exact a4 a p q⟩
  · rw [hl.1] at k1
    rw [h120, h1]
    by_cases e : k = m 12 1
    · rw [e, xe]
      refine ⟨y0, by rw [y1]; exact hac, fun i hi => ?_, by rw [y3]; omega⟩
      have : i = 0 ∨ i = 1 ∨ i = 2 ∨ i = 3 := by omega
      rcases this with rfl | rfl | rfl | rfl
      · rw [y4]; omega
      · rw [y5]; omega
      · rw [y6]; omega
      · rw [y7]; omega
    · rw [hl.2, q_fu_ne (by omega)]
      exact a2 k k0 (by omega)
  · rw [hl.1] at hj
    by_cases e : j = (m 12 1).toNat
    · subst e
      rw [xe, y3]
      by_cases e2 : i = (m 12 1).toNat
      · subst e2; rw [xe, y3]; exact Int.le_refl _
      · rw [hl.2, q_fu_ne e2]
        have := (a2 (i : Int) (by omega) (by omega)).2.2.2.2
        rw [show ((i : Int)).toNat = i by omega] at this
        exact this
    · rw [hl.2, q_fu_ne (by omega), q_fu_ne (by omega)]
      exact a3 i j hij (by omega)
theorem rLr_d {m : qM} (h : rLr m) : ∀ k : Nat, k < (m 12 1).toNat → lD (m 13 k) ≤ m 1 8 := fun k hk => by
  have := (h.2.1 (k : Int) (by omega) (by omega)).2.2.2.2
  rw [show ((k : Int)).toNat = k by omega] at this
  exact this
/-- another account's rows -/
theorem rLe_other {m m' : qM} {x a b c d ac k a' : Int} (h : rLe m a') (hr : rLr m) (hx : isRow x a b c d ac k (m 1 8)) (hl : lApp m m' x) (hne : ¬ a' = ac) (eS : ∀ (D : Int) (i : Nat), i < 4 → mS m' a' i D = mS m a' i D) (eN : ∀ D, mN m' a' D = mN m a' D) (eT : ∀ D, mT m' a' D = mT m a' D) (e100 : ∀ t : Int, -1 ≤ t → t < m 99 a'.toNat → ∀ i : Nat, i < 4 → m' 100 (5000 * a' + 5 * t + (i : Int)).toNat = m 100 (5000 * a' + 5 * t + (i : Int)).toNat ∨ t = -1) : rLe m' a' := by
  intro D
  obtain ⟨p1, p2, p3, p4⟩ := h D
  have h0 := hr.1.2.1.1
  have hd : ∀ k : Nat, k < (m 12 1).toNat → lD (m 13 k) ≤ lD x := fun k hk => by rw [hx.2.2.2.1]; exact rLr_d hr k hk
  have hA := hx.2.1
  have e1 : tL m' (nD m' D) a' = tL m (nD m D) a' := by rw [tL_D hl h0 hd, if_neg (fun q => hne (by have := q.2.1; omega))]
  refine ⟨fun i hi => ?_, ?_, ?_, fun q i hi => ?_⟩
  · rw [sP_D hl h0 hd, if_neg (fun q => hne (by have := q.2.1; omega)), eS D i hi, ← p1 i hi]; omega
  · rw [nP_D hl h0 hd, if_neg (fun q => hne (by have := q.2.1; omega)), eN, ← p2]; omega
  · rw [e1, eT]; exact p3
  · rw [e1] at q ⊢
    have tl := tL_lt (m := m) (a := a') (n := nD m D)
    have nl := nD_le m D
    have tr := (q_lst_r (isT m a') (nD m D)).1
    have tr2 : -1 ≤ tL m (nD m D) a' := tr
    rw [hl.2, q_fu_ne (by omega), p4 q i hi, eT]
    have mr := q_lst_r (fun t => m 100 (5000 * a' + 5 * (t : Int) + 4).toNat ≤ D) (m 99 a'.toNat).toNat
    have mr2 : -1 ≤ mT m a' D ∧ mT m a' D < (((m 99 a'.toNat).toNat : Nat) : Int) := mr
    have mn : ¬ mT m a' D = -1 := fun z => q (p3.mpr z)
    rcases e100 (mT m a' D) (by omega) (by omega) i hi with z | z
    · exact z.symm
    · exact absurd z mn

/-! printed by p41.py: Sums -/
theorem q_fu_c (f : Nat → Int) (k : Nat) {v w : Int} (h : v = w) : q_fu f k v = q_fu f k w := by rw [h]
theorem q_fu_i (f : Nat → Int) (k : Nat) {v : Int} (h : f k = v) : f = q_fu f k v := by
  funext j
  by_cases e : j = k
  · subst e; rw [q_fu_eq]; exact h
  · rw [q_fu_ne e]
/-- an account counts; what its total has more than its rows -/
abbrev cA (m : qM) (n : Nat) (a : Nat) : Prop := ¬ nP m n a = 0 ∧ ¬ tL m n a = -1
def xE (m : qM) (n : Nat) (a i : Nat) : Int := lC (m 13 (tL m n a).toNat) i - sP m n a i
def wo (m : qM) (n a : Nat) (r s t : Int) : Int := xE m n a 0 + xE m n a 1 * r + xE m n a 2 * (r * s) + xE m n a 3 * (r * s * t)
/-- the ratios of the t-th set -/
def rt (t w : Nat) : Int := 2 + (if w = 0 then ((t / 121 : Nat) : Int) else if w = 1 then ((t / 11 % 11 : Nat) : Int) else ((t % 11 : Nat) : Int))
theorem rt_r {t w : Nat} (h : t < 1331) : 2 ≤ rt t w ∧ rt t w ≤ 12 := by
  unfold rt
  split
  · omega
  · split <;> omega
abbrev dis (m : qM) (n t a : Nat) : Prop := cA m n a ∧ ¬ wo m n a (rt t 0) (rt t 1) (rt t 2) = 0
abbrev sOK (m : qM) (n t : Nat) : Prop := q_cnt (dis m n t) 10 = 0
/-- what the sums know of the first n rows -/
def SI (m M : qM) (n : Nat) : Prop := ∀ a : Nat, a < 10 → (M 42 a = if tL m n a = -1 then 0 else 1) ∧ (M 43 a = if nP m n a = 0 then 0 else 1) ∧ ∀ i : Nat, i < 4 → M 40 (4 * a + i) = - sP m n a i ∧ (¬ tL m n a = -1 → M 41 (4 * a + i) = lC (m 13 (tL m n a).toNat) i)
def SZ (M : qM) : Prop := (M 39 0 = 0 ∧ M 39 6 = 0) ∧ (∀ a : Nat, a < 10 → M 45 a = 0) ∧ ∀ w : Nat, w < 3 → M 46 w = 12 ∧ M 47 w = 2
theorem SI_0 {m M : qM} (h : ∀ a : Nat, a < 10 → M 42 a = 0 ∧ M 43 a = 0) (h4 : ∀ j : Nat, j < 40 → M 40 j = 0) : SI m M 0 := by
  intro a ha
  refine ⟨?_, ?_, fun i hi => ⟨?_, fun z => absurd rfl z⟩⟩
  · rw [(h a ha).1, if_pos (show tL m 0 a = -1 from rfl)]
  · rw [(h a ha).2, if_pos (show nP m 0 a = 0 from rfl)]
  · rw [h4 _ (by omega)]; rfl
theorem SI_s {m M M' : qM} {n : Nat} {ac z : Int} (h : SI m M n) (hA : lA (m 13 n) = ac) (hK : lK (m 13 n) = z) (hac : 0 ≤ ac ∧ ac < 10)
    (h40 : ∀ j : Nat, M' 40 j = if z = 0 ∧ ac * 4 ≤ (j : Int) ∧ (j : Int) < ac * 4 + 4 then M 40 j - lC (m 13 n) (j - (ac * 4).toNat) else M 40 j)
    (h41 : ∀ j : Nat, M' 41 j = if z = 1 ∧ ac * 4 ≤ (j : Int) ∧ (j : Int) < ac * 4 + 4 then lC (m 13 n) (j - (ac * 4).toNat) else M 41 j)
    (h42 : M' 42 = q_fu (M 42) ac.toNat (max (M 42 ac.toNat) z)) (h43 : M' 43 = q_fu (M 43) ac.toNat (max (M 43 ac.toNat) (1 - z))) : SI m M' (n + 1) := by
  intro a ha
  obtain ⟨p1, p2, p3⟩ := h a ha
  have zr := lK_r (m 13 n)
  rw [hK] at zr
  have eT : tL m (n + 1) a = if (ac = (a : Int) ∧ z = 1) then (n : Int) else tL m n a := by
    show (if isT m a n then (n : Int) else tL m n a) = _
    unfold isT
    rw [hA, hK]
  have eN : nP m (n + 1) a = nP m n a + if (ac = (a : Int) ∧ z = 0) then 1 else 0 := by
    show nP m n a + (if isP m a n then 1 else 0) = _
    unfold isP
    rw [hA, hK]
  have eS : ∀ i, sP m (n + 1) a i = sP m n a i + if (ac = (a : Int) ∧ z = 0) then lC (m 13 n) i else 0 := fun i => by
    show sP m n a i + (if isP m a n then lC (m 13 n) i else 0) = _
    unfold isP
    rw [hA, hK]
  have tr : -1 ≤ tL m n a := (q_lst_r _ _).1
  by_cases e : ac = (a : Int)
  · have ea : ac.toNat = a := by omega
    rw [ea] at h42 h43
    rcases zr with z0 | z1
    · rw [if_neg (by omega)] at eT
      rw [if_pos ⟨e, z0⟩] at eN
      rw [eT]
      refine ⟨by rw [h42, q_fu_eq, p1, z0]; split <;> omega, by rw [h43, q_fu_eq, p2, eN, z0, if_neg (show ¬ nP m n a + 1 = 0 by omega)]; split <;> omega, fun i hi => ?_⟩
      obtain ⟨q1, q2⟩ := p3 i hi
      refine ⟨?_, fun w => ?_⟩
      · rw [h40, if_pos ⟨z0, by omega, by omega⟩, q1, eS, if_pos ⟨e, z0⟩, show 4 * a + i - (ac * 4).toNat = i by omega]; omega
      · rw [h41, if_neg (by omega)]; exact q2 w
    · rw [if_pos ⟨e, z1⟩] at eT
      rw [if_neg (by omega)] at eN
      refine ⟨by rw [h42, q_fu_eq, p1, z1, eT, if_neg (show ¬ (n : Int) = -1 by omega)]; split <;> omega, by rw [h43, q_fu_eq, p2, eN, z1, Nat.add_zero]; split <;> omega, fun i hi => ?_⟩
      obtain ⟨q1, q2⟩ := p3 i hi
      refine ⟨?_, fun w => ?_⟩
      · rw [h40, if_neg (by omega), q1, eS, if_neg (by omega)]; omega
      · rw [h41, if_pos ⟨z1, by omega, by omega⟩, eT, show ((n : Int)).toNat = n by omega, show 4 * a + i - (ac * 4).toNat = i by omega]
  · rw [if_neg (fun w => e w.1)] at eT eN
    rw [eT, eN, h42, h43, q_fu_ne (by omega), q_fu_ne (by omega)]
    refine ⟨p1, p2, fun i hi => ?_⟩
    obtain ⟨q1, q2⟩ := p3 i hi
    refine ⟨?_, fun w => ?_⟩
    · rw [h40, if_neg (by omega), q1, eS, if_neg (fun w => e w.1)]; omega
    · rw [h41, if_neg (by omega)]; exact q2 w

set_option maxRecDepth 100000 in
theorem c_sClear (u : qU) (m y : qM) (m0 : qM)  : qCt YX8_clear 2 0 0 [qR 39] (qLy u, m, y) (fun r h => r = none ∧ ∃ M, h = (qLy u, M, y) ∧ keep (kN kS) M = keep (kN kS) m ∧ SI m0 M 0 ∧ SZ M) := by
  refine qCt.intro okX8_clear (Nat.le_of_ble_eq_true rfl) (fun κ hκ => ?_)
  have L20 : ∀ (n : Nat) (a : Nat → Int) (b : Nat → Int) (c : Nat → Int) (i : Int), (0 ≤ i) → (i ≤ 10) → (∀ k : Nat, (k : Int) < i → a k = 0 ∧ b k = 0 ∧ c k = 0) → ((10 - i).toNat) < n → qJ YX8_clear κ (qFin (fun r h => r = none ∧ ∃ M, h = (qLy u, M, y) ∧ keep (kN kS) M = keep (kN kS) m ∧ SI m0 M 0 ∧ SZ M) 0 0 κ) (qLy u, (q_row (q_row (q_row (q_row (q_up (q_up m 39 0 0) 39 6 0) 40 (fun k => if k < 40 then 0 else m 40 k)) 42 a) 43 b) 45 c), y) 0 0 20 [some (qR 39), some (qI i)] [] := by
    intro n
    induction n with
    | zero => intro a b c i _ _ _ hz0; omega
    | succ n ih20 =>
      intro a b c i v20_0 v20_1 v20_2 v20_m
      refine qJ.run hκ 2 (pc' := 23) (ls' := [some (qR 39), some (qI i)]) (st' := [qI 10, qI i]) rfl ?_
      refine qJ.icmp_ge hκ (tgt := 53) rfl rfl (by omega) (by omega) (fun c23 => ?_) (fun c23 => ?_)
      · show qJ YX8_clear κ _ (qLy u, (q_row (q_row (q_row (q_row (q_up (q_up m 39 0 0) 39 6 0) 40 (fun k => if k < 40 then 0 else m 40 k)) 42 a) 43 b) 45 c), y) 0 0 53 [some (qR 39), some (qI i)] []
        refine qJ.run hκ 3 (pc' := 59) (ls' := [some (qR 39), some (qI i)]) (st' := [qI 12, qR 46]) rfl ?_
        refine qJ.callS (As := [qR 46, qI 12]) (rest := []) hκ rfl kX8_67 (c_fill46 u (q_row (q_row (q_row (q_row (q_up (q_up m 39 0 0) 39 6 0) 40 (fun k => if k < 40 then 0 else m 40 k)) 42 a) 43 b) 45 c) y 12) (by decide) rfl rfl (Nat.le_of_ble_eq_true rfl) (Nat.le_of_ble_eq_true rfl) (Nat.le_of_ble_eq_true rfl) (Or.inl (fun r h' e => by obtain ⟨rfl, rfl⟩ := e; rfl)) (fun r h' e => ?_)
        obtain ⟨rfl, rfl⟩ := e
        show qJ YX8_clear κ _ (qLy u, (q_row (q_row (q_row (q_row (q_row (q_up (q_up m 39 0 0) 39 6 0) 40 (fun k => if k < 40 then 0 else m 40 k)) 42 a) 43 b) 45 c) 46 (fun k => if k < 3 then 12 else m 46 k)), y) 0 0 62 [some (qR 39), some (qI i)] []
        refine qJ.run hκ 3 (pc' := 67) (ls' := [some (qR 39), some (qI i)]) (st' := [qI 2, qR 47]) rfl ?_
        refine qJ.callS (As := [qR 47, qI 2]) (rest := []) hκ rfl kX8_67 (c_fill47 u (q_row (q_row (q_row (q_row (q_row (q_up (q_up m 39 0 0) 39 6 0) 40 (fun k => if k < 40 then 0 else m 40 k)) 42 a) 43 b) 45 c) 46 (fun k => if k < 3 then 12 else m 46 k)) y 2) (by decide) rfl rfl (Nat.le_of_ble_eq_true rfl) (Nat.le_of_ble_eq_true rfl) (Nat.le_of_ble_eq_true rfl) (Or.inl (fun r h' e => by obtain ⟨rfl, rfl⟩ := e; rfl)) (fun r h' e => ?_)
        obtain ⟨rfl, rfl⟩ := e
        show qJ YX8_clear κ _ (qLy u, (q_row (q_row (q_row (q_row (q_row (q_row (q_up (q_up m 39 0 0) 39 6 0) 40 (fun k => if k < 40 then 0 else m 40 k)) 42 a) 43 b) 45 c) 46 (fun k => if k < 3 then 12 else m 46 k)) 47 (fun k => if k < 3 then 2 else m 47 k)), y) 0 0 70 [some (qR 39), some (qI i)] []
        exact qJ.vret hκ rfl rfl (by decide) (by decide) (⟨rfl, _, rfl, (Eq.trans (keep_row (by intro j; rfl)) (Eq.trans (keep_row (by intro j; rfl)) (Eq.trans (keep_row (by intro j; rfl)) (Eq.trans (keep_row (by intro j; rfl)) (Eq.trans (keep_row (by intro j; rfl)) (Eq.trans (keep_row (by intro j; rfl)) (Eq.trans (keep_up (by rfl)) (Eq.trans (keep_up (by rfl)) rfl)))))))), SI_0 (fun k hk => ⟨(v20_2 k (by omega)).1, (v20_2 k (by omega)).2.1⟩) (fun j hj => if_pos hj), ⟨rfl, rfl⟩, fun k hk => (v20_2 k (by omega)).2.2, fun w hw => ⟨if_pos hw, if_pos hw⟩⟩)
      · show qJ YX8_clear κ _ (qLy u, (q_row (q_row (q_row (q_row (q_up (q_up m 39 0 0) 39 6 0) 40 (fun k => if k < 40 then 0 else m 40 k)) 42 a) 43 b) 45 c), y) 0 0 26 [some (qR 39), some (qI i)] []
        refine qJ.run hκ 4 (pc' := 32) (ls' := [some (qR 39), some (qI i)]) (st' := [qI 0, qI i, qR 42]) rfl ?_
        refine qJ.ast hκ rfl rfl rfl (by decide) (by omega) ?_
        refine qJ.mc (m1 := (q_up (q_row (q_row (q_row (q_row (q_up (q_up m 39 0 0) 39 6 0) 40 (fun k => if k < 40 then 0 else m 40 k)) 42 a) 43 b) 45 c) 42 i.toNat (q_nar 2 0))) (m2 := (q_up (q_row (q_row (q_row (q_row (q_up (q_up m 39 0 0) 39 6 0) 40 (fun k => if k < 40 then 0 else m 40 k)) 42 a) 43 b) 45 c) 42 i.toNat 0)) (by rw [q_n2 (by omega)]) ?_
        refine qJ.mc (m1 := (q_up (q_row (q_row (q_row (q_row (q_up (q_up m 39 0 0) 39 6 0) 40 (fun k => if k < 40 then 0 else m 40 k)) 42 a) 43 b) 45 c) 42 i.toNat 0)) (m2 := (q_row (q_row (q_row (q_row (q_up (q_up m 39 0 0) 39 6 0) 40 (fun k => if k < 40 then 0 else m 40 k)) 42 (q_fu a i.toNat 0)) 43 b) 45 c)) (by rw [q_up_row_ne (a := 42) (b := 45) (by decide), q_up_row_ne (a := 42) (b := 43) (by decide), q_up_row_eq]) ?_
        show qJ YX8_clear κ _ (qLy u, (q_row (q_row (q_row (q_row (q_up (q_up m 39 0 0) 39 6 0) 40 (fun k => if k < 40 then 0 else m 40 k)) 42 (q_fu a i.toNat 0)) 43 b) 45 c), y) 0 0 33 [some (qR 39), some (qI i)] []
        refine qJ.run hκ 4 (pc' := 39) (ls' := [some (qR 39), some (qI i)]) (st' := [qI 0, qI i, qR 43]) rfl ?_
        refine qJ.ast hκ rfl rfl rfl (by decide) (by omega) ?_
        refine qJ.mc (m1 := (q_up (q_row (q_row (q_row (q_row (q_up (q_up m 39 0 0) 39 6 0) 40 (fun k => if k < 40 then 0 else m 40 k)) 42 (q_fu a i.toNat 0)) 43 b) 45 c) 43 i.toNat (q_nar 2 0))) (m2 := (q_up (q_row (q_row (q_row (q_row (q_up (q_up m 39 0 0) 39 6 0) 40 (fun k => if k < 40 then 0 else m 40 k)) 42 (q_fu a i.toNat 0)) 43 b) 45 c) 43 i.toNat 0)) (by rw [q_n2 (by omega)]) ?_
        refine qJ.mc (m1 := (q_up (q_row (q_row (q_row (q_row (q_up (q_up m 39 0 0) 39 6 0) 40 (fun k => if k < 40 then 0 else m 40 k)) 42 (q_fu a i.toNat 0)) 43 b) 45 c) 43 i.toNat 0)) (m2 := (q_row (q_row (q_row (q_row (q_up (q_up m 39 0 0) 39 6 0) 40 (fun k => if k < 40 then 0 else m 40 k)) 42 (q_fu a i.toNat 0)) 43 (q_fu b i.toNat 0)) 45 c)) (by rw [q_up_row_ne (a := 43) (b := 45) (by decide), q_up_row_eq]) ?_
        show qJ YX8_clear κ _ (qLy u, (q_row (q_row (q_row (q_row (q_up (q_up m 39 0 0) 39 6 0) 40 (fun k => if k < 40 then 0 else m 40 k)) 42 (q_fu a i.toNat 0)) 43 (q_fu b i.toNat 0)) 45 c), y) 0 0 40 [some (qR 39), some (qI i)] []
        refine qJ.run hκ 4 (pc' := 46) (ls' := [some (qR 39), some (qI i)]) (st' := [qI 0, qI i, qR 45]) rfl ?_
        refine qJ.ast hκ rfl rfl rfl (by decide) (by omega) ?_
        refine qJ.mc (m1 := (q_up (q_row (q_row (q_row (q_row (q_up (q_up m 39 0 0) 39 6 0) 40 (fun k => if k < 40 then 0 else m 40 k)) 42 (q_fu a i.toNat 0)) 43 (q_fu b i.toNat 0)) 45 c) 45 i.toNat (q_nar 2 0))) (m2 := (q_up (q_row (q_row (q_row (q_row (q_up (q_up m 39 0 0) 39 6 0) 40 (fun k => if k < 40 then 0 else m 40 k)) 42 (q_fu a i.toNat 0)) 43 (q_fu b i.toNat 0)) 45 c) 45 i.toNat 0)) (by rw [q_n2 (by omega)]) ?_
        refine qJ.mc (m1 := (q_up (q_row (q_row (q_row (q_row (q_up (q_up m 39 0 0) 39 6 0) 40 (fun k => if k < 40 then 0 else m 40 k)) 42 (q_fu a i.toNat 0)) 43 (q_fu b i.toNat 0)) 45 c) 45 i.toNat 0)) (m2 := (q_row (q_row (q_row (q_row (q_up (q_up m 39 0 0) 39 6 0) 40 (fun k => if k < 40 then 0 else m 40 k)) 42 (q_fu a i.toNat 0)) 43 (q_fu b i.toNat 0)) 45 (q_fu c i.toNat 0))) (by rw [q_up_row_eq]) ?_
        show qJ YX8_clear κ _ (qLy u, (q_row (q_row (q_row (q_row (q_up (q_up m 39 0 0) 39 6 0) 40 (fun k => if k < 40 then 0 else m 40 k)) 42 (q_fu a i.toNat 0)) 43 (q_fu b i.toNat 0)) 45 (q_fu c i.toNat 0)), y) 0 0 47 [some (qR 39), some (qI i)] []
        refine qJ.run hκ 2 (pc' := 20) (ls' := [some (qR 39), some (qI (i + 1))]) (st' := []) rfl ?_
        exact qJ.cast (ih20  (q_fu a i.toNat 0) (q_fu b i.toNat 0) (q_fu c i.toNat 0) (i + 1) (by omega) (by omega) (fun k hk => by by_cases e : k = i.toNat; subst e; rw [q_fu_eq, q_fu_eq, q_fu_eq]; exact ⟨rfl, rfl, rfl⟩; rw [q_fu_ne e, q_fu_ne e, q_fu_ne e]; exact v20_2 k (by omega)) (by omega)) (rfl) rfl rfl
  show qJ YX8_clear κ _ (qLy u, m, y) 0 0 0 [some (qR 39), none] []
  refine qJ.run hκ 2 (pc' := 2) (ls' := [some (qR 39), none]) (st' := [qI 0, qR 39]) rfl ?_
  refine qJ.putI hκ rfl rfl rfl rfl (Or.inl rfl) ?_
  show qJ YX8_clear κ _ (qLy u, (q_up m 39 0 0), y) 0 0 5 [some (qR 39), none] []
  refine qJ.run hκ 2 (pc' := 7) (ls' := [some (qR 39), none]) (st' := [qI 0, qR 39]) rfl ?_
  refine qJ.putI hκ rfl rfl rfl rfl (Or.inl rfl) ?_
  show qJ YX8_clear κ _ (qLy u, (q_up (q_up m 39 0 0) 39 6 0), y) 0 0 10 [some (qR 39), none] []
  refine qJ.run hκ 3 (pc' := 15) (ls' := [some (qR 39), none]) (st' := [qI 0, qR 40]) rfl ?_
  refine qJ.callS (As := [qR 40, qI 0]) (rest := []) hκ rfl kX8_67 (c_fill40 u (q_up (q_up m 39 0 0) 39 6 0) y 0) (by decide) rfl rfl (Nat.le_of_ble_eq_true rfl) (Nat.le_of_ble_eq_true rfl) (Nat.le_of_ble_eq_true rfl) (Or.inl (fun r h' e => by obtain ⟨rfl, rfl⟩ := e; rfl)) (fun r h' e => ?_)
  obtain ⟨rfl, rfl⟩ := e
  show qJ YX8_clear κ _ (qLy u, (q_row (q_up (q_up m 39 0 0) 39 6 0) 40 (fun k => if k < 40 then 0 else m 40 k)), y) 0 0 18 [some (qR 39), none] []
  refine qJ.run hκ 2 (pc' := 20) (ls' := [some (qR 39), some (qI 0)]) (st' := []) rfl ?_
  exact qJ.cast (L20 11 (m 42) (m 43) (m 45) 0 (by omega) (by omega) (fun k hk => by omega) (by omega)) (by rw [q_row_id (m := (q_row (q_up (q_up m 39 0 0) 39 6 0) 40 (fun k => if k < 40 then 0 else m 40 k))) (a := 42) (f := m 42) rfl, q_row_id (m := (q_row (q_up (q_up m 39 0 0) 39 6 0) 40 (fun k => if k < 40 then 0 else m 40 k))) (a := 43) (f := m 43) rfl, q_row_id (m := (q_row (q_up (q_up m 39 0 0) 39 6 0) 40 (fun k => if k < 40 then 0 else m 40 k))) (a := 45) (f := m 45) rfl]) rfl rfl

set_option maxRecDepth 100000 in
theorem c_sTake (u : qU) (m M y : qM) (k : Int) (hL : rLr m) (hk : 0 ≤ k ∧ k < m 12 1) (hM : keep (kN kS) M = keep (kN kS) m) (hS : SI m M k.toNat) (hZ : SZ M) : qCt YX8_take 2 0 0 [qR 39, qR 12, qI k] (qLy u, M, y) (fun r h => r = none ∧ ∃ M', h = (qLy u, M', y) ∧ keep (kN kS) M' = keep (kN kS) M ∧ SI m M' (k.toNat + 1) ∧ SZ M') := by
  refine qCt.intro okX8_take (Nat.le_of_ble_eq_true rfl) (fun κ hκ => ?_)
  have l0 := hL.1.1
  have l1 := hL.1.2.1
  have lr := hL.2.1 k hk.1 hk.2
  have e13 : M 13 = m 13 := congrFun hM 13
  have ac1 := lr.2.1
  have zk := lK_r (m 13 k.toNat)
  have sa := hS (lA (m 13 k.toNat)).toNat (by omega)
  have b42 : M 42 (lA (m 13 k.toNat)).toNat = 0 ∨ M 42 (lA (m 13 k.toNat)).toNat = 1 := by rw [sa.1]; split <;> omega
  have b43 : M 43 (lA (m 13 k.toNat)).toNat = 0 ∨ M 43 (lA (m 13 k.toNat)).toNat = 1 := by rw [sa.2.1]; split <;> omega
  have rA := row_A lr.1
  have rK := row_K lr.1
  have xr : M 13 k.toNat = m 13 k.toNat := by rw [e13]
  have L16 : ∀ (n : Nat) (e : Nat → Int) (t : Nat → Int) (i : Int), (0 ≤ i) → (i ≤ 4) → (∀ j : Nat, e j = if lK (m 13 k.toNat) = 0 ∧ lA (m 13 k.toNat) * 4 ≤ (j : Int) ∧ (j : Int) < lA (m 13 k.toNat) * 4 + i then M 40 j - lC (m 13 k.toNat) (j - (lA (m 13 k.toNat) * 4).toNat) else M 40 j) → (∀ j : Nat, t j = if lK (m 13 k.toNat) = 1 ∧ lA (m 13 k.toNat) * 4 ≤ (j : Int) ∧ (j : Int) < lA (m 13 k.toNat) * 4 + i then lC (m 13 k.toNat) (j - (lA (m 13 k.toNat) * 4).toNat) else M 41 j) → ((4 - i).toNat) < n → qJ YX8_take κ (qFin (fun r h => r = none ∧ ∃ M', h = (qLy u, M', y) ∧ keep (kN kS) M' = keep (kN kS) M ∧ SI m M' (k.toNat + 1) ∧ SZ M') 0 0 κ) (qLy u, (q_row (q_row M 40 e) 41 t), y) 0 0 16 [some (qR 39), some (qR 12), some (qI k), some (qI (lA (m 13 k.toNat))), some (qI (lK (m 13 k.toNat))), some (qI i)] [] := by
    intro n
    induction n with
    | zero => intro e t i _ _ _ _ hz0; omega
    | succ n ih16 =>
      intro e t i v16_0 v16_1 v16_2 v16_3 v16_m
      refine qJ.run hκ 2 (pc' := 19) (ls' := [some (qR 39), some (qR 12), some (qI k), some (qI (lA (m 13 k.toNat))), some (qI (lK (m 13 k.toNat))), some (qI i)]) (st' := [qI 4, qI i]) rfl ?_
      refine qJ.icmp_ge hκ (tgt := 75) rfl rfl (by omega) (by omega) (fun c19 => ?_) (fun c19 => ?_)
      · show qJ YX8_take κ _ (qLy u, (q_row (q_row M 40 e) 41 t), y) 0 0 75 [some (qR 39), some (qR 12), some (qI k), some (qI (lA (m 13 k.toNat))), some (qI (lK (m 13 k.toNat))), some (qI i)] []
        refine qJ.run hκ 1 (pc' := 77) (ls' := [some (qR 39), some (qR 12), some (qI k), some (qI (lA (m 13 k.toNat))), some (qI (lK (m 13 k.toNat))), some (qI i)]) (st' := [qI (lK (m 13 k.toNat))]) rfl ?_
        refine qJ.if_eq hκ (tgt := 90) rfl rfl (by omega) (fun c77 => ?_) (fun c77 => ?_)
        · show qJ YX8_take κ _ (qLy u, (q_row (q_row M 40 e) 41 t), y) 0 0 90 [some (qR 39), some (qR 12), some (qI k), some (qI (lA (m 13 k.toNat))), some (qI (lK (m 13 k.toNat))), some (qI i)] []
          refine qJ.run hκ 4 (pc' := 96) (ls' := [some (qR 39), some (qR 12), some (qI k), some (qI (lA (m 13 k.toNat))), some (qI (lK (m 13 k.toNat))), some (qI i)]) (st' := [qI 1, qI (lA (m 13 k.toNat)), qR 43]) rfl ?_
          refine qJ.ast hκ rfl rfl rfl (by decide) (by omega) ?_
          refine qJ.mc (m1 := (q_up (q_row (q_row M 40 e) 41 t) 43 ((lA (m 13 k.toNat)).toNat) (q_nar 2 1))) (m2 := (q_up (q_row (q_row M 40 e) 41 t) 43 ((lA (m 13 k.toNat)).toNat) 1)) (by rw [q_n2 (by omega)]) ?_
          show qJ YX8_take κ _ (qLy u, (q_up (q_row (q_row M 40 e) 41 t) 43 ((lA (m 13 k.toNat)).toNat) 1), y) 0 0 97 [some (qR 39), some (qR 12), some (qI k), some (qI (lA (m 13 k.toNat))), some (qI (lK (m 13 k.toNat))), some (qI i)] []
          exact qJ.vret hκ rfl rfl (by decide) (by decide) (by
      have he4 : i = 4 := by omega
      subst he4
      refine ⟨rfl, _, rfl, (Eq.trans (keep_up (by rfl)) (Eq.trans (keep_row (by intro j; rfl)) (Eq.trans (keep_row (by intro j; rfl)) rfl))), SI_s (ac := lA (m 13 k.toNat)) (z := lK (m 13 k.toNat)) hS rfl rfl (by omega) v16_2 v16_3 ?_ ?_, hZ⟩
      · exact q_fu_i (M 42) _ (show M 42 (lA (m 13 k.toNat)).toNat = max (M 42 (lA (m 13 k.toNat)).toNat) (lK (m 13 k.toNat)) by omega)
      · exact q_up_fu.trans (q_fu_c (M 43) _ (show (1 : Int) = max (M 43 (lA (m 13 k.toNat)).toNat) (1 - lK (m 13 k.toNat)) by omega)))
        · show qJ YX8_take κ _ (qLy u, (q_row (q_row M 40 e) 41 t), y) 0 0 80 [some (qR 39), some (qR 12), some (qI k), some (qI (lA (m 13 k.toNat))), some (qI (lK (m 13 k.toNat))), some (qI i)] []
          refine qJ.run hκ 4 (pc' := 86) (ls' := [some (qR 39), some (qR 12), some (qI k), some (qI (lA (m 13 k.toNat))), some (qI (lK (m 13 k.toNat))), some (qI i)]) (st' := [qI 1, qI (lA (m 13 k.toNat)), qR 42]) rfl ?_
          refine qJ.ast hκ rfl rfl rfl (by decide) (by omega) ?_
          refine qJ.mc (m1 := (q_up (q_row (q_row M 40 e) 41 t) 42 ((lA (m 13 k.toNat)).toNat) (q_nar 2 1))) (m2 := (q_up (q_row (q_row M 40 e) 41 t) 42 ((lA (m 13 k.toNat)).toNat) 1)) (by rw [q_n2 (by omega)]) ?_
          show qJ YX8_take κ _ (qLy u, (q_up (q_row (q_row M 40 e) 41 t) 42 ((lA (m 13 k.toNat)).toNat) 1), y) 0 0 87 [some (qR 39), some (qR 12), some (qI k), some (qI (lA (m 13 k.toNat))), some (qI (lK (m 13 k.toNat))), some (qI i)] []
          refine qJ.run hκ 1 (pc' := 97) (ls' := [some (qR 39), some (qR 12), some (qI k), some (qI (lA (m 13 k.toNat))), some (qI (lK (m 13 k.toNat))), some (qI i)]) (st' := []) rfl ?_
          exact qJ.vret hκ rfl rfl (by decide) (by decide) (by
      have he4 : i = 4 := by omega
      subst he4
      refine ⟨rfl, _, rfl, (Eq.trans (keep_up (by rfl)) (Eq.trans (keep_row (by intro j; rfl)) (Eq.trans (keep_row (by intro j; rfl)) rfl))), SI_s (ac := lA (m 13 k.toNat)) (z := lK (m 13 k.toNat)) hS rfl rfl (by omega) v16_2 v16_3 ?_ ?_, hZ⟩
      · exact q_up_fu.trans (q_fu_c (M 42) _ (show (1 : Int) = max (M 42 (lA (m 13 k.toNat)).toNat) (lK (m 13 k.toNat)) by omega))
      · exact q_fu_i (M 43) _ (show M 43 (lA (m 13 k.toNat)).toNat = max (M 43 (lA (m 13 k.toNat)).toNat) (1 - lK (m 13 k.toNat)) by omega))
      · show qJ YX8_take κ _ (qLy u, (q_row (q_row M 40 e) 41 t), y) 0 0 22 [some (qR 39), some (qR 12), some (qI k), some (qI (lA (m 13 k.toNat))), some (qI (lK (m 13 k.toNat))), some (qI i)] []
        refine qJ.run hκ 1 (pc' := 24) (ls' := [some (qR 39), some (qR 12), some (qI k), some (qI (lA (m 13 k.toNat))), some (qI (lK (m 13 k.toNat))), some (qI i)]) (st' := [qI (lK (m 13 k.toNat))]) rfl ?_
        refine qJ.if_eq hκ (tgt := 48) rfl rfl (by omega) (fun c24 => ?_) (fun c24 => ?_)
        · show qJ YX8_take κ _ (qLy u, (q_row (q_row M 40 e) 41 t), y) 0 0 48 [some (qR 39), some (qR 12), some (qI k), some (qI (lA (m 13 k.toNat))), some (qI (lK (m 13 k.toNat))), some (qI i)] []
          refine qJ.run hκ 8 (pc' := 59) (ls' := [some (qR 39), some (qR 12), some (qI k), some (qI (lA (m 13 k.toNat))), some (qI (lK (m 13 k.toNat))), some (qI i)]) (st' := [qI (((lA (m 13 k.toNat)) * 4) + i), qR 40, qI (((lA (m 13 k.toNat)) * 4) + i), qR 40]) rfl ?_
          refine qJ.ald hκ rfl rfl rfl (by decide) (by omega) ?_
          show qJ YX8_take κ _ (qLy u, (q_row (q_row M 40 e) 41 t), y) 0 0 60 [some (qR 39), some (qR 12), some (qI k), some (qI (lA (m 13 k.toNat))), some (qI (lK (m 13 k.toNat))), some (qI i)] [qI (e ((((lA (m 13 k.toNat)) * 4) + i).toNat)), qI (((lA (m 13 k.toNat)) * 4) + i), qR 40]
          refine qJ.run hκ 3 (pc' := 64) (ls' := [some (qR 39), some (qR 12), some (qI k), some (qI (lA (m 13 k.toNat))), some (qI (lK (m 13 k.toNat))), some (qI i)]) (st' := [qI i, qI k, qR 12, qI (e ((((lA (m 13 k.toNat)) * 4) + i).toNat)), qI (((lA (m 13 k.toNat)) * 4) + i), qR 40]) rfl ?_
          refine qJ.callV (As := [qI k, qI i]) (rest := [qI (e ((((lA (m 13 k.toNat)) * 4) + i).toNat)), qI (((lA (m 13 k.toNat)) * 4) + i), qR 40]) hκ rfl kX8_80 (c_countOf u (q_row (q_row M 40 e) 41 t) y k i (by omega)) rfl rfl (by decide) rfl rfl (Nat.le_of_ble_eq_true rfl) (Nat.le_of_ble_eq_true rfl) (Nat.le_of_ble_eq_true rfl) (Or.inl (fun r h' e => by obtain ⟨rfl, rfl⟩ := e; rfl)) (fun r h' e => ?_)
          obtain ⟨rfl, rfl⟩ := e
          rw [show q_and (q_shr ((q_row (q_row M 40 e) 41 t) 13 k.toNat) (4 * i)) 15 = lC (m 13 k.toNat) i.toNat from by show q_and (q_shr (M 13 k.toNat) (4 * i)) 15 = _; rw [xr]; exact row_C lr.1 (by omega)]
          show qJ YX8_take κ _ (qLy u, (q_row (q_row M 40 e) 41 t), y) 0 0 67 [some (qR 39), some (qR 12), some (qI k), some (qI (lA (m 13 k.toNat))), some (qI (lK (m 13 k.toNat))), some (qI i)] [qI (lC (m 13 k.toNat) i.toNat), qI (e ((((lA (m 13 k.toNat)) * 4) + i).toNat)), qI (((lA (m 13 k.toNat)) * 4) + i), qR 40]
          refine qJ.run hκ 1 (pc' := 68) (ls' := [some (qR 39), some (qR 12), some (qI k), some (qI (lA (m 13 k.toNat))), some (qI (lK (m 13 k.toNat))), some (qI i)]) (st' := [qI ((e ((((lA (m 13 k.toNat)) * 4) + i).toNat)) - (lC (m 13 k.toNat) i.toNat)), qI (((lA (m 13 k.toNat)) * 4) + i), qR 40]) rfl ?_
          refine qJ.ast hκ rfl rfl rfl (by decide) (by omega) ?_
          refine qJ.mc (m1 := (q_up (q_row (q_row M 40 e) 41 t) 40 ((((lA (m 13 k.toNat)) * 4) + i).toNat) ((e ((((lA (m 13 k.toNat)) * 4) + i).toNat)) - (lC (m 13 k.toNat) i.toNat)))) (m2 := (q_row (q_row M 40 (q_fu e ((((lA (m 13 k.toNat)) * 4) + i).toNat) ((e ((((lA (m 13 k.toNat)) * 4) + i).toNat)) - (lC (m 13 k.toNat) i.toNat)))) 41 t)) (by rw [q_up_row_ne (a := 40) (b := 41) (by decide), q_up_row_eq]) ?_
          show qJ YX8_take κ _ (qLy u, (q_row (q_row M 40 (q_fu e ((((lA (m 13 k.toNat)) * 4) + i).toNat) ((e ((((lA (m 13 k.toNat)) * 4) + i).toNat)) - (lC (m 13 k.toNat) i.toNat)))) 41 t), y) 0 0 69 [some (qR 39), some (qR 12), some (qI k), some (qI (lA (m 13 k.toNat))), some (qI (lK (m 13 k.toNat))), some (qI i)] []
          refine qJ.run hκ 2 (pc' := 16) (ls' := [some (qR 39), some (qR 12), some (qI k), some (qI (lA (m 13 k.toNat))), some (qI (lK (m 13 k.toNat))), some (qI (i + 1))]) (st' := []) rfl ?_
          exact qJ.cast (ih16  (q_fu e ((((lA (m 13 k.toNat)) * 4) + i).toNat) ((e ((((lA (m 13 k.toNat)) * 4) + i).toNat)) - (lC (m 13 k.toNat) i.toNat))) t (i + 1) (by omega) (by omega) (fun j => by by_cases g : j = (lA (m 13 k.toNat) * 4 + i).toNat; (subst g; rw [q_fu_eq, if_pos ⟨by omega, by omega, by omega⟩, v16_2 _, if_neg (by omega), show (lA (m 13 k.toNat) * 4 + i).toNat - (lA (m 13 k.toNat) * 4).toNat = i.toNat by omega]); rw [q_fu_ne g, v16_2 j]; by_cases g2 : lK (m 13 k.toNat) = 0 ∧ lA (m 13 k.toNat) * 4 ≤ (j : Int) ∧ (j : Int) < lA (m 13 k.toNat) * 4 + i; rw [if_pos g2, if_pos (by omega)]; rw [if_neg g2, if_neg (by omega)]) (fun j => by rw [v16_3 j, if_neg (by omega), if_neg (by omega)]) (by omega)) (rfl) rfl rfl
        · show qJ YX8_take κ _ (qLy u, (q_row (q_row M 40 e) 41 t), y) 0 0 27 [some (qR 39), some (qR 12), some (qI k), some (qI (lA (m 13 k.toNat))), some (qI (lK (m 13 k.toNat))), some (qI i)] []
          refine qJ.run hκ 10 (pc' := 41) (ls' := [some (qR 39), some (qR 12), some (qI k), some (qI (lA (m 13 k.toNat))), some (qI (lK (m 13 k.toNat))), some (qI i)]) (st' := [qI i, qI k, qR 12, qI (((lA (m 13 k.toNat)) * 4) + i), qR 41]) rfl ?_
          refine qJ.callV (As := [qI k, qI i]) (rest := [qI (((lA (m 13 k.toNat)) * 4) + i), qR 41]) hκ rfl kX8_80 (c_countOf u (q_row (q_row M 40 e) 41 t) y k i (by omega)) rfl rfl (by decide) rfl rfl (Nat.le_of_ble_eq_true rfl) (Nat.le_of_ble_eq_true rfl) (Nat.le_of_ble_eq_true rfl) (Or.inl (fun r h' e => by obtain ⟨rfl, rfl⟩ := e; rfl)) (fun r h' e => ?_)
          obtain ⟨rfl, rfl⟩ := e
          rw [show q_and (q_shr ((q_row (q_row M 40 e) 41 t) 13 k.toNat) (4 * i)) 15 = lC (m 13 k.toNat) i.toNat from by show q_and (q_shr (M 13 k.toNat) (4 * i)) 15 = _; rw [xr]; exact row_C lr.1 (by omega)]
          show qJ YX8_take κ _ (qLy u, (q_row (q_row M 40 e) 41 t), y) 0 0 44 [some (qR 39), some (qR 12), some (qI k), some (qI (lA (m 13 k.toNat))), some (qI (lK (m 13 k.toNat))), some (qI i)] [qI (lC (m 13 k.toNat) i.toNat), qI (((lA (m 13 k.toNat)) * 4) + i), qR 41]
          refine qJ.ast hκ rfl rfl rfl (by decide) (by omega) ?_
          refine qJ.mc (m1 := (q_up (q_row (q_row M 40 e) 41 t) 41 ((((lA (m 13 k.toNat)) * 4) + i).toNat) (lC (m 13 k.toNat) i.toNat))) (m2 := (q_row (q_row M 40 e) 41 (q_fu t ((((lA (m 13 k.toNat)) * 4) + i).toNat) (lC (m 13 k.toNat) i.toNat)))) (by rw [q_up_row_eq]) ?_
          show qJ YX8_take κ _ (qLy u, (q_row (q_row M 40 e) 41 (q_fu t ((((lA (m 13 k.toNat)) * 4) + i).toNat) (lC (m 13 k.toNat) i.toNat))), y) 0 0 45 [some (qR 39), some (qR 12), some (qI k), some (qI (lA (m 13 k.toNat))), some (qI (lK (m 13 k.toNat))), some (qI i)] []
          refine qJ.run hκ 3 (pc' := 16) (ls' := [some (qR 39), some (qR 12), some (qI k), some (qI (lA (m 13 k.toNat))), some (qI (lK (m 13 k.toNat))), some (qI (i + 1))]) (st' := []) rfl ?_
          exact qJ.cast (ih16  e (q_fu t ((((lA (m 13 k.toNat)) * 4) + i).toNat) (lC (m 13 k.toNat) i.toNat)) (i + 1) (by omega) (by omega) (fun j => by rw [v16_2 j, if_neg (by omega), if_neg (by omega)]) (fun j => by by_cases g : j = (lA (m 13 k.toNat) * 4 + i).toNat; (subst g; rw [q_fu_eq, if_pos ⟨by omega, by omega, by omega⟩, show (lA (m 13 k.toNat) * 4 + i).toNat - (lA (m 13 k.toNat) * 4).toNat = i.toNat by omega]); rw [q_fu_ne g, v16_3 j]; by_cases g2 : lK (m 13 k.toNat) = 1 ∧ lA (m 13 k.toNat) * 4 ≤ (j : Int) ∧ (j : Int) < lA (m 13 k.toNat) * 4 + i; rw [if_pos g2, if_pos (by omega)]; rw [if_neg g2, if_neg (by omega)]) (by omega)) (rfl) rfl rfl
  show qJ YX8_take κ _ (qLy u, M, y) 0 0 0 [some (qR 39), some (qR 12), some (qI k), none, none, none] []
  refine qJ.run hκ 2 (pc' := 2) (ls' := [some (qR 39), some (qR 12), some (qI k), none, none, none]) (st' := [qI k, qR 12]) rfl ?_
  refine qJ.callV (As := [qI k]) (rest := []) hκ rfl kX8_73 (c_accountOf u M y k (by omega)) rfl rfl (by decide) rfl rfl (Nat.le_of_ble_eq_true rfl) (Nat.le_of_ble_eq_true rfl) (Nat.le_of_ble_eq_true rfl) (Or.inl (fun r h' e => by obtain ⟨rfl, rfl⟩ := e; rfl)) (fun r h' e => ?_)
  obtain ⟨rfl, rfl⟩ := e
  rw [xr, rA]
  show qJ YX8_take κ _ (qLy u, M, y) 0 0 5 [some (qR 39), some (qR 12), some (qI k), none, none, none] [qI (lA (m 13 k.toNat))]
  refine qJ.run hκ 3 (pc' := 8) (ls' := [some (qR 39), some (qR 12), some (qI k), some (qI (lA (m 13 k.toNat))), none, none]) (st' := [qI k, qR 12]) rfl ?_
  refine qJ.callV (As := [qI k]) (rest := []) hκ rfl kX8_76 (c_isTotal u M y k (by omega)) rfl rfl (by decide) rfl rfl (Nat.le_of_ble_eq_true rfl) (Nat.le_of_ble_eq_true rfl) (Nat.le_of_ble_eq_true rfl) (Or.inl (fun r h' e => by obtain ⟨rfl, rfl⟩ := e; rfl)) (fun r h' e => ?_)
  obtain ⟨rfl, rfl⟩ := e
  rw [show (if q_and (q_shr (M 13 k.toNat) 20) 1 = 0 then (0 : Int) else 1) = lK (m 13 k.toNat) from by rw [xr, rK]; rcases zk with q | q <;> rw [q] <;> rfl]
  show qJ YX8_take κ _ (qLy u, M, y) 0 0 11 [some (qR 39), some (qR 12), some (qI k), some (qI (lA (m 13 k.toNat))), none, none] [qI (lK (m 13 k.toNat))]
  refine qJ.run hκ 3 (pc' := 16) (ls' := [some (qR 39), some (qR 12), some (qI k), some (qI (lA (m 13 k.toNat))), some (qI (lK (m 13 k.toNat))), some (qI 0)]) (st' := []) rfl ?_
  exact qJ.cast (L16 5 (M 40) (M 41) 0 (by omega) (by omega) (fun j => by rw [if_neg (by omega)]) (fun j => by rw [if_neg (by omega)]) (by omega)) (by rw [q_row_self, q_row_self]) rfl rfl

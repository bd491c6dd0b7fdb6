/-! printed by p92.py: the class works out all readings -/
noncomputable def RLm (m : qM) : List (Nat → Int) := if gB m (nT m) ∨ nS m = 0 then [] else LV (DD m) (nS m) 0 (fun _ => -1)
def kB : Nat → Nat → Bool := fun i _ => decide (56 ≤ i ∧ i ≤ 76)
/-- the class's search before the count -/
def sr0 (m M : qM) : Prop := (aS (DD m) (fun _ => -1) M ∧ uM M (uQ (fun _ => -1) 0) ∧ dM (DD m) M ∧ sgS (DD m) M) ∧ ((∀ j : Nat, j < nC m → M 68 j = cW m j) ∧ ∀ e : Nat, e < nS m → M 71 e = sN m e) ∧ M 56 5 = -1 ∧ (∀ e i : Nat, e < 5 → i < 12 → M 74 (e * 12 + i) = 0) ∧ ∀ s : Nat, s < 20 → M 75 s = -1 ∧ M 76 s = 0
/-- the class's search, fresh -/
def srS (m M : qM) : Prop := (M 56 0 = ((RLm m).length : Nat) ∧ M 56 1 = (bstA (RLm m) (nS m) (cW m) (nC m)).1 ∧ M 56 2 = (bstA (RLm m) (nS m) (cW m) (nC m)).2) ∧ (∀ s : Nat, s < 20 → M 75 s = sV (DD m) s (-1) (RLm m) ∧ M 76 s = sC (DD m) s (RLm m) ∧ (-2 ≤ M 75 s ∧ M 75 s ≤ 27)) ∧ (aS (DD m) (fun _ => -1) M ∧ uM M (uQ (fun _ => -1) 0) ∧ dM (DD m) M ∧ sgS (DD m) M) ∧ (∀ e i : Nat, e < 5 → i < 12 → M 74 (e * 12 + i) = hC (RLm m) e (i : Int)) ∧ ((∀ j : Nat, j < nC m → M 68 j = cW m j) ∧ ∀ e : Nat, e < nS m → M 71 e = sN m e) ∧ (M 56 5 = -1 ∨ (0 ≤ M 56 5 ∧ ∃ R, (RLm m)[(M 56 5).toNat]? = some R ∧ KT (DD m) 0 R M))
theorem RLm_b {m : qM} (hD : dOk (DD m)) : (RLm m).length ≤ 248832 := by
  unfold RLm
  split
  · exact Nat.zero_le _
  · exact LV_b hD (nS_le m)
theorem dM_57 {D : qD} {M M' : qM} (hr : ∀ i, 57 ≤ i → M' i = M i) (hf : ∀ j, 3 ≤ j → M' 56 j = M 56 j) (h : dM D M) : dM D M' := by
  unfold dM at h ⊢
  rw [hf 10 (by decide), hf 14 (by decide), hr 69 (by decide), hr 70 (by decide), hr 72 (by decide), hr 73 (by decide)]
  exact h
theorem srS_of {m M3 M4 M5 : qM} (h0 : sr0 m M3) (hk : keep (kN kTy) M4 = keep (kN kTy) M3) (ha : aS (DD m) (fun _ => -1) M4) (hu : uM M4 (uQ (fun _ => -1) 0)) (ht : tyS (DD m) 0 (fun _ => -1) (RLm m) M3 M4) (hr : ∀ i, 57 ≤ i → M5 i = M4 i) (hf : ∀ j, 3 ≤ j → M5 56 j = M4 56 j) (e0 : M5 56 0 = ((RLm m).length : Nat)) (e1 : M5 56 1 = (bstA (RLm m) (nS m) (cW m) (nC m)).1 ∧ M5 56 2 = (bstA (RLm m) (nS m) (cW m) (nC m)).2) : srS m M5 := by
  obtain ⟨⟨-, -, b3, b4⟩, ⟨b5, b6⟩, b7, b8, b9⟩ := h0
  have k68 : M5 68 = M3 68 := (hr 68 (by decide)).trans (congrFun hk 68)
  have k71 : M5 71 = M3 71 := (hr 71 (by decide)).trans (congrFun hk 71)
  refine ⟨⟨e0, e1⟩, fun s hs => ?_, ⟨aS_k (fun i a b => hr i (by omega)) ha, uM_c hu (hf 15 (by decide)) (fun t _ => Iff.rfl), dM_57 hr hf (dM_k (keep_of kDT hk) b3), sgS_k k71 b4⟩, fun e i he hi => ?_, ⟨by rw [k68]; exact b5, by rw [k71]; exact b6⟩, Or.inl ?_⟩
  · have a := (ht.2.1 s hs).1 rfl
    have b := b9 s hs
    rw [hr 75 (by decide), hr 76 (by decide)]
    refine ⟨by rw [a.1, b.1], by rw [a.2, b.2]; omega, ht.2.2 s hs⟩
  · have a := ht.1 e i he hi
    rw [hr 74 (by decide), a, b8 e i he hi, if_pos (Nat.zero_le e)]; omega
  · rw [hf 5 (by decide), show M4 56 5 = M3 56 5 from congrFun (congrFun hk 56) 5]; exact b7
theorem sr0_of {m M : qM} (hR : rC m) (hX : rXn m) (hD : dOk (DD m)) (h6 : ∀ s : Nat, s < 20 → M 66 s = dR (DD m) s ∧ M 67 s = dC (DD m) s) (h0 : ∀ s : Nat, s < 20 → M 60 s = -1 ∧ M 62 s = 0 ∧ M 64 s = 0) (h1 : ∀ v : Nat, v < 28 → M 61 v = -1) (hu : M 56 15 = 0) (h10 : M 56 10 = (nC m : Int)) (hp : poS m M (nW m)) (h14 : M 56 14 = (nS m : Int)) (hn : snS m M 5) (h5 : M 56 5 = -1) (h74 : ∀ j : Nat, j < 60 → M 74 j = 0) (h75 : ∀ s : Nat, s < 20 → M 75 s = -1 ∧ M 76 s = 0) : sr0 m M := by
  have nl := nW_le hR.1
  have pj : ∀ j : Nat, j < nC m → M 68 j = cW m j ∧ M 70 j = m 4 (cW m j).toNat ∧ ∀ k : Nat, k < 5 → M 69 (j * 5 + k) = m 3 ((cW m j).toNat * 5 + k) := by
    intro j hj
    have a := cW_at hj
    have b := hp (cW m j).toNat a.2.1 a.2.2.1
    rw [a.2.2.2, q_tn a.1] at b
    exact b
  have nj : ∀ e : Nat, e < nS m → M 71 e = sN m e ∧ M 73 e = (vL m (sN m e) : Int) ∧ ∀ k : Nat, k < vL m (sN m e) → M 72 (e * 5 + k) = sv m (sN m e) (k : Int) := by
    intro e he
    have a := sN_at he
    have b := hn (sN m e).toNat a.2.1 a.2.2.1
    rw [a.2.2.2, q_tn a.1] at b
    exact b
  refine ⟨⟨aS_0 h6 h0 h1, ⟨0, hu, by decide, fun t ht => ⟨fun z => ?_, fun ⟨e, e1, _⟩ => absurd e1 (Nat.not_lt_zero e)⟩⟩, ⟨⟨h10, h14⟩, fun j j0 j1 => ?_, fun i i0 i1 => ?_⟩, fun e he => ⟨?_, fun e' he' => ?_⟩⟩, ⟨fun j hj => (pj j hj).1, fun e he => (nj e he).1⟩, h5, fun e i he hi => h74 _ (by omega), h75⟩
  · have z2 : 0 / 2 ^ t % 2 = 1 := z
    rw [Nat.zero_div] at z2
    exact absurd z2 (by decide)
  · have jl : j.toNat < nC m := by have : j < (nC m : Int) := j1; omega
    have a := pj j.toNat jl
    have c := cW_at jl
    have d := (hD.2.1 j.toNat (by rw [q_tn j0]; exact j1)).1
    refine ⟨a.2.1, fun k k0 k1 => ?_⟩
    have b := a.2.2 k.toNat (by omega)
    rw [show (j * 5 + k).toNat = j.toNat * 5 + k.toNat by omega, b]
    show _ = m 3 (cW m j.toNat * 5 + ((k.toNat : Nat) : Int)).toNat
    rw [show (cW m j.toNat * 5 + ((k.toNat : Nat) : Int)).toNat = (cW m j.toNat).toNat * 5 + k.toNat by omega]
  · have il : i.toNat < nS m := by have : i < (nS m : Int) := i1; omega
    have a := nj i.toNat il
    refine ⟨a.2.1, fun k k0 k1 => ?_⟩
    have k2 : k < (vL m (sN m i.toNat) : Int) := k1
    have b := a.2.2 k.toNat (by omega)
    rw [show (i * 5 + k).toNat = i.toNat * 5 + k.toNat by omega, b]
    rfl
  · have el : e < nS m := by have : (e : Int) < (nS m : Int) := he; omega
    have a := sN_at el
    rw [(nj e el).1]; omega
  · have el : e < nS m := by have : (e : Int) < (nS m : Int) := he; omega
    have a := sN_at el
    have b := sN_at (m := m) (i := e') (by omega)
    rw [(nj e el).1, (nj e' (by omega)).1]
    intro z
    rw [z] at b
    omega

theorem kBn : ∀ i j, kN kB i j = true → kN kSn i j = true := by
  intro i j h
  refine kN_t.mpr fun z => kN_t.mp h ?_
  unfold kSn at z
  unfold kB
  rw [decide_eq_true_eq] at z ⊢
  omega
theorem kBo : ∀ i j, kN kB i j = true → kN kPo i j = true := by
  intro i j h
  refine kN_t.mpr fun z => kN_t.mp h ?_
  unfold kPo at z
  unfold kB
  rw [decide_eq_true_eq] at z ⊢
  omega
theorem kBa : ∀ i j, kN kB i j = true → kN kA0 i j = true := by
  intro i j h
  refine kN_t.mpr fun z => kN_t.mp h ?_
  unfold kA0 at z
  unfold kB
  rw [decide_eq_true_eq] at z ⊢
  omega
theorem kBb : ∀ i j, kN kB i j = true → kN kBe i j = true := by
  intro i j h
  refine kN_t.mpr fun z => kN_t.mp h ?_
  unfold kBe at z
  unfold kB
  rw [decide_eq_true_eq] at z ⊢
  omega
theorem kBt : ∀ i j, kN kB i j = true → kN kTy i j = true := by
  intro i j h
  refine kN_t.mpr fun z => kN_t.mp h ?_
  unfold kTy at z
  unfold kB
  rw [decide_eq_true_eq] at z ⊢
  omega
theorem kCa : ∀ i j, kCore i j = true → kN kA0 i j = true := by
  intro i j h
  refine kN_t.mpr fun z => ?_
  unfold kCore at h
  unfold kA0 at z
  rw [decide_eq_true_eq] at h z
  omega

set_option maxRecDepth 100000 in
theorem c_rBuild (u : qU) (m M y : qM) (hR : rC m) (hX : rXn m) (hs : lxS m) (hK : keep kCore M = keep kCore m) (hG : gdI m (-1) (-1) (nT m) (M 30) (M 31)) (hB : M 29 2 = if brk (M 30) (M 31) then 1 else 0) (hn : M 53 2 = (nN m : Int)) (hS : ∀ a : Int, 0 ≤ a → a < (nN m : Int) → SP m M a) : qCt YX6_build 9 0 0 [qR 56, qR 2, qI (gHz m), qR 29, qR 53] (qLy u, M, y) (fun r h => r = none ∧ ∃ M', h = (qLy u, M', y) ∧ keep (kN kB) M' = keep (kN kB) M ∧ srS m M') := by
  refine qCt.intro okX6_build (Nat.le_of_ble_eq_true rfl) (fun κ hκ => ?_)
  show qJ YX6_build κ _ (qLy u, M, y) 0 0 0 [some (qR 56), some (qR 2), some (qI (gHz m)), some (qR 29), some (qR 53)] []
  refine qJ.run hκ 2 (pc' := 2) (ls' := [some (qR 56), some (qR 2), some (qI (gHz m)), some (qR 29), some (qR 53)]) (st' := [qI (-1), qR 56]) rfl ?_
  refine qJ.putI hκ rfl rfl rfl rfl (Or.inl rfl) ?_
  show qJ YX6_build κ _ (qLy u, (q_up M 56 5 (-1)), y) 0 0 5 [some (qR 56), some (qR 2), some (qI (gHz m)), some (qR 29), some (qR 53)] []
  refine qJ.run hκ 2 (pc' := 7) (ls' := [some (qR 56), some (qR 2), some (qI (gHz m)), some (qR 29), some (qR 53)]) (st' := [qI 0, qR 56]) rfl ?_
  refine qJ.putI hκ rfl rfl rfl rfl (Or.inl rfl) ?_
  show qJ YX6_build κ _ (qLy u, (q_up (q_up M 56 5 (-1)) 56 15 0), y) 0 0 10 [some (qR 56), some (qR 2), some (qI (gHz m)), some (qR 29), some (qR 53)] []
  refine qJ.run hκ 3 (pc' := 15) (ls' := [some (qR 56), some (qR 2), some (qI (gHz m)), some (qR 29), some (qR 53)]) (st' := [qR 29, qR 59]) rfl ?_
  refine qJ.callV (As := [qR 29]) (rest := []) hκ rfl kX6_77 (c_aStart u (q_up (q_up M 56 5 (-1)) 56 15 0) y) rfl rfl (by decide) rfl rfl (Nat.le_of_ble_eq_true rfl) (Nat.le_of_ble_eq_true rfl) (Nat.le_of_ble_eq_true rfl) (Or.inl (fun r h' e => by obtain ⟨rfl, m1, rfl, N10, N11, N12, N13⟩ := e; rfl)) (fun r h' e => ?_)
  obtain ⟨rfl, m1, rfl, N10, N11, N12, N13⟩ := e
  show qJ YX6_build κ _ (qLy u, m1, y) 0 0 18 [some (qR 56), some (qR 2), some (qI (gHz m)), some (qR 29), some (qR 53)] []
  refine qJ.run hκ 3 (pc' := 23) (ls' := [some (qR 56), some (qR 2), some (qI (gHz m)), some (qR 29), some (qR 53)]) (st' := [qI 0, qR 74]) rfl ?_
  refine qJ.callS (As := [qR 74, qI 0]) (rest := []) hκ rfl kX6_81 (c_fill74 u m1 y 0) (by decide) rfl rfl (Nat.le_of_ble_eq_true rfl) (Nat.le_of_ble_eq_true rfl) (Nat.le_of_ble_eq_true rfl) (Or.inl (fun r h' e => by obtain ⟨rfl, rfl⟩ := e; rfl)) (fun r h' e => ?_)
  obtain ⟨rfl, rfl⟩ := e
  show qJ YX6_build κ _ (qLy u, (q_row m1 74 (fun k => if k < 60 then 0 else m1 74 k)), y) 0 0 26 [some (qR 56), some (qR 2), some (qI (gHz m)), some (qR 29), some (qR 53)] []
  refine qJ.run hκ 3 (pc' := 31) (ls' := [some (qR 56), some (qR 2), some (qI (gHz m)), some (qR 29), some (qR 53)]) (st' := [qI (-1), qR 75]) rfl ?_
  refine qJ.callS (As := [qR 75, qI (-1)]) (rest := []) hκ rfl kX6_81 (c_fill75 u (q_row m1 74 (fun k => if k < 60 then 0 else m1 74 k)) y (-1)) (by decide) rfl rfl (Nat.le_of_ble_eq_true rfl) (Nat.le_of_ble_eq_true rfl) (Nat.le_of_ble_eq_true rfl) (Or.inl (fun r h' e => by obtain ⟨rfl, rfl⟩ := e; rfl)) (fun r h' e => ?_)
  obtain ⟨rfl, rfl⟩ := e
  show qJ YX6_build κ _ (qLy u, (q_row (q_row m1 74 (fun k => if k < 60 then 0 else m1 74 k)) 75 (fun k => if k < 20 then (-1) else m1 75 k)), y) 0 0 34 [some (qR 56), some (qR 2), some (qI (gHz m)), some (qR 29), some (qR 53)] []
  refine qJ.run hκ 3 (pc' := 39) (ls' := [some (qR 56), some (qR 2), some (qI (gHz m)), some (qR 29), some (qR 53)]) (st' := [qI 0, qR 76]) rfl ?_
  refine qJ.callS (As := [qR 76, qI 0]) (rest := []) hκ rfl kX6_81 (c_fill76 u (q_row (q_row m1 74 (fun k => if k < 60 then 0 else m1 74 k)) 75 (fun k => if k < 20 then (-1) else m1 75 k)) y 0) (by decide) rfl rfl (Nat.le_of_ble_eq_true rfl) (Nat.le_of_ble_eq_true rfl) (Nat.le_of_ble_eq_true rfl) (Or.inl (fun r h' e => by obtain ⟨rfl, rfl⟩ := e; rfl)) (fun r h' e => ?_)
  obtain ⟨rfl, rfl⟩ := e
  show qJ YX6_build κ _ (qLy u, (q_row (q_row (q_row m1 74 (fun k => if k < 60 then 0 else m1 74 k)) 75 (fun k => if k < 20 then (-1) else m1 75 k)) 76 (fun k => if k < 20 then 0 else m1 76 k)), y) 0 0 42 [some (qR 56), some (qR 2), some (qI (gHz m)), some (qR 29), some (qR 53)] []
  refine qJ.run hκ 3 (pc' := 45) (ls' := [some (qR 56), some (qR 2), some (qI (gHz m)), some (qR 29), some (qR 53)]) (st' := [qI (gHz m), qR 2, qR 56]) rfl ?_
  refine qJ.callV (As := [qR 2, qI (gHz m)]) (rest := []) hκ rfl kX6_87 (c_gPool u m (q_row (q_row (q_row m1 74 (fun k => if k < 60 then 0 else m1 74 k)) 75 (fun k => if k < 20 then (-1) else m1 75 k)) 76 (fun k => if k < 20 then 0 else m1 76 k)) y hR (Eq.trans (keep_row (by intro j; rfl)) (Eq.trans (keep_row (by intro j; rfl)) (Eq.trans (keep_row (by intro j; rfl)) ((keep_of kCa N10).trans (Eq.trans (keep_up (by rfl)) (Eq.trans (keep_up (by rfl)) hK))))))) rfl rfl (by decide) rfl rfl (Nat.le_of_ble_eq_true rfl) (Nat.le_of_ble_eq_true rfl) (Nat.le_of_ble_eq_true rfl) (Or.inl (fun r h' e => by obtain ⟨rfl, m2, rfl, N20, N21, N22⟩ := e; rfl)) (fun r h' e => ?_)
  obtain ⟨rfl, m2, rfl, N20, N21, N22⟩ := e
  show qJ YX6_build κ _ (qLy u, m2, y) 0 0 48 [some (qR 56), some (qR 2), some (qI (gHz m)), some (qR 29), some (qR 53)] []
  refine qJ.run hκ 2 (pc' := 51) (ls' := [some (qR 56), some (qR 2), some (qI (gHz m)), some (qR 29), some (qR 53)]) (st' := [qR 53, qR 56]) rfl ?_
  refine qJ.callV (As := [qR 53]) (rest := []) hκ rfl kX6_91 (c_gNames u m m2 y hX ((congrFun (congrFun N20 53) 2).trans ((congrFun (congrFun N10 53) 2).trans hn)) (fun a a0 a1 => SP_M ((congrFun N20 55).trans (congrFun N10 55)) ((congrFun N20 54).trans (congrFun N10 54)) (hS a a0 a1))) rfl rfl (by decide) rfl rfl (Nat.le_of_ble_eq_true rfl) (Nat.le_of_ble_eq_true rfl) (Nat.le_of_ble_eq_true rfl) (Or.inl (fun r h' e => by obtain ⟨rfl, m3, rfl, N30, N31, N32⟩ := e; rfl)) (fun r h' e => ?_)
  obtain ⟨rfl, m3, rfl, N30, N31, N32⟩ := e
  show qJ YX6_build κ _ (qLy u, m3, y) 0 0 54 [some (qR 56), some (qR 2), some (qI (gHz m)), some (qR 29), some (qR 53)] []
  have hD : dOk (DD m) := DD_ok hR hX hs hG
  have Z0 : sr0 m m3 := by
    refine sr0_of hR hX hD (fun t ht => ?_) (fun t ht => ?_) (fun v hv => ?_) ?_ ?_ (fun x hx h8 => ?_) N31 N32 ?_ (fun j hj => ?_) (fun t ht => ?_)
    · rw [show m3 66 = m1 66 from (congrFun N30 66).trans (congrFun N20 66), show m3 67 = m1 67 from (congrFun N30 67).trans (congrFun N20 67), (N11 t ht).1, (N11 t ht).2]
      exact ⟨hG.2.2.1 t ht, hG.2.2.2 t ht⟩
    · rw [show m3 60 = m1 60 from (congrFun N30 60).trans (congrFun N20 60), show m3 62 = m1 62 from (congrFun N30 62).trans (congrFun N20 62), show m3 64 = m1 64 from (congrFun N30 64).trans (congrFun N20 64)]
      exact N12 t ht
    · rw [show m3 61 = m1 61 from (congrFun N30 61).trans (congrFun N20 61)]
      exact N13 v hv
    · exact (congrFun (congrFun N30 56) 15).trans ((congrFun (congrFun N20 56) 15).trans (congrFun (congrFun N10 56) 15))
    · exact (congrFun (congrFun N30 56) 10).trans N21
    · rw [show m3 68 = m2 68 from congrFun N30 68, show m3 70 = m2 70 from congrFun N30 70, show m3 69 = m2 69 from congrFun N30 69]
      exact N22 x hx h8
    · exact (congrFun (congrFun N30 56) 5).trans ((congrFun (congrFun N20 56) 5).trans (congrFun (congrFun N10 56) 5))
    · rw [show m3 74 = _ from (congrFun N30 74).trans (congrFun N20 74)]
      exact if_pos hj
    · rw [show m3 75 = _ from (congrFun N30 75).trans (congrFun N20 75), show m3 76 = _ from (congrFun N30 76).trans (congrFun N20 76)]
      exact ⟨if_pos ht, if_pos ht⟩
  have KM : keep (kN kB) m3 = keep (kN kB) M := (keep_of kBn N30).trans ((keep_of kBo N20).trans (Eq.trans (keep_row (by intro j; rfl)) (Eq.trans (keep_row (by intro j; rfl)) (Eq.trans (keep_row (by intro j; rfl)) ((keep_of kBa N10).trans (Eq.trans (keep_up (by rfl)) (keep_up (by rfl))))))))
  have b29 : m3 29 2 = if brk (M 30) (M 31) then 1 else 0 := (congrFun (congrFun KM 29) 2).trans hB
  have bi := gB_i hG
  have k14 : m3 56 14 = (nS m : Int) := N31
  have n5 := nS_le m
  have b01 : m3 29 2 = 0 ∨ m3 29 2 = 1 := by rw [b29]; split; (right; rfl); (left; rfl)
  refine qJ.run hκ 3 (pc' := 59) (ls' := [some (qR 56), some (qR 2), some (qI (gHz m)), some (qR 29), some (qR 53)]) (st' := [qI (m3 29 2), qR 56]) rfl ?_
  refine qJ.if_ne hκ (tgt := 69) rfl rfl (by omega) (fun c59 => ?_) (fun c59 => ?_)
  · show qJ YX6_build κ _ (qLy u, m3, y) 0 0 69 [some (qR 56), some (qR 2), some (qI (gHz m)), some (qR 29), some (qR 53)] [qR 56]
    have RE : RLm m = [] := by unfold RLm; rw [if_pos (Or.inl (bi.mp (by by_cases z : brk (M 30) (M 31); exact z; rw [if_neg z] at b29; exact absurd b29 c59)))]
    refine qJ.run hκ 2 (pc' := 78) (ls' := [some (qR 56), some (qR 2), some (qI (gHz m)), some (qR 29), some (qR 53)]) (st' := [qI 0, qR 56]) rfl ?_
    have K4 : keep (kN kTy) m3 = keep (kN kTy) m3 := rfl
    have A4 := Z0.1.1
    have U4 := Z0.1.2.1
    have T4 : tyS (DD m) 0 (fun _ => -1) (RLm m) m3 m3 := by rw [RE]; exact tyS_0 (fun t ht => by rw [(Z0.2.2.2.2 t ht).1]; decide)
    have RL0 : (0 : Int) = ((RLm m).length : Nat) := by rw [RE]; rfl
    have f14 : m3 56 14 = (nS m : Int) := (congrFun (congrFun K4 56) 14).trans k14
    have f10 : m3 56 10 = (nC m : Int) := (congrFun (congrFun K4 56) 10).trans Z0.1.2.2.1.1.1
    have f68 : ∀ j : Nat, j < nC m → m3 68 j = cW m j := fun j hj => (congrFun (congrFun K4 68) j).trans (Z0.2.1.1 j hj)
    have f74 : ∀ e i : Nat, e < 5 → i < 12 → m3 74 (e * 12 + i) = hC (RLm m) e (i : Int) := fun e i he hi => by
      rw [T4.1 e i he hi, Z0.2.2.2.1 e i he hi, if_pos (Nat.zero_le e)]; omega
    refine qJ.putI hκ rfl rfl rfl rfl (Or.inl rfl) ?_
    show qJ YX6_build κ _ (qLy u, (q_up m3 56 0 0), y) 0 0 81 [some (qR 56), some (qR 2), some (qI (gHz m)), some (qR 29), some (qR 53)] []
    refine qJ.run hκ 1 (pc' := 82) (ls' := [some (qR 56), some (qR 2), some (qI (gHz m)), some (qR 29), some (qR 53)]) (st' := [qR 56]) rfl ?_
    refine qJ.callV (As := []) (rest := []) hκ rfl kX6_105 (c_best u (q_up m3 56 0 0) y (RLm m) (nS m) (nC m) (cW m) ⟨⟨⟨RL0, RLm_b hD⟩, ⟨show m3 56 14 = _ from f14, n5⟩, ⟨show m3 56 10 = _ from f10, (nC_le hR).1⟩⟩, fun e i he hi => by show m3 74 _ = _; exact f74 e i he hi⟩ (fun j hj => ⟨show m3 68 j = _ from f68 j hj, by have := cW_at hj; have := nW_le hR.1; have := hR.1.1.1; omega, by have := cW_at hj; have := nW_le hR.1; have := hR.1.1.1; omega⟩)) rfl rfl (by decide) rfl rfl (Nat.le_of_ble_eq_true rfl) (Nat.le_of_ble_eq_true rfl) (Nat.le_of_ble_eq_true rfl) (Or.inl (fun r h' e => by obtain ⟨rfl, m5, rfl, N50, N51, N52⟩ := e; rfl)) (fun r h' e => ?_)
    obtain ⟨rfl, m5, rfl, N50, N51, N52⟩ := e
    show qJ YX6_build κ _ (qLy u, m5, y) 0 0 85 [some (qR 56), some (qR 2), some (qI (gHz m)), some (qR 29), some (qR 53)] []
    exact qJ.vret hκ rfl rfl (by decide) (by decide) (by
      refine ⟨rfl, m5, rfl, ?_, srS_of Z0 K4 A4 U4 T4 (fun i hi => funext fun j => ?_) (fun j hj => ?_) ?_ ⟨N51, N52⟩⟩
      · exact (keep_of kBb N50).trans (Eq.trans (keep_up (by rfl)) ((keep_of kBt K4).trans KM))
      · have e := keep_at N50 (i := i) (j := j) (by unfold kN kBe; rw [decide_eq_false (by omega)]; rfl)
        rw [e]
        exact q_up_ne (by omega)
      · have e := keep_at N50 (i := 56) (j := j) (by unfold kN kBe; rw [decide_eq_false (by omega)]; rfl)
        rw [e]
        exact q_up_ne2 (by omega)
      · exact (congrFun (congrFun N50 56) 0).trans RL0)
  · show qJ YX6_build κ _ (qLy u, m3, y) 0 0 62 [some (qR 56), some (qR 2), some (qI (gHz m)), some (qR 29), some (qR 53)] [qR 56]
    have nb : ¬ gB m (nT m) := fun z => by rw [if_pos (bi.mpr z)] at b29; omega
    refine qJ.run hκ 2 (pc' := 66) (ls' := [some (qR 56), some (qR 2), some (qI (gHz m)), some (qR 29), some (qR 53)]) (st' := [qI (m3 56 14), qR 56]) rfl ?_
    refine qJ.if_ne hκ (tgt := 73) rfl rfl (by omega) (fun c66 => ?_) (fun c66 => ?_)
    · show qJ YX6_build κ _ (qLy u, m3, y) 0 0 73 [some (qR 56), some (qR 2), some (qI (gHz m)), some (qR 29), some (qR 53)] [qR 56]
      refine qJ.run hκ 2 (pc' := 75) (ls' := [some (qR 56), some (qR 2), some (qI (gHz m)), some (qR 29), some (qR 53)]) (st' := [qI 0, qR 56, qR 56]) rfl ?_
      by_cases r1 : nS m = 1
      · have RE : RLm m = LV (DD m) 1 0 (fun _ => -1) := by unfold RLm; rw [if_neg (fun z => by rcases z with z | z; (exact nb z); (omega)), r1]
        refine qJ.callV (As := [qI 0]) (rest := [qR 56]) hκ rfl kX6_101 (c_tally1 u m3 y (DD m) (fun _ => -1) 0 0 hD Z0.1.2.2.1 rfl (show ((0 : Nat) : Int) + 1 = (nS m : Int) by omega) Z0.1.1 Z0.1.2.1 (fun e _ => rfl) (fun t ht => by rw [(Z0.2.2.2.2 t ht).1]; decide)) rfl rfl (by decide) rfl rfl (Nat.le_of_ble_eq_true rfl) (Nat.le_of_ble_eq_true rfl) (Nat.le_of_ble_eq_true rfl) (Or.inl (fun r h' e => by obtain ⟨m4, rfl, rfl, K4, A4, U4, T4⟩ := e; rfl)) (fun r h' e => ?_)
        obtain ⟨m4, rfl, rfl, K4, A4, U4, T4⟩ := e
        rw [← RE] at T4
        have RL0 : (((LV (DD m) 1 0 (fun _ => -1)).length : Nat) : Int) = ((RLm m).length : Nat) := by rw [RE]
        show qJ YX6_build κ _ (qLy u, m4, y) 0 0 78 [some (qR 56), some (qR 2), some (qI (gHz m)), some (qR 29), some (qR 53)] [qI ((LV (DD m) 1 0 (fun _ => -1)).length : Nat), qR 56]
        have f14 : m4 56 14 = (nS m : Int) := (congrFun (congrFun K4 56) 14).trans k14
        have f10 : m4 56 10 = (nC m : Int) := (congrFun (congrFun K4 56) 10).trans Z0.1.2.2.1.1.1
        have f68 : ∀ j : Nat, j < nC m → m4 68 j = cW m j := fun j hj => (congrFun (congrFun K4 68) j).trans (Z0.2.1.1 j hj)
        have f74 : ∀ e i : Nat, e < 5 → i < 12 → m4 74 (e * 12 + i) = hC (RLm m) e (i : Int) := fun e i he hi => by
          rw [T4.1 e i he hi, Z0.2.2.2.1 e i he hi, if_pos (Nat.zero_le e)]; omega
        refine qJ.putI hκ rfl rfl rfl rfl (Or.inl rfl) ?_
        show qJ YX6_build κ _ (qLy u, (q_up m4 56 0 ((LV (DD m) 1 0 (fun _ => -1)).length : Nat)), y) 0 0 81 [some (qR 56), some (qR 2), some (qI (gHz m)), some (qR 29), some (qR 53)] []
        refine qJ.run hκ 1 (pc' := 82) (ls' := [some (qR 56), some (qR 2), some (qI (gHz m)), some (qR 29), some (qR 53)]) (st' := [qR 56]) rfl ?_
        refine qJ.callV (As := []) (rest := []) hκ rfl kX6_105 (c_best u (q_up m4 56 0 ((LV (DD m) 1 0 (fun _ => -1)).length : Nat)) y (RLm m) (nS m) (nC m) (cW m) ⟨⟨⟨RL0, RLm_b hD⟩, ⟨show m4 56 14 = _ from f14, n5⟩, ⟨show m4 56 10 = _ from f10, (nC_le hR).1⟩⟩, fun e i he hi => by show m4 74 _ = _; exact f74 e i he hi⟩ (fun j hj => ⟨show m4 68 j = _ from f68 j hj, by have := cW_at hj; have := nW_le hR.1; have := hR.1.1.1; omega, by have := cW_at hj; have := nW_le hR.1; have := hR.1.1.1; omega⟩)) rfl rfl (by decide) rfl rfl (Nat.le_of_ble_eq_true rfl) (Nat.le_of_ble_eq_true rfl) (Nat.le_of_ble_eq_true rfl) (Or.inl (fun r h' e => by obtain ⟨rfl, m5, rfl, N50, N51, N52⟩ := e; rfl)) (fun r h' e => ?_)
        obtain ⟨rfl, m5, rfl, N50, N51, N52⟩ := e
        show qJ YX6_build κ _ (qLy u, m5, y) 0 0 85 [some (qR 56), some (qR 2), some (qI (gHz m)), some (qR 29), some (qR 53)] []
        exact qJ.vret hκ rfl rfl (by decide) (by decide) (by
      refine ⟨rfl, m5, rfl, ?_, srS_of Z0 K4 A4 U4 T4 (fun i hi => funext fun j => ?_) (fun j hj => ?_) ?_ ⟨N51, N52⟩⟩
      · exact (keep_of kBb N50).trans (Eq.trans (keep_up (by rfl)) ((keep_of kBt K4).trans KM))
      · have e := keep_at N50 (i := i) (j := j) (by unfold kN kBe; rw [decide_eq_false (by omega)]; rfl)
        rw [e]
        exact q_up_ne (by omega)
      · have e := keep_at N50 (i := 56) (j := j) (by unfold kN kBe; rw [decide_eq_false (by omega)]; rfl)
        rw [e]
        exact q_up_ne2 (by omega)
      · exact (congrFun (congrFun N50 56) 0).trans RL0)
      by_cases r2 : nS m = 2
      · have RE : RLm m = LV (DD m) 2 0 (fun _ => -1) := by unfold RLm; rw [if_neg (fun z => by rcases z with z | z; (exact nb z); (omega)), r2]
        refine qJ.callV (As := [qI 0]) (rest := [qR 56]) hκ rfl kX6_101 (c_tally2 u m3 y (DD m) (fun _ => -1) 0 0 hD Z0.1.2.2.1 rfl (show ((0 : Nat) : Int) + 2 = (nS m : Int) by omega) Z0.1.1 Z0.1.2.1 (fun e _ => rfl) (fun t ht => by rw [(Z0.2.2.2.2 t ht).1]; decide)) rfl rfl (by decide) rfl rfl (Nat.le_of_ble_eq_true rfl) (Nat.le_of_ble_eq_true rfl) (Nat.le_of_ble_eq_true rfl) (Or.inl (fun r h' e => by obtain ⟨m4, rfl, rfl, K4, A4, U4, T4⟩ := e; rfl)) (fun r h' e => ?_)
        obtain ⟨m4, rfl, rfl, K4, A4, U4, T4⟩ := e
        rw [← RE] at T4
        have RL0 : (((LV (DD m) 2 0 (fun _ => -1)).length : Nat) : Int) = ((RLm m).length : Nat) := by rw [RE]
        show qJ YX6_build κ _ (qLy u, m4, y) 0 0 78 [some (qR 56), some (qR 2), some (qI (gHz m)), some (qR 29), some (qR 53)] [qI ((LV (DD m) 2 0 (fun _ => -1)).length : Nat), qR 56]
        have f14 : m4 56 14 = (nS m : Int) := (congrFun (congrFun K4 56) 14).trans k14
        have f10 : m4 56 10 = (nC m : Int) := (congrFun (congrFun K4 56) 10).trans Z0.1.2.2.1.1.1
        have f68 : ∀ j : Nat, j < nC m → m4 68 j = cW m j := fun j hj => (congrFun (congrFun K4 68) j).trans (Z0.2.1.1 j hj)
        have f74 : ∀ e i : Nat, e < 5 → i < 12 → m4 74 (e * 12 + i) = hC (RLm m) e (i : Int) := fun e i he hi => by
          rw [T4.1 e i he hi, Z0.2.2.2.1 e i he hi, if_pos (Nat.zero_le e)]; omega
        refine qJ.putI hκ rfl rfl rfl rfl (Or.inl rfl) ?_
        show qJ YX6_build κ _ (qLy u, (q_up m4 56 0 ((LV (DD m) 2 0 (fun _ => -1)).length : Nat)), y) 0 0 81 [some (qR 56), some (qR 2), some (qI (gHz m)), some (qR 29), some (qR 53)] []
        refine qJ.run hκ 1 (pc' := 82) (ls' := [some (qR 56), some (qR 2), some (qI (gHz m)), some (qR 29), some (qR 53)]) (st' := [qR 56]) rfl ?_
        refine qJ.callV (As := []) (rest := []) hκ rfl kX6_105 (c_best u (q_up m4 56 0 ((LV (DD m) 2 0 (fun _ => -1)).length : Nat)) y (RLm m) (nS m) (nC m) (cW m) ⟨⟨⟨RL0, RLm_b hD⟩, ⟨show m4 56 14 = _ from f14, n5⟩, ⟨show m4 56 10 = _ from f10, (nC_le hR).1⟩⟩, fun e i he hi => by show m4 74 _ = _; exact f74 e i he hi⟩ (fun j hj => ⟨show m4 68 j = _ from f68 j hj, by have := cW_at hj; have := nW_le hR.1; have := hR.1.1.1; omega, by have := cW_at hj; have := nW_le hR.1; have := hR.1.1.1; omega⟩)) rfl rfl (by decide) rfl rfl (Nat.le_of_ble_eq_true rfl) (Nat.le_of_ble_eq_true rfl) (Nat.le_of_ble_eq_true rfl) (Or.inl (fun r h' e => by obtain ⟨rfl, m5, rfl, N50, N51, N52⟩ := e; rfl)) (fun r h' e => ?_)
        obtain ⟨rfl, m5, rfl, N50, N51, N52⟩ := e
        show qJ YX6_build κ _ (qLy u, m5, y) 0 0 85 [some (qR 56), some (qR 2), some (qI (gHz m)), some (qR 29), some (qR 53)] []
        exact qJ.vret hκ rfl rfl (by decide) (by decide) (by
      refine ⟨rfl, m5, rfl, ?_, srS_of Z0 K4 A4 U4 T4 (fun i hi => funext fun j => ?_) (fun j hj => ?_) ?_ ⟨N51, N52⟩⟩
      · exact (keep_of kBb N50).trans (Eq.trans (keep_up (by rfl)) ((keep_of kBt K4).trans KM))
      · have e := keep_at N50 (i := i) (j := j) (by unfold kN kBe; rw [decide_eq_false (by omega)]; rfl)
        rw [e]
        exact q_up_ne (by omega)
      · have e := keep_at N50 (i := 56) (j := j) (by unfold kN kBe; rw [decide_eq_false (by omega)]; rfl)
        rw [e]
        exact q_up_ne2 (by omega)
      · exact (congrFun (congrFun N50 56) 0).trans RL0)
      by_cases r3 : nS m = 3
      · have RE : RLm m = LV (DD m) 3 0 (fun _ => -1) := by unfold RLm; rw [if_neg (fun z => by rcases z with z | z; (exact nb z); (omega)), r3]
        refine qJ.callV (As := [qI 0]) (rest := [qR 56]) hκ rfl kX6_101 (c_tally3 u m3 y (DD m) (fun _ => -1) 0 0 hD Z0.1.2.2.1 rfl (show ((0 : Nat) : Int) + 3 = (nS m : Int) by omega) Z0.1.1 Z0.1.2.1 (fun e _ => rfl) (fun t ht => by rw [(Z0.2.2.2.2 t ht).1]; decide)) rfl rfl (by decide) rfl rfl (Nat.le_of_ble_eq_true rfl) (Nat.le_of_ble_eq_true rfl) (Nat.le_of_ble_eq_true rfl) (Or.inl (fun r h' e => by obtain ⟨m4, rfl, rfl, K4, A4, U4, T4⟩ := e; rfl)) (fun r h' e => ?_)
        obtain ⟨m4, rfl, rfl, K4, A4, U4, T4⟩ := e
        rw [← RE] at T4
        have RL0 : (((LV (DD m) 3 0 (fun _ => -1)).length : Nat) : Int) = ((RLm m).length : Nat) := by rw [RE]
        show qJ YX6_build κ _ (qLy u, m4, y) 0 0 78 [some (qR 56), some (qR 2), some (qI (gHz m)), some (qR 29), some (qR 53)] [qI ((LV (DD m) 3 0 (fun _ => -1)).length : Nat), qR 56]
        have f14 : m4 56 14 = (nS m : Int) := (congrFun (congrFun K4 56) 14).trans k14
        have f10 : m4 56 10 = (nC m : Int) := (congrFun (congrFun K4 56) 10).trans Z0.1.2.2.1.1.1
        have f68 : ∀ j : Nat, j < nC m → m4 68 j = cW m j := fun j hj => (congrFun (congrFun K4 68) j).trans (Z0.2.1.1 j hj)
        have f74 : ∀ e i : Nat, e < 5 → i < 12 → m4 74 (e * 12 + i) = hC (RLm m) e (i : Int) := fun e i he hi => by
          rw [T4.1 e i he hi, Z0.2.2.2.1 e i he hi, if_pos (Nat.zero_le e)]; omega
        refine qJ.putI hκ rfl rfl rfl rfl (Or.inl rfl) ?_
        show qJ YX6_build κ _ (qLy u, (q_up m4 56 0 ((LV (DD m) 3 0 (fun _ => -1)).length : Nat)), y) 0 0 81 [some (qR 56), some (qR 2), some (qI (gHz m)), some (qR 29), some (qR 53)] []
        refine qJ.run hκ 1 (pc' := 82) (ls' := [some (qR 56), some (qR 2), some (qI (gHz m)), some (qR 29), some (qR 53)]) (st' := [qR 56]) rfl ?_
        refine qJ.callV (As := []) (rest := []) hκ rfl kX6_105 (c_best u (q_up m4 56 0 ((LV (DD m) 3 0 (fun _ => -1)).length : Nat)) y (RLm m) (nS m) (nC m) (cW m) ⟨⟨⟨RL0, RLm_b hD⟩, ⟨show m4 56 14 = _ from f14, n5⟩, ⟨show m4 56 10 = _ from f10, (nC_le hR).1⟩⟩, fun e i he hi => by show m4 74 _ = _; exact f74 e i he hi⟩ (fun j hj => ⟨show m4 68 j = _ from f68 j hj, by have := cW_at hj; have := nW_le hR.1; have := hR.1.1.1; omega, by have := cW_at hj; have := nW_le hR.1; have := hR.1.1.1; omega⟩)) rfl rfl (by decide) rfl rfl (Nat.le_of_ble_eq_true rfl) (Nat.le_of_ble_eq_true rfl) (Nat.le_of_ble_eq_true rfl) (Or.inl (fun r h' e => by obtain ⟨rfl, m5, rfl, N50, N51, N52⟩ := e; rfl)) (fun r h' e => ?_)
        obtain ⟨rfl, m5, rfl, N50, N51, N52⟩ := e
        show qJ YX6_build κ _ (qLy u, m5, y) 0 0 85 [some (qR 56), some (qR 2), some (qI (gHz m)), some (qR 29), some (qR 53)] []
        exact qJ.vret hκ rfl rfl (by decide) (by decide) (by
      refine ⟨rfl, m5, rfl, ?_, srS_of Z0 K4 A4 U4 T4 (fun i hi => funext fun j => ?_) (fun j hj => ?_) ?_ ⟨N51, N52⟩⟩
      · exact (keep_of kBb N50).trans (Eq.trans (keep_up (by rfl)) ((keep_of kBt K4).trans KM))
      · have e := keep_at N50 (i := i) (j := j) (by unfold kN kBe; rw [decide_eq_false (by omega)]; rfl)
        rw [e]
        exact q_up_ne (by omega)
      · have e := keep_at N50 (i := 56) (j := j) (by unfold kN kBe; rw [decide_eq_false (by omega)]; rfl)
        rw [e]
        exact q_up_ne2 (by omega)
      · exact (congrFun (congrFun N50 56) 0).trans RL0)
      by_cases r4 : nS m = 4
      · have RE : RLm m = LV (DD m) 4 0 (fun _ => -1) := by unfold RLm; rw [if_neg (fun z => by rcases z with z | z; (exact nb z); (omega)), r4]
        refine qJ.callV (As := [qI 0]) (rest := [qR 56]) hκ rfl kX6_101 (c_tally4 u m3 y (DD m) (fun _ => -1) 0 0 hD Z0.1.2.2.1 rfl (show ((0 : Nat) : Int) + 4 = (nS m : Int) by omega) Z0.1.1 Z0.1.2.1 (fun e _ => rfl) (fun t ht => by rw [(Z0.2.2.2.2 t ht).1]; decide)) rfl rfl (by decide) rfl rfl (Nat.le_of_ble_eq_true rfl) (Nat.le_of_ble_eq_true rfl) (Nat.le_of_ble_eq_true rfl) (Or.inl (fun r h' e => by obtain ⟨m4, rfl, rfl, K4, A4, U4, T4⟩ := e; rfl)) (fun r h' e => ?_)
        obtain ⟨m4, rfl, rfl, K4, A4, U4, T4⟩ := e
        rw [← RE] at T4
        have RL0 : (((LV (DD m) 4 0 (fun _ => -1)).length : Nat) : Int) = ((RLm m).length : Nat) := by rw [RE]
        show qJ YX6_build κ _ (qLy u, m4, y) 0 0 78 [some (qR 56), some (qR 2), some (qI (gHz m)), some (qR 29), some (qR 53)] [qI ((LV (DD m) 4 0 (fun _ => -1)).length : Nat), qR 56]
        have f14 : m4 56 14 = (nS m : Int) := (congrFun (congrFun K4 56) 14).trans k14
        have f10 : m4 56 10 = (nC m : Int) := (congrFun (congrFun K4 56) 10).trans Z0.1.2.2.1.1.1
        have f68 : ∀ j : Nat, j < nC m → m4 68 j = cW m j := fun j hj => (congrFun (congrFun K4 68) j).trans (Z0.2.1.1 j hj)
        have f74 : ∀ e i : Nat, e < 5 → i < 12 → m4 74 (e * 12 + i) = hC (RLm m) e (i : Int) := fun e i he hi => by
          rw [T4.1 e i he hi, Z0.2.2.2.1 e i he hi, if_pos (Nat.zero_le e)]; omega
        refine qJ.putI hκ rfl rfl rfl rfl (Or.inl rfl) ?_
        show qJ YX6_build κ _ (qLy u, (q_up m4 56 0 ((LV (DD m) 4 0 (fun _ => -1)).length : Nat)), y) 0 0 81 [some (qR 56), some (qR 2), some (qI (gHz m)), some (qR 29), some (qR 53)] []
        refine qJ.run hκ 1 (pc' := 82) (ls' := [some (qR 56), some (qR 2), some (qI (gHz m)), some (qR 29), some (qR 53)]) (st' := [qR 56]) rfl ?_
        refine qJ.callV (As := []) (rest := []) hκ rfl kX6_105 (c_best u (q_up m4 56 0 ((LV (DD m) 4 0 (fun _ => -1)).length : Nat)) y (RLm m) (nS m) (nC m) (cW m) ⟨⟨⟨RL0, RLm_b hD⟩, ⟨show m4 56 14 = _ from f14, n5⟩, ⟨show m4 56 10 = _ from f10, (nC_le hR).1⟩⟩, fun e i he hi => by show m4 74 _ = _; exact f74 e i he hi⟩ (fun j hj => ⟨show m4 68 j = _ from f68 j hj, by have := cW_at hj; have := nW_le hR.1; have := hR.1.1.1; omega, by have := cW_at hj; have := nW_le hR.1; have := hR.1.1.1; omega⟩)) rfl rfl (by decide) rfl rfl (Nat.le_of_ble_eq_true rfl) (Nat.le_of_ble_eq_true rfl) (Nat.le_of_ble_eq_true rfl) (Or.inl (fun r h' e => by obtain ⟨rfl, m5, rfl, N50, N51, N52⟩ := e; rfl)) (fun r h' e => ?_)
        obtain ⟨rfl, m5, rfl, N50, N51, N52⟩ := e
        show qJ YX6_build κ _ (qLy u, m5, y) 0 0 85 [some (qR 56), some (qR 2), some (qI (gHz m)), some (qR 29), some (qR 53)] []
        exact qJ.vret hκ rfl rfl (by decide) (by decide) (by
      refine ⟨rfl, m5, rfl, ?_, srS_of Z0 K4 A4 U4 T4 (fun i hi => funext fun j => ?_) (fun j hj => ?_) ?_ ⟨N51, N52⟩⟩
      · exact (keep_of kBb N50).trans (Eq.trans (keep_up (by rfl)) ((keep_of kBt K4).trans KM))
      · have e := keep_at N50 (i := i) (j := j) (by unfold kN kBe; rw [decide_eq_false (by omega)]; rfl)
        rw [e]
        exact q_up_ne (by omega)
      · have e := keep_at N50 (i := 56) (j := j) (by unfold kN kBe; rw [decide_eq_false (by omega)]; rfl)
        rw [e]
        exact q_up_ne2 (by omega)
      · exact (congrFun (congrFun N50 56) 0).trans RL0)
      by_cases r5 : nS m = 5
      · have RE : RLm m = LV (DD m) 5 0 (fun _ => -1) := by unfold RLm; rw [if_neg (fun z => by rcases z with z | z; (exact nb z); (omega)), r5]
        refine qJ.callV (As := [qI 0]) (rest := [qR 56]) hκ rfl kX6_101 (c_tally5 u m3 y (DD m) (fun _ => -1) 0 0 hD Z0.1.2.2.1 rfl (show ((0 : Nat) : Int) + 5 = (nS m : Int) by omega) Z0.1.1 Z0.1.2.1 (fun e _ => rfl) (fun t ht => by rw [(Z0.2.2.2.2 t ht).1]; decide)) rfl rfl (by decide) rfl rfl (Nat.le_of_ble_eq_true rfl) (Nat.le_of_ble_eq_true rfl) (Nat.le_of_ble_eq_true rfl) (Or.inl (fun r h' e => by obtain ⟨m4, rfl, rfl, K4, A4, U4, T4⟩ := e; rfl)) (fun r h' e => ?_)
        obtain ⟨m4, rfl, rfl, K4, A4, U4, T4⟩ := e
        rw [← RE] at T4
        have RL0 : (((LV (DD m) 5 0 (fun _ => -1)).length : Nat) : Int) = ((RLm m).length : Nat) := by rw [RE]
        show qJ YX6_build κ _ (qLy u, m4, y) 0 0 78 [some (qR 56), some (qR 2), some (qI (gHz m)), some (qR 29), some (qR 53)] [qI ((LV (DD m) 5 0 (fun _ => -1)).length : Nat), qR 56]
        have f14 : m4 56 14 = (nS m : Int) := (congrFun (congrFun K4 56) 14).trans k14
        have f10 : m4 56 10 = (nC m : Int) := (congrFun (congrFun K4 56) 10).trans Z0.1.2.2.1.1.1
        have f68 : ∀ j : Nat, j < nC m → m4 68 j = cW m j := fun j hj => (congrFun (congrFun K4 68) j).trans (Z0.2.1.1 j hj)
        have f74 : ∀ e i : Nat, e < 5 → i < 12 → m4 74 (e * 12 + i) = hC (RLm m) e (i : Int) := fun e i he hi => by
          rw [T4.1 e i he hi, Z0.2.2.2.1 e i he hi, if_pos (Nat.zero_le e)]; omega
        refine qJ.putI hκ rfl rfl rfl rfl (Or.inl rfl) ?_
        show qJ YX6_build κ _ (qLy u, (q_up m4 56 0 ((LV (DD m) 5 0 (fun _ => -1)).length : Nat)), y) 0 0 81 [some (qR 56), some (qR 2), some (qI (gHz m)), some (qR 29), some (qR 53)] []
        refine qJ.run hκ 1 (pc' := 82) (ls' := [some (qR 56), some (qR 2), some (qI (gHz m)), some (qR 29), some (qR 53)]) (st' := [qR 56]) rfl ?_
        refine qJ.callV (As := []) (rest := []) hκ rfl kX6_105 (c_best u (q_up m4 56 0 ((LV (DD m) 5 0 (fun _ => -1)).length : Nat)) y (RLm m) (nS m) (nC m) (cW m) ⟨⟨⟨RL0, RLm_b hD⟩, ⟨show m4 56 14 = _ from f14, n5⟩, ⟨show m4 56 10 = _ from f10, (nC_le hR).1⟩⟩, fun e i he hi => by show m4 74 _ = _; exact f74 e i he hi⟩ (fun j hj => ⟨show m4 68 j = _ from f68 j hj, by have := cW_at hj; have := nW_le hR.1; have := hR.1.1.1; omega, by have := cW_at hj; have := nW_le hR.1; have := hR.1.1.1; omega⟩)) rfl rfl (by decide) rfl rfl (Nat.le_of_ble_eq_true rfl) (Nat.le_of_ble_eq_true rfl) (Nat.le_of_ble_eq_true rfl) (Or.inl (fun r h' e => by obtain ⟨rfl, m5, rfl, N50, N51, N52⟩ := e; rfl)) (fun r h' e => ?_)
        obtain ⟨rfl, m5, rfl, N50, N51, N52⟩ := e
        show qJ YX6_build κ _ (qLy u, m5, y) 0 0 85 [some (qR 56), some (qR 2), some (qI (gHz m)), some (qR 29), some (qR 53)] []
        exact qJ.vret hκ rfl rfl (by decide) (by decide) (by
      refine ⟨rfl, m5, rfl, ?_, srS_of Z0 K4 A4 U4 T4 (fun i hi => funext fun j => ?_) (fun j hj => ?_) ?_ ⟨N51, N52⟩⟩
      · exact (keep_of kBb N50).trans (Eq.trans (keep_up (by rfl)) ((keep_of kBt K4).trans KM))
      · have e := keep_at N50 (i := i) (j := j) (by unfold kN kBe; rw [decide_eq_false (by omega)]; rfl)
        rw [e]
        exact q_up_ne (by omega)
      · have e := keep_at N50 (i := 56) (j := j) (by unfold kN kBe; rw [decide_eq_false (by omega)]; rfl)
        rw [e]
        exact q_up_ne2 (by omega)
      · exact (congrFun (congrFun N50 56) 0).trans RL0)
      omega
    · show qJ YX6_build κ _ (qLy u, m3, y) 0 0 69 [some (qR 56), some (qR 2), some (qI (gHz m)), some (qR 29), some (qR 53)] [qR 56]
      have RE : RLm m = [] := by unfold RLm; rw [if_pos (Or.inr (by omega))]
      refine qJ.run hκ 2 (pc' := 78) (ls' := [some (qR 56), some (qR 2), some (qI (gHz m)), some (qR 29), some (qR 53)]) (st' := [qI 0, qR 56]) rfl ?_
      have K4 : keep (kN kTy) m3 = keep (kN kTy) m3 := rfl
      have A4 := Z0.1.1
      have U4 := Z0.1.2.1
      have T4 : tyS (DD m) 0 (fun _ => -1) (RLm m) m3 m3 := by rw [RE]; exact tyS_0 (fun t ht => by rw [(Z0.2.2.2.2 t ht).1]; decide)
      have RL0 : (0 : Int) = ((RLm m).length : Nat) := by rw [RE]; rfl
      have f14 : m3 56 14 = (nS m : Int) := (congrFun (congrFun K4 56) 14).trans k14
      have f10 : m3 56 10 = (nC m : Int) := (congrFun (congrFun K4 56) 10).trans Z0.1.2.2.1.1.1
      have f68 : ∀ j : Nat, j < nC m → m3 68 j = cW m j := fun j hj => (congrFun (congrFun K4 68) j).trans (Z0.2.1.1 j hj)
      have f74 : ∀ e i : Nat, e < 5 → i < 12 → m3 74 (e * 12 + i) = hC (RLm m) e (i : Int) := fun e i he hi => by
        rw [T4.1 e i he hi, Z0.2.2.2.1 e i he hi, if_pos (Nat.zero_le e)]; omega
      refine qJ.putI hκ rfl rfl rfl rfl (Or.inl rfl) ?_
      show qJ YX6_build κ _ (qLy u, (q_up m3 56 0 0), y) 0 0 81 [some (qR 56), some (qR 2), some (qI (gHz m)), some (qR 29), some (qR 53)] []
      refine qJ.run hκ 1 (pc' := 82) (ls' := [some (qR 56), some (qR 2), some (qI (gHz m)), some (qR 29), some (qR 53)]) (st' := [qR 56]) rfl ?_
      refine qJ.callV (As := []) (rest := []) hκ rfl kX6_105 (c_best u (q_up m3 56 0 0) y (RLm m) (nS m) (nC m) (cW m) ⟨⟨⟨RL0, RLm_b hD⟩, ⟨show m3 56 14 = _ from f14, n5⟩, ⟨show m3 56 10 = _ from f10, (nC_le hR).1⟩⟩, fun e i he hi => by show m3 74 _ = _; exact f74 e i he hi⟩ (fun j hj => ⟨show m3 68 j = _ from f68 j hj, by have := cW_at hj; have := nW_le hR.1; have := hR.1.1.1; omega, by have := cW_at hj; have := nW_le hR.1; have := hR.1.1.1; omega⟩)) rfl rfl (by decide) rfl rfl (Nat.le_of_ble_eq_true rfl) (Nat.le_of_ble_eq_true rfl) (Nat.le_of_ble_eq_true rfl) (Or.inl (fun r h' e => by obtain ⟨rfl, m5, rfl, N50, N51, N52⟩ := e; rfl)) (fun r h' e => ?_)
      obtain ⟨rfl, m5, rfl, N50, N51, N52⟩ := e
      show qJ YX6_build κ _ (qLy u, m5, y) 0 0 85 [some (qR 56), some (qR 2), some (qI (gHz m)), some (qR 29), some (qR 53)] []
      exact qJ.vret hκ rfl rfl (by decide) (by decide) (by
      refine ⟨rfl, m5, rfl, ?_, srS_of Z0 K4 A4 U4 T4 (fun i hi => funext fun j => ?_) (fun j hj => ?_) ?_ ⟨N51, N52⟩⟩
      · exact (keep_of kBb N50).trans (Eq.trans (keep_up (by rfl)) ((keep_of kBt K4).trans KM))
      · have e := keep_at N50 (i := i) (j := j) (by unfold kN kBe; rw [decide_eq_false (by omega)]; rfl)
        rw [e]
        exact q_up_ne (by omega)
      · have e := keep_at N50 (i := 56) (j := j) (by unfold kN kBe; rw [decide_eq_false (by omega)]; rfl)
        rw [e]
        exact q_up_ne2 (by omega)
      · exact (congrFun (congrFun N50 56) 0).trans RL0)

/-! printed by p93.py: the class brings a reading; its search, fresh -/
theorem rXn_core {m m' : qM} (h : keep kCore m' = keep kCore m) (hX : rXn m) : rXn m' := by
  have h2 : rXn (keep kCore m) := hX
  rw [← h] at h2
  exact h2
theorem rXl_core {m m' : qM} (h : keep kCore m' = keep kCore m) (hX : rXl m) : rXl m' := by
  have h2 : rXl (keep kCore m) := hX
  rw [← h] at h2
  exact h2
theorem nN_core {m m' : qM} (h : keep kCore m' = keep kCore m) : nN m' = nN m := by
  show nN (keep kCore m') = nN (keep kCore m)
  rw [h]
theorem lxS_core {m m' : qM} (h : keep kCore m' = keep kCore m) (hX : lxS m) : lxS m' := by
  have h2 : lxS (keep kCore m) := hX
  rw [← h] at h2
  exact h2
theorem cP_k {m m' : qM} (h13 : m' 0 13 = m 0 13) (h53 : m' 53 2 = m 53 2) (h54 : m' 54 = m 54) (h55 : m' 55 = m 55) (hK : keep kKern m' = keep kKern m) (hN : nN m' = nN m) (hc : cP m) : cP m' := by
  intro z
  obtain ⟨a, b⟩ := hc (h13.symm.trans z)
  rw [hN]
  refine ⟨h53.trans a, fun x x0 x1 => ?_⟩
  rw [hK]
  exact SP_M h55 h54 (b x x0 x1)
theorem kKc : ∀ i j, kKern i j = true → kCore i j = true := by
  intro i j h
  unfold kKern at h
  unfold kCore
  rw [decide_eq_true_eq] at h ⊢
  omega
def cSr (m : qM) : Prop := m 0 14 = 0 → srS m m ∧ dOk (DD m)
theorem LVr_mem {m : qM} {R : Nat → Int} (h : R ∈ RLm m) : (¬ gB m (nT m) ∧ 1 ≤ nS m) ∧ (∀ e : Nat, e < nS m → 0 ≤ R e ∧ (R e).toNat < nC m) := by
  unfold RLm at h
  by_cases c : gB m (nT m) ∨ nS m = 0
  · rw [if_pos c] at h; exact absurd h List.not_mem_nil
  · rw [if_neg c] at h
    refine ⟨⟨fun z => c (Or.inl z), by omega⟩, fun e he => ?_⟩
    have a := ((LV_mem (nS m) 0 _ h).2.1 e (Nat.zero_le e) (by omega)).1
    have b : R e < (nC m : Int) := a.2
    exact ⟨a.1, by omega⟩
theorem srS_held {m M : qM} {r : Nat} (h : srS m M) (hr : RLm m = LV (DD m) (r + 1) 0 (fun _ => -1)) (hD : dOk (DD m)) : ∀ i : Nat, (i : Int) < dK (DD m) → M 74 i = ((ftI (DD m) (LV (DD m) r (0 + 1)) 0 (q_fu (fun _ => -1) 0 (i : Int))).length : Nat) := by
  intro i hi
  have kb := hD.1.1
  have a := h.2.2.2.1 0 i (by decide) (by omega)
  rw [Nat.zero_mul, Nat.zero_add] at a
  rw [a, hr]
  show hC (lvF (DD m) (LV (DD m) r (0 + 1)) 0 (fun _ => -1) (dK (DD m)).toNat) 0 (i : Int) = _
  rw [hC_lvF, if_pos (by omega)]
theorem srS_seek {m M M1 : qM} {k : Int} {R : Nat → Int} (h : srS m M) (hk : keep (kN kSk) M1 = keep (kN kSk) M) (ha : aS (DD m) (fun _ => -1) M1) (hu : uM M1 (uQ (fun _ => -1) 0)) (hs : s75 M M1) (k0 : 0 ≤ k) (hR : (RLm m)[k.toNat]? = some R) (hT : KT (DD m) 0 R M1) : srS m (q_up M1 56 5 k) := by
  obtain ⟨⟨a0, a1, a2⟩, b, ⟨-, -, c3, c4⟩, d, ⟨e1, e2⟩, -⟩ := h
  have k68 : M1 68 = M 68 := congrFun hk 68
  have k71 : M1 71 = M 71 := congrFun hk 71
  have k74 : M1 74 = M 74 := congrFun hk 74
  refine ⟨⟨(congrFun (congrFun hk 56) 0).trans a0, (congrFun (congrFun hk 56) 1).trans a1, (congrFun (congrFun hk 56) 2).trans a2⟩, fun s hs2 => ?_, ⟨aS_k (fun i a b => q_up_rw (by omega)) ha, uM_c hu rfl (fun t _ => Iff.rfl), dM_k (Eq.trans (keep_up (by rfl)) (keep_of kDS hk)) c3, sgS_k ((q_up_rw (by decide)).trans k71) c4⟩, fun e i he hi => ?_, ⟨fun j hj => ?_, fun e he => ?_⟩, Or.inr ⟨k0, R, hR, KT_k ⟨q_up_rw (by decide), q_up_rw (by decide), q_up_rw (by decide), q_up_rw (by decide)⟩ hT⟩⟩
  · show M1 75 s = _ ∧ M1 76 s = _ ∧ (-2 ≤ M1 75 s ∧ M1 75 s ≤ 27)
    rw [(hs s hs2).1, (hs s hs2).2]
    exact b s hs2
  · show M1 74 _ = _
    rw [k74]; exact d e i he hi
  · show M1 68 j = _
    rw [k68]; exact e1 j hj
  · show M1 71 e = _
    rw [k71]; exact e2 e he
noncomputable def kth (m : qM) (k : Int) : Option (Nat → Int) := if 0 ≤ k then (RLm m)[k.toNat]? else none

set_option maxRecDepth 100000 in
theorem c_sureOf (u : qU) (m M y : qM) (s : Int) (hD : dOk (DD m)) (hS : srS m M) (h1 : 0 ≤ s ∧ s < 20) : qCt YX6_sureOf 1 0 0 [qR 56, qI s] (qLy u, M, y) (fun r h => r = some (qI (if 0 < (RLm m).length ∧ sC (DD m) s.toNat (RLm m) = ((RLm m).length : Nat) ∧ ¬ sV (DD m) s.toNat (-1) (RLm m) = -2 then sV (DD m) s.toNat (-1) (RLm m) else -1)) ∧ h = (qLy u, M, y)) := by
  refine qCt.intro okX6_sureOf (Nat.le_of_ble_eq_true rfl) (fun κ hκ => ?_)
  have hS2 := hS
  obtain ⟨⟨t0, t1, t2⟩, tb, ⟨tA, tU, tM, tG⟩, td, te, tk⟩ := hS2
  have lb := RLm_b hD
  have n5 := nS_le m
  obtain ⟨b1, b2, b3⟩ := tb s.toNat (by omega)
  have cb : 0 ≤ sC (DD m) s.toNat (RLm m) ∧ sC (DD m) s.toNat (RLm m) ≤ 248832 := by unfold sC; have := List.countP_le_length (p := fun R : Nat → Int => decide (¬ VM (DD m) R (dN (DD m)).toNat s.toNat = -1)) (l := RLm m); omega
  show qJ YX6_sureOf κ _ (qLy u, M, y) 0 0 0 [some (qR 56), some (qI s), none] []
  refine qJ.run hκ 2 (pc' := 4) (ls' := [some (qR 56), some (qI s), none]) (st' := [qI (M 56 0)]) rfl ?_
  refine qJ.if_le hκ (tgt := 35) rfl rfl (by omega) (fun c4 => ?_) (fun c4 => ?_)
  · show qJ YX6_sureOf κ _ (qLy u, M, y) 0 0 35 [some (qR 56), some (qI s), none] []
    refine qJ.run hκ 3 (pc' := 38) (ls' := [some (qR 56), some (qI s), some (qI 0)]) (st' := [qI 0]) rfl ?_
    refine qJ.if_eq hκ (tgt := 50) rfl rfl (by omega) (fun c38 => ?_) (fun c38 => ?_)
    · show qJ YX6_sureOf κ _ (qLy u, M, y) 0 0 50 [some (qR 56), some (qI s), some (qI 0)] []
      refine qJ.run hκ 1 (pc' := 51) (ls' := [some (qR 56), some (qI s), some (qI 0)]) (st' := [qI (-1)]) rfl ?_
      exact qJ.iret hκ rfl rfl (by decide) (by decide) (⟨by rw [if_neg (fun z => by omega)], rfl⟩)
    · exact absurd c38 (by decide)
  · show qJ YX6_sureOf κ _ (qLy u, M, y) 0 0 7 [some (qR 56), some (qI s), none] []
    refine qJ.run hκ 3 (pc' := 12) (ls' := [some (qR 56), some (qI s), none]) (st' := [qI s, qR 76]) rfl ?_
    refine qJ.ald hκ rfl rfl rfl (by decide) (by omega) ?_
    show qJ YX6_sureOf κ _ (qLy u, M, y) 0 0 13 [some (qR 56), some (qI s), none] [qI (M 76 s.toNat)]
    refine qJ.run hκ 2 (pc' := 17) (ls' := [some (qR 56), some (qI s), none]) (st' := [qI (M 56 0), qI (M 76 s.toNat)]) rfl ?_
    refine qJ.icmp_ne hκ (tgt := 35) rfl rfl (by omega) (by omega) (fun c17 => ?_) (fun c17 => ?_)
    · show qJ YX6_sureOf κ _ (qLy u, M, y) 0 0 35 [some (qR 56), some (qI s), none] []
      refine qJ.run hκ 3 (pc' := 38) (ls' := [some (qR 56), some (qI s), some (qI 0)]) (st' := [qI 0]) rfl ?_
      refine qJ.if_eq hκ (tgt := 50) rfl rfl (by omega) (fun c38 => ?_) (fun c38 => ?_)
      · show qJ YX6_sureOf κ _ (qLy u, M, y) 0 0 50 [some (qR 56), some (qI s), some (qI 0)] []
        refine qJ.run hκ 1 (pc' := 51) (ls' := [some (qR 56), some (qI s), some (qI 0)]) (st' := [qI (-1)]) rfl ?_
        exact qJ.iret hκ rfl rfl (by decide) (by decide) (⟨by rw [if_neg (fun z => by omega)], rfl⟩)
      · exact absurd c38 (by decide)
    · show qJ YX6_sureOf κ _ (qLy u, M, y) 0 0 20 [some (qR 56), some (qI s), none] []
      refine qJ.run hκ 3 (pc' := 25) (ls' := [some (qR 56), some (qI s), none]) (st' := [qI s, qR 75]) rfl ?_
      refine qJ.ald hκ rfl rfl rfl (by decide) (by omega) ?_
      show qJ YX6_sureOf κ _ (qLy u, M, y) 0 0 26 [some (qR 56), some (qI s), none] [qI (M 75 s.toNat)]
      refine qJ.run hκ 1 (pc' := 28) (ls' := [some (qR 56), some (qI s), none]) (st' := [qI (-2), qI (M 75 s.toNat)]) rfl ?_
      refine qJ.icmp_eq hκ (tgt := 35) rfl rfl (by omega) (by omega) (fun c28 => ?_) (fun c28 => ?_)
      · show qJ YX6_sureOf κ _ (qLy u, M, y) 0 0 35 [some (qR 56), some (qI s), none] []
        refine qJ.run hκ 3 (pc' := 38) (ls' := [some (qR 56), some (qI s), some (qI 0)]) (st' := [qI 0]) rfl ?_
        refine qJ.if_eq hκ (tgt := 50) rfl rfl (by omega) (fun c38 => ?_) (fun c38 => ?_)
        · show qJ YX6_sureOf κ _ (qLy u, M, y) 0 0 50 [some (qR 56), some (qI s), some (qI 0)] []
          refine qJ.run hκ 1 (pc' := 51) (ls' := [some (qR 56), some (qI s), some (qI 0)]) (st' := [qI (-1)]) rfl ?_
          exact qJ.iret hκ rfl rfl (by decide) (by decide) (⟨by rw [if_neg (fun z => by omega)], rfl⟩)
        · exact absurd c38 (by decide)
      · show qJ YX6_sureOf κ _ (qLy u, M, y) 0 0 31 [some (qR 56), some (qI s), none] []
        refine qJ.run hκ 4 (pc' := 38) (ls' := [some (qR 56), some (qI s), some (qI 1)]) (st' := [qI 1]) rfl ?_
        refine qJ.if_eq hκ (tgt := 50) rfl rfl (by omega) (fun c38 => ?_) (fun c38 => ?_)
        · exact absurd c38 (by decide)
        · show qJ YX6_sureOf κ _ (qLy u, M, y) 0 0 41 [some (qR 56), some (qI s), some (qI 1)] []
          refine qJ.run hκ 3 (pc' := 46) (ls' := [some (qR 56), some (qI s), some (qI 1)]) (st' := [qI s, qR 75]) rfl ?_
          refine qJ.ald hκ rfl rfl rfl (by decide) (by omega) ?_
          show qJ YX6_sureOf κ _ (qLy u, M, y) 0 0 47 [some (qR 56), some (qI s), some (qI 1)] [qI (M 75 s.toNat)]
          refine qJ.run hκ 1 (pc' := 51) (ls' := [some (qR 56), some (qI s), some (qI 1)]) (st' := [qI (M 75 s.toNat)]) rfl ?_
          exact qJ.iret hκ rfl rfl (by decide) (by decide) (⟨by rw [if_pos ⟨by omega, by omega, by omega⟩, b1], rfl⟩)

theorem kBk : ∀ i j, kN kB i j = true → kN kSk i j = true := by
  intro i j h
  refine kN_t.mpr fun z => kN_t.mp h ?_
  unfold kSk at z
  unfold kB
  rw [decide_eq_true_eq] at z ⊢
  omega

set_option maxRecDepth 100000 in
theorem c_bring (u : qU) (m M y : qM) (k : Int) (hD : dOk (DD m)) (hS : srS m M) (h1 : qr k) : qCt YX6_bring 9 0 0 [qR 56, qI k] (qLy u, M, y) (fun r h => ∃ (z : Int) (M' : qM), r = some (qI z) ∧ h = (qLy u, M', y) ∧ keep (kN kB) M' = keep (kN kB) M ∧ srS m M' ∧ ((z = 0 ∧ kth m k = none) ∨ (z = 1 ∧ ∃ R, kth m k = some R ∧ KT (DD m) 0 R M'))) := by
  refine qCt.intro okX6_bring (Nat.le_of_ble_eq_true rfl) (fun κ hκ => ?_)
  have hS2 := hS
  obtain ⟨⟨t0, t1, t2⟩, tb, ⟨tA, tU, tM, tG⟩, td, te, tk⟩ := hS2
  have lb := RLm_b hD
  have n5 := nS_le m
  show qJ YX6_bring κ _ (qLy u, M, y) 0 0 0 [some (qR 56), some (qI k)] []
  refine qJ.run hκ 1 (pc' := 1) (ls' := [some (qR 56), some (qI k)]) (st' := [qI k]) rfl ?_
  refine qJ.if_lt hκ (tgt := 12) rfl rfl (by omega) (fun c1 => ?_) (fun c1 => ?_)
  · show qJ YX6_bring κ _ (qLy u, M, y) 0 0 12 [some (qR 56), some (qI k)] []
    refine qJ.run hκ 1 (pc' := 13) (ls' := [some (qR 56), some (qI k)]) (st' := [qI 0]) rfl ?_
    exact qJ.bret hκ rfl rfl (by omega) (by decide) (by decide) (⟨0, M, rfl, rfl, rfl, hS, Or.inl ⟨rfl, by
      unfold kth
      by_cases z : 0 ≤ k
      · rw [if_pos z, List.getElem?_eq_none (by omega)]
      · rw [if_neg z]⟩⟩)
  · show qJ YX6_bring κ _ (qLy u, M, y) 0 0 4 [some (qR 56), some (qI k)] []
    refine qJ.run hκ 3 (pc' := 9) (ls' := [some (qR 56), some (qI k)]) (st' := [qI (M 56 0), qI k]) rfl ?_
    refine qJ.icmp_lt hκ (tgt := 14) rfl rfl (by omega) (by omega) (fun c9 => ?_) (fun c9 => ?_)
    · show qJ YX6_bring κ _ (qLy u, M, y) 0 0 14 [some (qR 56), some (qI k)] []
      have nb : ¬ gB m (nT m) := fun z => by
        have : RLm m = [] := by unfold RLm; rw [if_pos (Or.inl z)]
        rw [this] at t0
        have t0' : M 56 0 = 0 := t0
        omega
      have ns0 : ¬ nS m = 0 := fun z => by
        have : RLm m = [] := by unfold RLm; rw [if_pos (Or.inr z)]
        rw [this] at t0
        have t0' : M 56 0 = 0 := t0
        omega
      have kr : qr (M 56 5) := by
        rcases tk with q | ⟨q1, R, q2, -⟩
        · omega
        · have := (List.getElem?_eq_some_iff.mp q2).1
          omega
      refine qJ.run hκ 3 (pc' := 19) (ls' := [some (qR 56), some (qI k)]) (st' := [qI (M 56 5), qI k]) rfl ?_
      refine qJ.icmp_eq hκ (tgt := 44) rfl rfl (by omega) (by omega) (fun c19 => ?_) (fun c19 => ?_)
      · show qJ YX6_bring κ _ (qLy u, M, y) 0 0 44 [some (qR 56), some (qI k)] []
        refine qJ.run hκ 3 (pc' := 49) (ls' := [some (qR 56), some (qI k)]) (st' := [qI k, qI (M 56 5)]) rfl ?_
        refine qJ.icmp_ne hκ (tgt := 56) rfl rfl (by omega) (by omega) (fun c49 => ?_) (fun c49 => ?_)
        · show qJ YX6_bring κ _ (qLy u, M, y) 0 0 56 [some (qR 56), some (qI k)] []
          refine qJ.run hκ 1 (pc' := 57) (ls' := [some (qR 56), some (qI k)]) (st' := [qI 0]) rfl ?_
          exact qJ.bret hκ rfl rfl (by omega) (by decide) (by decide) (absurd c19.symm c49)
        · show qJ YX6_bring κ _ (qLy u, M, y) 0 0 52 [some (qR 56), some (qI k)] []
          refine qJ.run hκ 2 (pc' := 57) (ls' := [some (qR 56), some (qI k)]) (st' := [qI 1]) rfl ?_
          exact qJ.bret hκ rfl rfl (by omega) (by decide) (by decide) (by
      rcases tk with q | ⟨q1, R, q2, q3⟩
      · omega
      · exact ⟨1, M, rfl, rfl, rfl, hS, Or.inr ⟨rfl, R, by unfold kth; rw [if_pos (by omega), show k = M 56 5 by omega]; exact q2, q3⟩⟩)
      · show qJ YX6_bring κ _ (qLy u, M, y) 0 0 22 [some (qR 56), some (qI k)] []
        refine qJ.run hκ 2 (pc' := 24) (ls' := [some (qR 56), some (qI k)]) (st' := [qI k, qR 56]) rfl ?_
        refine qJ.putI hκ rfl rfl rfl rfl (Or.inl rfl) ?_
        show qJ YX6_bring κ _ (qLy u, (q_up M 56 19 k), y) 0 0 27 [some (qR 56), some (qI k)] []
        refine qJ.run hκ 3 (pc' := 30) (ls' := [some (qR 56), some (qI k)]) (st' := [qI 0, qR 56, qR 56]) rfl ?_
        by_cases r1 : nS m = 1
        · have RE : RLm m = LV (DD m) 1 0 (fun _ => -1) := by unfold RLm; rw [if_neg (fun z => by rcases z with z | z; (exact nb z); (omega)), r1]
          refine qJ.callV (As := [qI 0]) (rest := [qR 56]) hκ rfl kX6_138 (c_seek1 u (q_up M 56 19 k) y (DD m) (fun _ => -1) 0 k.toNat 0 hD (show dM (DD m) (q_up M 56 19 k) from tM) rfl (show ((0 : Nat) : Int) + 1 = (nS m : Int) by omega) (aS_k (fun i a b => q_up_rw (by omega)) tA) (uM_c tU rfl (fun t _ => Iff.rfl)) tG (fun t ht => (tb t ht).2.2) ⟨(q_tn (show 0 ≤ k by omega)).symm, by omega⟩ (fun _ => srS_held (r := 0) hS RE hD)) rfl rfl (by decide) rfl rfl (Nat.le_of_ble_eq_true rfl) (Nat.le_of_ble_eq_true rfl) (Nat.le_of_ble_eq_true rfl) (Or.inl (fun r h' e => by obtain ⟨z30, m1, rfl, rfl, K1, A1, U1, R1, H1⟩ := e; rfl)) (fun r h' e => ?_)
          obtain ⟨z30, m1, rfl, rfl, K1, A1, U1, R1, H1⟩ := e
          rw [← RE] at H1
          have ZR : z30 = 1 ∧ ∃ R, (RLm m)[k.toNat]? = some R ∧ KT (DD m) 0 R m1 := by rcases H1 with q | q; (exfalso; have := q.2.1; omega); (exact q)
          clear H1
          obtain ⟨z1, R, y1, y2⟩ := ZR
          show qJ YX6_bring κ _ (qLy u, m1, y) 0 0 33 [some (qR 56), some (qI k)] [qI z30, qR 56]
          refine qJ.if_eq hκ (tgt := 40) rfl rfl (by omega) (fun c33 => ?_) (fun c33 => ?_)
          · show qJ YX6_bring κ _ (qLy u, m1, y) 0 0 40 [some (qR 56), some (qI k)] [qR 56]
            exfalso; omega
          · show qJ YX6_bring κ _ (qLy u, m1, y) 0 0 36 [some (qR 56), some (qI k)] [qR 56]
            refine qJ.run hκ 2 (pc' := 41) (ls' := [some (qR 56), some (qI k)]) (st' := [qI k, qR 56]) rfl ?_
            refine qJ.putI hκ rfl rfl rfl rfl (Or.inl rfl) ?_
            show qJ YX6_bring κ _ (qLy u, (q_up m1 56 5 k), y) 0 0 44 [some (qR 56), some (qI k)] []
            refine qJ.run hκ 3 (pc' := 49) (ls' := [some (qR 56), some (qI k)]) (st' := [qI k, qI k]) rfl ?_
            refine qJ.icmp_ne hκ (tgt := 56) rfl rfl (by omega) (by omega) (fun c49 => ?_) (fun c49 => ?_)
            · show qJ YX6_bring κ _ (qLy u, (q_up m1 56 5 k), y) 0 0 56 [some (qR 56), some (qI k)] []
              refine qJ.run hκ 1 (pc' := 57) (ls' := [some (qR 56), some (qI k)]) (st' := [qI 0]) rfl ?_
              exact qJ.bret hκ rfl rfl (by omega) (by decide) (by decide) (absurd rfl c49)
            · show qJ YX6_bring κ _ (qLy u, (q_up m1 56 5 k), y) 0 0 52 [some (qR 56), some (qI k)] []
              refine qJ.run hκ 2 (pc' := 57) (ls' := [some (qR 56), some (qI k)]) (st' := [qI 1]) rfl ?_
              exact qJ.bret hκ rfl rfl (by omega) (by decide) (by decide) (by
      have SS := srS_seek hS (K1.trans (keep_up (by rfl))) A1 U1 R1 (show 0 ≤ k by omega) y1 y2
      exact ⟨1, _, rfl, rfl, Eq.trans (keep_up (by rfl)) ((keep_of kBk K1).trans (keep_up (by rfl))), SS, Or.inr ⟨rfl, R, by unfold kth; rw [if_pos (by omega)]; exact y1, KT_k ⟨q_up_rw (by decide), q_up_rw (by decide), q_up_rw (by decide), q_up_rw (by decide)⟩ y2⟩⟩)
        by_cases r2 : nS m = 2
        · have RE : RLm m = LV (DD m) 2 0 (fun _ => -1) := by unfold RLm; rw [if_neg (fun z => by rcases z with z | z; (exact nb z); (omega)), r2]
          refine qJ.callV (As := [qI 0]) (rest := [qR 56]) hκ rfl kX6_138 (c_seek2 u (q_up M 56 19 k) y (DD m) (fun _ => -1) 0 k.toNat 0 hD (show dM (DD m) (q_up M 56 19 k) from tM) rfl (show ((0 : Nat) : Int) + 2 = (nS m : Int) by omega) (aS_k (fun i a b => q_up_rw (by omega)) tA) (uM_c tU rfl (fun t _ => Iff.rfl)) tG (fun t ht => (tb t ht).2.2) ⟨(q_tn (show 0 ≤ k by omega)).symm, by omega⟩ (fun _ => srS_held (r := 1) hS RE hD)) rfl rfl (by decide) rfl rfl (Nat.le_of_ble_eq_true rfl) (Nat.le_of_ble_eq_true rfl) (Nat.le_of_ble_eq_true rfl) (Or.inl (fun r h' e => by obtain ⟨z30, m1, rfl, rfl, K1, A1, U1, R1, H1⟩ := e; rfl)) (fun r h' e => ?_)
          obtain ⟨z30, m1, rfl, rfl, K1, A1, U1, R1, H1⟩ := e
          rw [← RE] at H1
          have ZR : z30 = 1 ∧ ∃ R, (RLm m)[k.toNat]? = some R ∧ KT (DD m) 0 R m1 := by rcases H1 with q | q; (exfalso; have := q.2.1; omega); (exact q)
          clear H1
          obtain ⟨z1, R, y1, y2⟩ := ZR
          show qJ YX6_bring κ _ (qLy u, m1, y) 0 0 33 [some (qR 56), some (qI k)] [qI z30, qR 56]
          refine qJ.if_eq hκ (tgt := 40) rfl rfl (by omega) (fun c33 => ?_) (fun c33 => ?_)
          · show qJ YX6_bring κ _ (qLy u, m1, y) 0 0 40 [some (qR 56), some (qI k)] [qR 56]
            exfalso; omega
          · show qJ YX6_bring κ _ (qLy u, m1, y) 0 0 36 [some (qR 56), some (qI k)] [qR 56]
            refine qJ.run hκ 2 (pc' := 41) (ls' := [some (qR 56), some (qI k)]) (st' := [qI k, qR 56]) rfl ?_
            refine qJ.putI hκ rfl rfl rfl rfl (Or.inl rfl) ?_
            show qJ YX6_bring κ _ (qLy u, (q_up m1 56 5 k), y) 0 0 44 [some (qR 56), some (qI k)] []
            refine qJ.run hκ 3 (pc' := 49) (ls' := [some (qR 56), some (qI k)]) (st' := [qI k, qI k]) rfl ?_
            refine qJ.icmp_ne hκ (tgt := 56) rfl rfl (by omega) (by omega) (fun c49 => ?_) (fun c49 => ?_)
            · show qJ YX6_bring κ _ (qLy u, (q_up m1 56 5 k), y) 0 0 56 [some (qR 56), some (qI k)] []
              refine qJ.run hκ 1 (pc' := 57) (ls' := [some (qR 56), some (qI k)]) (st' := [qI 0]) rfl ?_
              exact qJ.bret hκ rfl rfl (by omega) (by decide) (by decide) (absurd rfl c49)
            · show qJ YX6_bring κ _ (qLy u, (q_up m1 56 5 k), y) 0 0 52 [some (qR 56), some (qI k)] []
              refine qJ.run hκ 2 (pc' := 57) (ls' := [some (qR 56), some (qI k)]) (st' := [qI 1]) rfl ?_
              exact qJ.bret hκ rfl rfl (by omega) (by decide) (by decide) (by
      have SS := srS_seek hS (K1.trans (keep_up (by rfl))) A1 U1 R1 (show 0 ≤ k by omega) y1 y2
      exact ⟨1, _, rfl, rfl, Eq.trans (keep_up (by rfl)) ((keep_of kBk K1).trans (keep_up (by rfl))), SS, Or.inr ⟨rfl, R, by unfold kth; rw [if_pos (by omega)]; exact y1, KT_k ⟨q_up_rw (by decide), q_up_rw (by decide), q_up_rw (by decide), q_up_rw (by decide)⟩ y2⟩⟩)
        by_cases r3 : nS m = 3
        · have RE : RLm m = LV (DD m) 3 0 (fun _ => -1) := by unfold RLm; rw [if_neg (fun z => by rcases z with z | z; (exact nb z); (omega)), r3]
          refine qJ.callV (As := [qI 0]) (rest := [qR 56]) hκ rfl kX6_138 (c_seek3 u (q_up M 56 19 k) y (DD m) (fun _ => -1) 0 k.toNat 0 hD (show dM (DD m) (q_up M 56 19 k) from tM) rfl (show ((0 : Nat) : Int) + 3 = (nS m : Int) by omega) (aS_k (fun i a b => q_up_rw (by omega)) tA) (uM_c tU rfl (fun t _ => Iff.rfl)) tG (fun t ht => (tb t ht).2.2) ⟨(q_tn (show 0 ≤ k by omega)).symm, by omega⟩ (fun _ => srS_held (r := 2) hS RE hD)) rfl rfl (by decide) rfl rfl (Nat.le_of_ble_eq_true rfl) (Nat.le_of_ble_eq_true rfl) (Nat.le_of_ble_eq_true rfl) (Or.inl (fun r h' e => by obtain ⟨z30, m1, rfl, rfl, K1, A1, U1, R1, H1⟩ := e; rfl)) (fun r h' e => ?_)
          obtain ⟨z30, m1, rfl, rfl, K1, A1, U1, R1, H1⟩ := e
          rw [← RE] at H1
          have ZR : z30 = 1 ∧ ∃ R, (RLm m)[k.toNat]? = some R ∧ KT (DD m) 0 R m1 := by rcases H1 with q | q; (exfalso; have := q.2.1; omega); (exact q)
          clear H1
          obtain ⟨z1, R, y1, y2⟩ := ZR
          show qJ YX6_bring κ _ (qLy u, m1, y) 0 0 33 [some (qR 56), some (qI k)] [qI z30, qR 56]
          refine qJ.if_eq hκ (tgt := 40) rfl rfl (by omega) (fun c33 => ?_) (fun c33 => ?_)
          · show qJ YX6_bring κ _ (qLy u, m1, y) 0 0 40 [some (qR 56), some (qI k)] [qR 56]
            exfalso; omega
          · show qJ YX6_bring κ _ (qLy u, m1, y) 0 0 36 [some (qR 56), some (qI k)] [qR 56]
            refine qJ.run hκ 2 (pc' := 41) (ls' := [some (qR 56), some (qI k)]) (st' := [qI k, qR 56]) rfl ?_
            refine qJ.putI hκ rfl rfl rfl rfl (Or.inl rfl) ?_
            show qJ YX6_bring κ _ (qLy u, (q_up m1 56 5 k), y) 0 0 44 [some (qR 56), some (qI k)] []
            refine qJ.run hκ 3 (pc' := 49) (ls' := [some (qR 56), some (qI k)]) (st' := [qI k, qI k]) rfl ?_
            refine qJ.icmp_ne hκ (tgt := 56) rfl rfl (by omega) (by omega) (fun c49 => ?_) (fun c49 => ?_)
            · show qJ YX6_bring κ _ (qLy u, (q_up m1 56 5 k), y) 0 0 56 [some (qR 56), some (qI k)] []
              refine qJ.run hκ 1 (pc' := 57) (ls' := [some (qR 56), some (qI k)]) (st' := [qI 0]) rfl ?_
              exact qJ.bret hκ rfl rfl (by omega) (by decide) (by decide) (absurd rfl c49)
            · show qJ YX6_bring κ _ (qLy u, (q_up m1 56 5 k), y) 0 0 52 [some (qR 56), some (qI k)] []
              refine qJ.run hκ 2 (pc' := 57) (ls' := [some (qR 56), some (qI k)]) (st' := [qI 1]) rfl ?_
              exact qJ.bret hκ rfl rfl (by omega) (by decide) (by decide) (by
      have SS := srS_seek hS (K1.trans (keep_up (by rfl))) A1 U1 R1 (show 0 ≤ k by omega) y1 y2
      exact ⟨1, _, rfl, rfl, Eq.trans (keep_up (by rfl)) ((keep_of kBk K1).trans (keep_up (by rfl))), SS, Or.inr ⟨rfl, R, by unfold kth; rw [if_pos (by omega)]; exact y1, KT_k ⟨q_up_rw (by decide), q_up_rw (by decide), q_up_rw (by decide), q_up_rw (by decide)⟩ y2⟩⟩)
        by_cases r4 : nS m = 4
        · have RE : RLm m = LV (DD m) 4 0 (fun _ => -1) := by unfold RLm; rw [if_neg (fun z => by rcases z with z | z; (exact nb z); (omega)), r4]
          refine qJ.callV (As := [qI 0]) (rest := [qR 56]) hκ rfl kX6_138 (c_seek4 u (q_up M 56 19 k) y (DD m) (fun _ => -1) 0 k.toNat 0 hD (show dM (DD m) (q_up M 56 19 k) from tM) rfl (show ((0 : Nat) : Int) + 4 = (nS m : Int) by omega) (aS_k (fun i a b => q_up_rw (by omega)) tA) (uM_c tU rfl (fun t _ => Iff.rfl)) tG (fun t ht => (tb t ht).2.2) ⟨(q_tn (show 0 ≤ k by omega)).symm, by omega⟩ (fun _ => srS_held (r := 3) hS RE hD)) rfl rfl (by decide) rfl rfl (Nat.le_of_ble_eq_true rfl) (Nat.le_of_ble_eq_true rfl) (Nat.le_of_ble_eq_true rfl) (Or.inl (fun r h' e => by obtain ⟨z30, m1, rfl, rfl, K1, A1, U1, R1, H1⟩ := e; rfl)) (fun r h' e => ?_)
          obtain ⟨z30, m1, rfl, rfl, K1, A1, U1, R1, H1⟩ := e
          rw [← RE] at H1
          have ZR : z30 = 1 ∧ ∃ R, (RLm m)[k.toNat]? = some R ∧ KT (DD m) 0 R m1 := by rcases H1 with q | q; (exfalso; have := q.2.1; omega); (exact q)
          clear H1
          obtain ⟨z1, R, y1, y2⟩ := ZR
          show qJ YX6_bring κ _ (qLy u, m1, y) 0 0 33 [some (qR 56), some (qI k)] [qI z30, qR 56]
          refine qJ.if_eq hκ (tgt := 40) rfl rfl (by omega) (fun c33 => ?_) (fun c33 => ?_)
          · show qJ YX6_bring κ _ (qLy u, m1, y) 0 0 40 [some (qR 56), some (qI k)] [qR 56]
            exfalso; omega
          · show qJ YX6_bring κ _ (qLy u, m1, y) 0 0 36 [some (qR 56), some (qI k)] [qR 56]
            refine qJ.run hκ 2 (pc' := 41) (ls' := [some (qR 56), some (qI k)]) (st' := [qI k, qR 56]) rfl ?_
            refine qJ.putI hκ rfl rfl rfl rfl (Or.inl rfl) ?_
            show qJ YX6_bring κ _ (qLy u, (q_up m1 56 5 k), y) 0 0 44 [some (qR 56), some (qI k)] []
            refine qJ.run hκ 3 (pc' := 49) (ls' := [some (qR 56), some (qI k)]) (st' := [qI k, qI k]) rfl ?_
            refine qJ.icmp_ne hκ (tgt := 56) rfl rfl (by omega) (by omega) (fun c49 => ?_) (fun c49 => ?_)
            · show qJ YX6_bring κ _ (qLy u, (q_up m1 56 5 k), y) 0 0 56 [some (qR 56), some (qI k)] []
              refine qJ.run hκ 1 (pc' := 57) (ls' := [some (qR 56), some (qI k)]) (st' := [qI 0]) rfl ?_
              exact qJ.bret hκ rfl rfl (by omega) (by decide) (by decide) (absurd rfl c49)
            · show qJ YX6_bring κ _ (qLy u, (q_up m1 56 5 k), y) 0 0 52 [some (qR 56), some (qI k)] []
              refine qJ.run hκ 2 (pc' := 57) (ls' := [some (qR 56), some (qI k)]) (st' := [qI 1]) rfl ?_
              exact qJ.bret hκ rfl rfl (by omega) (by decide) (by decide) (by
      have SS := srS_seek hS (K1.trans (keep_up (by rfl))) A1 U1 R1 (show 0 ≤ k by omega) y1 y2
      exact ⟨1, _, rfl, rfl, Eq.trans (keep_up (by rfl)) ((keep_of kBk K1).trans (keep_up (by rfl))), SS, Or.inr ⟨rfl, R, by unfold kth; rw [if_pos (by omega)]; exact y1, KT_k ⟨q_up_rw (by decide), q_up_rw (by decide), q_up_rw (by decide), q_up_rw (by decide)⟩ y2⟩⟩)
        by_cases r5 : nS m = 5
        · have RE : RLm m = LV (DD m) 5 0 (fun _ => -1) := by unfold RLm; rw [if_neg (fun z => by rcases z with z | z; (exact nb z); (omega)), r5]
          refine qJ.callV (As := [qI 0]) (rest := [qR 56]) hκ rfl kX6_138 (c_seek5 u (q_up M 56 19 k) y (DD m) (fun _ => -1) 0 k.toNat 0 hD (show dM (DD m) (q_up M 56 19 k) from tM) rfl (show ((0 : Nat) : Int) + 5 = (nS m : Int) by omega) (aS_k (fun i a b => q_up_rw (by omega)) tA) (uM_c tU rfl (fun t _ => Iff.rfl)) tG (fun t ht => (tb t ht).2.2) ⟨(q_tn (show 0 ≤ k by omega)).symm, by omega⟩ (fun _ => srS_held (r := 4) hS RE hD)) rfl rfl (by decide) rfl rfl (Nat.le_of_ble_eq_true rfl) (Nat.le_of_ble_eq_true rfl) (Nat.le_of_ble_eq_true rfl) (Or.inl (fun r h' e => by obtain ⟨z30, m1, rfl, rfl, K1, A1, U1, R1, H1⟩ := e; rfl)) (fun r h' e => ?_)
          obtain ⟨z30, m1, rfl, rfl, K1, A1, U1, R1, H1⟩ := e
          rw [← RE] at H1
          have ZR : z30 = 1 ∧ ∃ R, (RLm m)[k.toNat]? = some R ∧ KT (DD m) 0 R m1 := by rcases H1 with q | q; (exfalso; have := q.2.1; omega); (exact q)
          clear H1
          obtain ⟨z1, R, y1, y2⟩ := ZR
          show qJ YX6_bring κ _ (qLy u, m1, y) 0 0 33 [some (qR 56), some (qI k)] [qI z30, qR 56]
          refine qJ.if_eq hκ (tgt := 40) rfl rfl (by omega) (fun c33 => ?_) (fun c33 => ?_)
          · show qJ YX6_bring κ _ (qLy u, m1, y) 0 0 40 [some (qR 56), some (qI k)] [qR 56]
            exfalso; omega
          · show qJ YX6_bring κ _ (qLy u, m1, y) 0 0 36 [some (qR 56), some (qI k)] [qR 56]
            refine qJ.run hκ 2 (pc' := 41) (ls' := [some (qR 56), some (qI k)]) (st' := [qI k, qR 56]) rfl ?_
            refine qJ.putI hκ rfl rfl rfl rfl (Or.inl rfl) ?_
            show qJ YX6_bring κ _ (qLy u, (q_up m1 56 5 k), y) 0 0 44 [some (qR 56), some (qI k)] []
            refine qJ.run hκ 3 (pc' := 49) (ls' := [some (qR 56), some (qI k)]) (st' := [qI k, qI k]) rfl ?_
            refine qJ.icmp_ne hκ (tgt := 56) rfl rfl (by omega) (by omega) (fun c49 => ?_) (fun c49 => ?_)
            · show qJ YX6_bring κ _ (qLy u, (q_up m1 56 5 k), y) 0 0 56 [some (qR 56), some (qI k)] []
              refine qJ.run hκ 1 (pc' := 57) (ls' := [some (qR 56), some (qI k)]) (st' := [qI 0]) rfl ?_
              exact qJ.bret hκ rfl rfl (by omega) (by decide) (by decide) (absurd rfl c49)
            · show qJ YX6_bring κ _ (qLy u, (q_up m1 56 5 k), y) 0 0 52 [some (qR 56), some (qI k)] []
              refine qJ.run hκ 2 (pc' := 57) (ls' := [some (qR 56), some (qI k)]) (st' := [qI 1]) rfl ?_
              exact qJ.bret hκ rfl rfl (by omega) (by decide) (by decide) (by
      have SS := srS_seek hS (K1.trans (keep_up (by rfl))) A1 U1 R1 (show 0 ≤ k by omega) y1 y2
      exact ⟨1, _, rfl, rfl, Eq.trans (keep_up (by rfl)) ((keep_of kBk K1).trans (keep_up (by rfl))), SS, Or.inr ⟨rfl, R, by unfold kth; rw [if_pos (by omega)]; exact y1, KT_k ⟨q_up_rw (by decide), q_up_rw (by decide), q_up_rw (by decide), q_up_rw (by decide)⟩ y2⟩⟩)
        omega
    · show qJ YX6_bring κ _ (qLy u, M, y) 0 0 12 [some (qR 56), some (qI k)] []
      refine qJ.run hκ 1 (pc' := 13) (ls' := [some (qR 56), some (qI k)]) (st' := [qI 0]) rfl ?_
      exact qJ.bret hκ rfl rfl (by omega) (by decide) (by decide) (⟨0, M, rfl, rfl, rfl, hS, Or.inl ⟨rfl, by
      unfold kth
      by_cases z : 0 ≤ k
      · rw [if_pos z, List.getElem?_eq_none (by omega)]
      · rw [if_neg z]⟩⟩)

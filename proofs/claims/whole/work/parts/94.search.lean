/-! printed by p94.py: readings, reading, value, sure, next of the class -/
/-- the search made fresh, and what was made fresh on the way -/
def fSr (m M : qM) : Prop := M 0 14 = 0 ∧ (srS m M ∧ dOk (DD m)) ∧ ∃ mG mP, (mG = m ∨ fGr m mG) ∧ (mP = mG ∨ fSp mG mP) ∧ keep (kN kSr) M = keep (kN kSr) mP
theorem kSrB : ∀ i j, kN kSr i j = true → kN kB i j = true := by
  intro i j h
  refine kN_t.mpr fun z => kN_t.mp h ?_
  unfold kB at z
  unfold kSr
  rw [decide_eq_true_eq] at z ⊢
  omega
theorem kCP : ∀ i j, kCore i j = true → kN kP i j = true := by
  intro i j h
  refine kN_t.mpr fun z => ?_
  unfold kCore at h
  unfold kP at z
  rw [decide_eq_true_eq] at h z
  omega
theorem fSp_core {m m' : qM} (h : fSp m m') : keep kCore m' = keep kCore m := keep_of kCP h.1
theorem kCSr : ∀ i j, kCore i j = true → kN kSr i j = true := by
  intro i j h
  refine kN_t.mpr fun z => ?_
  unfold kCore at h
  unfold kSr at z
  rw [decide_eq_true_eq] at h z
  omega
theorem fSr_core {m M : qM} (h : fSr m M) : keep kCore M = keep kCore m := by
  obtain ⟨-, -, mG, mP, a, b, c⟩ := h
  have c1 := keep_of kCSr c
  have b1 : keep kCore mP = keep kCore mG := by rcases b with rfl | b; (exact rfl); (exact fSp_core b)
  have a1 : keep kCore mG = keep kCore m := by rcases a with rfl | a; (exact rfl); (exact fGr_core a)
  exact c1.trans (b1.trans a1)
theorem fSr_b {m M M' : qM} (h : fSr m M) (hk : keep (kN kB) M' = keep (kN kB) M) (hs : srS m M') : fSr m M' := by
  obtain ⟨a, e, mG, mP, b, c, d⟩ := h
  exact ⟨(congrFun (congrFun hk 0) 14).trans a, ⟨hs, e.2⟩, mG, mP, b, c, (keep_of kSrB hk).trans d⟩
theorem cP_G {m mG : qM} (h : fGr m mG) (hc : cP m) : cP mG := cP_k (m := m) (m' := mG) (congrFun (congrFun h.1 0) 13) (congrFun (congrFun h.1 53) 2) (congrFun h.1 54) (congrFun h.1 55) (keep_of kKc (fGr_core h)) (nN_core (fGr_core h)) hc
noncomputable def ansRds (m : qM) : Int := ((RLm m).length : Nat)
def wdO (m : qM) (R : Nat → Int) (a : Int) : Int := if q_fst (fun e => sN m e = a) (nS m) = -1 then -1 else cW m (R (q_fst (fun e => sN m e = a) (nS m)).toNat).toNat
noncomputable def ansRdg (m : qM) (k a : Int) : Int := if 0 ≤ a ∧ a < (nN m : Int) then (match kth m k with | some R => wdO m R a | none => -1) else -1
noncomputable def ansVal (m : qM) (k s : Int) : Int := if 0 ≤ s ∧ s ≤ 19 then (match kth m k with | some R => VM (DD m) R (nS m) s.toNat | none => -1) else -1
noncomputable def ansSure (m : qM) (s : Int) : Int := if 0 ≤ s ∧ s ≤ 19 then (if 0 < (RLm m).length ∧ sC (DD m) s.toNat (RLm m) = ((RLm m).length : Nat) ∧ ¬ sV (DD m) s.toNat (-1) (RLm m) = -2 then sV (DD m) s.toNat (-1) (RLm m) else -1) else -1
noncomputable def ansNxt (m : qM) (w : Int) : Int := if 0 ≤ w ∧ w ≤ 1 then (if w = 0 then (bstA (RLm m) (nS m) (cW m) (nC m)).1 else (bstA (RLm m) (nS m) (cW m) (nC m)).2) else -1
theorem KT_w {m M : qM} {R : Nat → Int} {a : Int} (h : srS m M) (hT : KT (DD m) 0 R M) (hR : R ∈ RLm m) (ha : 0 ≤ a ∧ a < 5) : M 57 a.toNat = wdO m R a := by
  have k := hT.2 a.toNat (by omega)
  rw [q_tn ha.1] at k
  have mm := LVr_mem hR
  have e2 := h.2.2.2.2.1.2
  have e1 := h.2.2.2.2.1.1
  unfold wdO
  by_cases c : q_fst (fun e => sN m e = a) (nS m) = -1
  · rw [if_pos c]
    refine k.2 (fun e _ he z => ?_)
    have el : e < nS m := by have : (e : Int) < (nS m : Int) := he; omega
    have n0 := (q_cnt_no (p := fun e => sN m e = a) (nS m)).mp ((q_fst_0 _ _).mp c) e el
    exact n0 ((e2 e el).symm.trans z)
  · rw [if_neg c]
    obtain ⟨f0, f1, f2, -⟩ := fst_at (J := fun e => sN m e = a) (nS m) c
    have b := k.1 (q_fst (fun e => sN m e = a) (nS m)).toNat (Nat.zero_le _) (by show _ < (nS m : Int); omega) ((e2 _ f1).trans f2)
    rw [b]
    exact e1 _ (mm.2 _ f1).2
theorem kth_mem {m : qM} {k : Int} {R : Nat → Int} (h : kth m k = some R) : R ∈ RLm m := by
  unfold kth at h
  by_cases z : 0 ≤ k
  · rw [if_pos z] at h; exact List.mem_of_getElem? h
  · rw [if_neg z] at h; exact absurd h (by intro z; cases z)

theorem srS_14 {m M : qM} {v : Int} (h : srS m M) : srS m (q_up M 0 14 v) := by
  have k : ∀ i, 56 ≤ i → q_up M 0 14 v i = M i := fun i hi => q_up_rw (by omega)
  unfold srS at h ⊢
  obtain ⟨a, b, ⟨c1, c2, c3, c4⟩, d, e, f⟩ := h
  rw [k 56 (by decide), k 75 (by decide), k 76 (by decide), k 74 (by decide), k 68 (by decide), k 71 (by decide)]
  refine ⟨a, b, ⟨aS_k (fun i a b => k i (by omega)) c1, uM_c c2 (by rw [k 56 (by decide)]) (fun t _ => Iff.rfl), dM_57 (fun i hi => k i (by omega)) (fun j _ => by rw [k 56 (by decide)]) c3, sgS_k (k 71 (by decide)) c4⟩, d, e, ?_⟩
  rcases f with f | ⟨f1, R, f2, f3⟩
  · exact Or.inl f
  · exact Or.inr ⟨f1, R, f2, KT_k ⟨k 57 (by decide), k 58 (by decide), k 68 (by decide), k 71 (by decide)⟩ f3⟩

set_option maxRecDepth 100000 in
theorem c_freshSearch (u : qU) (m y : qM) (hR : rC m) (hX : rXn m) (hs : lxS m) (hC : cG m) (hF : m 0 11 = 0 ∨ m 0 11 = 1) (hP : cP m) (hF3 : m 0 13 = 0 ∨ m 0 13 = 1) (hQ : cSr m) (hF4 : m 0 14 = 0 ∨ m 0 14 = 1) : qCt YX11_freshSearch 10 0 0 [qR 0] (qLy u, m, y) (fun r h => r = some (qR 56) ∧ ∃ M', h = (qLy u, M', y) ∧ fSr m M') := by
  refine qCt.intro okX11_freshSearch (Nat.le_of_ble_eq_true rfl) (fun κ hκ => ?_)
  have hd8 := hR.1
  have hV : qr (m 1 9) := by have := hR.1.2.1.2.1; have := hR.1.2.1.1; omega
  show qJ YX11_freshSearch κ _ (qLy u, m, y) 0 0 0 [some (qR 0)] []
  refine qJ.run hκ 2 (pc' := 4) (ls' := [some (qR 0)]) (st' := [qI (m 0 14)]) rfl ?_
  refine qJ.if_eq hκ (tgt := 41) rfl rfl (by omega) (fun c4 => ?_) (fun c4 => ?_)
  · show qJ YX11_freshSearch κ _ (qLy u, m, y) 0 0 41 [some (qR 0)] []
    refine qJ.run hκ 2 (pc' := 45) (ls' := [some (qR 0)]) (st' := [qR 56]) rfl ?_
    exact qJ.aret hκ rfl rfl (by decide) (by decide) (⟨rfl, m, rfl, c4, hQ c4, m, m, Or.inl rfl, Or.inl rfl, rfl⟩)
  · show qJ YX11_freshSearch κ _ (qLy u, m, y) 0 0 7 [some (qR 0)] []
    refine qJ.run hκ 7 (pc' := 22) (ls' := [some (qR 0)]) (st' := [qR 1, qR 2, qR 56]) rfl ?_
    refine qJ.callV (As := []) (rest := [qR 2, qR 56]) hκ rfl kX11_140 (c_horizon u m y hV) rfl rfl (by decide) rfl rfl (Nat.le_of_ble_eq_true rfl) (Nat.le_of_ble_eq_true rfl) (Nat.le_of_ble_eq_true rfl) (Or.inl (fun r h' e => by obtain ⟨rfl, rfl⟩ := e; rfl)) (fun r h' e => ?_)
    obtain ⟨rfl, rfl⟩ := e
    show qJ YX11_freshSearch κ _ (qLy u, m, y) 0 0 25 [some (qR 0)] [qI (gHz m), qR 2, qR 56]
    refine qJ.run hκ 1 (pc' := 26) (ls' := [some (qR 0)]) (st' := [qR 0, qI (gHz m), qR 2, qR 56]) rfl ?_
    refine qJ.callV (As := []) (rest := [qI (gHz m), qR 2, qR 56]) hκ rfl kX11_165 (c_freshGrid u m y hR hC hF) rfl rfl (by decide) rfl rfl (Nat.le_of_ble_eq_true rfl) (Nat.le_of_ble_eq_true rfl) (Nat.le_of_ble_eq_true rfl) (Or.inl (fun r h' e => by obtain ⟨rfl, mG, rfl, hG⟩ := e; rfl)) (fun r h' e => ?_)
    obtain ⟨rfl, mG, rfl, hG⟩ := e
    have kG := fGr_core hG
    show qJ YX11_freshSearch κ _ (qLy u, mG, y) 0 0 29 [some (qR 0)] [qR 29, qI (gHz m), qR 2, qR 56]
    refine qJ.run hκ 1 (pc' := 30) (ls' := [some (qR 0)]) (st' := [qR 0, qR 29, qI (gHz m), qR 2, qR 56]) rfl ?_
    refine qJ.callV (As := []) (rest := [qR 29, qI (gHz m), qR 2, qR 56]) hκ rfl kX11_339 (c_freshSpeller u mG y (rXn_core kG hX) (lxS_core kG hs) (rC_core kG hR).1 (cP_G hG hP) (by rw [show mG 0 13 = m 0 13 from congrFun (congrFun hG.1 0) 13]; exact hF3)) rfl rfl (by decide) rfl rfl (Nat.le_of_ble_eq_true rfl) (Nat.le_of_ble_eq_true rfl) (Nat.le_of_ble_eq_true rfl) (Or.inl (fun r h' e => by obtain ⟨rfl, mP, rfl, hSp⟩ := e; rfl)) (fun r h' e => ?_)
    obtain ⟨rfl, mP, rfl, hSp⟩ := e
    have kPc := fSp_core hSp
    show qJ YX11_freshSearch κ _ (qLy u, mP, y) 0 0 33 [some (qR 0)] [qR 53, qR 29, qI (gHz m), qR 2, qR 56]
    refine qJ.callV (As := [qR 2, qI (gHz m), qR 29, qR 53]) (rest := []) hκ rfl kX11_402 (c_rBuild u m mP y hR hX hs (kPc.trans kG) (by rw [show mP 30 = mG 30 from congrFun hSp.1 30, show mP 31 = mG 31 from congrFun hSp.1 31]; exact hG.2.2.1) (by rw [show mP 30 = mG 30 from congrFun hSp.1 30, show mP 31 = mG 31 from congrFun hSp.1 31]; exact (congrFun (congrFun hSp.1 29) 2).trans hG.2.2.2) (by rw [← nN_core kG]; exact hSp.2.2.1) (fun a a0 a1 => SP_c (m := mG) (m' := m) (congrFun kG 16) (congrFun kG 17) (congrFun kG 19) (congrFun kG 20) (hSp.2.2.2 a a0 (by rw [nN_core kG]; exact a1)))) rfl rfl (by decide) rfl rfl (Nat.le_of_ble_eq_true rfl) (Nat.le_of_ble_eq_true rfl) (Nat.le_of_ble_eq_true rfl) (Or.inl (fun r h' e => by obtain ⟨rfl, mB, rfl, kBb2, hSr⟩ := e; rfl)) (fun r h' e => ?_)
    obtain ⟨rfl, mB, rfl, kBb2, hSr⟩ := e
    show qJ YX11_freshSearch κ _ (qLy u, mB, y) 0 0 36 [some (qR 0)] []
    refine qJ.run hκ 2 (pc' := 38) (ls' := [some (qR 0)]) (st' := [qI 0, qR 0]) rfl ?_
    refine qJ.putI hκ rfl rfl rfl rfl (Or.inr ⟨rfl, by omega⟩) ?_
    show qJ YX11_freshSearch κ _ (qLy u, (q_up mB 0 14 0), y) 0 0 41 [some (qR 0)] []
    refine qJ.run hκ 2 (pc' := 45) (ls' := [some (qR 0)]) (st' := [qR 56]) rfl ?_
    exact qJ.aret hκ rfl rfl (by decide) (by decide) (⟨rfl, _, rfl, rfl, ⟨srS_14 hSr, DD_ok hR hX hs hG.2.2.1⟩, mG, mP, Or.inr hG, Or.inr hSp, Eq.trans (keep_up (by rfl)) (keep_of kSrB kBb2)⟩)

set_option maxRecDepth 100000 in
theorem x_readings (u : qU) (m y : qM) (hR : rC m) (hX : rXn m) (hs : lxS m) (hC : cG m) (hF : m 0 11 = 0 ∨ m 0 11 = 1) (hP : cP m) (hF3 : m 0 13 = 0 ∨ m 0 13 = 1) (hQ : cSr m) (hF4 : m 0 14 = 0 ∨ m 0 14 = 1) : qCt YX11_readings 11 0 0 [qR 0] (qLy u, m, y) (fun r h => ∃ m', r = some (qI (ansRds m)) ∧ h = (qLy u, m', y) ∧ (m' = m ∨ fSr m m')) := by
  refine qCt.intro okX11_readings (Nat.le_of_ble_eq_true rfl) (fun κ hκ => ?_)
  have hd8 := hR.1
  have hV : qr (m 1 9) := by have := hR.1.2.1.2.1; have := hR.1.2.1.1; omega
  show qJ YX11_readings κ _ (qLy u, m, y) 0 0 0 [some (qR 0)] []
  refine qJ.run hκ 1 (pc' := 1) (ls' := [some (qR 0)]) (st' := [qR 0]) rfl ?_
  refine qJ.callV (As := []) (rest := []) hκ rfl kX11_349 (c_freshSearch u m y hR hX hs hC hF hP hF3 hQ hF4) rfl rfl (by decide) rfl rfl (Nat.le_of_ble_eq_true rfl) (Nat.le_of_ble_eq_true rfl) (Nat.le_of_ble_eq_true rfl) (Or.inl (fun r h' e => by obtain ⟨rfl, mS, rfl, hSr⟩ := e; rfl)) (fun r h' e => ?_)
  obtain ⟨rfl, mS, rfl, hSr⟩ := e
  have hSS := hSr.2.1.1
  have kSc := fSr_core hSr
  have hD : dOk (DD m) := hSr.2.1.2
  show qJ YX11_readings κ _ (qLy u, mS, y) 0 0 4 [some (qR 0)] [qR 56]
  refine qJ.run hκ 1 (pc' := 7) (ls' := [some (qR 0)]) (st' := [qI (mS 56 0)]) rfl ?_
  exact qJ.iret hκ rfl rfl (by decide) (by decide) (⟨mS, congrArg (fun x => some (qI x)) hSS.1.1, rfl, Or.inr hSr⟩)

set_option maxRecDepth 100000 in
theorem x_reading (u : qU) (m y : qM) (k a : Int) (hR : rC m) (hX : rXn m) (hs : lxS m) (hC : cG m) (hF : m 0 11 = 0 ∨ m 0 11 = 1) (hP : cP m) (hF3 : m 0 13 = 0 ∨ m 0 13 = 1) (hQ : cSr m) (hF4 : m 0 14 = 0 ∨ m 0 14 = 1) (h1 : qr k) (h2 : qr a) : qCt YX11_reading 11 0 0 [qR 0, qI k, qI a] (qLy u, m, y) (fun r h => ∃ m', r = some (qI (ansRdg m k a)) ∧ h = (qLy u, m', y) ∧ (m' = m ∨ fSr m m')) := by
  refine qCt.intro okX11_reading (Nat.le_of_ble_eq_true rfl) (fun κ hκ => ?_)
  have hd8 := hR.1
  have hV : qr (m 1 9) := by have := hR.1.2.1.2.1; have := hR.1.2.1.1; omega
  have nl := nN_le hX
  have n5 := hX.1.1
  show qJ YX11_reading κ _ (qLy u, m, y) 0 0 0 [some (qR 0), some (qI k), some (qI a)] []
  refine qJ.run hκ 2 (pc' := 2) (ls' := [some (qR 0), some (qI k), some (qI a)]) (st' := [qI a, qR 0]) rfl ?_
  refine qJ.callV (As := [qI a]) (rest := []) hκ rfl kX11_336 (c_isSeenName u m y a hX hd8 (by omega)) rfl rfl (by decide) rfl rfl (Nat.le_of_ble_eq_true rfl) (Nat.le_of_ble_eq_true rfl) (Nat.le_of_ble_eq_true rfl) (Or.inl (fun r h' e => by obtain ⟨z2, rfl, hz2, rfl⟩ := e; rfl)) (fun r h' e => ?_)
  obtain ⟨z2, rfl, hz2, rfl⟩ := e
  show qJ YX11_reading κ _ (qLy u, m, y) 0 0 5 [some (qR 0), some (qI k), some (qI a)] [qI z2]
  refine qJ.if_eq hκ (tgt := 19) rfl rfl (by omega) (fun c5 => ?_) (fun c5 => ?_)
  · show qJ YX11_reading κ _ (qLy u, m, y) 0 0 19 [some (qR 0), some (qI k), some (qI a)] []
    refine qJ.run hκ 1 (pc' := 20) (ls' := [some (qR 0), some (qI k), some (qI a)]) (st' := [qI (-1)]) rfl ?_
    exact qJ.iret hκ rfl rfl (by decide) (by decide) (⟨m, by unfold ansRdg; rw [if_neg (fun z => by omega)], rfl, Or.inl rfl⟩)
  · show qJ YX11_reading κ _ (qLy u, m, y) 0 0 8 [some (qR 0), some (qI k), some (qI a)] []
    have an : 0 ≤ a ∧ a < (nN m : Int) := by omega
    refine qJ.run hκ 1 (pc' := 9) (ls' := [some (qR 0), some (qI k), some (qI a)]) (st' := [qR 0]) rfl ?_
    refine qJ.callV (As := []) (rest := []) hκ rfl kX11_349 (c_freshSearch u m y hR hX hs hC hF hP hF3 hQ hF4) rfl rfl (by decide) rfl rfl (Nat.le_of_ble_eq_true rfl) (Nat.le_of_ble_eq_true rfl) (Nat.le_of_ble_eq_true rfl) (Or.inl (fun r h' e => by obtain ⟨rfl, mS, rfl, hSr⟩ := e; rfl)) (fun r h' e => ?_)
    obtain ⟨rfl, mS, rfl, hSr⟩ := e
    have hSS := hSr.2.1.1
    have kSc := fSr_core hSr
    have hD : dOk (DD m) := hSr.2.1.2
    show qJ YX11_reading κ _ (qLy u, mS, y) 0 0 12 [some (qR 0), some (qI k), some (qI a)] [qR 56]
    refine qJ.run hκ 1 (pc' := 13) (ls' := [some (qR 0), some (qI k), some (qI a)]) (st' := [qI k, qR 56]) rfl ?_
    refine qJ.callV (As := [qI k]) (rest := []) hκ rfl kX11_356 (c_bring u m mS y k hD hSS (by omega)) rfl rfl (by decide) rfl rfl (Nat.le_of_ble_eq_true rfl) (Nat.le_of_ble_eq_true rfl) (Nat.le_of_ble_eq_true rfl) (Or.inl (fun r h' e => by obtain ⟨zb, mT, rfl, rfl, kT, hTS, HB⟩ := e; rfl)) (fun r h' e => ?_)
    obtain ⟨zb, mT, rfl, rfl, kT, hTS, HB⟩ := e
    have zr : zb = 0 ∨ zb = 1 := by rcases HB with q | q; (left; exact q.1); (right; exact q.1)
    have hFT := fSr_b hSr kT hTS
    show qJ YX11_reading κ _ (qLy u, mT, y) 0 0 16 [some (qR 0), some (qI k), some (qI a)] [qI zb]
    refine qJ.if_ne hκ (tgt := 21) rfl rfl (by omega) (fun c16 => ?_) (fun c16 => ?_)
    · show qJ YX11_reading κ _ (qLy u, mT, y) 0 0 21 [some (qR 0), some (qI k), some (qI a)] []
      have YB : ∃ R, kth m k = some R ∧ KT (DD m) 0 R mT := by rcases HB with q | q; (have := q.1; omega); (exact q.2)
      obtain ⟨R, g1, g2⟩ := YB
      refine qJ.run hκ 4 (pc' := 29) (ls' := [some (qR 0), some (qI k), some (qI a)]) (st' := [qI a, qR 57]) rfl ?_
      refine qJ.ald hκ rfl rfl rfl (by decide) (by omega) ?_
      show qJ YX11_reading κ _ (qLy u, mT, y) 0 0 30 [some (qR 0), some (qI k), some (qI a)] [qI (mT 57 a.toNat)]
      exact qJ.iret hκ rfl rfl (by decide) (by decide) (⟨mT, by unfold ansRdg; rw [if_pos an, g1]; exact congrArg (fun x => some (qI x)) (KT_w hTS g2 (kth_mem g1) (by omega)), rfl, Or.inr hFT⟩)
    · show qJ YX11_reading κ _ (qLy u, mT, y) 0 0 19 [some (qR 0), some (qI k), some (qI a)] []
      have NB : kth m k = none := by rcases HB with q | q; (exact q.2); (have := q.1; omega)
      refine qJ.run hκ 1 (pc' := 20) (ls' := [some (qR 0), some (qI k), some (qI a)]) (st' := [qI (-1)]) rfl ?_
      exact qJ.iret hκ rfl rfl (by decide) (by decide) (⟨mT, by unfold ansRdg; rw [if_pos an, NB], rfl, Or.inr hFT⟩)

set_option maxRecDepth 100000 in
theorem x_value (u : qU) (m y : qM) (k s : Int) (hR : rC m) (hX : rXn m) (hs : lxS m) (hC : cG m) (hF : m 0 11 = 0 ∨ m 0 11 = 1) (hP : cP m) (hF3 : m 0 13 = 0 ∨ m 0 13 = 1) (hQ : cSr m) (hF4 : m 0 14 = 0 ∨ m 0 14 = 1) (h1 : qr k) (h2 : qr s) : qCt YX11_value 11 0 0 [qR 0, qI k, qI s] (qLy u, m, y) (fun r h => ∃ m', r = some (qI (ansVal m k s)) ∧ h = (qLy u, m', y) ∧ (m' = m ∨ fSr m m')) := by
  refine qCt.intro okX11_value (Nat.le_of_ble_eq_true rfl) (fun κ hκ => ?_)
  have hd8 := hR.1
  have hV : qr (m 1 9) := by have := hR.1.2.1.2.1; have := hR.1.2.1.1; omega
  have is1 := q_ite01 (0 ≤ s ∧ s ≤ 19)
  show qJ YX11_value κ _ (qLy u, m, y) 0 0 0 [some (qR 0), some (qI k), some (qI s)] []
  refine qJ.run hκ 1 (pc' := 1) (ls' := [some (qR 0), some (qI k), some (qI s)]) (st' := [qI s]) rfl ?_
  refine qJ.callS (As := [qI s]) (rest := []) hκ rfl kX11_162 (c_isSign u m y s (by omega)) (by decide) rfl rfl (Nat.le_of_ble_eq_true rfl) (Nat.le_of_ble_eq_true rfl) (Nat.le_of_ble_eq_true rfl) (Or.inl (fun r h' e => by obtain ⟨rfl, rfl⟩ := e; rfl)) (fun r h' e => ?_)
  obtain ⟨rfl, rfl⟩ := e
  show qJ YX11_value κ _ (qLy u, m, y) 0 0 4 [some (qR 0), some (qI k), some (qI s)] [qI (if 0 ≤ s ∧ s ≤ 19 then 1 else 0)]
  refine qJ.if_eq hκ (tgt := 18) rfl rfl (by omega) (fun c4 => ?_) (fun c4 => ?_)
  · show qJ YX11_value κ _ (qLy u, m, y) 0 0 18 [some (qR 0), some (qI k), some (qI s)] []
    refine qJ.run hκ 1 (pc' := 19) (ls' := [some (qR 0), some (qI k), some (qI s)]) (st' := [qI (-1)]) rfl ?_
    exact qJ.iret hκ rfl rfl (by decide) (by decide) (⟨m, by unfold ansVal; rw [if_neg (fun z => by rw [if_pos z] at c4; exact absurd c4 (by decide))], rfl, Or.inl rfl⟩)
  · show qJ YX11_value κ _ (qLy u, m, y) 0 0 7 [some (qR 0), some (qI k), some (qI s)] []
    have sr : 0 ≤ s ∧ s ≤ 19 := by by_cases z : 0 ≤ s ∧ s ≤ 19; exact z; rw [if_neg z] at c4; exact absurd rfl c4
    refine qJ.run hκ 1 (pc' := 8) (ls' := [some (qR 0), some (qI k), some (qI s)]) (st' := [qR 0]) rfl ?_
    refine qJ.callV (As := []) (rest := []) hκ rfl kX11_349 (c_freshSearch u m y hR hX hs hC hF hP hF3 hQ hF4) rfl rfl (by decide) rfl rfl (Nat.le_of_ble_eq_true rfl) (Nat.le_of_ble_eq_true rfl) (Nat.le_of_ble_eq_true rfl) (Or.inl (fun r h' e => by obtain ⟨rfl, mS, rfl, hSr⟩ := e; rfl)) (fun r h' e => ?_)
    obtain ⟨rfl, mS, rfl, hSr⟩ := e
    have hSS := hSr.2.1.1
    have kSc := fSr_core hSr
    have hD : dOk (DD m) := hSr.2.1.2
    show qJ YX11_value κ _ (qLy u, mS, y) 0 0 11 [some (qR 0), some (qI k), some (qI s)] [qR 56]
    refine qJ.run hκ 1 (pc' := 12) (ls' := [some (qR 0), some (qI k), some (qI s)]) (st' := [qI k, qR 56]) rfl ?_
    refine qJ.callV (As := [qI k]) (rest := []) hκ rfl kX11_356 (c_bring u m mS y k hD hSS (by omega)) rfl rfl (by decide) rfl rfl (Nat.le_of_ble_eq_true rfl) (Nat.le_of_ble_eq_true rfl) (Nat.le_of_ble_eq_true rfl) (Or.inl (fun r h' e => by obtain ⟨zb, mT, rfl, rfl, kT, hTS, HB⟩ := e; rfl)) (fun r h' e => ?_)
    obtain ⟨zb, mT, rfl, rfl, kT, hTS, HB⟩ := e
    have zr : zb = 0 ∨ zb = 1 := by rcases HB with q | q; (left; exact q.1); (right; exact q.1)
    have hFT := fSr_b hSr kT hTS
    show qJ YX11_value κ _ (qLy u, mT, y) 0 0 15 [some (qR 0), some (qI k), some (qI s)] [qI zb]
    refine qJ.if_ne hκ (tgt := 20) rfl rfl (by omega) (fun c15 => ?_) (fun c15 => ?_)
    · show qJ YX11_value κ _ (qLy u, mT, y) 0 0 20 [some (qR 0), some (qI k), some (qI s)] []
      have YB : ∃ R, kth m k = some R ∧ KT (DD m) 0 R mT := by rcases HB with q | q; (have := q.1; omega); (exact q.2)
      obtain ⟨R, g1, g2⟩ := YB
      refine qJ.run hκ 4 (pc' := 28) (ls' := [some (qR 0), some (qI k), some (qI s)]) (st' := [qI s, qR 58]) rfl ?_
      refine qJ.ald hκ rfl rfl rfl (by decide) (by omega) ?_
      show qJ YX11_value κ _ (qLy u, mT, y) 0 0 29 [some (qR 0), some (qI k), some (qI s)] [qI (mT 58 s.toNat)]
      exact qJ.iret hκ rfl rfl (by decide) (by decide) (⟨mT, by unfold ansVal; rw [if_pos sr, g1]; exact congrArg (fun x => some (qI x)) (g2.1 s.toNat (by omega)), rfl, Or.inr hFT⟩)
    · show qJ YX11_value κ _ (qLy u, mT, y) 0 0 18 [some (qR 0), some (qI k), some (qI s)] []
      have NB : kth m k = none := by rcases HB with q | q; (exact q.2); (have := q.1; omega)
      refine qJ.run hκ 1 (pc' := 19) (ls' := [some (qR 0), some (qI k), some (qI s)]) (st' := [qI (-1)]) rfl ?_
      exact qJ.iret hκ rfl rfl (by decide) (by decide) (⟨mT, by unfold ansVal; rw [if_pos sr, NB], rfl, Or.inr hFT⟩)

set_option maxRecDepth 100000 in
theorem x_sure (u : qU) (m y : qM) (s : Int) (hR : rC m) (hX : rXn m) (hs : lxS m) (hC : cG m) (hF : m 0 11 = 0 ∨ m 0 11 = 1) (hP : cP m) (hF3 : m 0 13 = 0 ∨ m 0 13 = 1) (hQ : cSr m) (hF4 : m 0 14 = 0 ∨ m 0 14 = 1) (h1 : qr s) : qCt YX11_sure 11 0 0 [qR 0, qI s] (qLy u, m, y) (fun r h => ∃ m', r = some (qI (ansSure m s)) ∧ h = (qLy u, m', y) ∧ (m' = m ∨ fSr m m')) := by
  refine qCt.intro okX11_sure (Nat.le_of_ble_eq_true rfl) (fun κ hκ => ?_)
  have hd8 := hR.1
  have hV : qr (m 1 9) := by have := hR.1.2.1.2.1; have := hR.1.2.1.1; omega
  have is1 := q_ite01 (0 ≤ s ∧ s ≤ 19)
  show qJ YX11_sure κ _ (qLy u, m, y) 0 0 0 [some (qR 0), some (qI s)] []
  refine qJ.run hκ 1 (pc' := 1) (ls' := [some (qR 0), some (qI s)]) (st' := [qI s]) rfl ?_
  refine qJ.callS (As := [qI s]) (rest := []) hκ rfl kX11_162 (c_isSign u m y s (by omega)) (by decide) rfl rfl (Nat.le_of_ble_eq_true rfl) (Nat.le_of_ble_eq_true rfl) (Nat.le_of_ble_eq_true rfl) (Or.inl (fun r h' e => by obtain ⟨rfl, rfl⟩ := e; rfl)) (fun r h' e => ?_)
  obtain ⟨rfl, rfl⟩ := e
  show qJ YX11_sure κ _ (qLy u, m, y) 0 0 4 [some (qR 0), some (qI s)] [qI (if 0 ≤ s ∧ s ≤ 19 then 1 else 0)]
  refine qJ.if_eq hκ (tgt := 18) rfl rfl (by omega) (fun c4 => ?_) (fun c4 => ?_)
  · show qJ YX11_sure κ _ (qLy u, m, y) 0 0 18 [some (qR 0), some (qI s)] []
    refine qJ.run hκ 1 (pc' := 19) (ls' := [some (qR 0), some (qI s)]) (st' := [qI (-1)]) rfl ?_
    exact qJ.iret hκ rfl rfl (by decide) (by decide) (⟨m, by unfold ansSure; rw [if_neg (fun z => by rw [if_pos z] at c4; exact absurd c4 (by decide))], rfl, Or.inl rfl⟩)
  · show qJ YX11_sure κ _ (qLy u, m, y) 0 0 7 [some (qR 0), some (qI s)] []
    have sr : 0 ≤ s ∧ s ≤ 19 := by by_cases z : 0 ≤ s ∧ s ≤ 19; exact z; rw [if_neg z] at c4; exact absurd rfl c4
    refine qJ.run hκ 1 (pc' := 8) (ls' := [some (qR 0), some (qI s)]) (st' := [qR 0]) rfl ?_
    refine qJ.callV (As := []) (rest := []) hκ rfl kX11_349 (c_freshSearch u m y hR hX hs hC hF hP hF3 hQ hF4) rfl rfl (by decide) rfl rfl (Nat.le_of_ble_eq_true rfl) (Nat.le_of_ble_eq_true rfl) (Nat.le_of_ble_eq_true rfl) (Or.inl (fun r h' e => by obtain ⟨rfl, mS, rfl, hSr⟩ := e; rfl)) (fun r h' e => ?_)
    obtain ⟨rfl, mS, rfl, hSr⟩ := e
    have hSS := hSr.2.1.1
    have kSc := fSr_core hSr
    have hD : dOk (DD m) := hSr.2.1.2
    show qJ YX11_sure κ _ (qLy u, mS, y) 0 0 11 [some (qR 0), some (qI s)] [qR 56]
    refine qJ.run hκ 1 (pc' := 12) (ls' := [some (qR 0), some (qI s)]) (st' := [qI s, qR 56]) rfl ?_
    refine qJ.callV (As := [qI s]) (rest := []) hκ rfl kX11_365 (c_sureOf u m mS y s hD hSS (by omega)) rfl rfl (by decide) rfl rfl (Nat.le_of_ble_eq_true rfl) (Nat.le_of_ble_eq_true rfl) (Nat.le_of_ble_eq_true rfl) (Or.inl (fun r h' e => by obtain ⟨rfl, rfl⟩ := e; rfl)) (fun r h' e => ?_)
    obtain ⟨rfl, rfl⟩ := e
    show qJ YX11_sure κ _ (qLy u, mS, y) 0 0 15 [some (qR 0), some (qI s)] [qI (if 0 < (RLm m).length ∧ sC (DD m) s.toNat (RLm m) = ((RLm m).length : Nat) ∧ ¬ sV (DD m) s.toNat (-1) (RLm m) = -2 then sV (DD m) s.toNat (-1) (RLm m) else -1)]
    refine qJ.run hκ 1 (pc' := 19) (ls' := [some (qR 0), some (qI s)]) (st' := [qI (if 0 < (RLm m).length ∧ sC (DD m) s.toNat (RLm m) = ((RLm m).length : Nat) ∧ ¬ sV (DD m) s.toNat (-1) (RLm m) = -2 then sV (DD m) s.toNat (-1) (RLm m) else -1)]) rfl ?_
    exact qJ.iret hκ rfl rfl (by decide) (by decide) (⟨mS, by unfold ansSure; rw [if_pos sr], rfl, Or.inr hSr⟩)

set_option maxRecDepth 100000 in
theorem x_next (u : qU) (m y : qM) (w : Int) (hR : rC m) (hX : rXn m) (hs : lxS m) (hC : cG m) (hF : m 0 11 = 0 ∨ m 0 11 = 1) (hP : cP m) (hF3 : m 0 13 = 0 ∨ m 0 13 = 1) (hQ : cSr m) (hF4 : m 0 14 = 0 ∨ m 0 14 = 1) (h1 : qr w) : qCt YX11_next 11 0 0 [qR 0, qI w] (qLy u, m, y) (fun r h => ∃ m', r = some (qI (ansNxt m w)) ∧ h = (qLy u, m', y) ∧ (m' = m ∨ fSr m m')) := by
  refine qCt.intro okX11_next (Nat.le_of_ble_eq_true rfl) (fun κ hκ => ?_)
  have hd8 := hR.1
  have hV : qr (m 1 9) := by have := hR.1.2.1.2.1; have := hR.1.2.1.1; omega
  show qJ YX11_next κ _ (qLy u, m, y) 0 0 0 [some (qR 0), some (qI w)] []
  refine qJ.run hκ 1 (pc' := 1) (ls' := [some (qR 0), some (qI w)]) (st' := [qI w]) rfl ?_
  refine qJ.if_lt hκ (tgt := 9) rfl rfl (by omega) (fun c1 => ?_) (fun c1 => ?_)
  · show qJ YX11_next κ _ (qLy u, m, y) 0 0 9 [some (qR 0), some (qI w)] []
    refine qJ.run hκ 1 (pc' := 10) (ls' := [some (qR 0), some (qI w)]) (st' := [qI (-1)]) rfl ?_
    exact qJ.iret hκ rfl rfl (by decide) (by decide) (⟨m, by unfold ansNxt; rw [if_neg (fun z => by omega)], rfl, Or.inl rfl⟩)
  · show qJ YX11_next κ _ (qLy u, m, y) 0 0 4 [some (qR 0), some (qI w)] []
    refine qJ.run hκ 2 (pc' := 6) (ls' := [some (qR 0), some (qI w)]) (st' := [qI 1, qI w]) rfl ?_
    refine qJ.icmp_le hκ (tgt := 11) rfl rfl (by omega) (by omega) (fun c6 => ?_) (fun c6 => ?_)
    · show qJ YX11_next κ _ (qLy u, m, y) 0 0 11 [some (qR 0), some (qI w)] []
      refine qJ.run hκ 1 (pc' := 12) (ls' := [some (qR 0), some (qI w)]) (st' := [qI w]) rfl ?_
      refine qJ.if_ne hκ (tgt := 25) rfl rfl (by omega) (fun c12 => ?_) (fun c12 => ?_)
      · show qJ YX11_next κ _ (qLy u, m, y) 0 0 25 [some (qR 0), some (qI w)] []
        refine qJ.run hκ 1 (pc' := 26) (ls' := [some (qR 0), some (qI w)]) (st' := [qR 0]) rfl ?_
        refine qJ.callV (As := []) (rest := []) hκ rfl kX11_349 (c_freshSearch u m y hR hX hs hC hF hP hF3 hQ hF4) rfl rfl (by decide) rfl rfl (Nat.le_of_ble_eq_true rfl) (Nat.le_of_ble_eq_true rfl) (Nat.le_of_ble_eq_true rfl) (Or.inl (fun r h' e => by obtain ⟨rfl, mS, rfl, hSr⟩ := e; rfl)) (fun r h' e => ?_)
        obtain ⟨rfl, mS, rfl, hSr⟩ := e
        have hSS := hSr.2.1.1
        have kSc := fSr_core hSr
        have hD : dOk (DD m) := hSr.2.1.2
        show qJ YX11_next κ _ (qLy u, mS, y) 0 0 29 [some (qR 0), some (qI w)] [qR 56]
        refine qJ.run hκ 1 (pc' := 32) (ls' := [some (qR 0), some (qI w)]) (st' := [qI (mS 56 2)]) rfl ?_
        exact qJ.iret hκ rfl rfl (by decide) (by decide) (⟨mS, by unfold ansNxt; rw [if_pos (by omega), if_neg (by omega)]; exact congrArg (fun x => some (qI x)) hSS.1.2.2, rfl, Or.inr hSr⟩)
      · show qJ YX11_next κ _ (qLy u, m, y) 0 0 15 [some (qR 0), some (qI w)] []
        refine qJ.run hκ 1 (pc' := 16) (ls' := [some (qR 0), some (qI w)]) (st' := [qR 0]) rfl ?_
        refine qJ.callV (As := []) (rest := []) hκ rfl kX11_349 (c_freshSearch u m y hR hX hs hC hF hP hF3 hQ hF4) rfl rfl (by decide) rfl rfl (Nat.le_of_ble_eq_true rfl) (Nat.le_of_ble_eq_true rfl) (Nat.le_of_ble_eq_true rfl) (Or.inl (fun r h' e => by obtain ⟨rfl, mS, rfl, hSr⟩ := e; rfl)) (fun r h' e => ?_)
        obtain ⟨rfl, mS, rfl, hSr⟩ := e
        have hSS := hSr.2.1.1
        have kSc := fSr_core hSr
        have hD : dOk (DD m) := hSr.2.1.2
        show qJ YX11_next κ _ (qLy u, mS, y) 0 0 19 [some (qR 0), some (qI w)] [qR 56]
        refine qJ.run hκ 2 (pc' := 32) (ls' := [some (qR 0), some (qI w)]) (st' := [qI (mS 56 1)]) rfl ?_
        exact qJ.iret hκ rfl rfl (by decide) (by decide) (⟨mS, by unfold ansNxt; rw [if_pos (by omega), if_pos (by omega)]; exact congrArg (fun x => some (qI x)) hSS.1.2.1, rfl, Or.inr hSr⟩)
    · show qJ YX11_next κ _ (qLy u, m, y) 0 0 9 [some (qR 0), some (qI w)] []
      refine qJ.run hκ 1 (pc' := 10) (ls' := [some (qR 0), some (qI w)]) (st' := [qI (-1)]) rfl ?_
      exact qJ.iret hκ rfl rfl (by decide) (by decide) (⟨m, by unfold ansNxt; rw [if_neg (fun z => by omega)], rfl, Or.inl rfl⟩)

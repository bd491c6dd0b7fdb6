/-! printed by p105.py: what all answers stand on; the caches; the invariant of all -/
/-- the same question: what is told and seen -/
def sQ (m m' : qM) : Prop := keep kKern m' = keep kKern m ∧ nW m' = nW m ∧ nT m' = nT m ∧ nR m' = nR m ∧ nN m' = nN m
theorem sQ.r {m m' : qM} (h : sQ m m') (i : Nat) (hi : 2 ≤ i ∧ i ≤ 20 ∧ ¬ i = 12) : m' i = m i := keep_rw h.1 (fun _ => decide_eq_true hi)
theorem nR_core {m m' : qM} (h : keep kCore m' = keep kCore m) : nR m' = nR m := by
  show nR (keep kCore m') = nR (keep kCore m)
  rw [h]
theorem sQ.core {m m' : qM} (h : keep kCore m' = keep kCore m) : sQ m m' := ⟨keep_of kKc h, nW_core h, nT_core h, nR_core h, nN_core h⟩
theorem sQ.xgF {m m' : qM} (h : sQ m m') {l g : Int} (n : Nat) : gF m' l g n = gF m l g n := gF_c (h.r 3 (by decide)) (h.r 4 (by decide)) (h.r 5 (by decide)) (h.r 10 (by decide)) n
theorem sQ.xgK {m m' : qM} (h : sQ m m') {l g : Int} (n : Nat) : gK m' l g n = gK m l g n := gK_c (h.r 3 (by decide)) (h.r 4 (by decide)) (h.r 9 (by decide)) (h.r 10 (by decide)) n
theorem sQ.xgB {m m' : qM} (h : sQ m m') (n : Nat) : gB m' n ↔ gB m n := Iff.of_eq (by unfold gB; rw [h.xgF n, h.xgK n])
theorem sQ.xpV {m m' : qM} (h : sQ m m') : pV m' = pV m := by
  show pV (keep kKern m') = pV (keep kKern m)
  rw [h.1]
theorem sQ.xvL {m m' : qM} (h : sQ m m') : vL m' = vL m := by
  funext a
  unfold vL vN
  rw [h.xpV, h.r 17 (by decide)]
theorem sQ.xsv {m m' : qM} (h : sQ m m') : sv m' = sv m := by
  funext a k
  unfold sv
  rw [h.xpV, h.r 17 (by decide)]
theorem sQ.xspA {m m' : qM} (h : sQ m m') (a : Nat) : spA m' a ↔ spA m a := Iff.of_eq (by unfold spA; rw [h.2.2.2.2, h.xvL])
theorem sQ.xcwP {m m' : qM} (h : sQ m m') (w : Nat) : cwP m' w ↔ cwP m w := Iff.of_eq (by unfold cwP; rw [h.r 8 (by decide)])
theorem sQ.xnC {m m' : qM} (h : sQ m m') : nC m' = nC m := by
  unfold nC
  rw [h.2.1]
  exact q_cnt_c _ fun k _ => h.xcwP k
theorem sQ.xcW {m m' : qM} (h : sQ m m') : cW m' = cW m := by
  funext j
  unfold cW
  rw [h.2.1]
  exact q_nth_c (fun s => h.xcwP s) _
theorem sQ.xnS {m m' : qM} (h : sQ m m') : nS m' = nS m := q_cnt_c _ fun k _ => h.xspA k
theorem sQ.xsN {m m' : qM} (h : sQ m m') : sN m' = sN m := by
  funext j
  exact q_nth_c (fun s => h.xspA s) _
theorem sQ.xDD {m m' : qM} (h : sQ m m') : DD m' = DD m := by
  unfold DD
  rw [h.xnC, h.xnS, h.xcW, h.xvL, h.xsv, h.xsN, h.2.2.1, h.xgF, h.xgK, h.r 4 (by decide), h.r 3 (by decide)]
theorem sQ.xRL {m m' : qM} (h : sQ m m') : RLm m' = RLm m := by
  have e : (gB m' (nT m') ∨ nS m' = 0) ↔ (gB m (nT m) ∨ nS m = 0) := by
    rw [h.2.2.1, h.xnS]
    exact or_congr (h.xgB _) Iff.rfl
  unfold RLm
  by_cases z : gB m (nT m) ∨ nS m = 0
  · rw [if_pos z, if_pos (e.mpr z)]
  · rw [if_neg z, if_neg (fun q => z (e.mp q)), h.xDD, h.xnS]
/-! the answers -/
theorem ansRow_q {m m' : qM} (h : sQ m m') (s : Int) : ansRow m' s = ansRow m s := by
  unfold ansRow
  rw [h.2.2.1, h.xgF]
theorem ansCol_q {m m' : qM} (h : sQ m m') (s : Int) : ansCol m' s = ansCol m s := by
  unfold ansCol
  rw [h.2.2.1, h.xgK]
theorem ansBrk_q {m m' : qM} (h : sQ m m') : ansBrk m' = ansBrk m := by
  have e : ∀ n, gB m' n ↔ gB m n := fun n => h.xgB n
  unfold ansBrk
  rw [h.2.2.1, q_fst_c (q := fun t => gB m (t + 1)) _ (fun t _ => e (t + 1))]
  by_cases z : gB m (nT m)
  · rw [if_pos z, if_pos ((e _).mpr z)]
  · rw [if_neg z, if_neg (fun q => z ((e _).mp q))]
theorem ansUse_q {m m' : qM} (h : sQ m m') (s w : Int) : ansUse m' s w = ansUse m s w := by
  have h3 := h.r 3 (by decide)
  have h4 := h.r 4 (by decide)
  unfold ansUse
  rw [h.2.1, uAll_c h3 h4, uFst_c h3, uLst_c h3 h4]
theorem ansIni_q {m m' : qM} (h : sQ m m') (k : Int) : ansIni m' k = ansIni m k := by
  have h3 := h.r 3 (by decide)
  have h4 := h.r 4 (by decide)
  unfold ansIni
  rw [h.2.1, show uAll m' (nW m) = uAll m (nW m) from funext fun s => uAll_c h3 h4 _ s, show uFst m' (nW m) = uFst m (nW m) from funext fun s => uFst_c h3 _ s]
theorem ansOne_q {m m' : qM} (h : sQ m m') (a b : Int) : ansOne m' a b = ansOne m a b := by
  have h3 := h.r 3 (by decide)
  have h4 := h.r 4 (by decide)
  have h6 := h.r 6 (by decide)
  unfold ansOne
  rw [h.2.1, h.2.2.1, uAll_c h3 h4, uAll_c h3 h4, uSit_c h3 h4 h6, uSit_c h3 h4 h6, h.xgF, h.xgK]
theorem ansMany_core {m m' : qM} (h : keep kCore m' = keep kCore m) (w : Int) : ansMany m' w = ansMany m w := by
  have e : ∀ i j, kCore i j = true → m' i j = m i j := fun i j k => keep_at h k
  unfold ansMany
  rw [nW_core h, nN_core h, e 2 0 rfl, e 2 2 rfl, e 12 0 rfl, e 15 0 rfl, e 15 4 rfl, e 1 8 rfl, e 1 9 rfl, show uAll m' (nW m) = uAll m (nW m) from funext fun s => uAll_c (rk3 h) (rk4 h) _ s]
theorem ansSets_q {m m' : qM} (h : sQ m m') : ansSets m' = ansSets m := by
  have e := h.r 13 (by decide)
  unfold ansSets
  rw [h.2.2.2.1, q_cnt_c (q := sOK m (nR m)) 1331 (fun t _ => sOK_o e _ t)]
theorem ansRat_q {m m' : qM} (h : sQ m m') (k w : Int) : ansRat m' k w = ansRat m k w := by
  have e := h.r 13 (by decide)
  unfold ansRat
  rw [h.2.2.2.1, q_nth_c (q := sOK m (nR m)) (fun t => sOK_o e _ t)]
theorem ansSur_q {m m' : qM} (h : sQ m m') (w : Int) : ansSur m' w = ansSur m w := by
  have e := h.r 13 (by decide)
  unfold ansSur
  rw [h.2.2.2.1, q_cnt_c (q := sOK m (nR m)) 1331 (fun t _ => sOK_o e _ t), (rmin_c e _ _ _).1, (rmin_c e _ _ _).2]
theorem ansOdd_q {m m' : qM} (h : sQ m m') (k : Int) : ansOdd m' k = ansOdd m k := by
  have e := h.r 13 (by decide)
  unfold ansOdd
  rw [h.2.2.2.1, q_cnt_c (q := sOK m (nR m)) 1331 (fun t _ => sOK_o e _ t), q_nth_c (q := fun a => spo m (nR m) a 1331) (fun a => spo_o e _ a _)]
theorem ansSpd_q {m m' : qM} (h : sQ m m') (a k : Int) : ansSpd m' a k = ansSpd m a k := by
  unfold ansSpd
  rw [h.2.2.2.2, h.xvL, h.xsv]
theorem ansRds_q {m m' : qM} (h : sQ m m') : ansRds m' = ansRds m := by
  unfold ansRds
  rw [h.xRL]
theorem kth_q {m m' : qM} (h : sQ m m') (k : Int) : kth m' k = kth m k := by
  unfold kth
  rw [h.xRL]
theorem wdO_q {m m' : qM} (h : sQ m m') (R : Nat → Int) (a : Int) : wdO m' R a = wdO m R a := by
  unfold wdO
  rw [h.xsN, h.xnS, h.xcW]
theorem ansRdg_q {m m' : qM} (h : sQ m m') (k a : Int) : ansRdg m' k a = ansRdg m k a := by
  unfold ansRdg
  rw [h.2.2.2.2, kth_q h]
  cases kth m k with
  | none => rfl
  | some R => simp only [wdO_q h]
theorem ansVal_q {m m' : qM} (h : sQ m m') (k s : Int) : ansVal m' k s = ansVal m k s := by
  unfold ansVal
  rw [h.xDD, h.xnS, kth_q h]
theorem ansSure_q {m m' : qM} (h : sQ m m') (s : Int) : ansSure m' s = ansSure m s := by
  unfold ansSure
  rw [h.xDD, h.xRL]
theorem ansNxt_q {m m' : qM} (h : sQ m m') (w : Int) : ansNxt m' w = ansNxt m w := by
  unfold ansNxt
  rw [h.xRL, h.xnS, h.xcW, h.xnC]
/-! the caches -/
theorem cU_q {m m' : qM} (h : sQ m m') (h0 : m' 0 10 = m 0 10) (hr : m' 25 = m 25 ∧ m' 26 = m 26 ∧ m' 27 = m 27 ∧ m' 28 = m 28) (hc : cU m) : cU m' := by
  intro z
  rw [h.1, h.2.1, hr.1, hr.2.1, hr.2.2.1, hr.2.2.2]
  exact hc (h0 ▸ z)
theorem cG_q {m m' : qM} (h : sQ m m') (h0 : m' 0 11 = m 0 11) (hr : m' 29 = m 29 ∧ m' 30 = m 30 ∧ m' 31 = m 31) (hc : cG m) : cG m' := by
  intro z
  rw [h.1, h.2.2.1, hr.1, hr.2.1, hr.2.2]
  exact hc (h0 ▸ z)
theorem cS_q {m m' : qM} (h : sQ m m') (h0 : m' 0 12 = m 0 12) (hr : ∀ i, 39 ≤ i → i ≤ 47 → m' i = m i) (hc : cS m) : cS m' := by
  intro z
  have k := hc (h0 ▸ z)
  rw [h.1, h.2.2.2.1]
  exact ⟨CI_c (by rw [hr 39 (by decide) (by decide)]) (hr 40 (by decide) (by decide)) (hr 41 (by decide) (by decide)) (hr 42 (by decide) (by decide)) (hr 43 (by decide) (by decide)) (hr 44 (by decide) (by decide)) k.1, SV_c (by rw [hr 39 (by decide) (by decide)]) (hr 45 (by decide) (by decide)) (hr 46 (by decide) (by decide)) (hr 47 (by decide) (by decide)) k.2⟩
theorem cP_q {m m' : qM} (h : sQ m m') (h0 : m' 0 13 = m 0 13) (hr : m' 53 = m 53 ∧ m' 54 = m 54 ∧ m' 55 = m 55) (hc : cP m) : cP m' := cP_k h0 (by rw [hr.1]) hr.2.1 hr.2.2 h.1 h.2.2.2.2 hc
theorem srS_M {m M M' : qM} (k : ∀ i, 56 ≤ i → i ≤ 76 → M' i = M i) (h : srS m M) : srS m M' := by
  unfold srS at h ⊢
  obtain ⟨a, b, ⟨c1, c2, c3, c4⟩, d, e, f⟩ := h
  rw [k 56 (by decide) (by decide), k 75 (by decide) (by decide), k 76 (by decide) (by decide), k 74 (by decide) (by decide), k 68 (by decide) (by decide), k 71 (by decide) (by decide)]
  refine ⟨a, b, ⟨aS_k (fun i a b => k i (by omega) (by omega)) c1, uM_c c2 (by rw [k 56 (by decide) (by decide)]) (fun t _ => Iff.rfl), ?_, sgS_k (k 71 (by decide) (by decide)) c4⟩, d, e, ?_⟩
  · unfold dM at c3 ⊢
    rw [k 56 (by decide) (by decide), k 69 (by decide) (by decide), k 70 (by decide) (by decide), k 72 (by decide) (by decide), k 73 (by decide) (by decide)]
    exact c3
  · rcases f with f | ⟨f1, R, f2, f3⟩
    · exact Or.inl f
    · exact Or.inr ⟨f1, R, f2, KT_k ⟨k 57 (by decide) (by decide), k 58 (by decide) (by decide), k 68 (by decide) (by decide), k 71 (by decide) (by decide)⟩ f3⟩
theorem srS_q {m m' M : qM} (q : sQ m m') (h : srS m M) : srS m' M := by
  unfold srS at h ⊢
  rw [q.xRL, q.xDD, q.xnS, q.xcW, q.xnC, q.xsN]
  exact h
theorem cSr_q {m m' : qM} (h : sQ m m') (h0 : m' 0 14 = m 0 14) (hr : ∀ i, 56 ≤ i → i ≤ 76 → m' i = m i) (hc : cSr m) : cSr m' := by
  intro z
  have k := hc (h0 ▸ z)
  exact ⟨srS_q h (srS_M hr k.1), by rw [h.xDD]; exact k.2⟩
/-- all caches, and their flags -/
def iK (m : qM) : Prop := (cU m ∧ cG m ∧ cS m ∧ cP m ∧ cSr m) ∧ (m 0 10 = 0 ∨ m 0 10 = 1) ∧ (m 0 11 = 0 ∨ m 0 11 = 1) ∧ (m 0 12 = 0 ∨ m 0 12 = 1) ∧ (m 0 13 = 0 ∨ m 0 13 = 1) ∧ (m 0 14 = 0 ∨ m 0 14 = 1)
theorem iK_1 {m : qM} (h : m 0 10 = 1 ∧ m 0 11 = 1 ∧ m 0 12 = 1 ∧ m 0 13 = 1 ∧ m 0 14 = 1) : iK m := by
  obtain ⟨h1, h2, h3, h4, h5⟩ := h
  refine ⟨⟨fun z => ?_, fun z => ?_, fun z => ?_, fun z => ?_, fun z => ?_⟩, Or.inr h1, Or.inr h2, Or.inr h3, Or.inr h4, Or.inr h5⟩ <;> omega
theorem iK_q {m m' : qM} (h : sQ m m') (h0 : m' 0 = m 0) (hr : ∀ i, (25 ≤ i ∧ i ≤ 33) ∨ (39 ≤ i ∧ i ≤ 47) ∨ (53 ≤ i ∧ i ≤ 76) → m' i = m i) (hk : iK m) : iK m' := by
  obtain ⟨⟨a, b, c, d, e⟩, f⟩ := hk
  refine ⟨⟨cU_q h (by rw [h0]) ⟨hr 25 (by decide), hr 26 (by decide), hr 27 (by decide), hr 28 (by decide)⟩ a, cG_q h (by rw [h0]) ⟨hr 29 (by decide), hr 30 (by decide), hr 31 (by decide)⟩ b, cS_q h (by rw [h0]) (fun i h1 h2 => hr i (by omega)) c, cP_q h (by rw [h0]) ⟨hr 53 (by decide), hr 54 (by decide), hr 55 (by decide)⟩ d, cSr_q h (by rw [h0]) (fun i h1 h2 => hr i (by omega)) e⟩, ?_⟩
  rw [h0]
  exact f
/-- what the caches are worked out of and held in -/
def kQ : Nat → Nat → Bool := fun i j => decide (i = 0 ∨ (i = 1 ∧ (j = 8 ∨ j = 9)) ∨ (2 ≤ i ∧ i ≤ 20 ∧ ¬ (i = 12 ∧ j = 0)) ∨ (25 ≤ i ∧ i ≤ 33) ∨ (39 ≤ i ∧ i ≤ 47) ∨ (53 ≤ i ∧ i ≤ 76))
theorem kKq : ∀ i j, kKern i j = true → kQ i j = true := by
  intro i j h
  unfold kKern at h
  unfold kQ
  rw [decide_eq_true_eq] at h ⊢
  omega
theorem sQ.q {m m' : qM} (h : keep kQ m' = keep kQ m) : sQ m m' := by
  refine ⟨keep_of kKq h, ?_, ?_, ?_, ?_⟩
  · show nW (keep kQ m') = nW (keep kQ m)
    rw [h]
  · show nT (keep kQ m') = nT (keep kQ m)
    rw [h]
  · show nR (keep kQ m') = nR (keep kQ m)
    rw [h]
  · show nN (keep kQ m') = nN (keep kQ m)
    rw [h]
theorem iK_k {m m' : qM} (h : keep kQ m' = keep kQ m) (hk : iK m) : iK m' := by
  refine iK_q (sQ.q h) (keep_rw h (fun j => decide_eq_true (Or.inl rfl))) (fun i hi => keep_rw h (fun j => ?_)) hk
  unfold kQ
  rw [decide_eq_true_eq]
  omega
theorem kQo : ∀ i j, kQ i j = true → kObs i j = true := by
  intro i j h
  unfold kQ at h
  unfold kObs
  rw [decide_eq_true_eq] at h ⊢
  omega
theorem iK_o {m m' : qM} (h : keep kObs m' = keep kObs m) (hk : iK m) : iK m' := iK_k (keep_of kQo h) hk
theorem rK {K : Nat → Nat → Bool} {m m' : qM} (h : keep (kN K) m' = keep (kN K) m) {i : Nat} (hi : ∀ j, K i j = false) : m' i = m i := keep_rw h (fun j => by unfold kN; rw [hi j]; rfl)
theorem iK_G {m m' : qM} (h : fGr m m') (hk : iK m) : iK m' := by
  have q := sQ.core (fGr_core h)
  have r : ∀ i, (1 ≤ i ∧ i ≤ 28) ∨ 34 ≤ i → m' i = m i := fun i hi => rK h.1 (fun j => by unfold kG; rw [decide_eq_false]; omega)
  have f : ∀ j, ¬ j = 11 → m' 0 j = m 0 j := fun j hj => keep_at h.1 (by unfold kN kG; rw [decide_eq_false (by omega)]; rfl)
  obtain ⟨⟨a, b, c, d, e⟩, f0, f1, f2, f3, f4⟩ := hk
  refine ⟨⟨cU_q q (f 10 (by decide)) ⟨r 25 (by decide), r 26 (by decide), r 27 (by decide), r 28 (by decide)⟩ a, fun _ => ?_, cS_q q (f 12 (by decide)) (fun i h1 h2 => r i (by omega)) c, cP_q q (f 13 (by decide)) ⟨r 53 (by decide), r 54 (by decide), r 55 (by decide)⟩ d, cSr_q q (f 14 (by decide)) (fun i h1 h2 => r i (by omega)) e⟩, by rw [f 10 (by decide)]; exact f0, Or.inl h.2.1, by rw [f 12 (by decide)]; exact f2, by rw [f 13 (by decide)]; exact f3, by rw [f 14 (by decide)]; exact f4⟩
  rw [q.1, q.2.2.1]
  exact ⟨gdI_kern.mpr h.2.2.1, h.2.2.2⟩
theorem iK_U {m m' : qM} (h : fUs m m') (hk : iK m) : iK m' := by
  have q := sQ.core (fUs_core h)
  have r : ∀ i, (1 ≤ i ∧ i ≤ 24) ∨ 29 ≤ i → m' i = m i := fun i hi => rK h.1 (fun j => by unfold kU; rw [decide_eq_false]; omega)
  have f : ∀ j, ¬ j = 10 → m' 0 j = m 0 j := fun j hj => keep_at h.1 (by unfold kN kU; rw [decide_eq_false (by omega)]; rfl)
  obtain ⟨⟨a, b, c, d, e⟩, f0, f1, f2, f3, f4⟩ := hk
  refine ⟨⟨fun _ => ?_, cG_q q (f 11 (by decide)) ⟨r 29 (by decide), r 30 (by decide), r 31 (by decide)⟩ b, cS_q q (f 12 (by decide)) (fun i h1 h2 => r i (by omega)) c, cP_q q (f 13 (by decide)) ⟨r 53 (by decide), r 54 (by decide), r 55 (by decide)⟩ d, cSr_q q (f 14 (by decide)) (fun i h1 h2 => r i (by omega)) e⟩, Or.inl h.2.1, by rw [f 11 (by decide)]; exact f1, by rw [f 12 (by decide)]; exact f2, by rw [f 13 (by decide)]; exact f3, by rw [f 14 (by decide)]; exact f4⟩
  rw [q.1, q.2.1]
  exact uRep_kern.mpr h.2.2
theorem kCS : ∀ i j, kCore i j = true → kN kS i j = true := by
  intro i j h
  refine kN_t.mpr fun z => ?_
  unfold kCore at h
  unfold kS at z
  rw [decide_eq_true_eq] at h z
  omega
theorem fSm_core {m m' : qM} (h : fSm m m') : keep kCore m' = keep kCore m := keep_of kCS h.1
theorem iK_S {m m' : qM} (h : fSm m m') (hk : iK m) : iK m' := by
  have q := sQ.core (fSm_core h)
  have r : ∀ i, (1 ≤ i ∧ i ≤ 38) ∨ 49 ≤ i → m' i = m i := fun i hi => rK h.1 (fun j => by unfold kS; rw [decide_eq_false]; omega)
  have f : ∀ j, ¬ j = 12 → m' 0 j = m 0 j := fun j hj => keep_at h.1 (by unfold kN kS; rw [decide_eq_false (by omega)]; rfl)
  obtain ⟨⟨a, b, c, d, e⟩, f0, f1, f2, f3, f4⟩ := hk
  refine ⟨⟨cU_q q (f 10 (by decide)) ⟨r 25 (by decide), r 26 (by decide), r 27 (by decide), r 28 (by decide)⟩ a, cG_q q (f 11 (by decide)) ⟨r 29 (by decide), r 30 (by decide), r 31 (by decide)⟩ b, fun _ => ?_, cP_q q (f 13 (by decide)) ⟨r 53 (by decide), r 54 (by decide), r 55 (by decide)⟩ d, cSr_q q (f 14 (by decide)) (fun i h1 h2 => r i (by omega)) e⟩, by rw [f 10 (by decide)]; exact f0, by rw [f 11 (by decide)]; exact f1, Or.inl h.2.1, by rw [f 13 (by decide)]; exact f3, by rw [f 14 (by decide)]; exact f4⟩
  rw [q.1, q.2.2.2.1]
  exact ⟨CI_r (m := m) (m' := keep kKern m) rfl h.2.2.1, SV_r (m := m) (m' := keep kKern m) rfl h.2.2.2⟩
theorem iK_P {m m' : qM} (h : fSp m m') (hk : iK m) : iK m' := by
  have q := sQ.core (fSp_core h)
  have r : ∀ i, (1 ≤ i ∧ i ≤ 52) ∨ 56 ≤ i → m' i = m i := fun i hi => rK h.1 (fun j => by unfold kP; rw [decide_eq_false]; omega)
  have f : ∀ j, ¬ j = 13 → m' 0 j = m 0 j := fun j hj => keep_at h.1 (by unfold kN kP; rw [decide_eq_false (by omega)]; rfl)
  obtain ⟨⟨a, b, c, d, e⟩, f0, f1, f2, f3, f4⟩ := hk
  refine ⟨⟨cU_q q (f 10 (by decide)) ⟨r 25 (by decide), r 26 (by decide), r 27 (by decide), r 28 (by decide)⟩ a, cG_q q (f 11 (by decide)) ⟨r 29 (by decide), r 30 (by decide), r 31 (by decide)⟩ b, cS_q q (f 12 (by decide)) (fun i h1 h2 => r i (by omega)) c, fun _ => ?_, cSr_q q (f 14 (by decide)) (fun i h1 h2 => r i (by omega)) e⟩, by rw [f 10 (by decide)]; exact f0, by rw [f 11 (by decide)]; exact f1, by rw [f 12 (by decide)]; exact f2, Or.inl h.2.1, by rw [f 14 (by decide)]; exact f4⟩
  rw [q.1, q.2.2.2.2]
  exact ⟨h.2.2.1, fun a a0 a1 => SP_c (m := m) (m' := keep kKern m) rfl rfl rfl rfl (h.2.2.2 a a0 a1)⟩
theorem iK_R {m M : qM} (h : fSr m M) (hk : iK m) : iK M := by
  have qM_ := sQ.core (fSr_core h)
  obtain ⟨h14, ⟨hs, hd⟩, mG, mP, hG, hP, hkp⟩ := h
  have k1 : iK mG := by rcases hG with rfl | hG; exact hk; exact iK_G hG hk
  have k2 : iK mP := by rcases hP with rfl | hP; exact k1; exact iK_P hP k1
  have cP0 : keep kCore M = keep kCore mP := keep_of (fun i j z => kN_t.mpr fun y => by
    unfold kCore at z
    unfold kSr at y
    rw [decide_eq_true_eq] at z y
    omega) hkp
  have q := sQ.core cP0
  have r : ∀ i, (1 ≤ i ∧ i ≤ 55) ∨ 77 ≤ i → M i = mP i := fun i hi => rK hkp (fun j => by unfold kSr; rw [decide_eq_false]; omega)
  have f : ∀ j, ¬ j = 14 → M 0 j = mP 0 j := fun j hj => keep_at hkp (by unfold kN kSr; rw [decide_eq_false (by omega)]; rfl)
  obtain ⟨⟨a, b, c, d, e⟩, f0, f1, f2, f3, f4⟩ := k2
  exact ⟨⟨cU_q q (f 10 (by decide)) ⟨r 25 (by decide), r 26 (by decide), r 27 (by decide), r 28 (by decide)⟩ a, cG_q q (f 11 (by decide)) ⟨r 29 (by decide), r 30 (by decide), r 31 (by decide)⟩ b, cS_q q (f 12 (by decide)) (fun i h1 h2 => r i (by omega)) c, cP_q q (f 13 (by decide)) ⟨r 53 (by decide), r 54 (by decide), r 55 (by decide)⟩ d, fun _ => ⟨srS_q qM_ hs, by rw [qM_.xDD]; exact hd⟩⟩, by rw [f 10 (by decide)]; exact f0, by rw [f 11 (by decide)]; exact f1, by rw [f 12 (by decide)]; exact f2, by rw [f 13 (by decide)]; exact f3, Or.inl h14⟩
/-! what is told -/
def n99 (m : qM) : Prop := ∀ a : Int, 0 ≤ a → a < 10 → 0 ≤ m 99 a.toNat ∧ m 99 a.toNat ≤ 1000
def iT (c : Int) (m : qM) : Prop := (rC m ∧ rL m) ∧ (rXn m ∧ rXl m ∧ rTp m) ∧ m 12 1 ≤ c ∧ n99 m
theorem iT_sT {c : Int} {m m2 : qM} (hc : sTc m m2) (hm : sTm m m2) (h : iT c m) : iT c m2 := by
  obtain ⟨⟨h1, h2⟩, ⟨h3, h4, h5⟩, h6, h7⟩ := h
  refine ⟨⟨sT_rC hc hm h1, sT_rL hc hm h1.1.2.1.1 h2⟩, ⟨sT_rXn hc hm h3, sT_rXl hc hm h4, sT_rTp hc hm h5⟩, ?_, fun a a0 a1 => ?_⟩
  · rw [hc.2.2.2.2.1.2.1]; exact h6
  · rw [hm.2.2.2.2.1.2.2.2.1.i a0 a1]; exact h7 a a0 a1
theorem rL_core {m m' : qM} (h : keep kCore m' = keep kCore m) (hL : rL m) : rL m' := by
  have h2 : rL (keep kCore m) := hL
  rw [← h] at h2
  exact h2
theorem rTp_core {m m' : qM} (h : keep kCore m' = keep kCore m) (hL : rTp m) : rTp m' := by
  have h2 : rTp (keep kCore m) := hL
  rw [← h] at h2
  exact h2
theorem iT_core {c : Int} {m m' : qM} (h : keep kCore m' = keep kCore m) (hT : iT c m) : iT c m' := by
  obtain ⟨⟨h1, h2⟩, ⟨h3, h4, h5⟩, h6, h7⟩ := hT
  refine ⟨⟨rC_core h h1, rL_core h h2⟩, ⟨rXn_core h h3, rXl_core h h4, rTp_core h h5⟩, ?_, fun a a0 a1 => ?_⟩
  · rw [keep_at h (i := 12) (j := 1) rfl]; exact h6
  · rw [keep_at h (i := 99) (j := a.toNat) rfl]; exact h7 a a0 a1
theorem iT_le {c d : Int} {m : qM} (h : iT c m) (hd : c ≤ d) : iT d m := ⟨h.1, h.2.1, Int.le_trans h.2.2.1 hd, h.2.2.2⟩
/-! the images -/
/-- how many cells of a model's row belong to one slot -/
def nrS (i : Nat) : Nat := if i = 78 then 400 else if i = 87 then 300 else if 88 ≤ i ∧ i ≤ 91 then 60 else if 93 ≤ i ∧ i ≤ 95 then 150 else if i = 97 then 10 else if i = 98 then 300 else if i = 99 then 10 else if i = 100 then 50000 else if i = 102 ∨ i = 103 then 5 else if i = 104 then 50 else if i = 106 then 64 else 1
/-- what an image holds, as a told: the class's at b .. b + 20, the model's slot s -/
def prj (b s : Nat) (m : qM) : qM := fun i j => if 1 ≤ i ∧ i ≤ 21 then m (b - 1 + i) j else if (78 ≤ i ∧ i ≤ 106) ∧ j < nrS i then m i (nrS i * s + j) else 0
theorem prj_m {b s i j : Nat} {m : qM} (h1 : 78 ≤ i ∧ i ≤ 106) (h2 : j < nrS i) : prj b s m i j = m i (nrS i * s + j) := by
  unfold prj
  rw [if_neg (by omega), if_pos ⟨h1, h2⟩]
theorem prj_c {b s i : Nat} {m : qM} (h : 1 ≤ i ∧ i ≤ 21) : prj b s m i = m (b - 1 + i) := by
  funext j
  unfold prj
  rw [if_pos h]
theorem prj_eq {b s : Nat} {m m2 : qM} (hc : ∀ i, 1 ≤ i → i ≤ 21 → m2 (b - 1 + i) = m (b - 1 + i)) (hm : ∀ i j, 78 ≤ i → i ≤ 106 → j < nrS i → m2 i (nrS i * s + j) = m i (nrS i * s + j)) : prj b s m2 = prj b s m := by
  funext i j
  unfold prj
  by_cases h : 1 ≤ i ∧ i ≤ 21
  · rw [if_pos h, if_pos h, hc i h.1 h.2]
  · rw [if_neg h, if_neg h]
    by_cases g : (78 ≤ i ∧ i ≤ 106) ∧ j < nrS i
    · rw [if_pos g, if_pos g, hm i j g.1.1 g.1.2 g.2]
    · rw [if_neg g, if_neg g]
/-- what the images stand in -/
def kIm : Nat → Nat → Bool := fun i j => decide (124 ≤ i ∨ ((78 ≤ i ∧ i ≤ 106) ∧ nrS i ≤ j))
theorem prj_k {b s : Nat} {m m2 : qM} (h : keep kIm m2 = keep kIm m) (hb : 125 ≤ b) (hs : 1 ≤ s) : prj b s m2 = prj b s m := by
  refine prj_eq (fun i i1 i2 => keep_rw h (fun j => ?_)) (fun i j i1 i2 hj => keep_at h ?_)
  · unfold kIm
    rw [decide_eq_true_eq]
    omega
  · unfold kIm
    rw [decide_eq_true_eq]
    refine Or.inr ⟨⟨i1, i2⟩, ?_⟩
    have : nrS i * 1 ≤ nrS i * s := Nat.mul_le_mul_left _ hs
    omega
abbrev qO : Type := Option Nat × Option Nat × Option Nat
abbrev oL (o : qO) : List (Option Nat) := [o.1, o.2.1, o.2.2]
def tlN (n : Nat) : List qS := if n = 0 then [] else if n = 1 then im125 ++ [] else if n = 2 then im125 ++ (im146 ++ []) else im125 ++ (im146 ++ (im167 ++ []))
/-- image k -/
def iO (c : Int) (m : qM) (k : Nat) (o : Option Nat) : Prop := (o = none ∧ m 124 k = 0) ∨ (∃ b, o = some b ∧ m 124 k = 1 ∧ iT c (prj b (k + 1) m))
/-- n images are made; which, where -/
def oOk (n : Nat) (o : qO) : Prop := (∀ k : Nat, k < 3 → (oL o).getD k none = none ∨ ∃ i : Nat, i < n ∧ (oL o).getD k none = some (125 + 21 * i)) ∧ (∀ k k' : Nat, k < 3 → k' < 3 → ¬ k = k' → (oL o).getD k none = none ∨ ¬ (oL o).getD k none = (oL o).getD k' none) ∧ n + q_cnt (fun k => (oL o).getD k none = none) 3 = 3
def iI (c : Int) (u : qU) (m : qM) : Prop := ∃ (o : qO) (n : Nat), u = (o, tlN n) ∧ oOk n o ∧ ∀ k : Nat, k < 3 → iO c m k ((oL o).getD k none)
theorem oOk.b {n : Nat} {o : qO} (h : oOk n o) {k b : Nat} (hk : k < 3) (he : (oL o).getD k none = some b) : n ≤ 3 ∧ ∃ i : Nat, i < n ∧ b = 125 + 21 * i := by
  refine ⟨by have := h.2.2; omega, ?_⟩
  rcases h.1 k hk with z | ⟨i, hi, z⟩
  · rw [he] at z; cases z
  · rw [he] at z; exact ⟨i, hi, Option.some.inj z⟩
theorem iI_k {c d : Int} {u : qU} {m m' : qM} (h : keep kIm m' = keep kIm m) (hd : c ≤ d) (hi : iI c u m) : iI d u m' := by
  obtain ⟨o, n, rfl, hO, hI⟩ := hi
  refine ⟨o, n, rfl, hO, fun k hk => ?_⟩
  have e : m' 124 k = m 124 k := keep_at h (by unfold kIm; rw [decide_eq_true_eq]; exact Or.inl (by omega))
  rcases hI k hk with ⟨z1, z2⟩ | ⟨b, z1, z2, z3⟩
  · exact Or.inl ⟨z1, e.trans z2⟩
  · obtain ⟨-, i, -, rfl⟩ := hO.b hk z1
    refine Or.inr ⟨_, z1, e.trans z2, ?_⟩
    rw [prj_k h (by omega) (by omega)]
    exact iT_le z3 hd
/-- the invariant of all, behind c calls -/
def iA (c : Int) (u : qU) (m : qM) : Prop := iT c m ∧ iK m ∧ iI c u m
theorem kImO : ∀ i j, kIm i j = true → kObs i j = true := by
  intro i j h
  unfold kIm at h
  unfold kObs
  rw [decide_eq_true_eq] at h ⊢
  omega
theorem kCoO : ∀ i j, kCore i j = true → kObs i j = true := by
  intro i j h
  unfold kCore at h
  unfold kObs
  rw [decide_eq_true_eq] at h ⊢
  omega
theorem kImC : ∀ i j, kIm i j = true → kCore i j = true := by
  intro i j h
  unfold kIm at h
  unfold kCore
  rw [decide_eq_true_eq] at h ⊢
  omega
/-- the model reads -/
theorem iA_o {c : Int} {u : qU} {m m' : qM} (h : keep kObs m' = keep kObs m) (hA : iA c u m) : iA (c + 1) u m' := ⟨iT_le (iT_core (keep_of kCoO h) hA.1) (by omega), iK_o h hA.2.1, iI_k (keep_of kImO h) (by omega) hA.2.2⟩
/-- the class reads: the core stays, the caches hold -/
theorem iA_c {c : Int} {u : qU} {m m' : qM} (h : keep kCore m' = keep kCore m) (hk : iK m') (hA : iA c u m) : iA c u m' := ⟨iT_core h hA.1, hk, iI_k (keep_of kImC h) (Int.le_refl c) hA.2.2⟩

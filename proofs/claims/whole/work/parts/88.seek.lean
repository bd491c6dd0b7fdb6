/-! printed by p88.py: the class seeks a reading -/
def kSk : Nat → Nat → Bool := fun i j => decide ((57 ≤ i ∧ i ≤ 58) ∨ (60 ≤ i ∧ i ≤ 65) ∨ i = 75 ∨ i = 76 ∨ (i = 56 ∧ (j = 15 ∨ j = 19)))
theorem kSkL : ∀ i j, kN kSk i j = true → kN kLf i j = true := by
  intro i j h
  refine kN_t.mpr fun z => kN_t.mp h ?_
  unfold kLf at z
  unfold kSk
  rw [decide_eq_true_eq] at z ⊢
  omega
theorem kSkK : ∀ i j, kN kSk i j = true → kN kKp i j = true := by
  intro i j h
  refine kN_t.mpr fun z => kN_t.mp h ?_
  unfold kKp at z
  unfold kSk
  rw [decide_eq_true_eq] at z ⊢
  omega
theorem kDS : ∀ i j, kDm i j = true → kN kSk i j = true := by
  intro i j h
  refine kN_t.mpr fun z => ?_
  unfold kDm at h
  unfold kSk at z
  rw [decide_eq_true_eq] at h z
  omega
theorem sgS_k {D : qD} {M M' : qM} (h : M' 71 = M 71) (hs : sgS D M) : sgS D M' := by unfold sgS at hs ⊢; rw [h]; exact hs
theorem KT_k {D : qD} {l : Nat} {R : Nat → Int} {M M' : qM} (h : M' 57 = M 57 ∧ M' 58 = M 58 ∧ M' 68 = M 68 ∧ M' 71 = M 71) (hk : KT D l R M) : KT D l R M' := by
  unfold KT at hk ⊢
  rw [h.1, h.2.1, h.2.2.1, h.2.2.2]
  exact hk
def s75 (m m' : qM) : Prop := ∀ t : Nat, t < 20 → m' 75 t = m 75 t ∧ m' 76 t = m 76 t
theorem lf_0 {D : qD} {i b : Nat} {g : Nat → Int} {m : qM} {k : Int} {G : Nat → Int} {M : qM} (h : lfS D i b 0 g m k G M) : s75 m M := by
  intro t ht
  by_cases p : pb b t ∧ hitW D i k t
  · have a := (h t ht).1 p
    rw [a.2.1, a.2.2]
    exact ⟨by unfold nV; rw [if_pos rfl], by omega⟩
  · exact ((h t ht).2 p).2
theorem lf_G {D : qD} {l i b : Nat} {be : Int} {ch : Nat → Int} {m M : qM} {G : Nat → Int} (hD : dOk D) (hi : (i : Int) < dK D) (hp : ftL D (q_fu ch l (i : Int)) l) (hb : ∀ t : Nat, t < 20 → (pb b t ↔ (VM D ch l t = -1 ∧ ¬ VM D (q_fu ch l (i : Int)) (l + 1) t = -1))) (h9 : lfS D i b be (VM D (q_fu ch l (i : Int)) (l + 1)) m (dL D i) G M) : ∀ t : Nat, t < 20 → G t = VM D ch l t := by
  have f1 := ftL_fu.mp hp
  have dwl : dL D i = dW D l := f1.2.1
  intro t ht
  by_cases z : VM D ch l t = -1
  · by_cases c : VM D (q_fu ch l (i : Int)) (l + 1) t = -1
    · rw [((h9 t ht).2 (fun p => ((hb t ht).mp p.1).2 c)).1, c, z]
    · have p := (hb t ht).mpr ⟨z, c⟩
      have q := c
      rw [VM_fu] at q
      obtain ⟨x, x1, x2, x3⟩ := vP_hit (D := D) (j := i) (i := l) (f := VM D ch l) (t := t) _ (fun y => q (y.trans z))
      have xr := (hD.2.1 i hi).2 x (by omega)
      rw [((h9 t ht).1 ⟨p, x, by omega, by omega⟩).1, z]
  · rw [((h9 t ht).2 (fun p => z ((hb t ht).mp p.1).1)).1, VM_fu]
    exact vP_keep (fun a ha => f1.2.2.1 a (by omega)) z

set_option maxRecDepth 100000 in
theorem c_seek0 (u : qU) (m y : qM) (D : qD) (ch : Nat → Int) (l q : Nat) (z : Int) (hD : dOk D) (hM : dM D m) (hz : z = (l : Int)) (hl : (l : Int) + 0 = dN D) (hA : aS D (VM D ch l) m) (hU : uM m (uQ ch l)) (hsg : sgS D m) (h7 : ∀ t : Nat, t < 20 → -2 ≤ m 75 t ∧ m 75 t ≤ 27) (hq : m 56 19 = (q : Int) ∧ (q : Int) ≤ 1000000) : qCt YX6_seek 1 0 0 [qR 56, qI z] (qLy u, m, y) (fun r h => ∃ (zz : Int) (m' : qM), r = some (qI zz) ∧ h = (qLy u, m', y) ∧ keep (kN kSk) m' = keep (kN kSk) m ∧ aS D (VM D ch l) m' ∧ uM m' (uQ ch l) ∧ s75 m m' ∧ ((zz = 0 ∧ (LV D 0 l ch).length ≤ q ∧ m' 56 19 = (q : Int) - ((LV D 0 l ch).length : Nat)) ∨ (zz = 1 ∧ ∃ R, (LV D 0 l ch)[q]? = some R ∧ True))) := by
  refine qCt.intro okX6_seek (Nat.le_of_ble_eq_true rfl) (fun κ hκ => ?_)
  have k0 := hM.1
  have kb := hD.1
  have q1 := hq.1
  have q2 := hq.2
  show qJ YX6_seek κ _ (qLy u, m, y) 0 0 0 [some (qR 56), some (qI z), none, none, none, none] []
  refine qJ.run hκ 3 (pc' := 5) (ls' := [some (qR 56), some (qI z), none, none, none, none]) (st' := [qI (m 56 14), qI z]) rfl ?_
  refine qJ.icmp_lt hκ (tgt := 31) rfl rfl (by omega) (by omega) (fun c5 => ?_) (fun c5 => ?_)
  · show qJ YX6_seek κ _ (qLy u, m, y) 0 0 31 [some (qR 56), some (qI z), none, none, none, none] []
    exfalso; omega
  · show qJ YX6_seek κ _ (qLy u, m, y) 0 0 8 [some (qR 56), some (qI z), none, none, none, none] []
    refine qJ.run hκ 5 (pc' := 15) (ls' := [some (qR 56), some (qI z), none, none, none, none]) (st' := [qI ((m 56 19) - 1), qR 56]) rfl ?_
    refine qJ.putI hκ rfl rfl rfl rfl (Or.inl rfl) ?_
    show qJ YX6_seek κ _ (qLy u, (q_up m 56 19 ((m 56 19) - 1)), y) 0 0 18 [some (qR 56), some (qI z), none, none, none, none] []
    refine qJ.run hκ 2 (pc' := 22) (ls' := [some (qR 56), some (qI z), none, none, none, none]) (st' := [qI ((m 56 19) - 1)]) rfl ?_
    refine qJ.if_ge hκ (tgt := 29) rfl rfl (by omega) (fun c22 => ?_) (fun c22 => ?_)
    · show qJ YX6_seek κ _ (qLy u, (q_up m 56 19 ((m 56 19) - 1)), y) 0 0 29 [some (qR 56), some (qI z), none, none, none, none] []
      refine qJ.run hκ 1 (pc' := 30) (ls' := [some (qR 56), some (qI z), none, none, none, none]) (st' := [qI 0]) rfl ?_
      exact qJ.bret hκ rfl rfl (by omega) (by decide) (by decide) (by
      refine ⟨_, _, rfl, rfl, keep_up (by rfl), aS_k (fun i a b => q_up_rw (by omega)) hA, uM_c hU rfl (fun t _ => Iff.rfl), fun t ht => ⟨rfl, rfl⟩, ?_⟩
      exact Or.inl ⟨rfl, by show 1 ≤ q; omega, by show m 56 19 - 1 = _; rw [q1]; rfl⟩)
    · show qJ YX6_seek κ _ (qLy u, (q_up m 56 19 ((m 56 19) - 1)), y) 0 0 25 [some (qR 56), some (qI z), none, none, none, none] []
      refine qJ.run hκ 2 (pc' := 30) (ls' := [some (qR 56), some (qI z), none, none, none, none]) (st' := [qI 1]) rfl ?_
      exact qJ.bret hκ rfl rfl (by omega) (by decide) (by decide) (by
      refine ⟨_, _, rfl, rfl, keep_up (by rfl), aS_k (fun i a b => q_up_rw (by omega)) hA, uM_c hU rfl (fun t _ => Iff.rfl), fun t ht => ⟨rfl, rfl⟩, ?_⟩
      exact Or.inr ⟨rfl, ch, by rw [show q = 0 by omega]; rfl, trivial⟩)

theorem kDK : ∀ i j, kDm i j = true → kN kKp i j = true := by
  intro i j h
  refine kN_t.mpr fun z => ?_
  unfold kDm at h
  unfold kKp at z
  rw [decide_eq_true_eq] at h z
  omega

set_option maxRecDepth 100000 in
theorem c_seek1 (u : qU) (m y : qM) (D : qD) (ch : Nat → Int) (l q : Nat) (z : Int) (hD : dOk D) (hM : dM D m) (hz : z = (l : Int)) (hl : (l : Int) + 1 = dN D) (hA : aS D (VM D ch l) m) (hU : uM m (uQ ch l)) (hsg : sgS D m) (h7 : ∀ t : Nat, t < 20 → -2 ≤ m 75 t ∧ m 75 t ≤ 27) (hq : m 56 19 = (q : Int) ∧ (q : Int) ≤ 1000000) (hH : l = 0 → ∀ i : Nat, (i : Int) < dK D → m 74 i = ((ftI D (LV D 0 (l + 1)) l (q_fu ch l (i : Int))).length : Nat)) : qCt YX6_seek 4 0 0 [qR 56, qI z] (qLy u, m, y) (fun r h => ∃ (zz : Int) (m' : qM), r = some (qI zz) ∧ h = (qLy u, m', y) ∧ keep (kN kSk) m' = keep (kN kSk) m ∧ aS D (VM D ch l) m' ∧ uM m' (uQ ch l) ∧ s75 m m' ∧ ((zz = 0 ∧ (LV D 1 l ch).length ≤ q ∧ m' 56 19 = (q : Int) - ((LV D 1 l ch).length : Nat)) ∨ (zz = 1 ∧ ∃ R, (LV D 1 l ch)[q]? = some R ∧ KT D l R m'))) := by
  refine qCt.intro okX6_seek (Nat.le_of_ble_eq_true rfl) (fun κ hκ => ?_)
  have k0 := hM.1
  have kb := hD.1
  have zt : z.toNat = l := by omega
  have q2 := hq.2
  have L33 : ∀ (n : Nat) (i : Int) (p : Nat) (M6 : qM), (0 ≤ i ∧ i ≤ dK D) → (M6 56 19 = (p : Int) ∧ (p : Int) ≤ 1000000) → (keep (kN kSk) M6 = keep (kN kSk) m) → (aS D (VM D ch l) M6) → (uM M6 (uQ ch l)) → (s75 m M6) → ((((lvF D (LV D 0 (l + 1)) l ch i.toNat).length : Nat) : Int) + (p : Int) = (q : Int)) → ((dK D - i).toNat) < n → qJ YX6_seek κ (qFin (fun r h => ∃ (zz : Int) (m' : qM), r = some (qI zz) ∧ h = (qLy u, m', y) ∧ keep (kN kSk) m' = keep (kN kSk) m ∧ aS D (VM D ch l) m' ∧ uM m' (uQ ch l) ∧ s75 m m' ∧ ((zz = 0 ∧ (LV D 1 l ch).length ≤ q ∧ m' 56 19 = (q : Int) - ((LV D 1 l ch).length : Nat)) ∨ (zz = 1 ∧ ∃ R, (LV D 1 l ch)[q]? = some R ∧ KT D l R m'))) 0 0 κ) (qLy u, M6, y) 0 0 33 [some (qR 56), some (qI z), some (qI i), none, none, none] [] := by
    intro n
    induction n with
    | zero => intro i p M6 _ _ _ _ _ _ _ hz0; omega
    | succ n ih33 =>
      intro i p M6 v33_0 v33_1 v33_2 v33_3 v33_4 v33_5 v33_6 v33_m
      have k10 : M6 56 10 = dK D := (congrFun (congrFun v33_2 56) 10).trans k0.1
      have hM6 := dM_k (keep_of kDS v33_2) hM
      have pq := v33_1
      have S6 : ∀ t : Nat, t < 20 → -2 ≤ M6 75 t ∧ M6 75 t ≤ 27 := fun t ht => by rw [(v33_5 t ht).1]; exact h7 t ht
      have it1 : (i + 1).toNat = i.toNat + 1 := by omega
      refine qJ.run hκ 3 (pc' := 38) (ls' := [some (qR 56), some (qI z), some (qI i), none, none, none]) (st' := [qI (M6 56 10), qI i]) rfl ?_
      refine qJ.icmp_ge hκ (tgt := 136) rfl rfl (by omega) (by omega) (fun c38 => ?_) (fun c38 => ?_)
      · show qJ YX6_seek κ _ (qLy u, M6, y) 0 0 136 [some (qR 56), some (qI z), some (qI i), none, none, none] []
        refine qJ.run hκ 1 (pc' := 137) (ls' := [some (qR 56), some (qI z), some (qI i), none, none, none]) (st' := [qI 0]) rfl ?_
        exact qJ.bret hκ rfl rfl (by omega) (by decide) (by decide) (by
      rw [show i.toNat = (dK D).toNat by omega] at v33_6
      have v6 : (((LV D 1 l ch).length : Nat) : Int) + (p : Int) = (q : Int) := v33_6
      exact ⟨0, M6, rfl, rfl, v33_2, v33_3, v33_4, v33_5, Or.inl ⟨rfl, by omega, by omega⟩⟩)
      · show qJ YX6_seek κ _ (qLy u, M6, y) 0 0 41 [some (qR 56), some (qI z), some (qI i), none, none, none] []
        refine qJ.run hκ 7 (pc' := 51) (ls' := [some (qR 56), some (qI z), some (qI i), none, none, none]) (st' := [qI ((z * 12) + i), qR 74]) rfl ?_
        refine qJ.ald hκ rfl rfl rfl (by decide) (by omega) ?_
        show qJ YX6_seek κ _ (qLy u, M6, y) 0 0 52 [some (qR 56), some (qI z), some (qI i), none, none, none] [qI (M6 74 (((z * 12) + i).toNat))]
        refine qJ.run hκ 2 (pc' := 54) (ls' := [some (qR 56), some (qI z), some (qI i), some (qI (M6 74 (((z * 12) + i).toNat))), none, none]) (st' := [qI z]) rfl ?_
        refine qJ.if_ne hκ (tgt := 78) rfl rfl (by omega) (fun c54 => ?_) (fun c54 => ?_)
        · show qJ YX6_seek κ _ (qLy u, M6, y) 0 0 78 [some (qR 56), some (qI z), some (qI i), some (qI (M6 74 (((z * 12) + i).toNat))), none, none] []
          refine qJ.run hκ 3 (pc' := 81) (ls' := [some (qR 56), some (qI z), some (qI i), some (qI (M6 74 (((z * 12) + i).toNat))), none, none]) (st' := [qI i, qI z, qR 56]) rfl ?_
          refine qJ.callV (As := [qI z, qI i]) (rest := []) hκ rfl kX6_131 (c_place u M6 y D (VM D ch l) (uQ ch l) z i hD (dM_k (keep_of kDS v33_2) hM) v33_3 v33_4 (by omega) (by omega) S6) rfl rfl (by decide) rfl rfl (Nat.le_of_ble_eq_true rfl) (Nat.le_of_ble_eq_true rfl) (Nat.le_of_ble_eq_true rfl) (Or.inl (fun r h' e => by obtain ⟨z81, m7, rfl, rfl, K7, R7, H7⟩ := e; rfl)) (fun r h' e => ?_)
          obtain ⟨z81, m7, rfl, rfl, K7, R7, H7⟩ := e
          rw [zt] at H7
          show qJ YX6_seek κ _ (qLy u, m7, y) 0 0 84 [some (qR 56), some (qI z), some (qI i), some (qI (M6 74 (((z * 12) + i).toNat))), none, none] [qI z81]
          have zr : -1 ≤ z81 ∧ z81 < 1048576 := by rcases H7 with q | ⟨b, q⟩; (omega); (have := q.1; have := q.2.1; omega)
          refine qJ.run hκ 3 (pc' := 89) (ls' := [some (qR 56), some (qI z), some (qI i), some (qI (M6 74 (((z * 12) + i).toNat))), some (qI z81), none]) (st' := [qI (-1), qI z81]) rfl ?_
          refine qJ.icmp_ne hκ (tgt := 95) rfl rfl (by omega) (by omega) (fun c89 => ?_) (fun c89 => ?_)
          · show qJ YX6_seek κ _ (qLy u, m7, y) 0 0 95 [some (qR 56), some (qI z), some (qI i), some (qI (M6 74 (((z * 12) + i).toNat))), some (qI z81), none] []
            have Z7 : ∃ b : Nat, z81 = (b : Int) ∧ b < 1048576 ∧ (¬ uQ ch l i.toNat ∧ fitW D i.toNat l (VM D ch l)) ∧ aS D (vP D i.toNat l (VM D ch l) (dL D i.toNat).toNat) m7 ∧ uM m7 (fun t => uQ ch l t ∨ t = i.toNat) ∧ ∀ t : Nat, t < 20 → (pb b t ↔ (VM D ch l t = -1 ∧ ¬ vP D i.toNat l (VM D ch l) (dL D i.toNat).toNat t = -1)) := by rcases H7 with q | q; (exact absurd q.1 c89); (exact q)
            clear H7
            obtain ⟨b, e81, b20, F7, A70, U70, PB0⟩ := Z7
            have FT : ftL D (q_fu ch l (i.toNat : Int)) l := ftL_fu.mpr F7
            have ve : VM D (q_fu ch l (i.toNat : Int)) (l + 1) = vP D i.toNat l (VM D ch l) (dL D i.toNat).toNat := by rw [VM_fu, F7.2.1]
            have A7 : aS D (VM D (q_fu ch l (i.toNat : Int)) (l + 1)) m7 := by rw [ve]; exact A70
            have U7 : uM m7 (uQ (q_fu ch l (i.toNat : Int)) (l + 1)) := uM_c U70 rfl (fun t _ => uQ_s)
            have PB : ∀ t : Nat, t < 20 → (pb b t ↔ (VM D ch l t = -1 ∧ ¬ VM D (q_fu ch l (i.toNat : Int)) (l + 1) t = -1)) := by rw [ve]; exact PB0
            have S7 : ∀ t : Nat, t < 20 → -2 ≤ m7 75 t ∧ m7 75 t ≤ 27 := fun t ht => by rw [(R7 t ht).1]; exact S6 t ht
            have UU : ∀ t : Nat, t < 12 → ((uQ (q_fu ch l (i.toNat : Int)) (l + 1) t ∧ ¬ t = i.toNat) ↔ uQ ch l t) := fun t _ => ⟨fun q => (uQ_s.mpr q.1).elim id (fun e => absurd e q.2), fun q => ⟨uQ_s.mp (Or.inl q), fun e => F7.1 (by rw [← e]; exact q)⟩⟩
            have NX : lvF D (LV D 0 (l + 1)) l ch (i + 1).toNat = lvF D (LV D 0 (l + 1)) l ch i.toNat ++ ftI D (LV D 0 (l + 1)) l (q_fu ch l (i.toNat : Int)) := by rw [it1]; rfl
            refine qJ.run hκ 4 (pc' := 99) (ls' := [some (qR 56), some (qI z), some (qI i), some (qI (M6 74 (((z * 12) + i).toNat))), some (qI z81), none]) (st' := [qI (z + 1), qR 56]) rfl ?_
            refine qJ.callV (As := [qI (z + 1)]) (rest := []) hκ rfl kX6_138 (c_seek0 u m7 y D (q_fu ch l (i.toNat : Int)) (l + 1) p (z + 1) hD (dM_k (keep_of kDL K7) hM6) (by omega) (by omega) A7 U7 (sgS_k ((congrFun K7 71).trans (congrFun v33_2 71)) hsg) S7 ⟨(congrFun (congrFun K7 56) 19).trans v33_1.1, by omega⟩) rfl rfl (by decide) rfl rfl (Nat.le_of_ble_eq_true rfl) (Nat.le_of_ble_eq_true rfl) (Nat.le_of_ble_eq_true rfl) (Or.inl (fun r h' e => by obtain ⟨z99, m8, rfl, rfl, K8, A8, U8, R8, H8⟩ := e; rfl)) (fun r h' e => ?_)
            obtain ⟨z99, m8, rfl, rfl, K8, A8, U8, R8, H8⟩ := e
            show qJ YX6_seek κ _ (qLy u, m8, y) 0 0 102 [some (qR 56), some (qI z), some (qI i), some (qI (M6 74 (((z * 12) + i).toNat))), some (qI z81), none] [qI z99]
            have zr9 : z99 = 0 ∨ z99 = 1 := by rcases H8 with q | q; (left; exact q.1); (right; exact q.1)
            have S8 : ∀ t : Nat, t < 20 → -2 ≤ m8 75 t ∧ m8 75 t ≤ 27 := fun t ht => by rw [(R8 t ht).1]; exact S7 t ht
            have D8 : dM D m8 := dM_k ((keep_of kDS K8).trans (keep_of kDL K7)) hM6
            have k8 := D8.1
            have sg8 : sgS D m8 := sgS_k ((congrFun K8 71).trans ((congrFun K7 71).trans (congrFun v33_2 71))) hsg
            refine qJ.run hκ 2 (pc' := 106) (ls' := [some (qR 56), some (qI z), some (qI i), some (qI (M6 74 (((z * 12) + i).toNat))), some (qI z81), some (qI z99)]) (st' := [qI z99]) rfl ?_
            refine qJ.if_eq hκ (tgt := 115) rfl rfl (by omega) (fun c106 => ?_) (fun c106 => ?_)
            · show qJ YX6_seek κ _ (qLy u, m8, y) 0 0 115 [some (qR 56), some (qI z), some (qI i), some (qI (M6 74 (((z * 12) + i).toNat))), some (qI z81), some (qI z99)] []
              have N8 : z99 = 0 ∧ (LV D 0 (l + 1) (q_fu ch l (i.toNat : Int))).length ≤ p ∧ m8 56 19 = (p : Int) - ((LV D 0 (l + 1) (q_fu ch l (i.toNat : Int))).length : Nat) := by rcases H8 with q | q; (exact q); (have := q.1; omega)
              clear H8
              refine qJ.run hκ 4 (pc' := 120) (ls' := [some (qR 56), some (qI z), some (qI i), some (qI (M6 74 (((z * 12) + i).toNat))), some (qI z81), some (qI z99)]) (st' := [qI 0, qI z81, qI i, qR 56]) rfl ?_
              refine qJ.callV (As := [qI i, qI z81, qI 0]) (rest := []) hκ rfl kX6_134 (c_lift u m8 y D (VM D (q_fu ch l (i.toNat : Int)) (l + 1)) (uQ (q_fu ch l (i.toNat : Int)) (l + 1)) b i z81 0 hD D8 A8 U8 (by omega) e81 b20 (by decide) S8 (fun t ht p => ((PB t ht).mp p).2)) rfl rfl (by decide) rfl rfl (Nat.le_of_ble_eq_true rfl) (Nat.le_of_ble_eq_true rfl) (Nat.le_of_ble_eq_true rfl) (Or.inl (fun r h' e => by obtain ⟨rfl, mx, Gx, rfl, Kx, Ax, Ux, Lx⟩ := e; rfl)) (fun r h' e => ?_)
              obtain ⟨rfl, mx, Gx, rfl, Kx, Ax, Ux, Lx⟩ := e
              have GX := lf_G hD (by omega) FT PB Lx
              have RX := lf_0 Lx
              show qJ YX6_seek κ _ (qLy u, mx, y) 0 0 123 [some (qR 56), some (qI z), some (qI i), some (qI (M6 74 (((z * 12) + i).toNat))), some (qI z81), some (qI z99)] []
              refine qJ.run hκ 1 (pc' := 125) (ls' := [some (qR 56), some (qI z), some (qI i), some (qI (M6 74 (((z * 12) + i).toNat))), some (qI z81), some (qI z99)]) (st' := [qI z99]) rfl ?_
              refine qJ.if_eq hκ (tgt := 130) rfl rfl (by omega) (fun c125 => ?_) (fun c125 => ?_)
              · show qJ YX6_seek κ _ (qLy u, mx, y) 0 0 130 [some (qR 56), some (qI z), some (qI i), some (qI (M6 74 (((z * 12) + i).toNat))), some (qI z81), some (qI z99)] []
                refine qJ.run hκ 2 (pc' := 33) (ls' := [some (qR 56), some (qI z), some (qI (i + 1)), some (qI (M6 74 (((z * 12) + i).toNat))), some (qI z81), some (qI z99)]) (st' := []) rfl ?_
                refine qJ.dl [true, true, true, false, false, false] ?_
                show qJ YX6_seek κ _ (qLy u, mx, y) 0 0 33 [some (qR 56), some (qI z), some (qI (i + 1)), none, none, none] []
                exact ih33  (i + 1) (p - (LV D 0 (l + 1) (q_fu ch l (i.toNat : Int))).length) mx (by omega) (⟨by rw [show mx 56 19 = m8 56 19 from congrFun (congrFun Kx 56) 19, N8.2.2]; omega, by omega⟩) ((keep_of kSkL Kx).trans (K8.trans ((keep_of kSkL K7).trans v33_2))) (aS_c GX Ax) (uM_c Ux rfl UU) (fun t ht => ⟨(RX t ht).1.trans ((R8 t ht).1.trans ((R7 t ht).1.trans (v33_5 t ht).1)), (RX t ht).2.trans ((R8 t ht).2.trans ((R7 t ht).2.trans (v33_5 t ht).2))⟩) (by rw [NX, List.length_append, ftI_y FT]; have := N8.2.1; omega) (by omega)
              · show qJ YX6_seek κ _ (qLy u, mx, y) 0 0 128 [some (qR 56), some (qI z), some (qI i), some (qI (M6 74 (((z * 12) + i).toNat))), some (qI z81), some (qI z99)] []
                exact absurd c106 c125
            · show qJ YX6_seek κ _ (qLy u, m8, y) 0 0 109 [some (qR 56), some (qI z), some (qI i), some (qI (M6 74 (((z * 12) + i).toNat))), some (qI z81), some (qI z99)] []
              have Y8 : ∃ R, (LV D 0 (l + 1) (q_fu ch l (i.toNat : Int)))[p]? = some R ∧ True := by rcases H8 with q | q; (have := q.1; omega); (exact q.2)
              clear H8
              refine qJ.run hκ 3 (pc' := 112) (ls' := [some (qR 56), some (qI z), some (qI i), some (qI (M6 74 (((z * 12) + i).toNat))), some (qI z81), some (qI z99)]) (st' := [qI i, qI z, qR 56]) rfl ?_
              refine qJ.callV (As := [qI z, qI i]) (rest := []) hκ rfl kX6_142 (c_keep u m8 y z i (by omega) (by omega) (by omega) (by rw [zt]; exact (sg8 l (by omega)).1)) rfl rfl (by decide) rfl rfl (Nat.le_of_ble_eq_true rfl) (Nat.le_of_ble_eq_true rfl) (Nat.le_of_ble_eq_true rfl) (Or.inl (fun r h' e => by obtain ⟨rfl, m9, rfl, K9, H9⟩ := e; rfl)) (fun r h' e => ?_)
              obtain ⟨rfl, m9, rfl, K9, H9⟩ := e
              have A9 : aS D (VM D (q_fu ch l (i.toNat : Int)) (l + 1)) m9 := aS_k (fun i a b => funext fun j => keep_at K9 (by unfold kN kKp; rw [decide_eq_false (by omega)]; rfl)) A8
              have U9 : uM m9 (uQ (q_fu ch l (i.toNat : Int)) (l + 1)) := uM_c U8 (congrFun (congrFun K9 56) 15) (fun t _ => Iff.rfl)
              have R9 : s75 m8 m9 := fun t ht => ⟨congrFun (congrFun K9 75) t, congrFun (congrFun K9 76) t⟩
              have S9 : ∀ t : Nat, t < 20 → -2 ≤ m9 75 t ∧ m9 75 t ≤ 27 := fun t ht => by rw [(R9 t ht).1, (R8 t ht).1]; exact S7 t ht
              have D9 : dM D m9 := dM_k (keep_of kDK K9) D8
              show qJ YX6_seek κ _ (qLy u, m9, y) 0 0 115 [some (qR 56), some (qI z), some (qI i), some (qI (M6 74 (((z * 12) + i).toNat))), some (qI z81), some (qI z99)] []
              refine qJ.run hκ 4 (pc' := 120) (ls' := [some (qR 56), some (qI z), some (qI i), some (qI (M6 74 (((z * 12) + i).toNat))), some (qI z81), some (qI z99)]) (st' := [qI 0, qI z81, qI i, qR 56]) rfl ?_
              refine qJ.callV (As := [qI i, qI z81, qI 0]) (rest := []) hκ rfl kX6_134 (c_lift u m9 y D (VM D (q_fu ch l (i.toNat : Int)) (l + 1)) (uQ (q_fu ch l (i.toNat : Int)) (l + 1)) b i z81 0 hD D9 A9 U9 (by omega) e81 b20 (by decide) S9 (fun t ht p => ((PB t ht).mp p).2)) rfl rfl (by decide) rfl rfl (Nat.le_of_ble_eq_true rfl) (Nat.le_of_ble_eq_true rfl) (Nat.le_of_ble_eq_true rfl) (Or.inl (fun r h' e => by obtain ⟨rfl, mx, Gx, rfl, Kx, Ax, Ux, Lx⟩ := e; rfl)) (fun r h' e => ?_)
              obtain ⟨rfl, mx, Gx, rfl, Kx, Ax, Ux, Lx⟩ := e
              have GX := lf_G hD (by omega) FT PB Lx
              have RX := lf_0 Lx
              show qJ YX6_seek κ _ (qLy u, mx, y) 0 0 123 [some (qR 56), some (qI z), some (qI i), some (qI (M6 74 (((z * 12) + i).toNat))), some (qI z81), some (qI z99)] []
              refine qJ.run hκ 1 (pc' := 125) (ls' := [some (qR 56), some (qI z), some (qI i), some (qI (M6 74 (((z * 12) + i).toNat))), some (qI z81), some (qI z99)]) (st' := [qI z99]) rfl ?_
              refine qJ.if_eq hκ (tgt := 130) rfl rfl (by omega) (fun c125 => ?_) (fun c125 => ?_)
              · show qJ YX6_seek κ _ (qLy u, mx, y) 0 0 130 [some (qR 56), some (qI z), some (qI i), some (qI (M6 74 (((z * 12) + i).toNat))), some (qI z81), some (qI z99)] []
                exact absurd c125 c106
              · show qJ YX6_seek κ _ (qLy u, mx, y) 0 0 128 [some (qR 56), some (qI z), some (qI i), some (qI (M6 74 (((z * 12) + i).toNat))), some (qI z81), some (qI z99)] []
                refine qJ.run hκ 1 (pc' := 129) (ls' := [some (qR 56), some (qI z), some (qI i), some (qI (M6 74 (((z * 12) + i).toNat))), some (qI z81), some (qI z99)]) (st' := [qI 1]) rfl ?_
                exact qJ.bret hκ rfl rfl (by omega) (by decide) (by decide) (by
      obtain ⟨R, r1, r2⟩ := Y8
      have rl : R l = (i.toNat : Int) := ((LV_mem 0 (l + 1) _ (List.mem_of_getElem? r1)).1 l (by omega)).trans q_fu_eq
      have f1 : (ftI D (LV D 0 (l + 1)) l (q_fu ch l (i.toNat : Int)))[p]? = some R := by rw [ftI_y FT]; exact r1
      have f2 := lvF_at (D := D) (G := (LV D 0 (l + 1))) (l := l) (ch := ch) (i := i.toNat) (n := (dK D).toNat) (by omega) f1
      have f3 : (LV D 1 l ch)[q]? = some R := by rw [show q = (lvF D (LV D 0 (l + 1)) l ch i.toNat).length + p by omega]; exact f2
      have r68 : (m 68 : Nat → Int) = m 68 := rfl
      have X71 : mx 71 = m9 71 := congrFun Kx 71
      have X68 : mx 68 = m9 68 := congrFun Kx 68
      have Y71 : m9 71 = m8 71 := congrFun K9 71
      have Y68 : m9 68 = m8 68 := congrFun K9 68
      refine ⟨1, mx, rfl, rfl, (keep_of kSkL Kx).trans ((keep_of kSkK K9).trans (K8.trans ((keep_of kSkL K7).trans v33_2))), aS_c GX Ax, uM_c Ux rfl UU, fun t ht => ⟨(RX t ht).1.trans ((R9 t ht).1.trans ((R8 t ht).1.trans ((R7 t ht).1.trans (v33_5 t ht).1))), (RX t ht).2.trans ((R9 t ht).2.trans ((R8 t ht).2.trans ((R7 t ht).2.trans (v33_5 t ht).2)))⟩, Or.inr ⟨rfl, R, f3, KT_k (M := m9) ⟨congrFun Kx 57, congrFun Kx 58, X68, X71⟩ ?_⟩⟩
      rw [zt, show i.toNat = (R l).toNat by omega] at H9
      have hc : R = (q_fu ch l (i.toNat : Int)) := by
        have e : (LV D 0 (l + 1) (q_fu ch l (i.toNat : Int))) = [(q_fu ch l (i.toNat : Int))] := rfl
        rw [e] at r1
        have := List.mem_of_getElem? r1
        rwa [List.mem_singleton] at this
      rcases H9 with g | g
      · refine KT_last (m := m8) (by omega) sg8 ?_ ⟨Y71, Y68⟩ g.2.1 g.2.2
        rw [hc, show (dN D).toNat = l + 1 by omega]
        exact A8
      · exact absurd (by omega) g.1)
          · show qJ YX6_seek κ _ (qLy u, m7, y) 0 0 92 [some (qR 56), some (qI z), some (qI i), some (qI (M6 74 (((z * 12) + i).toNat))), some (qI z81), none] []
            have Z7 : ¬ (¬ uQ ch l i.toNat ∧ fitW D i.toNat l (VM D ch l)) ∧ aS D (VM D ch l) m7 ∧ uM m7 (uQ ch l) := by rcases H7 with q | ⟨b, q⟩; (exact q.2); (have := q.1; omega)
            clear H7
            have NX : lvF D (LV D 0 (l + 1)) l ch (i + 1).toNat = lvF D (LV D 0 (l + 1)) l ch i.toNat ++ [] := by rw [it1]; show _ ++ ftI D _ l _ = _; rw [ftI_n (fun z => Z7.1 (ftL_fu.mp z))]
            refine qJ.run hκ 3 (pc' := 33) (ls' := [some (qR 56), some (qI z), some (qI (i + 1)), some (qI (M6 74 (((z * 12) + i).toNat))), some (qI z81), none]) (st' := []) rfl ?_
            refine qJ.dl [true, true, true, false, false, false] ?_
            show qJ YX6_seek κ _ (qLy u, m7, y) 0 0 33 [some (qR 56), some (qI z), some (qI (i + 1)), none, none, none] []
            exact ih33  (i + 1) p m7 (by omega) (⟨(congrFun (congrFun K7 56) 19).trans v33_1.1, v33_1.2⟩) ((keep_of kSkL K7).trans v33_2) (Z7.2.1) (Z7.2.2) (fun t ht => ⟨(R7 t ht).1.trans (v33_5 t ht).1, (R7 t ht).2.trans (v33_5 t ht).2⟩) (by rw [NX, List.append_nil]; exact v33_6) (by omega)
        · show qJ YX6_seek κ _ (qLy u, M6, y) 0 0 57 [some (qR 56), some (qI z), some (qI i), some (qI (M6 74 (((z * 12) + i).toNat))), none, none] []
          have SK0 : M6 74 ((z * 12) + i).toNat = ((ftI D (LV D 0 (l + 1)) l (q_fu ch l (i.toNat : Int))).length : Nat) := by
            have l0 : l = 0 := by omega
            rw [show M6 74 = m 74 from congrFun v33_2 74, show ((z * 12) + i).toNat = i.toNat by omega]
            exact hH l0 i.toNat (by omega)
          have SKb : (ftI D (LV D 0 (l + 1)) l (q_fu ch l (i.toNat : Int))).length ≤ 248832 := by
            by_cases e : ftL D (q_fu ch l (i.toNat : Int)) l
            · rw [ftI_y e]; exact LV_b hD (by decide)
            · rw [ftI_n e]; exact Nat.zero_le _
          refine qJ.run hκ 3 (pc' := 62) (ls' := [some (qR 56), some (qI z), some (qI i), some (qI (M6 74 (((z * 12) + i).toNat))), none, none]) (st' := [qI (M6 74 (((z * 12) + i).toNat)), qI (M6 56 19)]) rfl ?_
          refine qJ.icmp_lt hκ (tgt := 78) rfl rfl (by omega) (by omega) (fun c62 => ?_) (fun c62 => ?_)
          · show qJ YX6_seek κ _ (qLy u, M6, y) 0 0 78 [some (qR 56), some (qI z), some (qI i), some (qI (M6 74 (((z * 12) + i).toNat))), none, none] []
            refine qJ.run hκ 3 (pc' := 81) (ls' := [some (qR 56), some (qI z), some (qI i), some (qI (M6 74 (((z * 12) + i).toNat))), none, none]) (st' := [qI i, qI z, qR 56]) rfl ?_
            refine qJ.callV (As := [qI z, qI i]) (rest := []) hκ rfl kX6_131 (c_place u M6 y D (VM D ch l) (uQ ch l) z i hD (dM_k (keep_of kDS v33_2) hM) v33_3 v33_4 (by omega) (by omega) S6) rfl rfl (by decide) rfl rfl (Nat.le_of_ble_eq_true rfl) (Nat.le_of_ble_eq_true rfl) (Nat.le_of_ble_eq_true rfl) (Or.inl (fun r h' e => by obtain ⟨z81, m7, rfl, rfl, K7, R7, H7⟩ := e; rfl)) (fun r h' e => ?_)
            obtain ⟨z81, m7, rfl, rfl, K7, R7, H7⟩ := e
            rw [zt] at H7
            show qJ YX6_seek κ _ (qLy u, m7, y) 0 0 84 [some (qR 56), some (qI z), some (qI i), some (qI (M6 74 (((z * 12) + i).toNat))), none, none] [qI z81]
            have zr : -1 ≤ z81 ∧ z81 < 1048576 := by rcases H7 with q | ⟨b, q⟩; (omega); (have := q.1; have := q.2.1; omega)
            refine qJ.run hκ 3 (pc' := 89) (ls' := [some (qR 56), some (qI z), some (qI i), some (qI (M6 74 (((z * 12) + i).toNat))), some (qI z81), none]) (st' := [qI (-1), qI z81]) rfl ?_
            refine qJ.icmp_ne hκ (tgt := 95) rfl rfl (by omega) (by omega) (fun c89 => ?_) (fun c89 => ?_)
            · show qJ YX6_seek κ _ (qLy u, m7, y) 0 0 95 [some (qR 56), some (qI z), some (qI i), some (qI (M6 74 (((z * 12) + i).toNat))), some (qI z81), none] []
              have Z7 : ∃ b : Nat, z81 = (b : Int) ∧ b < 1048576 ∧ (¬ uQ ch l i.toNat ∧ fitW D i.toNat l (VM D ch l)) ∧ aS D (vP D i.toNat l (VM D ch l) (dL D i.toNat).toNat) m7 ∧ uM m7 (fun t => uQ ch l t ∨ t = i.toNat) ∧ ∀ t : Nat, t < 20 → (pb b t ↔ (VM D ch l t = -1 ∧ ¬ vP D i.toNat l (VM D ch l) (dL D i.toNat).toNat t = -1)) := by rcases H7 with q | q; (exact absurd q.1 c89); (exact q)
              clear H7
              obtain ⟨b, e81, b20, F7, A70, U70, PB0⟩ := Z7
              have FT : ftL D (q_fu ch l (i.toNat : Int)) l := ftL_fu.mpr F7
              have ve : VM D (q_fu ch l (i.toNat : Int)) (l + 1) = vP D i.toNat l (VM D ch l) (dL D i.toNat).toNat := by rw [VM_fu, F7.2.1]
              have A7 : aS D (VM D (q_fu ch l (i.toNat : Int)) (l + 1)) m7 := by rw [ve]; exact A70
              have U7 : uM m7 (uQ (q_fu ch l (i.toNat : Int)) (l + 1)) := uM_c U70 rfl (fun t _ => uQ_s)
              have PB : ∀ t : Nat, t < 20 → (pb b t ↔ (VM D ch l t = -1 ∧ ¬ VM D (q_fu ch l (i.toNat : Int)) (l + 1) t = -1)) := by rw [ve]; exact PB0
              have S7 : ∀ t : Nat, t < 20 → -2 ≤ m7 75 t ∧ m7 75 t ≤ 27 := fun t ht => by rw [(R7 t ht).1]; exact S6 t ht
              have UU : ∀ t : Nat, t < 12 → ((uQ (q_fu ch l (i.toNat : Int)) (l + 1) t ∧ ¬ t = i.toNat) ↔ uQ ch l t) := fun t _ => ⟨fun q => (uQ_s.mpr q.1).elim id (fun e => absurd e q.2), fun q => ⟨uQ_s.mp (Or.inl q), fun e => F7.1 (by rw [← e]; exact q)⟩⟩
              have NX : lvF D (LV D 0 (l + 1)) l ch (i + 1).toNat = lvF D (LV D 0 (l + 1)) l ch i.toNat ++ ftI D (LV D 0 (l + 1)) l (q_fu ch l (i.toNat : Int)) := by rw [it1]; rfl
              refine qJ.run hκ 4 (pc' := 99) (ls' := [some (qR 56), some (qI z), some (qI i), some (qI (M6 74 (((z * 12) + i).toNat))), some (qI z81), none]) (st' := [qI (z + 1), qR 56]) rfl ?_
              refine qJ.callV (As := [qI (z + 1)]) (rest := []) hκ rfl kX6_138 (c_seek0 u m7 y D (q_fu ch l (i.toNat : Int)) (l + 1) p (z + 1) hD (dM_k (keep_of kDL K7) hM6) (by omega) (by omega) A7 U7 (sgS_k ((congrFun K7 71).trans (congrFun v33_2 71)) hsg) S7 ⟨(congrFun (congrFun K7 56) 19).trans v33_1.1, by omega⟩) rfl rfl (by decide) rfl rfl (Nat.le_of_ble_eq_true rfl) (Nat.le_of_ble_eq_true rfl) (Nat.le_of_ble_eq_true rfl) (Or.inl (fun r h' e => by obtain ⟨z99, m8, rfl, rfl, K8, A8, U8, R8, H8⟩ := e; rfl)) (fun r h' e => ?_)
              obtain ⟨z99, m8, rfl, rfl, K8, A8, U8, R8, H8⟩ := e
              show qJ YX6_seek κ _ (qLy u, m8, y) 0 0 102 [some (qR 56), some (qI z), some (qI i), some (qI (M6 74 (((z * 12) + i).toNat))), some (qI z81), none] [qI z99]
              have zr9 : z99 = 0 ∨ z99 = 1 := by rcases H8 with q | q; (left; exact q.1); (right; exact q.1)
              have S8 : ∀ t : Nat, t < 20 → -2 ≤ m8 75 t ∧ m8 75 t ≤ 27 := fun t ht => by rw [(R8 t ht).1]; exact S7 t ht
              have D8 : dM D m8 := dM_k ((keep_of kDS K8).trans (keep_of kDL K7)) hM6
              have k8 := D8.1
              have sg8 : sgS D m8 := sgS_k ((congrFun K8 71).trans ((congrFun K7 71).trans (congrFun v33_2 71))) hsg
              refine qJ.run hκ 2 (pc' := 106) (ls' := [some (qR 56), some (qI z), some (qI i), some (qI (M6 74 (((z * 12) + i).toNat))), some (qI z81), some (qI z99)]) (st' := [qI z99]) rfl ?_
              refine qJ.if_eq hκ (tgt := 115) rfl rfl (by omega) (fun c106 => ?_) (fun c106 => ?_)
              · show qJ YX6_seek κ _ (qLy u, m8, y) 0 0 115 [some (qR 56), some (qI z), some (qI i), some (qI (M6 74 (((z * 12) + i).toNat))), some (qI z81), some (qI z99)] []
                have N8 : z99 = 0 ∧ (LV D 0 (l + 1) (q_fu ch l (i.toNat : Int))).length ≤ p ∧ m8 56 19 = (p : Int) - ((LV D 0 (l + 1) (q_fu ch l (i.toNat : Int))).length : Nat) := by rcases H8 with q | q; (exact q); (have := q.1; omega)
                clear H8
                refine qJ.run hκ 4 (pc' := 120) (ls' := [some (qR 56), some (qI z), some (qI i), some (qI (M6 74 (((z * 12) + i).toNat))), some (qI z81), some (qI z99)]) (st' := [qI 0, qI z81, qI i, qR 56]) rfl ?_
                refine qJ.callV (As := [qI i, qI z81, qI 0]) (rest := []) hκ rfl kX6_134 (c_lift u m8 y D (VM D (q_fu ch l (i.toNat : Int)) (l + 1)) (uQ (q_fu ch l (i.toNat : Int)) (l + 1)) b i z81 0 hD D8 A8 U8 (by omega) e81 b20 (by decide) S8 (fun t ht p => ((PB t ht).mp p).2)) rfl rfl (by decide) rfl rfl (Nat.le_of_ble_eq_true rfl) (Nat.le_of_ble_eq_true rfl) (Nat.le_of_ble_eq_true rfl) (Or.inl (fun r h' e => by obtain ⟨rfl, mx, Gx, rfl, Kx, Ax, Ux, Lx⟩ := e; rfl)) (fun r h' e => ?_)
                obtain ⟨rfl, mx, Gx, rfl, Kx, Ax, Ux, Lx⟩ := e
                have GX := lf_G hD (by omega) FT PB Lx
                have RX := lf_0 Lx
                show qJ YX6_seek κ _ (qLy u, mx, y) 0 0 123 [some (qR 56), some (qI z), some (qI i), some (qI (M6 74 (((z * 12) + i).toNat))), some (qI z81), some (qI z99)] []
                refine qJ.run hκ 1 (pc' := 125) (ls' := [some (qR 56), some (qI z), some (qI i), some (qI (M6 74 (((z * 12) + i).toNat))), some (qI z81), some (qI z99)]) (st' := [qI z99]) rfl ?_
                refine qJ.if_eq hκ (tgt := 130) rfl rfl (by omega) (fun c125 => ?_) (fun c125 => ?_)
                · show qJ YX6_seek κ _ (qLy u, mx, y) 0 0 130 [some (qR 56), some (qI z), some (qI i), some (qI (M6 74 (((z * 12) + i).toNat))), some (qI z81), some (qI z99)] []
                  refine qJ.run hκ 2 (pc' := 33) (ls' := [some (qR 56), some (qI z), some (qI (i + 1)), some (qI (M6 74 (((z * 12) + i).toNat))), some (qI z81), some (qI z99)]) (st' := []) rfl ?_
                  refine qJ.dl [true, true, true, false, false, false] ?_
                  show qJ YX6_seek κ _ (qLy u, mx, y) 0 0 33 [some (qR 56), some (qI z), some (qI (i + 1)), none, none, none] []
                  exact ih33  (i + 1) (p - (LV D 0 (l + 1) (q_fu ch l (i.toNat : Int))).length) mx (by omega) (⟨by rw [show mx 56 19 = m8 56 19 from congrFun (congrFun Kx 56) 19, N8.2.2]; omega, by omega⟩) ((keep_of kSkL Kx).trans (K8.trans ((keep_of kSkL K7).trans v33_2))) (aS_c GX Ax) (uM_c Ux rfl UU) (fun t ht => ⟨(RX t ht).1.trans ((R8 t ht).1.trans ((R7 t ht).1.trans (v33_5 t ht).1)), (RX t ht).2.trans ((R8 t ht).2.trans ((R7 t ht).2.trans (v33_5 t ht).2))⟩) (by rw [NX, List.length_append, ftI_y FT]; have := N8.2.1; omega) (by omega)
                · show qJ YX6_seek κ _ (qLy u, mx, y) 0 0 128 [some (qR 56), some (qI z), some (qI i), some (qI (M6 74 (((z * 12) + i).toNat))), some (qI z81), some (qI z99)] []
                  exact absurd c106 c125
              · show qJ YX6_seek κ _ (qLy u, m8, y) 0 0 109 [some (qR 56), some (qI z), some (qI i), some (qI (M6 74 (((z * 12) + i).toNat))), some (qI z81), some (qI z99)] []
                have Y8 : ∃ R, (LV D 0 (l + 1) (q_fu ch l (i.toNat : Int)))[p]? = some R ∧ True := by rcases H8 with q | q; (have := q.1; omega); (exact q.2)
                clear H8
                refine qJ.run hκ 3 (pc' := 112) (ls' := [some (qR 56), some (qI z), some (qI i), some (qI (M6 74 (((z * 12) + i).toNat))), some (qI z81), some (qI z99)]) (st' := [qI i, qI z, qR 56]) rfl ?_
                refine qJ.callV (As := [qI z, qI i]) (rest := []) hκ rfl kX6_142 (c_keep u m8 y z i (by omega) (by omega) (by omega) (by rw [zt]; exact (sg8 l (by omega)).1)) rfl rfl (by decide) rfl rfl (Nat.le_of_ble_eq_true rfl) (Nat.le_of_ble_eq_true rfl) (Nat.le_of_ble_eq_true rfl) (Or.inl (fun r h' e => by obtain ⟨rfl, m9, rfl, K9, H9⟩ := e; rfl)) (fun r h' e => ?_)
                obtain ⟨rfl, m9, rfl, K9, H9⟩ := e
                have A9 : aS D (VM D (q_fu ch l (i.toNat : Int)) (l + 1)) m9 := aS_k (fun i a b => funext fun j => keep_at K9 (by unfold kN kKp; rw [decide_eq_false (by omega)]; rfl)) A8
                have U9 : uM m9 (uQ (q_fu ch l (i.toNat : Int)) (l + 1)) := uM_c U8 (congrFun (congrFun K9 56) 15) (fun t _ => Iff.rfl)
                have R9 : s75 m8 m9 := fun t ht => ⟨congrFun (congrFun K9 75) t, congrFun (congrFun K9 76) t⟩
                have S9 : ∀ t : Nat, t < 20 → -2 ≤ m9 75 t ∧ m9 75 t ≤ 27 := fun t ht => by rw [(R9 t ht).1, (R8 t ht).1]; exact S7 t ht
                have D9 : dM D m9 := dM_k (keep_of kDK K9) D8
                show qJ YX6_seek κ _ (qLy u, m9, y) 0 0 115 [some (qR 56), some (qI z), some (qI i), some (qI (M6 74 (((z * 12) + i).toNat))), some (qI z81), some (qI z99)] []
                refine qJ.run hκ 4 (pc' := 120) (ls' := [some (qR 56), some (qI z), some (qI i), some (qI (M6 74 (((z * 12) + i).toNat))), some (qI z81), some (qI z99)]) (st' := [qI 0, qI z81, qI i, qR 56]) rfl ?_
                refine qJ.callV (As := [qI i, qI z81, qI 0]) (rest := []) hκ rfl kX6_134 (c_lift u m9 y D (VM D (q_fu ch l (i.toNat : Int)) (l + 1)) (uQ (q_fu ch l (i.toNat : Int)) (l + 1)) b i z81 0 hD D9 A9 U9 (by omega) e81 b20 (by decide) S9 (fun t ht p => ((PB t ht).mp p).2)) rfl rfl (by decide) rfl rfl (Nat.le_of_ble_eq_true rfl) (Nat.le_of_ble_eq_true rfl) (Nat.le_of_ble_eq_true rfl) (Or.inl (fun r h' e => by obtain ⟨rfl, mx, Gx, rfl, Kx, Ax, Ux, Lx⟩ := e; rfl)) (fun r h' e => ?_)
                obtain ⟨rfl, mx, Gx, rfl, Kx, Ax, Ux, Lx⟩ := e
                have GX := lf_G hD (by omega) FT PB Lx
                have RX := lf_0 Lx
                show qJ YX6_seek κ _ (qLy u, mx, y) 0 0 123 [some (qR 56), some (qI z), some (qI i), some (qI (M6 74 (((z * 12) + i).toNat))), some (qI z81), some (qI z99)] []
                refine qJ.run hκ 1 (pc' := 125) (ls' := [some (qR 56), some (qI z), some (qI i), some (qI (M6 74 (((z * 12) + i).toNat))), some (qI z81), some (qI z99)]) (st' := [qI z99]) rfl ?_
                refine qJ.if_eq hκ (tgt := 130) rfl rfl (by omega) (fun c125 => ?_) (fun c125 => ?_)
                · show qJ YX6_seek κ _ (qLy u, mx, y) 0 0 130 [some (qR 56), some (qI z), some (qI i), some (qI (M6 74 (((z * 12) + i).toNat))), some (qI z81), some (qI z99)] []
                  exact absurd c125 c106
                · show qJ YX6_seek κ _ (qLy u, mx, y) 0 0 128 [some (qR 56), some (qI z), some (qI i), some (qI (M6 74 (((z * 12) + i).toNat))), some (qI z81), some (qI z99)] []
                  refine qJ.run hκ 1 (pc' := 129) (ls' := [some (qR 56), some (qI z), some (qI i), some (qI (M6 74 (((z * 12) + i).toNat))), some (qI z81), some (qI z99)]) (st' := [qI 1]) rfl ?_
                  exact qJ.bret hκ rfl rfl (by omega) (by decide) (by decide) (by
      obtain ⟨R, r1, r2⟩ := Y8
      have rl : R l = (i.toNat : Int) := ((LV_mem 0 (l + 1) _ (List.mem_of_getElem? r1)).1 l (by omega)).trans q_fu_eq
      have f1 : (ftI D (LV D 0 (l + 1)) l (q_fu ch l (i.toNat : Int)))[p]? = some R := by rw [ftI_y FT]; exact r1
      have f2 := lvF_at (D := D) (G := (LV D 0 (l + 1))) (l := l) (ch := ch) (i := i.toNat) (n := (dK D).toNat) (by omega) f1
      have f3 : (LV D 1 l ch)[q]? = some R := by rw [show q = (lvF D (LV D 0 (l + 1)) l ch i.toNat).length + p by omega]; exact f2
      have r68 : (m 68 : Nat → Int) = m 68 := rfl
      have X71 : mx 71 = m9 71 := congrFun Kx 71
      have X68 : mx 68 = m9 68 := congrFun Kx 68
      have Y71 : m9 71 = m8 71 := congrFun K9 71
      have Y68 : m9 68 = m8 68 := congrFun K9 68
      refine ⟨1, mx, rfl, rfl, (keep_of kSkL Kx).trans ((keep_of kSkK K9).trans (K8.trans ((keep_of kSkL K7).trans v33_2))), aS_c GX Ax, uM_c Ux rfl UU, fun t ht => ⟨(RX t ht).1.trans ((R9 t ht).1.trans ((R8 t ht).1.trans ((R7 t ht).1.trans (v33_5 t ht).1))), (RX t ht).2.trans ((R9 t ht).2.trans ((R8 t ht).2.trans ((R7 t ht).2.trans (v33_5 t ht).2)))⟩, Or.inr ⟨rfl, R, f3, KT_k (M := m9) ⟨congrFun Kx 57, congrFun Kx 58, X68, X71⟩ ?_⟩⟩
      rw [zt, show i.toNat = (R l).toNat by omega] at H9
      have hc : R = (q_fu ch l (i.toNat : Int)) := by
        have e : (LV D 0 (l + 1) (q_fu ch l (i.toNat : Int))) = [(q_fu ch l (i.toNat : Int))] := rfl
        rw [e] at r1
        have := List.mem_of_getElem? r1
        rwa [List.mem_singleton] at this
      rcases H9 with g | g
      · refine KT_last (m := m8) (by omega) sg8 ?_ ⟨Y71, Y68⟩ g.2.1 g.2.2
        rw [hc, show (dN D).toNat = l + 1 by omega]
        exact A8
      · exact absurd (by omega) g.1)
            · show qJ YX6_seek κ _ (qLy u, m7, y) 0 0 92 [some (qR 56), some (qI z), some (qI i), some (qI (M6 74 (((z * 12) + i).toNat))), some (qI z81), none] []
              have Z7 : ¬ (¬ uQ ch l i.toNat ∧ fitW D i.toNat l (VM D ch l)) ∧ aS D (VM D ch l) m7 ∧ uM m7 (uQ ch l) := by rcases H7 with q | ⟨b, q⟩; (exact q.2); (have := q.1; omega)
              clear H7
              have NX : lvF D (LV D 0 (l + 1)) l ch (i + 1).toNat = lvF D (LV D 0 (l + 1)) l ch i.toNat ++ [] := by rw [it1]; show _ ++ ftI D _ l _ = _; rw [ftI_n (fun z => Z7.1 (ftL_fu.mp z))]
              refine qJ.run hκ 3 (pc' := 33) (ls' := [some (qR 56), some (qI z), some (qI (i + 1)), some (qI (M6 74 (((z * 12) + i).toNat))), some (qI z81), none]) (st' := []) rfl ?_
              refine qJ.dl [true, true, true, false, false, false] ?_
              show qJ YX6_seek κ _ (qLy u, m7, y) 0 0 33 [some (qR 56), some (qI z), some (qI (i + 1)), none, none, none] []
              exact ih33  (i + 1) p m7 (by omega) (⟨(congrFun (congrFun K7 56) 19).trans v33_1.1, v33_1.2⟩) ((keep_of kSkL K7).trans v33_2) (Z7.2.1) (Z7.2.2) (fun t ht => ⟨(R7 t ht).1.trans (v33_5 t ht).1, (R7 t ht).2.trans (v33_5 t ht).2⟩) (by rw [NX, List.append_nil]; exact v33_6) (by omega)
          · show qJ YX6_seek κ _ (qLy u, M6, y) 0 0 65 [some (qR 56), some (qI z), some (qI i), some (qI (M6 74 (((z * 12) + i).toNat))), none, none] []
            have SK1 := SK0
            have NX : lvF D (LV D 0 (l + 1)) l ch (i + 1).toNat = lvF D (LV D 0 (l + 1)) l ch i.toNat ++ ftI D (LV D 0 (l + 1)) l (q_fu ch l (i.toNat : Int)) := by rw [it1]; rfl
            refine qJ.run hκ 5 (pc' := 72) (ls' := [some (qR 56), some (qI z), some (qI i), some (qI (M6 74 (((z * 12) + i).toNat))), none, none]) (st' := [qI ((M6 56 19) - (M6 74 (((z * 12) + i).toNat))), qR 56]) rfl ?_
            refine qJ.putI hκ rfl rfl rfl rfl (Or.inl rfl) ?_
            show qJ YX6_seek κ _ (qLy u, (q_up M6 56 19 ((M6 56 19) - (M6 74 (((z * 12) + i).toNat)))), y) 0 0 75 [some (qR 56), some (qI z), some (qI i), some (qI (M6 74 (((z * 12) + i).toNat))), none, none] []
            refine qJ.run hκ 3 (pc' := 33) (ls' := [some (qR 56), some (qI z), some (qI (i + 1)), some (qI (M6 74 (((z * 12) + i).toNat))), none, none]) (st' := []) rfl ?_
            refine qJ.dl [true, true, true, false, false, false] ?_
            show qJ YX6_seek κ _ (qLy u, (q_up M6 56 19 ((M6 56 19) - (M6 74 (((z * 12) + i).toNat)))), y) 0 0 33 [some (qR 56), some (qI z), some (qI (i + 1)), none, none, none] []
            exact ih33  (i + 1) (p - (ftI D (LV D 0 (l + 1)) l (q_fu ch l (i.toNat : Int))).length) (q_up M6 56 19 ((M6 56 19) - (M6 74 (((z * 12) + i).toNat)))) (by omega) (⟨by show M6 56 19 - _ = _; rw [SK1]; omega, by omega⟩) (Eq.trans (keep_up (by rfl)) v33_2) (aS_k (fun i a b => q_up_rw (by omega)) v33_3) (uM_c v33_4 rfl (fun t _ => Iff.rfl)) (fun t ht => v33_5 t ht) (by rw [NX, List.length_append]; omega) (by omega)
  show qJ YX6_seek κ _ (qLy u, m, y) 0 0 0 [some (qR 56), some (qI z), none, none, none, none] []
  refine qJ.run hκ 3 (pc' := 5) (ls' := [some (qR 56), some (qI z), none, none, none, none]) (st' := [qI (m 56 14), qI z]) rfl ?_
  refine qJ.icmp_lt hκ (tgt := 31) rfl rfl (by omega) (by omega) (fun c5 => ?_) (fun c5 => ?_)
  · show qJ YX6_seek κ _ (qLy u, m, y) 0 0 31 [some (qR 56), some (qI z), none, none, none, none] []
    refine qJ.run hκ 2 (pc' := 33) (ls' := [some (qR 56), some (qI z), some (qI 0), none, none, none]) (st' := []) rfl ?_
    exact L33 13 0 q m (by omega) (⟨hq.1, by omega⟩) (rfl) (hA) (hU) (fun t ht => ⟨rfl, rfl⟩) (by show ((0 : Nat) : Int) + _ = _; omega) (by omega)
  · show qJ YX6_seek κ _ (qLy u, m, y) 0 0 8 [some (qR 56), some (qI z), none, none, none, none] []
    exfalso; omega

set_option maxRecDepth 100000 in
theorem c_seek2 (u : qU) (m y : qM) (D : qD) (ch : Nat → Int) (l q : Nat) (z : Int) (hD : dOk D) (hM : dM D m) (hz : z = (l : Int)) (hl : (l : Int) + 2 = dN D) (hA : aS D (VM D ch l) m) (hU : uM m (uQ ch l)) (hsg : sgS D m) (h7 : ∀ t : Nat, t < 20 → -2 ≤ m 75 t ∧ m 75 t ≤ 27) (hq : m 56 19 = (q : Int) ∧ (q : Int) ≤ 1000000) (hH : l = 0 → ∀ i : Nat, (i : Int) < dK D → m 74 i = ((ftI D (LV D 1 (l + 1)) l (q_fu ch l (i : Int))).length : Nat)) : qCt YX6_seek 5 0 0 [qR 56, qI z] (qLy u, m, y) (fun r h => ∃ (zz : Int) (m' : qM), r = some (qI zz) ∧ h = (qLy u, m', y) ∧ keep (kN kSk) m' = keep (kN kSk) m ∧ aS D (VM D ch l) m' ∧ uM m' (uQ ch l) ∧ s75 m m' ∧ ((zz = 0 ∧ (LV D 2 l ch).length ≤ q ∧ m' 56 19 = (q : Int) - ((LV D 2 l ch).length : Nat)) ∨ (zz = 1 ∧ ∃ R, (LV D 2 l ch)[q]? = some R ∧ KT D l R m'))) := by
  refine qCt.intro okX6_seek (Nat.le_of_ble_eq_true rfl) (fun κ hκ => ?_)
  have k0 := hM.1
  have kb := hD.1
  have zt : z.toNat = l := by omega
  have q2 := hq.2
  have L33 : ∀ (n : Nat) (i : Int) (p : Nat) (M6 : qM), (0 ≤ i ∧ i ≤ dK D) → (M6 56 19 = (p : Int) ∧ (p : Int) ≤ 1000000) → (keep (kN kSk) M6 = keep (kN kSk) m) → (aS D (VM D ch l) M6) → (uM M6 (uQ ch l)) → (s75 m M6) → ((((lvF D (LV D 1 (l + 1)) l ch i.toNat).length : Nat) : Int) + (p : Int) = (q : Int)) → ((dK D - i).toNat) < n → qJ YX6_seek κ (qFin (fun r h => ∃ (zz : Int) (m' : qM), r = some (qI zz) ∧ h = (qLy u, m', y) ∧ keep (kN kSk) m' = keep (kN kSk) m ∧ aS D (VM D ch l) m' ∧ uM m' (uQ ch l) ∧ s75 m m' ∧ ((zz = 0 ∧ (LV D 2 l ch).length ≤ q ∧ m' 56 19 = (q : Int) - ((LV D 2 l ch).length : Nat)) ∨ (zz = 1 ∧ ∃ R, (LV D 2 l ch)[q]? = some R ∧ KT D l R m'))) 0 0 κ) (qLy u, M6, y) 0 0 33 [some (qR 56), some (qI z), some (qI i), none, none, none] [] := by
    intro n
    induction n with
    | zero => intro i p M6 _ _ _ _ _ _ _ hz0; omega
    | succ n ih33 =>
      intro i p M6 v33_0 v33_1 v33_2 v33_3 v33_4 v33_5 v33_6 v33_m
      have k10 : M6 56 10 = dK D := (congrFun (congrFun v33_2 56) 10).trans k0.1
      have hM6 := dM_k (keep_of kDS v33_2) hM
      have pq := v33_1
      have S6 : ∀ t : Nat, t < 20 → -2 ≤ M6 75 t ∧ M6 75 t ≤ 27 := fun t ht => by rw [(v33_5 t ht).1]; exact h7 t ht
      have it1 : (i + 1).toNat = i.toNat + 1 := by omega
      refine qJ.run hκ 3 (pc' := 38) (ls' := [some (qR 56), some (qI z), some (qI i), none, none, none]) (st' := [qI (M6 56 10), qI i]) rfl ?_
      refine qJ.icmp_ge hκ (tgt := 136) rfl rfl (by omega) (by omega) (fun c38 => ?_) (fun c38 => ?_)
      · show qJ YX6_seek κ _ (qLy u, M6, y) 0 0 136 [some (qR 56), some (qI z), some (qI i), none, none, none] []
        refine qJ.run hκ 1 (pc' := 137) (ls' := [some (qR 56), some (qI z), some (qI i), none, none, none]) (st' := [qI 0]) rfl ?_
        exact qJ.bret hκ rfl rfl (by omega) (by decide) (by decide) (by
      rw [show i.toNat = (dK D).toNat by omega] at v33_6
      have v6 : (((LV D 2 l ch).length : Nat) : Int) + (p : Int) = (q : Int) := v33_6
      exact ⟨0, M6, rfl, rfl, v33_2, v33_3, v33_4, v33_5, Or.inl ⟨rfl, by omega, by omega⟩⟩)
      · show qJ YX6_seek κ _ (qLy u, M6, y) 0 0 41 [some (qR 56), some (qI z), some (qI i), none, none, none] []
        refine qJ.run hκ 7 (pc' := 51) (ls' := [some (qR 56), some (qI z), some (qI i), none, none, none]) (st' := [qI ((z * 12) + i), qR 74]) rfl ?_
        refine qJ.ald hκ rfl rfl rfl (by decide) (by omega) ?_
        show qJ YX6_seek κ _ (qLy u, M6, y) 0 0 52 [some (qR 56), some (qI z), some (qI i), none, none, none] [qI (M6 74 (((z * 12) + i).toNat))]
        refine qJ.run hκ 2 (pc' := 54) (ls' := [some (qR 56), some (qI z), some (qI i), some (qI (M6 74 (((z * 12) + i).toNat))), none, none]) (st' := [qI z]) rfl ?_
        refine qJ.if_ne hκ (tgt := 78) rfl rfl (by omega) (fun c54 => ?_) (fun c54 => ?_)
        · show qJ YX6_seek κ _ (qLy u, M6, y) 0 0 78 [some (qR 56), some (qI z), some (qI i), some (qI (M6 74 (((z * 12) + i).toNat))), none, none] []
          refine qJ.run hκ 3 (pc' := 81) (ls' := [some (qR 56), some (qI z), some (qI i), some (qI (M6 74 (((z * 12) + i).toNat))), none, none]) (st' := [qI i, qI z, qR 56]) rfl ?_
          refine qJ.callV (As := [qI z, qI i]) (rest := []) hκ rfl kX6_131 (c_place u M6 y D (VM D ch l) (uQ ch l) z i hD (dM_k (keep_of kDS v33_2) hM) v33_3 v33_4 (by omega) (by omega) S6) rfl rfl (by decide) rfl rfl (Nat.le_of_ble_eq_true rfl) (Nat.le_of_ble_eq_true rfl) (Nat.le_of_ble_eq_true rfl) (Or.inl (fun r h' e => by obtain ⟨z81, m7, rfl, rfl, K7, R7, H7⟩ := e; rfl)) (fun r h' e => ?_)
          obtain ⟨z81, m7, rfl, rfl, K7, R7, H7⟩ := e
          rw [zt] at H7
          show qJ YX6_seek κ _ (qLy u, m7, y) 0 0 84 [some (qR 56), some (qI z), some (qI i), some (qI (M6 74 (((z * 12) + i).toNat))), none, none] [qI z81]
          have zr : -1 ≤ z81 ∧ z81 < 1048576 := by rcases H7 with q | ⟨b, q⟩; (omega); (have := q.1; have := q.2.1; omega)
          refine qJ.run hκ 3 (pc' := 89) (ls' := [some (qR 56), some (qI z), some (qI i), some (qI (M6 74 (((z * 12) + i).toNat))), some (qI z81), none]) (st' := [qI (-1), qI z81]) rfl ?_
          refine qJ.icmp_ne hκ (tgt := 95) rfl rfl (by omega) (by omega) (fun c89 => ?_) (fun c89 => ?_)
          · show qJ YX6_seek κ _ (qLy u, m7, y) 0 0 95 [some (qR 56), some (qI z), some (qI i), some (qI (M6 74 (((z * 12) + i).toNat))), some (qI z81), none] []
            have Z7 : ∃ b : Nat, z81 = (b : Int) ∧ b < 1048576 ∧ (¬ uQ ch l i.toNat ∧ fitW D i.toNat l (VM D ch l)) ∧ aS D (vP D i.toNat l (VM D ch l) (dL D i.toNat).toNat) m7 ∧ uM m7 (fun t => uQ ch l t ∨ t = i.toNat) ∧ ∀ t : Nat, t < 20 → (pb b t ↔ (VM D ch l t = -1 ∧ ¬ vP D i.toNat l (VM D ch l) (dL D i.toNat).toNat t = -1)) := by rcases H7 with q | q; (exact absurd q.1 c89); (exact q)
            clear H7
            obtain ⟨b, e81, b20, F7, A70, U70, PB0⟩ := Z7
            have FT : ftL D (q_fu ch l (i.toNat : Int)) l := ftL_fu.mpr F7
            have ve : VM D (q_fu ch l (i.toNat : Int)) (l + 1) = vP D i.toNat l (VM D ch l) (dL D i.toNat).toNat := by rw [VM_fu, F7.2.1]
            have A7 : aS D (VM D (q_fu ch l (i.toNat : Int)) (l + 1)) m7 := by rw [ve]; exact A70
            have U7 : uM m7 (uQ (q_fu ch l (i.toNat : Int)) (l + 1)) := uM_c U70 rfl (fun t _ => uQ_s)
            have PB : ∀ t : Nat, t < 20 → (pb b t ↔ (VM D ch l t = -1 ∧ ¬ VM D (q_fu ch l (i.toNat : Int)) (l + 1) t = -1)) := by rw [ve]; exact PB0
            have S7 : ∀ t : Nat, t < 20 → -2 ≤ m7 75 t ∧ m7 75 t ≤ 27 := fun t ht => by rw [(R7 t ht).1]; exact S6 t ht
            have UU : ∀ t : Nat, t < 12 → ((uQ (q_fu ch l (i.toNat : Int)) (l + 1) t ∧ ¬ t = i.toNat) ↔ uQ ch l t) := fun t _ => ⟨fun q => (uQ_s.mpr q.1).elim id (fun e => absurd e q.2), fun q => ⟨uQ_s.mp (Or.inl q), fun e => F7.1 (by rw [← e]; exact q)⟩⟩
            have NX : lvF D (LV D 1 (l + 1)) l ch (i + 1).toNat = lvF D (LV D 1 (l + 1)) l ch i.toNat ++ ftI D (LV D 1 (l + 1)) l (q_fu ch l (i.toNat : Int)) := by rw [it1]; rfl
            refine qJ.run hκ 4 (pc' := 99) (ls' := [some (qR 56), some (qI z), some (qI i), some (qI (M6 74 (((z * 12) + i).toNat))), some (qI z81), none]) (st' := [qI (z + 1), qR 56]) rfl ?_
            refine qJ.callV (As := [qI (z + 1)]) (rest := []) hκ rfl kX6_138 (c_seek1 u m7 y D (q_fu ch l (i.toNat : Int)) (l + 1) p (z + 1) hD (dM_k (keep_of kDL K7) hM6) (by omega) (by omega) A7 U7 (sgS_k ((congrFun K7 71).trans (congrFun v33_2 71)) hsg) S7 ⟨(congrFun (congrFun K7 56) 19).trans v33_1.1, by omega⟩ (fun z => absurd z (by omega))) rfl rfl (by decide) rfl rfl (Nat.le_of_ble_eq_true rfl) (Nat.le_of_ble_eq_true rfl) (Nat.le_of_ble_eq_true rfl) (Or.inl (fun r h' e => by obtain ⟨z99, m8, rfl, rfl, K8, A8, U8, R8, H8⟩ := e; rfl)) (fun r h' e => ?_)
            obtain ⟨z99, m8, rfl, rfl, K8, A8, U8, R8, H8⟩ := e
            show qJ YX6_seek κ _ (qLy u, m8, y) 0 0 102 [some (qR 56), some (qI z), some (qI i), some (qI (M6 74 (((z * 12) + i).toNat))), some (qI z81), none] [qI z99]
            have zr9 : z99 = 0 ∨ z99 = 1 := by rcases H8 with q | q; (left; exact q.1); (right; exact q.1)
            have S8 : ∀ t : Nat, t < 20 → -2 ≤ m8 75 t ∧ m8 75 t ≤ 27 := fun t ht => by rw [(R8 t ht).1]; exact S7 t ht
            have D8 : dM D m8 := dM_k ((keep_of kDS K8).trans (keep_of kDL K7)) hM6
            have k8 := D8.1
            have sg8 : sgS D m8 := sgS_k ((congrFun K8 71).trans ((congrFun K7 71).trans (congrFun v33_2 71))) hsg
            refine qJ.run hκ 2 (pc' := 106) (ls' := [some (qR 56), some (qI z), some (qI i), some (qI (M6 74 (((z * 12) + i).toNat))), some (qI z81), some (qI z99)]) (st' := [qI z99]) rfl ?_
            refine qJ.if_eq hκ (tgt := 115) rfl rfl (by omega) (fun c106 => ?_) (fun c106 => ?_)
            · show qJ YX6_seek κ _ (qLy u, m8, y) 0 0 115 [some (qR 56), some (qI z), some (qI i), some (qI (M6 74 (((z * 12) + i).toNat))), some (qI z81), some (qI z99)] []
              have N8 : z99 = 0 ∧ (LV D 1 (l + 1) (q_fu ch l (i.toNat : Int))).length ≤ p ∧ m8 56 19 = (p : Int) - ((LV D 1 (l + 1) (q_fu ch l (i.toNat : Int))).length : Nat) := by rcases H8 with q | q; (exact q); (have := q.1; omega)
              clear H8
              refine qJ.run hκ 4 (pc' := 120) (ls' := [some (qR 56), some (qI z), some (qI i), some (qI (M6 74 (((z * 12) + i).toNat))), some (qI z81), some (qI z99)]) (st' := [qI 0, qI z81, qI i, qR 56]) rfl ?_
              refine qJ.callV (As := [qI i, qI z81, qI 0]) (rest := []) hκ rfl kX6_134 (c_lift u m8 y D (VM D (q_fu ch l (i.toNat : Int)) (l + 1)) (uQ (q_fu ch l (i.toNat : Int)) (l + 1)) b i z81 0 hD D8 A8 U8 (by omega) e81 b20 (by decide) S8 (fun t ht p => ((PB t ht).mp p).2)) rfl rfl (by decide) rfl rfl (Nat.le_of_ble_eq_true rfl) (Nat.le_of_ble_eq_true rfl) (Nat.le_of_ble_eq_true rfl) (Or.inl (fun r h' e => by obtain ⟨rfl, mx, Gx, rfl, Kx, Ax, Ux, Lx⟩ := e; rfl)) (fun r h' e => ?_)
              obtain ⟨rfl, mx, Gx, rfl, Kx, Ax, Ux, Lx⟩ := e
              have GX := lf_G hD (by omega) FT PB Lx
              have RX := lf_0 Lx
              show qJ YX6_seek κ _ (qLy u, mx, y) 0 0 123 [some (qR 56), some (qI z), some (qI i), some (qI (M6 74 (((z * 12) + i).toNat))), some (qI z81), some (qI z99)] []
              refine qJ.run hκ 1 (pc' := 125) (ls' := [some (qR 56), some (qI z), some (qI i), some (qI (M6 74 (((z * 12) + i).toNat))), some (qI z81), some (qI z99)]) (st' := [qI z99]) rfl ?_
              refine qJ.if_eq hκ (tgt := 130) rfl rfl (by omega) (fun c125 => ?_) (fun c125 => ?_)
              · show qJ YX6_seek κ _ (qLy u, mx, y) 0 0 130 [some (qR 56), some (qI z), some (qI i), some (qI (M6 74 (((z * 12) + i).toNat))), some (qI z81), some (qI z99)] []
                refine qJ.run hκ 2 (pc' := 33) (ls' := [some (qR 56), some (qI z), some (qI (i + 1)), some (qI (M6 74 (((z * 12) + i).toNat))), some (qI z81), some (qI z99)]) (st' := []) rfl ?_
                refine qJ.dl [true, true, true, false, false, false] ?_
                show qJ YX6_seek κ _ (qLy u, mx, y) 0 0 33 [some (qR 56), some (qI z), some (qI (i + 1)), none, none, none] []
                exact ih33  (i + 1) (p - (LV D 1 (l + 1) (q_fu ch l (i.toNat : Int))).length) mx (by omega) (⟨by rw [show mx 56 19 = m8 56 19 from congrFun (congrFun Kx 56) 19, N8.2.2]; omega, by omega⟩) ((keep_of kSkL Kx).trans (K8.trans ((keep_of kSkL K7).trans v33_2))) (aS_c GX Ax) (uM_c Ux rfl UU) (fun t ht => ⟨(RX t ht).1.trans ((R8 t ht).1.trans ((R7 t ht).1.trans (v33_5 t ht).1)), (RX t ht).2.trans ((R8 t ht).2.trans ((R7 t ht).2.trans (v33_5 t ht).2))⟩) (by rw [NX, List.length_append, ftI_y FT]; have := N8.2.1; omega) (by omega)
              · show qJ YX6_seek κ _ (qLy u, mx, y) 0 0 128 [some (qR 56), some (qI z), some (qI i), some (qI (M6 74 (((z * 12) + i).toNat))), some (qI z81), some (qI z99)] []
                exact absurd c106 c125
            · show qJ YX6_seek κ _ (qLy u, m8, y) 0 0 109 [some (qR 56), some (qI z), some (qI i), some (qI (M6 74 (((z * 12) + i).toNat))), some (qI z81), some (qI z99)] []
              have Y8 : ∃ R, (LV D 1 (l + 1) (q_fu ch l (i.toNat : Int)))[p]? = some R ∧ KT D (l + 1) R m8 := by rcases H8 with q | q; (have := q.1; omega); (exact q.2)
              clear H8
              refine qJ.run hκ 3 (pc' := 112) (ls' := [some (qR 56), some (qI z), some (qI i), some (qI (M6 74 (((z * 12) + i).toNat))), some (qI z81), some (qI z99)]) (st' := [qI i, qI z, qR 56]) rfl ?_
              refine qJ.callV (As := [qI z, qI i]) (rest := []) hκ rfl kX6_142 (c_keep u m8 y z i (by omega) (by omega) (by omega) (by rw [zt]; exact (sg8 l (by omega)).1)) rfl rfl (by decide) rfl rfl (Nat.le_of_ble_eq_true rfl) (Nat.le_of_ble_eq_true rfl) (Nat.le_of_ble_eq_true rfl) (Or.inl (fun r h' e => by obtain ⟨rfl, m9, rfl, K9, H9⟩ := e; rfl)) (fun r h' e => ?_)
              obtain ⟨rfl, m9, rfl, K9, H9⟩ := e
              have A9 : aS D (VM D (q_fu ch l (i.toNat : Int)) (l + 1)) m9 := aS_k (fun i a b => funext fun j => keep_at K9 (by unfold kN kKp; rw [decide_eq_false (by omega)]; rfl)) A8
              have U9 : uM m9 (uQ (q_fu ch l (i.toNat : Int)) (l + 1)) := uM_c U8 (congrFun (congrFun K9 56) 15) (fun t _ => Iff.rfl)
              have R9 : s75 m8 m9 := fun t ht => ⟨congrFun (congrFun K9 75) t, congrFun (congrFun K9 76) t⟩
              have S9 : ∀ t : Nat, t < 20 → -2 ≤ m9 75 t ∧ m9 75 t ≤ 27 := fun t ht => by rw [(R9 t ht).1, (R8 t ht).1]; exact S7 t ht
              have D9 : dM D m9 := dM_k (keep_of kDK K9) D8
              show qJ YX6_seek κ _ (qLy u, m9, y) 0 0 115 [some (qR 56), some (qI z), some (qI i), some (qI (M6 74 (((z * 12) + i).toNat))), some (qI z81), some (qI z99)] []
              refine qJ.run hκ 4 (pc' := 120) (ls' := [some (qR 56), some (qI z), some (qI i), some (qI (M6 74 (((z * 12) + i).toNat))), some (qI z81), some (qI z99)]) (st' := [qI 0, qI z81, qI i, qR 56]) rfl ?_
              refine qJ.callV (As := [qI i, qI z81, qI 0]) (rest := []) hκ rfl kX6_134 (c_lift u m9 y D (VM D (q_fu ch l (i.toNat : Int)) (l + 1)) (uQ (q_fu ch l (i.toNat : Int)) (l + 1)) b i z81 0 hD D9 A9 U9 (by omega) e81 b20 (by decide) S9 (fun t ht p => ((PB t ht).mp p).2)) rfl rfl (by decide) rfl rfl (Nat.le_of_ble_eq_true rfl) (Nat.le_of_ble_eq_true rfl) (Nat.le_of_ble_eq_true rfl) (Or.inl (fun r h' e => by obtain ⟨rfl, mx, Gx, rfl, Kx, Ax, Ux, Lx⟩ := e; rfl)) (fun r h' e => ?_)
              obtain ⟨rfl, mx, Gx, rfl, Kx, Ax, Ux, Lx⟩ := e
              have GX := lf_G hD (by omega) FT PB Lx
              have RX := lf_0 Lx
              show qJ YX6_seek κ _ (qLy u, mx, y) 0 0 123 [some (qR 56), some (qI z), some (qI i), some (qI (M6 74 (((z * 12) + i).toNat))), some (qI z81), some (qI z99)] []
              refine qJ.run hκ 1 (pc' := 125) (ls' := [some (qR 56), some (qI z), some (qI i), some (qI (M6 74 (((z * 12) + i).toNat))), some (qI z81), some (qI z99)]) (st' := [qI z99]) rfl ?_
              refine qJ.if_eq hκ (tgt := 130) rfl rfl (by omega) (fun c125 => ?_) (fun c125 => ?_)
              · show qJ YX6_seek κ _ (qLy u, mx, y) 0 0 130 [some (qR 56), some (qI z), some (qI i), some (qI (M6 74 (((z * 12) + i).toNat))), some (qI z81), some (qI z99)] []
                exact absurd c125 c106
              · show qJ YX6_seek κ _ (qLy u, mx, y) 0 0 128 [some (qR 56), some (qI z), some (qI i), some (qI (M6 74 (((z * 12) + i).toNat))), some (qI z81), some (qI z99)] []
                refine qJ.run hκ 1 (pc' := 129) (ls' := [some (qR 56), some (qI z), some (qI i), some (qI (M6 74 (((z * 12) + i).toNat))), some (qI z81), some (qI z99)]) (st' := [qI 1]) rfl ?_
                exact qJ.bret hκ rfl rfl (by omega) (by decide) (by decide) (by
      obtain ⟨R, r1, r2⟩ := Y8
      have rl : R l = (i.toNat : Int) := ((LV_mem 1 (l + 1) _ (List.mem_of_getElem? r1)).1 l (by omega)).trans q_fu_eq
      have f1 : (ftI D (LV D 1 (l + 1)) l (q_fu ch l (i.toNat : Int)))[p]? = some R := by rw [ftI_y FT]; exact r1
      have f2 := lvF_at (D := D) (G := (LV D 1 (l + 1))) (l := l) (ch := ch) (i := i.toNat) (n := (dK D).toNat) (by omega) f1
      have f3 : (LV D 2 l ch)[q]? = some R := by rw [show q = (lvF D (LV D 1 (l + 1)) l ch i.toNat).length + p by omega]; exact f2
      have r68 : (m 68 : Nat → Int) = m 68 := rfl
      have X71 : mx 71 = m9 71 := congrFun Kx 71
      have X68 : mx 68 = m9 68 := congrFun Kx 68
      have Y71 : m9 71 = m8 71 := congrFun K9 71
      have Y68 : m9 68 = m8 68 := congrFun K9 68
      refine ⟨1, mx, rfl, rfl, (keep_of kSkL Kx).trans ((keep_of kSkK K9).trans (K8.trans ((keep_of kSkL K7).trans v33_2))), aS_c GX Ax, uM_c Ux rfl UU, fun t ht => ⟨(RX t ht).1.trans ((R9 t ht).1.trans ((R8 t ht).1.trans ((R7 t ht).1.trans (v33_5 t ht).1))), (RX t ht).2.trans ((R9 t ht).2.trans ((R8 t ht).2.trans ((R7 t ht).2.trans (v33_5 t ht).2)))⟩, Or.inr ⟨rfl, R, f3, KT_k (M := m9) ⟨congrFun Kx 57, congrFun Kx 58, X68, X71⟩ ?_⟩⟩
      rw [zt, show i.toNat = (R l).toNat by omega] at H9
      rcases H9 with g | g
      · have := g.1; omega
      · exact KT_more (m := m8) (by omega) sg8 r2 ⟨Y71, Y68⟩ g.2.1 g.2.2)
          · show qJ YX6_seek κ _ (qLy u, m7, y) 0 0 92 [some (qR 56), some (qI z), some (qI i), some (qI (M6 74 (((z * 12) + i).toNat))), some (qI z81), none] []
            have Z7 : ¬ (¬ uQ ch l i.toNat ∧ fitW D i.toNat l (VM D ch l)) ∧ aS D (VM D ch l) m7 ∧ uM m7 (uQ ch l) := by rcases H7 with q | ⟨b, q⟩; (exact q.2); (have := q.1; omega)
            clear H7
            have NX : lvF D (LV D 1 (l + 1)) l ch (i + 1).toNat = lvF D (LV D 1 (l + 1)) l ch i.toNat ++ [] := by rw [it1]; show _ ++ ftI D _ l _ = _; rw [ftI_n (fun z => Z7.1 (ftL_fu.mp z))]
            refine qJ.run hκ 3 (pc' := 33) (ls' := [some (qR 56), some (qI z), some (qI (i + 1)), some (qI (M6 74 (((z * 12) + i).toNat))), some (qI z81), none]) (st' := []) rfl ?_
            refine qJ.dl [true, true, true, false, false, false] ?_
            show qJ YX6_seek κ _ (qLy u, m7, y) 0 0 33 [some (qR 56), some (qI z), some (qI (i + 1)), none, none, none] []
            exact ih33  (i + 1) p m7 (by omega) (⟨(congrFun (congrFun K7 56) 19).trans v33_1.1, v33_1.2⟩) ((keep_of kSkL K7).trans v33_2) (Z7.2.1) (Z7.2.2) (fun t ht => ⟨(R7 t ht).1.trans (v33_5 t ht).1, (R7 t ht).2.trans (v33_5 t ht).2⟩) (by rw [NX, List.append_nil]; exact v33_6) (by omega)
        · show qJ YX6_seek κ _ (qLy u, M6, y) 0 0 57 [some (qR 56), some (qI z), some (qI i), some (qI (M6 74 (((z * 12) + i).toNat))), none, none] []
          have SK0 : M6 74 ((z * 12) + i).toNat = ((ftI D (LV D 1 (l + 1)) l (q_fu ch l (i.toNat : Int))).length : Nat) := by
            have l0 : l = 0 := by omega
            rw [show M6 74 = m 74 from congrFun v33_2 74, show ((z * 12) + i).toNat = i.toNat by omega]
            exact hH l0 i.toNat (by omega)
          have SKb : (ftI D (LV D 1 (l + 1)) l (q_fu ch l (i.toNat : Int))).length ≤ 248832 := by
            by_cases e : ftL D (q_fu ch l (i.toNat : Int)) l
            · rw [ftI_y e]; exact LV_b hD (by decide)
            · rw [ftI_n e]; exact Nat.zero_le _
          refine qJ.run hκ 3 (pc' := 62) (ls' := [some (qR 56), some (qI z), some (qI i), some (qI (M6 74 (((z * 12) + i).toNat))), none, none]) (st' := [qI (M6 74 (((z * 12) + i).toNat)), qI (M6 56 19)]) rfl ?_
          refine qJ.icmp_lt hκ (tgt := 78) rfl rfl (by omega) (by omega) (fun c62 => ?_) (fun c62 => ?_)
          · show qJ YX6_seek κ _ (qLy u, M6, y) 0 0 78 [some (qR 56), some (qI z), some (qI i), some (qI (M6 74 (((z * 12) + i).toNat))), none, none] []
            refine qJ.run hκ 3 (pc' := 81) (ls' := [some (qR 56), some (qI z), some (qI i), some (qI (M6 74 (((z * 12) + i).toNat))), none, none]) (st' := [qI i, qI z, qR 56]) rfl ?_
            refine qJ.callV (As := [qI z, qI i]) (rest := []) hκ rfl kX6_131 (c_place u M6 y D (VM D ch l) (uQ ch l) z i hD (dM_k (keep_of kDS v33_2) hM) v33_3 v33_4 (by omega) (by omega) S6) rfl rfl (by decide) rfl rfl (Nat.le_of_ble_eq_true rfl) (Nat.le_of_ble_eq_true rfl) (Nat.le_of_ble_eq_true rfl) (Or.inl (fun r h' e => by obtain ⟨z81, m7, rfl, rfl, K7, R7, H7⟩ := e; rfl)) (fun r h' e => ?_)
            obtain ⟨z81, m7, rfl, rfl, K7, R7, H7⟩ := e
            rw [zt] at H7
            show qJ YX6_seek κ _ (qLy u, m7, y) 0 0 84 [some (qR 56), some (qI z), some (qI i), some (qI (M6 74 (((z * 12) + i).toNat))), none, none] [qI z81]
            have zr : -1 ≤ z81 ∧ z81 < 1048576 := by rcases H7 with q | ⟨b, q⟩; (omega); (have := q.1; have := q.2.1; omega)
            refine qJ.run hκ 3 (pc' := 89) (ls' := [some (qR 56), some (qI z), some (qI i), some (qI (M6 74 (((z * 12) + i).toNat))), some (qI z81), none]) (st' := [qI (-1), qI z81]) rfl ?_
            refine qJ.icmp_ne hκ (tgt := 95) rfl rfl (by omega) (by omega) (fun c89 => ?_) (fun c89 => ?_)
            · show qJ YX6_seek κ _ (qLy u, m7, y) 0 0 95 [some (qR 56), some (qI z), some (qI i), some (qI (M6 74 (((z * 12) + i).toNat))), some (qI z81), none] []
              have Z7 : ∃ b : Nat, z81 = (b : Int) ∧ b < 1048576 ∧ (¬ uQ ch l i.toNat ∧ fitW D i.toNat l (VM D ch l)) ∧ aS D (vP D i.toNat l (VM D ch l) (dL D i.toNat).toNat) m7 ∧ uM m7 (fun t => uQ ch l t ∨ t = i.toNat) ∧ ∀ t : Nat, t < 20 → (pb b t ↔ (VM D ch l t = -1 ∧ ¬ vP D i.toNat l (VM D ch l) (dL D i.toNat).toNat t = -1)) := by rcases H7 with q | q; (exact absurd q.1 c89); (exact q)
              clear H7
              obtain ⟨b, e81, b20, F7, A70, U70, PB0⟩ := Z7
              have FT : ftL D (q_fu ch l (i.toNat : Int)) l := ftL_fu.mpr F7
              have ve : VM D (q_fu ch l (i.toNat : Int)) (l + 1) = vP D i.toNat l (VM D ch l) (dL D i.toNat).toNat := by rw [VM_fu, F7.2.1]
              have A7 : aS D (VM D (q_fu ch l (i.toNat : Int)) (l + 1)) m7 := by rw [ve]; exact A70
              have U7 : uM m7 (uQ (q_fu ch l (i.toNat : Int)) (l + 1)) := uM_c U70 rfl (fun t _ => uQ_s)
              have PB : ∀ t : Nat, t < 20 → (pb b t ↔ (VM D ch l t = -1 ∧ ¬ VM D (q_fu ch l (i.toNat : Int)) (l + 1) t = -1)) := by rw [ve]; exact PB0
              have S7 : ∀ t : Nat, t < 20 → -2 ≤ m7 75 t ∧ m7 75 t ≤ 27 := fun t ht => by rw [(R7 t ht).1]; exact S6 t ht
              have UU : ∀ t : Nat, t < 12 → ((uQ (q_fu ch l (i.toNat : Int)) (l + 1) t ∧ ¬ t = i.toNat) ↔ uQ ch l t) := fun t _ => ⟨fun q => (uQ_s.mpr q.1).elim id (fun e => absurd e q.2), fun q => ⟨uQ_s.mp (Or.inl q), fun e => F7.1 (by rw [← e]; exact q)⟩⟩
              have NX : lvF D (LV D 1 (l + 1)) l ch (i + 1).toNat = lvF D (LV D 1 (l + 1)) l ch i.toNat ++ ftI D (LV D 1 (l + 1)) l (q_fu ch l (i.toNat : Int)) := by rw [it1]; rfl
              refine qJ.run hκ 4 (pc' := 99) (ls' := [some (qR 56), some (qI z), some (qI i), some (qI (M6 74 (((z * 12) + i).toNat))), some (qI z81), none]) (st' := [qI (z + 1), qR 56]) rfl ?_
              refine qJ.callV (As := [qI (z + 1)]) (rest := []) hκ rfl kX6_138 (c_seek1 u m7 y D (q_fu ch l (i.toNat : Int)) (l + 1) p (z + 1) hD (dM_k (keep_of kDL K7) hM6) (by omega) (by omega) A7 U7 (sgS_k ((congrFun K7 71).trans (congrFun v33_2 71)) hsg) S7 ⟨(congrFun (congrFun K7 56) 19).trans v33_1.1, by omega⟩ (fun z => absurd z (by omega))) rfl rfl (by decide) rfl rfl (Nat.le_of_ble_eq_true rfl) (Nat.le_of_ble_eq_true rfl) (Nat.le_of_ble_eq_true rfl) (Or.inl (fun r h' e => by obtain ⟨z99, m8, rfl, rfl, K8, A8, U8, R8, H8⟩ := e; rfl)) (fun r h' e => ?_)
              obtain ⟨z99, m8, rfl, rfl, K8, A8, U8, R8, H8⟩ := e
              show qJ YX6_seek κ _ (qLy u, m8, y) 0 0 102 [some (qR 56), some (qI z), some (qI i), some (qI (M6 74 (((z * 12) + i).toNat))), some (qI z81), none] [qI z99]
              have zr9 : z99 = 0 ∨ z99 = 1 := by rcases H8 with q | q; (left; exact q.1); (right; exact q.1)
              have S8 : ∀ t : Nat, t < 20 → -2 ≤ m8 75 t ∧ m8 75 t ≤ 27 := fun t ht => by rw [(R8 t ht).1]; exact S7 t ht
              have D8 : dM D m8 := dM_k ((keep_of kDS K8).trans (keep_of kDL K7)) hM6
              have k8 := D8.1
              have sg8 : sgS D m8 := sgS_k ((congrFun K8 71).trans ((congrFun K7 71).trans (congrFun v33_2 71))) hsg
              refine qJ.run hκ 2 (pc' := 106) (ls' := [some (qR 56), some (qI z), some (qI i), some (qI (M6 74 (((z * 12) + i).toNat))), some (qI z81), some (qI z99)]) (st' := [qI z99]) rfl ?_
              refine qJ.if_eq hκ (tgt := 115) rfl rfl (by omega) (fun c106 => ?_) (fun c106 => ?_)
              · show qJ YX6_seek κ _ (qLy u, m8, y) 0 0 115 [some (qR 56), some (qI z), some (qI i), some (qI (M6 74 (((z * 12) + i).toNat))), some (qI z81), some (qI z99)] []
                have N8 : z99 = 0 ∧ (LV D 1 (l + 1) (q_fu ch l (i.toNat : Int))).length ≤ p ∧ m8 56 19 = (p : Int) - ((LV D 1 (l + 1) (q_fu ch l (i.toNat : Int))).length : Nat) := by rcases H8 with q | q; (exact q); (have := q.1; omega)
                clear H8
                refine qJ.run hκ 4 (pc' := 120) (ls' := [some (qR 56), some (qI z), some (qI i), some (qI (M6 74 (((z * 12) + i).toNat))), some (qI z81), some (qI z99)]) (st' := [qI 0, qI z81, qI i, qR 56]) rfl ?_
                refine qJ.callV (As := [qI i, qI z81, qI 0]) (rest := []) hκ rfl kX6_134 (c_lift u m8 y D (VM D (q_fu ch l (i.toNat : Int)) (l + 1)) (uQ (q_fu ch l (i.toNat : Int)) (l + 1)) b i z81 0 hD D8 A8 U8 (by omega) e81 b20 (by decide) S8 (fun t ht p => ((PB t ht).mp p).2)) rfl rfl (by decide) rfl rfl (Nat.le_of_ble_eq_true rfl) (Nat.le_of_ble_eq_true rfl) (Nat.le_of_ble_eq_true rfl) (Or.inl (fun r h' e => by obtain ⟨rfl, mx, Gx, rfl, Kx, Ax, Ux, Lx⟩ := e; rfl)) (fun r h' e => ?_)
                obtain ⟨rfl, mx, Gx, rfl, Kx, Ax, Ux, Lx⟩ := e
                have GX := lf_G hD (by omega) FT PB Lx
                have RX := lf_0 Lx
                show qJ YX6_seek κ _ (qLy u, mx, y) 0 0 123 [some (qR 56), some (qI z), some (qI i), some (qI (M6 74 (((z * 12) + i).toNat))), some (qI z81), some (qI z99)] []
                refine qJ.run hκ 1 (pc' := 125) (ls' := [some (qR 56), some (qI z), some (qI i), some (qI (M6 74 (((z * 12) + i).toNat))), some (qI z81), some (qI z99)]) (st' := [qI z99]) rfl ?_
                refine qJ.if_eq hκ (tgt := 130) rfl rfl (by omega) (fun c125 => ?_) (fun c125 => ?_)
                · show qJ YX6_seek κ _ (qLy u, mx, y) 0 0 130 [some (qR 56), some (qI z), some (qI i), some (qI (M6 74 (((z * 12) + i).toNat))), some (qI z81), some (qI z99)] []
                  refine qJ.run hκ 2 (pc' := 33) (ls' := [some (qR 56), some (qI z), some (qI (i + 1)), some (qI (M6 74 (((z * 12) + i).toNat))), some (qI z81), some (qI z99)]) (st' := []) rfl ?_
                  refine qJ.dl [true, true, true, false, false, false] ?_
                  show qJ YX6_seek κ _ (qLy u, mx, y) 0 0 33 [some (qR 56), some (qI z), some (qI (i + 1)), none, none, none] []
                  exact ih33  (i + 1) (p - (LV D 1 (l + 1) (q_fu ch l (i.toNat : Int))).length) mx (by omega) (⟨by rw [show mx 56 19 = m8 56 19 from congrFun (congrFun Kx 56) 19, N8.2.2]; omega, by omega⟩) ((keep_of kSkL Kx).trans (K8.trans ((keep_of kSkL K7).trans v33_2))) (aS_c GX Ax) (uM_c Ux rfl UU) (fun t ht => ⟨(RX t ht).1.trans ((R8 t ht).1.trans ((R7 t ht).1.trans (v33_5 t ht).1)), (RX t ht).2.trans ((R8 t ht).2.trans ((R7 t ht).2.trans (v33_5 t ht).2))⟩) (by rw [NX, List.length_append, ftI_y FT]; have := N8.2.1; omega) (by omega)
                · show qJ YX6_seek κ _ (qLy u, mx, y) 0 0 128 [some (qR 56), some (qI z), some (qI i), some (qI (M6 74 (((z * 12) + i).toNat))), some (qI z81), some (qI z99)] []
                  exact absurd c106 c125
              · show qJ YX6_seek κ _ (qLy u, m8, y) 0 0 109 [some (qR 56), some (qI z), some (qI i), some (qI (M6 74 (((z * 12) + i).toNat))), some (qI z81), some (qI z99)] []
                have Y8 : ∃ R, (LV D 1 (l + 1) (q_fu ch l (i.toNat : Int)))[p]? = some R ∧ KT D (l + 1) R m8 := by rcases H8 with q | q; (have := q.1; omega); (exact q.2)
                clear H8
                refine qJ.run hκ 3 (pc' := 112) (ls' := [some (qR 56), some (qI z), some (qI i), some (qI (M6 74 (((z * 12) + i).toNat))), some (qI z81), some (qI z99)]) (st' := [qI i, qI z, qR 56]) rfl ?_
                refine qJ.callV (As := [qI z, qI i]) (rest := []) hκ rfl kX6_142 (c_keep u m8 y z i (by omega) (by omega) (by omega) (by rw [zt]; exact (sg8 l (by omega)).1)) rfl rfl (by decide) rfl rfl (Nat.le_of_ble_eq_true rfl) (Nat.le_of_ble_eq_true rfl) (Nat.le_of_ble_eq_true rfl) (Or.inl (fun r h' e => by obtain ⟨rfl, m9, rfl, K9, H9⟩ := e; rfl)) (fun r h' e => ?_)
                obtain ⟨rfl, m9, rfl, K9, H9⟩ := e
                have A9 : aS D (VM D (q_fu ch l (i.toNat : Int)) (l + 1)) m9 := aS_k (fun i a b => funext fun j => keep_at K9 (by unfold kN kKp; rw [decide_eq_false (by omega)]; rfl)) A8
                have U9 : uM m9 (uQ (q_fu ch l (i.toNat : Int)) (l + 1)) := uM_c U8 (congrFun (congrFun K9 56) 15) (fun t _ => Iff.rfl)
                have R9 : s75 m8 m9 := fun t ht => ⟨congrFun (congrFun K9 75) t, congrFun (congrFun K9 76) t⟩
                have S9 : ∀ t : Nat, t < 20 → -2 ≤ m9 75 t ∧ m9 75 t ≤ 27 := fun t ht => by rw [(R9 t ht).1, (R8 t ht).1]; exact S7 t ht
                have D9 : dM D m9 := dM_k (keep_of kDK K9) D8
                show qJ YX6_seek κ _ (qLy u, m9, y) 0 0 115 [some (qR 56), some (qI z), some (qI i), some (qI (M6 74 (((z * 12) + i).toNat))), some (qI z81), some (qI z99)] []
                refine qJ.run hκ 4 (pc' := 120) (ls' := [some (qR 56), some (qI z), some (qI i), some (qI (M6 74 (((z * 12) + i).toNat))), some (qI z81), some (qI z99)]) (st' := [qI 0, qI z81, qI i, qR 56]) rfl ?_
                refine qJ.callV (As := [qI i, qI z81, qI 0]) (rest := []) hκ rfl kX6_134 (c_lift u m9 y D (VM D (q_fu ch l (i.toNat : Int)) (l + 1)) (uQ (q_fu ch l (i.toNat : Int)) (l + 1)) b i z81 0 hD D9 A9 U9 (by omega) e81 b20 (by decide) S9 (fun t ht p => ((PB t ht).mp p).2)) rfl rfl (by decide) rfl rfl (Nat.le_of_ble_eq_true rfl) (Nat.le_of_ble_eq_true rfl) (Nat.le_of_ble_eq_true rfl) (Or.inl (fun r h' e => by obtain ⟨rfl, mx, Gx, rfl, Kx, Ax, Ux, Lx⟩ := e; rfl)) (fun r h' e => ?_)
                obtain ⟨rfl, mx, Gx, rfl, Kx, Ax, Ux, Lx⟩ := e
                have GX := lf_G hD (by omega) FT PB Lx
                have RX := lf_0 Lx
                show qJ YX6_seek κ _ (qLy u, mx, y) 0 0 123 [some (qR 56), some (qI z), some (qI i), some (qI (M6 74 (((z * 12) + i).toNat))), some (qI z81), some (qI z99)] []
                refine qJ.run hκ 1 (pc' := 125) (ls' := [some (qR 56), some (qI z), some (qI i), some (qI (M6 74 (((z * 12) + i).toNat))), some (qI z81), some (qI z99)]) (st' := [qI z99]) rfl ?_
                refine qJ.if_eq hκ (tgt := 130) rfl rfl (by omega) (fun c125 => ?_) (fun c125 => ?_)
                · show qJ YX6_seek κ _ (qLy u, mx, y) 0 0 130 [some (qR 56), some (qI z), some (qI i), some (qI (M6 74 (((z * 12) + i).toNat))), some (qI z81), some (qI z99)] []
                  exact absurd c125 c106
                · show qJ YX6_seek κ _ (qLy u, mx, y) 0 0 128 [some (qR 56), some (qI z), some (qI i), some (qI (M6 74 (((z * 12) + i).toNat))), some (qI z81), some (qI z99)] []
                  refine qJ.run hκ 1 (pc' := 129) (ls' := [some (qR 56), some (qI z), some (qI i), some (qI (M6 74 (((z * 12) + i).toNat))), some (qI z81), some (qI z99)]) (st' := [qI 1]) rfl ?_
                  exact qJ.bret hκ rfl rfl (by omega) (by decide) (by decide) (by
      obtain ⟨R, r1, r2⟩ := Y8
      have rl : R l = (i.toNat : Int) := ((LV_mem 1 (l + 1) _ (List.mem_of_getElem? r1)).1 l (by omega)).trans q_fu_eq
      have f1 : (ftI D (LV D 1 (l + 1)) l (q_fu ch l (i.toNat : Int)))[p]? = some R := by rw [ftI_y FT]; exact r1
      have f2 := lvF_at (D := D) (G := (LV D 1 (l + 1))) (l := l) (ch := ch) (i := i.toNat) (n := (dK D).toNat) (by omega) f1
      have f3 : (LV D 2 l ch)[q]? = some R := by rw [show q = (lvF D (LV D 1 (l + 1)) l ch i.toNat).length + p by omega]; exact f2
      have r68 : (m 68 : Nat → Int) = m 68 := rfl
      have X71 : mx 71 = m9 71 := congrFun Kx 71
      have X68 : mx 68 = m9 68 := congrFun Kx 68
      have Y71 : m9 71 = m8 71 := congrFun K9 71
      have Y68 : m9 68 = m8 68 := congrFun K9 68
      refine ⟨1, mx, rfl, rfl, (keep_of kSkL Kx).trans ((keep_of kSkK K9).trans (K8.trans ((keep_of kSkL K7).trans v33_2))), aS_c GX Ax, uM_c Ux rfl UU, fun t ht => ⟨(RX t ht).1.trans ((R9 t ht).1.trans ((R8 t ht).1.trans ((R7 t ht).1.trans (v33_5 t ht).1))), (RX t ht).2.trans ((R9 t ht).2.trans ((R8 t ht).2.trans ((R7 t ht).2.trans (v33_5 t ht).2)))⟩, Or.inr ⟨rfl, R, f3, KT_k (M := m9) ⟨congrFun Kx 57, congrFun Kx 58, X68, X71⟩ ?_⟩⟩
      rw [zt, show i.toNat = (R l).toNat by omega] at H9
      rcases H9 with g | g
      · have := g.1; omega
      · exact KT_more (m := m8) (by omega) sg8 r2 ⟨Y71, Y68⟩ g.2.1 g.2.2)
            · show qJ YX6_seek κ _ (qLy u, m7, y) 0 0 92 [some (qR 56), some (qI z), some (qI i), some (qI (M6 74 (((z * 12) + i).toNat))), some (qI z81), none] []
              have Z7 : ¬ (¬ uQ ch l i.toNat ∧ fitW D i.toNat l (VM D ch l)) ∧ aS D (VM D ch l) m7 ∧ uM m7 (uQ ch l) := by rcases H7 with q | ⟨b, q⟩; (exact q.2); (have := q.1; omega)
              clear H7
              have NX : lvF D (LV D 1 (l + 1)) l ch (i + 1).toNat = lvF D (LV D 1 (l + 1)) l ch i.toNat ++ [] := by rw [it1]; show _ ++ ftI D _ l _ = _; rw [ftI_n (fun z => Z7.1 (ftL_fu.mp z))]
              refine qJ.run hκ 3 (pc' := 33) (ls' := [some (qR 56), some (qI z), some (qI (i + 1)), some (qI (M6 74 (((z * 12) + i).toNat))), some (qI z81), none]) (st' := []) rfl ?_
              refine qJ.dl [true, true, true, false, false, false] ?_
              show qJ YX6_seek κ _ (qLy u, m7, y) 0 0 33 [some (qR 56), some (qI z), some (qI (i + 1)), none, none, none] []
              exact ih33  (i + 1) p m7 (by omega) (⟨(congrFun (congrFun K7 56) 19).trans v33_1.1, v33_1.2⟩) ((keep_of kSkL K7).trans v33_2) (Z7.2.1) (Z7.2.2) (fun t ht => ⟨(R7 t ht).1.trans (v33_5 t ht).1, (R7 t ht).2.trans (v33_5 t ht).2⟩) (by rw [NX, List.append_nil]; exact v33_6) (by omega)
          · show qJ YX6_seek κ _ (qLy u, M6, y) 0 0 65 [some (qR 56), some (qI z), some (qI i), some (qI (M6 74 (((z * 12) + i).toNat))), none, none] []
            have SK1 := SK0
            have NX : lvF D (LV D 1 (l + 1)) l ch (i + 1).toNat = lvF D (LV D 1 (l + 1)) l ch i.toNat ++ ftI D (LV D 1 (l + 1)) l (q_fu ch l (i.toNat : Int)) := by rw [it1]; rfl
            refine qJ.run hκ 5 (pc' := 72) (ls' := [some (qR 56), some (qI z), some (qI i), some (qI (M6 74 (((z * 12) + i).toNat))), none, none]) (st' := [qI ((M6 56 19) - (M6 74 (((z * 12) + i).toNat))), qR 56]) rfl ?_
            refine qJ.putI hκ rfl rfl rfl rfl (Or.inl rfl) ?_
            show qJ YX6_seek κ _ (qLy u, (q_up M6 56 19 ((M6 56 19) - (M6 74 (((z * 12) + i).toNat)))), y) 0 0 75 [some (qR 56), some (qI z), some (qI i), some (qI (M6 74 (((z * 12) + i).toNat))), none, none] []
            refine qJ.run hκ 3 (pc' := 33) (ls' := [some (qR 56), some (qI z), some (qI (i + 1)), some (qI (M6 74 (((z * 12) + i).toNat))), none, none]) (st' := []) rfl ?_
            refine qJ.dl [true, true, true, false, false, false] ?_
            show qJ YX6_seek κ _ (qLy u, (q_up M6 56 19 ((M6 56 19) - (M6 74 (((z * 12) + i).toNat)))), y) 0 0 33 [some (qR 56), some (qI z), some (qI (i + 1)), none, none, none] []
            exact ih33  (i + 1) (p - (ftI D (LV D 1 (l + 1)) l (q_fu ch l (i.toNat : Int))).length) (q_up M6 56 19 ((M6 56 19) - (M6 74 (((z * 12) + i).toNat)))) (by omega) (⟨by show M6 56 19 - _ = _; rw [SK1]; omega, by omega⟩) (Eq.trans (keep_up (by rfl)) v33_2) (aS_k (fun i a b => q_up_rw (by omega)) v33_3) (uM_c v33_4 rfl (fun t _ => Iff.rfl)) (fun t ht => v33_5 t ht) (by rw [NX, List.length_append]; omega) (by omega)
  show qJ YX6_seek κ _ (qLy u, m, y) 0 0 0 [some (qR 56), some (qI z), none, none, none, none] []
  refine qJ.run hκ 3 (pc' := 5) (ls' := [some (qR 56), some (qI z), none, none, none, none]) (st' := [qI (m 56 14), qI z]) rfl ?_
  refine qJ.icmp_lt hκ (tgt := 31) rfl rfl (by omega) (by omega) (fun c5 => ?_) (fun c5 => ?_)
  · show qJ YX6_seek κ _ (qLy u, m, y) 0 0 31 [some (qR 56), some (qI z), none, none, none, none] []
    refine qJ.run hκ 2 (pc' := 33) (ls' := [some (qR 56), some (qI z), some (qI 0), none, none, none]) (st' := []) rfl ?_
    exact L33 13 0 q m (by omega) (⟨hq.1, by omega⟩) (rfl) (hA) (hU) (fun t ht => ⟨rfl, rfl⟩) (by show ((0 : Nat) : Int) + _ = _; omega) (by omega)
  · show qJ YX6_seek κ _ (qLy u, m, y) 0 0 8 [some (qR 56), some (qI z), none, none, none, none] []
    exfalso; omega

set_option maxRecDepth 100000 in
theorem c_seek3 (u : qU) (m y : qM) (D : qD) (ch : Nat → Int) (l q : Nat) (z : Int) (hD : dOk D) (hM : dM D m) (hz : z = (l : Int)) (hl : (l : Int) + 3 = dN D) (hA : aS D (VM D ch l) m) (hU : uM m (uQ ch l)) (hsg : sgS D m) (h7 : ∀ t : Nat, t < 20 → -2 ≤ m 75 t ∧ m 75 t ≤ 27) (hq : m 56 19 = (q : Int) ∧ (q : Int) ≤ 1000000) (hH : l = 0 → ∀ i : Nat, (i : Int) < dK D → m 74 i = ((ftI D (LV D 2 (l + 1)) l (q_fu ch l (i : Int))).length : Nat)) : qCt YX6_seek 6 0 0 [qR 56, qI z] (qLy u, m, y) (fun r h => ∃ (zz : Int) (m' : qM), r = some (qI zz) ∧ h = (qLy u, m', y) ∧ keep (kN kSk) m' = keep (kN kSk) m ∧ aS D (VM D ch l) m' ∧ uM m' (uQ ch l) ∧ s75 m m' ∧ ((zz = 0 ∧ (LV D 3 l ch).length ≤ q ∧ m' 56 19 = (q : Int) - ((LV D 3 l ch).length : Nat)) ∨ (zz = 1 ∧ ∃ R, (LV D 3 l ch)[q]? = some R ∧ KT D l R m'))) := by
  refine qCt.intro okX6_seek (Nat.le_of_ble_eq_true rfl) (fun κ hκ => ?_)
  have k0 := hM.1
  have kb := hD.1
  have zt : z.toNat = l := by omega
  have q2 := hq.2
  have L33 : ∀ (n : Nat) (i : Int) (p : Nat) (M6 : qM), (0 ≤ i ∧ i ≤ dK D) → (M6 56 19 = (p : Int) ∧ (p : Int) ≤ 1000000) → (keep (kN kSk) M6 = keep (kN kSk) m) → (aS D (VM D ch l) M6) → (uM M6 (uQ ch l)) → (s75 m M6) → ((((lvF D (LV D 2 (l + 1)) l ch i.toNat).length : Nat) : Int) + (p : Int) = (q : Int)) → ((dK D - i).toNat) < n → qJ YX6_seek κ (qFin (fun r h => ∃ (zz : Int) (m' : qM), r = some (qI zz) ∧ h = (qLy u, m', y) ∧ keep (kN kSk) m' = keep (kN kSk) m ∧ aS D (VM D ch l) m' ∧ uM m' (uQ ch l) ∧ s75 m m' ∧ ((zz = 0 ∧ (LV D 3 l ch).length ≤ q ∧ m' 56 19 = (q : Int) - ((LV D 3 l ch).length : Nat)) ∨ (zz = 1 ∧ ∃ R, (LV D 3 l ch)[q]? = some R ∧ KT D l R m'))) 0 0 κ) (qLy u, M6, y) 0 0 33 [some (qR 56), some (qI z), some (qI i), none, none, none] [] := by
    intro n
    induction n with
    | zero => intro i p M6 _ _ _ _ _ _ _ hz0; omega
    | succ n ih33 =>
      intro i p M6 v33_0 v33_1 v33_2 v33_3 v33_4 v33_5 v33_6 v33_m
      have k10 : M6 56 10 = dK D := (congrFun (congrFun v33_2 56) 10).trans k0.1
      have hM6 := dM_k (keep_of kDS v33_2) hM
      have pq := v33_1
      have S6 : ∀ t : Nat, t < 20 → -2 ≤ M6 75 t ∧ M6 75 t ≤ 27 := fun t ht => by rw [(v33_5 t ht).1]; exact h7 t ht
      have it1 : (i + 1).toNat = i.toNat + 1 := by omega
      refine qJ.run hκ 3 (pc' := 38) (ls' := [some (qR 56), some (qI z), some (qI i), none, none, none]) (st' := [qI (M6 56 10), qI i]) rfl ?_
      refine qJ.icmp_ge hκ (tgt := 136) rfl rfl (by omega) (by omega) (fun c38 => ?_) (fun c38 => ?_)
      · show qJ YX6_seek κ _ (qLy u, M6, y) 0 0 136 [some (qR 56), some (qI z), some (qI i), none, none, none] []
        refine qJ.run hκ 1 (pc' := 137) (ls' := [some (qR 56), some (qI z), some (qI i), none, none, none]) (st' := [qI 0]) rfl ?_
        exact qJ.bret hκ rfl rfl (by omega) (by decide) (by decide) (by
      rw [show i.toNat = (dK D).toNat by omega] at v33_6
      have v6 : (((LV D 3 l ch).length : Nat) : Int) + (p : Int) = (q : Int) := v33_6
      exact ⟨0, M6, rfl, rfl, v33_2, v33_3, v33_4, v33_5, Or.inl ⟨rfl, by omega, by omega⟩⟩)
      · show qJ YX6_seek κ _ (qLy u, M6, y) 0 0 41 [some (qR 56), some (qI z), some (qI i), none, none, none] []
        refine qJ.run hκ 7 (pc' := 51) (ls' := [some (qR 56), some (qI z), some (qI i), none, none, none]) (st' := [qI ((z * 12) + i), qR 74]) rfl ?_
        refine qJ.ald hκ rfl rfl rfl (by decide) (by omega) ?_
        show qJ YX6_seek κ _ (qLy u, M6, y) 0 0 52 [some (qR 56), some (qI z), some (qI i), none, none, none] [qI (M6 74 (((z * 12) + i).toNat))]
        refine qJ.run hκ 2 (pc' := 54) (ls' := [some (qR 56), some (qI z), some (qI i), some (qI (M6 74 (((z * 12) + i).toNat))), none, none]) (st' := [qI z]) rfl ?_
        refine qJ.if_ne hκ (tgt := 78) rfl rfl (by omega) (fun c54 => ?_) (fun c54 => ?_)
        · show qJ YX6_seek κ _ (qLy u, M6, y) 0 0 78 [some (qR 56), some (qI z), some (qI i), some (qI (M6 74 (((z * 12) + i).toNat))), none, none] []
          refine qJ.run hκ 3 (pc' := 81) (ls' := [some (qR 56), some (qI z), some (qI i), some (qI (M6 74 (((z * 12) + i).toNat))), none, none]) (st' := [qI i, qI z, qR 56]) rfl ?_
          refine qJ.callV (As := [qI z, qI i]) (rest := []) hκ rfl kX6_131 (c_place u M6 y D (VM D ch l) (uQ ch l) z i hD (dM_k (keep_of kDS v33_2) hM) v33_3 v33_4 (by omega) (by omega) S6) rfl rfl (by decide) rfl rfl (Nat.le_of_ble_eq_true rfl) (Nat.le_of_ble_eq_true rfl) (Nat.le_of_ble_eq_true rfl) (Or.inl (fun r h' e => by obtain ⟨z81, m7, rfl, rfl, K7, R7, H7⟩ := e; rfl)) (fun r h' e => ?_)
          obtain ⟨z81, m7, rfl, rfl, K7, R7, H7⟩ := e
          rw [zt] at H7
          show qJ YX6_seek κ _ (qLy u, m7, y) 0 0 84 [some (qR 56), some (qI z), some (qI i), some (qI (M6 74 (((z * 12) + i).toNat))), none, none] [qI z81]
          have zr : -1 ≤ z81 ∧ z81 < 1048576 := by rcases H7 with q | ⟨b, q⟩; (omega); (have := q.1; have := q.2.1; omega)
          refine qJ.run hκ 3 (pc' := 89) (ls' := [some (qR 56), some (qI z), some (qI i), some (qI (M6 74 (((z * 12) + i).toNat))), some (qI z81), none]) (st' := [qI (-1), qI z81]) rfl ?_
          refine qJ.icmp_ne hκ (tgt := 95) rfl rfl (by omega) (by omega) (fun c89 => ?_) (fun c89 => ?_)
          · show qJ YX6_seek κ _ (qLy u, m7, y) 0 0 95 [some (qR 56), some (qI z), some (qI i), some (qI (M6 74 (((z * 12) + i).toNat))), some (qI z81), none] []
            have Z7 : ∃ b : Nat, z81 = (b : Int) ∧ b < 1048576 ∧ (¬ uQ ch l i.toNat ∧ fitW D i.toNat l (VM D ch l)) ∧ aS D (vP D i.toNat l (VM D ch l) (dL D i.toNat).toNat) m7 ∧ uM m7 (fun t => uQ ch l t ∨ t = i.toNat) ∧ ∀ t : Nat, t < 20 → (pb b t ↔ (VM D ch l t = -1 ∧ ¬ vP D i.toNat l (VM D ch l) (dL D i.toNat).toNat t = -1)) := by rcases H7 with q | q; (exact absurd q.1 c89); (exact q)
            clear H7
            obtain ⟨b, e81, b20, F7, A70, U70, PB0⟩ := Z7
            have FT : ftL D (q_fu ch l (i.toNat : Int)) l := ftL_fu.mpr F7
            have ve : VM D (q_fu ch l (i.toNat : Int)) (l + 1) = vP D i.toNat l (VM D ch l) (dL D i.toNat).toNat := by rw [VM_fu, F7.2.1]
            have A7 : aS D (VM D (q_fu ch l (i.toNat : Int)) (l + 1)) m7 := by rw [ve]; exact A70
            have U7 : uM m7 (uQ (q_fu ch l (i.toNat : Int)) (l + 1)) := uM_c U70 rfl (fun t _ => uQ_s)
            have PB : ∀ t : Nat, t < 20 → (pb b t ↔ (VM D ch l t = -1 ∧ ¬ VM D (q_fu ch l (i.toNat : Int)) (l + 1) t = -1)) := by rw [ve]; exact PB0
            have S7 : ∀ t : Nat, t < 20 → -2 ≤ m7 75 t ∧ m7 75 t ≤ 27 := fun t ht => by rw [(R7 t ht).1]; exact S6 t ht
            have UU : ∀ t : Nat, t < 12 → ((uQ (q_fu ch l (i.toNat : Int)) (l + 1) t ∧ ¬ t = i.toNat) ↔ uQ ch l t) := fun t _ => ⟨fun q => (uQ_s.mpr q.1).elim id (fun e => absurd e q.2), fun q => ⟨uQ_s.mp (Or.inl q), fun e => F7.1 (by rw [← e]; exact q)⟩⟩
            have NX : lvF D (LV D 2 (l + 1)) l ch (i + 1).toNat = lvF D (LV D 2 (l + 1)) l ch i.toNat ++ ftI D (LV D 2 (l + 1)) l (q_fu ch l (i.toNat : Int)) := by rw [it1]; rfl
            refine qJ.run hκ 4 (pc' := 99) (ls' := [some (qR 56), some (qI z), some (qI i), some (qI (M6 74 (((z * 12) + i).toNat))), some (qI z81), none]) (st' := [qI (z + 1), qR 56]) rfl ?_
            refine qJ.callV (As := [qI (z + 1)]) (rest := []) hκ rfl kX6_138 (c_seek2 u m7 y D (q_fu ch l (i.toNat : Int)) (l + 1) p (z + 1) hD (dM_k (keep_of kDL K7) hM6) (by omega) (by omega) A7 U7 (sgS_k ((congrFun K7 71).trans (congrFun v33_2 71)) hsg) S7 ⟨(congrFun (congrFun K7 56) 19).trans v33_1.1, by omega⟩ (fun z => absurd z (by omega))) rfl rfl (by decide) rfl rfl (Nat.le_of_ble_eq_true rfl) (Nat.le_of_ble_eq_true rfl) (Nat.le_of_ble_eq_true rfl) (Or.inl (fun r h' e => by obtain ⟨z99, m8, rfl, rfl, K8, A8, U8, R8, H8⟩ := e; rfl)) (fun r h' e => ?_)
            obtain ⟨z99, m8, rfl, rfl, K8, A8, U8, R8, H8⟩ := e
            show qJ YX6_seek κ _ (qLy u, m8, y) 0 0 102 [some (qR 56), some (qI z), some (qI i), some (qI (M6 74 (((z * 12) + i).toNat))), some (qI z81), none] [qI z99]
            have zr9 : z99 = 0 ∨ z99 = 1 := by rcases H8 with q | q; (left; exact q.1); (right; exact q.1)
            have S8 : ∀ t : Nat, t < 20 → -2 ≤ m8 75 t ∧ m8 75 t ≤ 27 := fun t ht => by rw [(R8 t ht).1]; exact S7 t ht
            have D8 : dM D m8 := dM_k ((keep_of kDS K8).trans (keep_of kDL K7)) hM6
            have k8 := D8.1
            have sg8 : sgS D m8 := sgS_k ((congrFun K8 71).trans ((congrFun K7 71).trans (congrFun v33_2 71))) hsg
            refine qJ.run hκ 2 (pc' := 106) (ls' := [some (qR 56), some (qI z), some (qI i), some (qI (M6 74 (((z * 12) + i).toNat))), some (qI z81), some (qI z99)]) (st' := [qI z99]) rfl ?_
            refine qJ.if_eq hκ (tgt := 115) rfl rfl (by omega) (fun c106 => ?_) (fun c106 => ?_)
            · show qJ YX6_seek κ _ (qLy u, m8, y) 0 0 115 [some (qR 56), some (qI z), some (qI i), some (qI (M6 74 (((z * 12) + i).toNat))), some (qI z81), some (qI z99)] []
              have N8 : z99 = 0 ∧ (LV D 2 (l + 1) (q_fu ch l (i.toNat : Int))).length ≤ p ∧ m8 56 19 = (p : Int) - ((LV D 2 (l + 1) (q_fu ch l (i.toNat : Int))).length : Nat) := by rcases H8 with q | q; (exact q); (have := q.1; omega)
              clear H8
              refine qJ.run hκ 4 (pc' := 120) (ls' := [some (qR 56), some (qI z), some (qI i), some (qI (M6 74 (((z * 12) + i).toNat))), some (qI z81), some (qI z99)]) (st' := [qI 0, qI z81, qI i, qR 56]) rfl ?_
              refine qJ.callV (As := [qI i, qI z81, qI 0]) (rest := []) hκ rfl kX6_134 (c_lift u m8 y D (VM D (q_fu ch l (i.toNat : Int)) (l + 1)) (uQ (q_fu ch l (i.toNat : Int)) (l + 1)) b i z81 0 hD D8 A8 U8 (by omega) e81 b20 (by decide) S8 (fun t ht p => ((PB t ht).mp p).2)) rfl rfl (by decide) rfl rfl (Nat.le_of_ble_eq_true rfl) (Nat.le_of_ble_eq_true rfl) (Nat.le_of_ble_eq_true rfl) (Or.inl (fun r h' e => by obtain ⟨rfl, mx, Gx, rfl, Kx, Ax, Ux, Lx⟩ := e; rfl)) (fun r h' e => ?_)
              obtain ⟨rfl, mx, Gx, rfl, Kx, Ax, Ux, Lx⟩ := e
              have GX := lf_G hD (by omega) FT PB Lx
              have RX := lf_0 Lx
              show qJ YX6_seek κ _ (qLy u, mx, y) 0 0 123 [some (qR 56), some (qI z), some (qI i), some (qI (M6 74 (((z * 12) + i).toNat))), some (qI z81), some (qI z99)] []
              refine qJ.run hκ 1 (pc' := 125) (ls' := [some (qR 56), some (qI z), some (qI i), some (qI (M6 74 (((z * 12) + i).toNat))), some (qI z81), some (qI z99)]) (st' := [qI z99]) rfl ?_
              refine qJ.if_eq hκ (tgt := 130) rfl rfl (by omega) (fun c125 => ?_) (fun c125 => ?_)
              · show qJ YX6_seek κ _ (qLy u, mx, y) 0 0 130 [some (qR 56), some (qI z), some (qI i), some (qI (M6 74 (((z * 12) + i).toNat))), some (qI z81), some (qI z99)] []
                refine qJ.run hκ 2 (pc' := 33) (ls' := [some (qR 56), some (qI z), some (qI (i + 1)), some (qI (M6 74 (((z * 12) + i).toNat))), some (qI z81), some (qI z99)]) (st' := []) rfl ?_
                refine qJ.dl [true, true, true, false, false, false] ?_
                show qJ YX6_seek κ _ (qLy u, mx, y) 0 0 33 [some (qR 56), some (qI z), some (qI (i + 1)), none, none, none] []
                exact ih33  (i + 1) (p - (LV D 2 (l + 1) (q_fu ch l (i.toNat : Int))).length) mx (by omega) (⟨by rw [show mx 56 19 = m8 56 19 from congrFun (congrFun Kx 56) 19, N8.2.2]; omega, by omega⟩) ((keep_of kSkL Kx).trans (K8.trans ((keep_of kSkL K7).trans v33_2))) (aS_c GX Ax) (uM_c Ux rfl UU) (fun t ht => ⟨(RX t ht).1.trans ((R8 t ht).1.trans ((R7 t ht).1.trans (v33_5 t ht).1)), (RX t ht).2.trans ((R8 t ht).2.trans ((R7 t ht).2.trans (v33_5 t ht).2))⟩) (by rw [NX, List.length_append, ftI_y FT]; have := N8.2.1; omega) (by omega)
              · show qJ YX6_seek κ _ (qLy u, mx, y) 0 0 128 [some (qR 56), some (qI z), some (qI i), some (qI (M6 74 (((z * 12) + i).toNat))), some (qI z81), some (qI z99)] []
                exact absurd c106 c125
            · show qJ YX6_seek κ _ (qLy u, m8, y) 0 0 109 [some (qR 56), some (qI z), some (qI i), some (qI (M6 74 (((z * 12) + i).toNat))), some (qI z81), some (qI z99)] []
              have Y8 : ∃ R, (LV D 2 (l + 1) (q_fu ch l (i.toNat : Int)))[p]? = some R ∧ KT D (l + 1) R m8 := by rcases H8 with q | q; (have := q.1; omega); (exact q.2)
              clear H8
              refine qJ.run hκ 3 (pc' := 112) (ls' := [some (qR 56), some (qI z), some (qI i), some (qI (M6 74 (((z * 12) + i).toNat))), some (qI z81), some (qI z99)]) (st' := [qI i, qI z, qR 56]) rfl ?_
              refine qJ.callV (As := [qI z, qI i]) (rest := []) hκ rfl kX6_142 (c_keep u m8 y z i (by omega) (by omega) (by omega) (by rw [zt]; exact (sg8 l (by omega)).1)) rfl rfl (by decide) rfl rfl (Nat.le_of_ble_eq_true rfl) (Nat.le_of_ble_eq_true rfl) (Nat.le_of_ble_eq_true rfl) (Or.inl (fun r h' e => by obtain ⟨rfl, m9, rfl, K9, H9⟩ := e; rfl)) (fun r h' e => ?_)
              obtain ⟨rfl, m9, rfl, K9, H9⟩ := e
              have A9 : aS D (VM D (q_fu ch l (i.toNat : Int)) (l + 1)) m9 := aS_k (fun i a b => funext fun j => keep_at K9 (by unfold kN kKp; rw [decide_eq_false (by omega)]; rfl)) A8
              have U9 : uM m9 (uQ (q_fu ch l (i.toNat : Int)) (l + 1)) := uM_c U8 (congrFun (congrFun K9 56) 15) (fun t _ => Iff.rfl)
              have R9 : s75 m8 m9 := fun t ht => ⟨congrFun (congrFun K9 75) t, congrFun (congrFun K9 76) t⟩
              have S9 : ∀ t : Nat, t < 20 → -2 ≤ m9 75 t ∧ m9 75 t ≤ 27 := fun t ht => by rw [(R9 t ht).1, (R8 t ht).1]; exact S7 t ht
              have D9 : dM D m9 := dM_k (keep_of kDK K9) D8
              show qJ YX6_seek κ _ (qLy u, m9, y) 0 0 115 [some (qR 56), some (qI z), some (qI i), some (qI (M6 74 (((z * 12) + i).toNat))), some (qI z81), some (qI z99)] []
              refine qJ.run hκ 4 (pc' := 120) (ls' := [some (qR 56), some (qI z), some (qI i), some (qI (M6 74 (((z * 12) + i).toNat))), some (qI z81), some (qI z99)]) (st' := [qI 0, qI z81, qI i, qR 56]) rfl ?_
              refine qJ.callV (As := [qI i, qI z81, qI 0]) (rest := []) hκ rfl kX6_134 (c_lift u m9 y D (VM D (q_fu ch l (i.toNat : Int)) (l + 1)) (uQ (q_fu ch l (i.toNat : Int)) (l + 1)) b i z81 0 hD D9 A9 U9 (by omega) e81 b20 (by decide) S9 (fun t ht p => ((PB t ht).mp p).2)) rfl rfl (by decide) rfl rfl (Nat.le_of_ble_eq_true rfl) (Nat.le_of_ble_eq_true rfl) (Nat.le_of_ble_eq_true rfl) (Or.inl (fun r h' e => by obtain ⟨rfl, mx, Gx, rfl, Kx, Ax, Ux, Lx⟩ := e; rfl)) (fun r h' e => ?_)
              obtain ⟨rfl, mx, Gx, rfl, Kx, Ax, Ux, Lx⟩ := e
              have GX := lf_G hD (by omega) FT PB Lx
              have RX := lf_0 Lx
              show qJ YX6_seek κ _ (qLy u, mx, y) 0 0 123 [some (qR 56), some (qI z), some (qI i), some (qI (M6 74 (((z * 12) + i).toNat))), some (qI z81), some (qI z99)] []
              refine qJ.run hκ 1 (pc' := 125) (ls' := [some (qR 56), some (qI z), some (qI i), some (qI (M6 74 (((z * 12) + i).toNat))), some (qI z81), some (qI z99)]) (st' := [qI z99]) rfl ?_
              refine qJ.if_eq hκ (tgt := 130) rfl rfl (by omega) (fun c125 => ?_) (fun c125 => ?_)
              · show qJ YX6_seek κ _ (qLy u, mx, y) 0 0 130 [some (qR 56), some (qI z), some (qI i), some (qI (M6 74 (((z * 12) + i).toNat))), some (qI z81), some (qI z99)] []
                exact absurd c125 c106
              · show qJ YX6_seek κ _ (qLy u, mx, y) 0 0 128 [some (qR 56), some (qI z), some (qI i), some (qI (M6 74 (((z * 12) + i).toNat))), some (qI z81), some (qI z99)] []
                refine qJ.run hκ 1 (pc' := 129) (ls' := [some (qR 56), some (qI z), some (qI i), some (qI (M6 74 (((z * 12) + i).toNat))), some (qI z81), some (qI z99)]) (st' := [qI 1]) rfl ?_
                exact qJ.bret hκ rfl rfl (by omega) (by decide) (by decide) (by
      obtain ⟨R, r1, r2⟩ := Y8
      have rl : R l = (i.toNat : Int) := ((LV_mem 2 (l + 1) _ (List.mem_of_getElem? r1)).1 l (by omega)).trans q_fu_eq
      have f1 : (ftI D (LV D 2 (l + 1)) l (q_fu ch l (i.toNat : Int)))[p]? = some R := by rw [ftI_y FT]; exact r1
      have f2 := lvF_at (D := D) (G := (LV D 2 (l + 1))) (l := l) (ch := ch) (i := i.toNat) (n := (dK D).toNat) (by omega) f1
      have f3 : (LV D 3 l ch)[q]? = some R := by rw [show q = (lvF D (LV D 2 (l + 1)) l ch i.toNat).length + p by omega]; exact f2
      have r68 : (m 68 : Nat → Int) = m 68 := rfl
      have X71 : mx 71 = m9 71 := congrFun Kx 71
      have X68 : mx 68 = m9 68 := congrFun Kx 68
      have Y71 : m9 71 = m8 71 := congrFun K9 71
      have Y68 : m9 68 = m8 68 := congrFun K9 68
      refine ⟨1, mx, rfl, rfl, (keep_of kSkL Kx).trans ((keep_of kSkK K9).trans (K8.trans ((keep_of kSkL K7).trans v33_2))), aS_c GX Ax, uM_c Ux rfl UU, fun t ht => ⟨(RX t ht).1.trans ((R9 t ht).1.trans ((R8 t ht).1.trans ((R7 t ht).1.trans (v33_5 t ht).1))), (RX t ht).2.trans ((R9 t ht).2.trans ((R8 t ht).2.trans ((R7 t ht).2.trans (v33_5 t ht).2)))⟩, Or.inr ⟨rfl, R, f3, KT_k (M := m9) ⟨congrFun Kx 57, congrFun Kx 58, X68, X71⟩ ?_⟩⟩
      rw [zt, show i.toNat = (R l).toNat by omega] at H9
      rcases H9 with g | g
      · have := g.1; omega
      · exact KT_more (m := m8) (by omega) sg8 r2 ⟨Y71, Y68⟩ g.2.1 g.2.2)
          · show qJ YX6_seek κ _ (qLy u, m7, y) 0 0 92 [some (qR 56), some (qI z), some (qI i), some (qI (M6 74 (((z * 12) + i).toNat))), some (qI z81), none] []
            have Z7 : ¬ (¬ uQ ch l i.toNat ∧ fitW D i.toNat l (VM D ch l)) ∧ aS D (VM D ch l) m7 ∧ uM m7 (uQ ch l) := by rcases H7 with q | ⟨b, q⟩; (exact q.2); (have := q.1; omega)
            clear H7
            have NX : lvF D (LV D 2 (l + 1)) l ch (i + 1).toNat = lvF D (LV D 2 (l + 1)) l ch i.toNat ++ [] := by rw [it1]; show _ ++ ftI D _ l _ = _; rw [ftI_n (fun z => Z7.1 (ftL_fu.mp z))]
            refine qJ.run hκ 3 (pc' := 33) (ls' := [some (qR 56), some (qI z), some (qI (i + 1)), some (qI (M6 74 (((z * 12) + i).toNat))), some (qI z81), none]) (st' := []) rfl ?_
            refine qJ.dl [true, true, true, false, false, false] ?_
            show qJ YX6_seek κ _ (qLy u, m7, y) 0 0 33 [some (qR 56), some (qI z), some (qI (i + 1)), none, none, none] []
            exact ih33  (i + 1) p m7 (by omega) (⟨(congrFun (congrFun K7 56) 19).trans v33_1.1, v33_1.2⟩) ((keep_of kSkL K7).trans v33_2) (Z7.2.1) (Z7.2.2) (fun t ht => ⟨(R7 t ht).1.trans (v33_5 t ht).1, (R7 t ht).2.trans (v33_5 t ht).2⟩) (by rw [NX, List.append_nil]; exact v33_6) (by omega)
        · show qJ YX6_seek κ _ (qLy u, M6, y) 0 0 57 [some (qR 56), some (qI z), some (qI i), some (qI (M6 74 (((z * 12) + i).toNat))), none, none] []
          have SK0 : M6 74 ((z * 12) + i).toNat = ((ftI D (LV D 2 (l + 1)) l (q_fu ch l (i.toNat : Int))).length : Nat) := by
            have l0 : l = 0 := by omega
            rw [show M6 74 = m 74 from congrFun v33_2 74, show ((z * 12) + i).toNat = i.toNat by omega]
            exact hH l0 i.toNat (by omega)
          have SKb : (ftI D (LV D 2 (l + 1)) l (q_fu ch l (i.toNat : Int))).length ≤ 248832 := by
            by_cases e : ftL D (q_fu ch l (i.toNat : Int)) l
            · rw [ftI_y e]; exact LV_b hD (by decide)
            · rw [ftI_n e]; exact Nat.zero_le _
          refine qJ.run hκ 3 (pc' := 62) (ls' := [some (qR 56), some (qI z), some (qI i), some (qI (M6 74 (((z * 12) + i).toNat))), none, none]) (st' := [qI (M6 74 (((z * 12) + i).toNat)), qI (M6 56 19)]) rfl ?_
          refine qJ.icmp_lt hκ (tgt := 78) rfl rfl (by omega) (by omega) (fun c62 => ?_) (fun c62 => ?_)
          · show qJ YX6_seek κ _ (qLy u, M6, y) 0 0 78 [some (qR 56), some (qI z), some (qI i), some (qI (M6 74 (((z * 12) + i).toNat))), none, none] []
            refine qJ.run hκ 3 (pc' := 81) (ls' := [some (qR 56), some (qI z), some (qI i), some (qI (M6 74 (((z * 12) + i).toNat))), none, none]) (st' := [qI i, qI z, qR 56]) rfl ?_
            refine qJ.callV (As := [qI z, qI i]) (rest := []) hκ rfl kX6_131 (c_place u M6 y D (VM D ch l) (uQ ch l) z i hD (dM_k (keep_of kDS v33_2) hM) v33_3 v33_4 (by omega) (by omega) S6) rfl rfl (by decide) rfl rfl (Nat.le_of_ble_eq_true rfl) (Nat.le_of_ble_eq_true rfl) (Nat.le_of_ble_eq_true rfl) (Or.inl (fun r h' e => by obtain ⟨z81, m7, rfl, rfl, K7, R7, H7⟩ := e; rfl)) (fun r h' e => ?_)
            obtain ⟨z81, m7, rfl, rfl, K7, R7, H7⟩ := e
            rw [zt] at H7
            show qJ YX6_seek κ _ (qLy u, m7, y) 0 0 84 [some (qR 56), some (qI z), some (qI i), some (qI (M6 74 (((z * 12) + i).toNat))), none, none] [qI z81]
            have zr : -1 ≤ z81 ∧ z81 < 1048576 := by rcases H7 with q | ⟨b, q⟩; (omega); (have := q.1; have := q.2.1; omega)
            refine qJ.run hκ 3 (pc' := 89) (ls' := [some (qR 56), some (qI z), some (qI i), some (qI (M6 74 (((z * 12) + i).toNat))), some (qI z81), none]) (st' := [qI (-1), qI z81]) rfl ?_
            refine qJ.icmp_ne hκ (tgt := 95) rfl rfl (by omega) (by omega) (fun c89 => ?_) (fun c89 => ?_)
            · show qJ YX6_seek κ _ (qLy u, m7, y) 0 0 95 [some (qR 56), some (qI z), some (qI i), some (qI (M6 74 (((z * 12) + i).toNat))), some (qI z81), none] []
              have Z7 : ∃ b : Nat, z81 = (b : Int) ∧ b < 1048576 ∧ (¬ uQ ch l i.toNat ∧ fitW D i.toNat l (VM D ch l)) ∧ aS D (vP D i.toNat l (VM D ch l) (dL D i.toNat).toNat) m7 ∧ uM m7 (fun t => uQ ch l t ∨ t = i.toNat) ∧ ∀ t : Nat, t < 20 → (pb b t ↔ (VM D ch l t = -1 ∧ ¬ vP D i.toNat l (VM D ch l) (dL D i.toNat).toNat t = -1)) := by rcases H7 with q | q; (exact absurd q.1 c89); (exact q)
              clear H7
              obtain ⟨b, e81, b20, F7, A70, U70, PB0⟩ := Z7
              have FT : ftL D (q_fu ch l (i.toNat : Int)) l := ftL_fu.mpr F7
              have ve : VM D (q_fu ch l (i.toNat : Int)) (l + 1) = vP D i.toNat l (VM D ch l) (dL D i.toNat).toNat := by rw [VM_fu, F7.2.1]
              have A7 : aS D (VM D (q_fu ch l (i.toNat : Int)) (l + 1)) m7 := by rw [ve]; exact A70
              have U7 : uM m7 (uQ (q_fu ch l (i.toNat : Int)) (l + 1)) := uM_c U70 rfl (fun t _ => uQ_s)
              have PB : ∀ t : Nat, t < 20 → (pb b t ↔ (VM D ch l t = -1 ∧ ¬ VM D (q_fu ch l (i.toNat : Int)) (l + 1) t = -1)) := by rw [ve]; exact PB0
              have S7 : ∀ t : Nat, t < 20 → -2 ≤ m7 75 t ∧ m7 75 t ≤ 27 := fun t ht => by rw [(R7 t ht).1]; exact S6 t ht
              have UU : ∀ t : Nat, t < 12 → ((uQ (q_fu ch l (i.toNat : Int)) (l + 1) t ∧ ¬ t = i.toNat) ↔ uQ ch l t) := fun t _ => ⟨fun q => (uQ_s.mpr q.1).elim id (fun e => absurd e q.2), fun q => ⟨uQ_s.mp (Or.inl q), fun e => F7.1 (by rw [← e]; exact q)⟩⟩
              have NX : lvF D (LV D 2 (l + 1)) l ch (i + 1).toNat = lvF D (LV D 2 (l + 1)) l ch i.toNat ++ ftI D (LV D 2 (l + 1)) l (q_fu ch l (i.toNat : Int)) := by rw [it1]; rfl
              refine qJ.run hκ 4 (pc' := 99) (ls' := [some (qR 56), some (qI z), some (qI i), some (qI (M6 74 (((z * 12) + i).toNat))), some (qI z81), none]) (st' := [qI (z + 1), qR 56]) rfl ?_
              refine qJ.callV (As := [qI (z + 1)]) (rest := []) hκ rfl kX6_138 (c_seek2 u m7 y D (q_fu ch l (i.toNat : Int)) (l + 1) p (z + 1) hD (dM_k (keep_of kDL K7) hM6) (by omega) (by omega) A7 U7 (sgS_k ((congrFun K7 71).trans (congrFun v33_2 71)) hsg) S7 ⟨(congrFun (congrFun K7 56) 19).trans v33_1.1, by omega⟩ (fun z => absurd z (by omega))) rfl rfl (by decide) rfl rfl (Nat.le_of_ble_eq_true rfl) (Nat.le_of_ble_eq_true rfl) (Nat.le_of_ble_eq_true rfl) (Or.inl (fun r h' e => by obtain ⟨z99, m8, rfl, rfl, K8, A8, U8, R8, H8⟩ := e; rfl)) (fun r h' e => ?_)
              obtain ⟨z99, m8, rfl, rfl, K8, A8, U8, R8, H8⟩ := e
              show qJ YX6_seek κ _ (qLy u, m8, y) 0 0 102 [some (qR 56), some (qI z), some (qI i), some (qI (M6 74 (((z * 12) + i).toNat))), some (qI z81), none] [qI z99]
              have zr9 : z99 = 0 ∨ z99 = 1 := by rcases H8 with q | q; (left; exact q.1); (right; exact q.1)
              have S8 : ∀ t : Nat, t < 20 → -2 ≤ m8 75 t ∧ m8 75 t ≤ 27 := fun t ht => by rw [(R8 t ht).1]; exact S7 t ht
              have D8 : dM D m8 := dM_k ((keep_of kDS K8).trans (keep_of kDL K7)) hM6
              have k8 := D8.1
              have sg8 : sgS D m8 := sgS_k ((congrFun K8 71).trans ((congrFun K7 71).trans (congrFun v33_2 71))) hsg
              refine qJ.run hκ 2 (pc' := 106) (ls' := [some (qR 56), some (qI z), some (qI i), some (qI (M6 74 (((z * 12) + i).toNat))), some (qI z81), some (qI z99)]) (st' := [qI z99]) rfl ?_
              refine qJ.if_eq hκ (tgt := 115) rfl rfl (by omega) (fun c106 => ?_) (fun c106 => ?_)
              · show qJ YX6_seek κ _ (qLy u, m8, y) 0 0 115 [some (qR 56), some (qI z), some (qI i), some (qI (M6 74 (((z * 12) + i).toNat))), some (qI z81), some (qI z99)] []
                have N8 : z99 = 0 ∧ (LV D 2 (l + 1) (q_fu ch l (i.toNat : Int))).length ≤ p ∧ m8 56 19 = (p : Int) - ((LV D 2 (l + 1) (q_fu ch l (i.toNat : Int))).length : Nat) := by rcases H8 with q | q; (exact q); (have := q.1; omega)
                clear H8
                refine qJ.run hκ 4 (pc' := 120) (ls' := [some (qR 56), some (qI z), some (qI i), some (qI (M6 74 (((z * 12) + i).toNat))), some (qI z81), some (qI z99)]) (st' := [qI 0, qI z81, qI i, qR 56]) rfl ?_
                refine qJ.callV (As := [qI i, qI z81, qI 0]) (rest := []) hκ rfl kX6_134 (c_lift u m8 y D (VM D (q_fu ch l (i.toNat : Int)) (l + 1)) (uQ (q_fu ch l (i.toNat : Int)) (l + 1)) b i z81 0 hD D8 A8 U8 (by omega) e81 b20 (by decide) S8 (fun t ht p => ((PB t ht).mp p).2)) rfl rfl (by decide) rfl rfl (Nat.le_of_ble_eq_true rfl) (Nat.le_of_ble_eq_true rfl) (Nat.le_of_ble_eq_true rfl) (Or.inl (fun r h' e => by obtain ⟨rfl, mx, Gx, rfl, Kx, Ax, Ux, Lx⟩ := e; rfl)) (fun r h' e => ?_)
                obtain ⟨rfl, mx, Gx, rfl, Kx, Ax, Ux, Lx⟩ := e
                have GX := lf_G hD (by omega) FT PB Lx
                have RX := lf_0 Lx
                show qJ YX6_seek κ _ (qLy u, mx, y) 0 0 123 [some (qR 56), some (qI z), some (qI i), some (qI (M6 74 (((z * 12) + i).toNat))), some (qI z81), some (qI z99)] []
                refine qJ.run hκ 1 (pc' := 125) (ls' := [some (qR 56), some (qI z), some (qI i), some (qI (M6 74 (((z * 12) + i).toNat))), some (qI z81), some (qI z99)]) (st' := [qI z99]) rfl ?_
                refine qJ.if_eq hκ (tgt := 130) rfl rfl (by omega) (fun c125 => ?_) (fun c125 => ?_)
                · show qJ YX6_seek κ _ (qLy u, mx, y) 0 0 130 [some (qR 56), some (qI z), some (qI i), some (qI (M6 74 (((z * 12) + i).toNat))), some (qI z81), some (qI z99)] []
                  refine qJ.run hκ 2 (pc' := 33) (ls' := [some (qR 56), some (qI z), some (qI (i + 1)), some (qI (M6 74 (((z * 12) + i).toNat))), some (qI z81), some (qI z99)]) (st' := []) rfl ?_
                  refine qJ.dl [true, true, true, false, false, false] ?_
                  show qJ YX6_seek κ _ (qLy u, mx, y) 0 0 33 [some (qR 56), some (qI z), some (qI (i + 1)), none, none, none] []
                  exact ih33  (i + 1) (p - (LV D 2 (l + 1) (q_fu ch l (i.toNat : Int))).length) mx (by omega) (⟨by rw [show mx 56 19 = m8 56 19 from congrFun (congrFun Kx 56) 19, N8.2.2]; omega, by omega⟩) ((keep_of kSkL Kx).trans (K8.trans ((keep_of kSkL K7).trans v33_2))) (aS_c GX Ax) (uM_c Ux rfl UU) (fun t ht => ⟨(RX t ht).1.trans ((R8 t ht).1.trans ((R7 t ht).1.trans (v33_5 t ht).1)), (RX t ht).2.trans ((R8 t ht).2.trans ((R7 t ht).2.trans (v33_5 t ht).2))⟩) (by rw [NX, List.length_append, ftI_y FT]; have := N8.2.1; omega) (by omega)
                · show qJ YX6_seek κ _ (qLy u, mx, y) 0 0 128 [some (qR 56), some (qI z), some (qI i), some (qI (M6 74 (((z * 12) + i).toNat))), some (qI z81), some (qI z99)] []
                  exact absurd c106 c125
              · show qJ YX6_seek κ _ (qLy u, m8, y) 0 0 109 [some (qR 56), some (qI z), some (qI i), some (qI (M6 74 (((z * 12) + i).toNat))), some (qI z81), some (qI z99)] []
                have Y8 : ∃ R, (LV D 2 (l + 1) (q_fu ch l (i.toNat : Int)))[p]? = some R ∧ KT D (l + 1) R m8 := by rcases H8 with q | q; (have := q.1; omega); (exact q.2)
                clear H8
                refine qJ.run hκ 3 (pc' := 112) (ls' := [some (qR 56), some (qI z), some (qI i), some (qI (M6 74 (((z * 12) + i).toNat))), some (qI z81), some (qI z99)]) (st' := [qI i, qI z, qR 56]) rfl ?_
                refine qJ.callV (As := [qI z, qI i]) (rest := []) hκ rfl kX6_142 (c_keep u m8 y z i (by omega) (by omega) (by omega) (by rw [zt]; exact (sg8 l (by omega)).1)) rfl rfl (by decide) rfl rfl (Nat.le_of_ble_eq_true rfl) (Nat.le_of_ble_eq_true rfl) (Nat.le_of_ble_eq_true rfl) (Or.inl (fun r h' e => by obtain ⟨rfl, m9, rfl, K9, H9⟩ := e; rfl)) (fun r h' e => ?_)
                obtain ⟨rfl, m9, rfl, K9, H9⟩ := e
                have A9 : aS D (VM D (q_fu ch l (i.toNat : Int)) (l + 1)) m9 := aS_k (fun i a b => funext fun j => keep_at K9 (by unfold kN kKp; rw [decide_eq_false (by omega)]; rfl)) A8
                have U9 : uM m9 (uQ (q_fu ch l (i.toNat : Int)) (l + 1)) := uM_c U8 (congrFun (congrFun K9 56) 15) (fun t _ => Iff.rfl)
                have R9 : s75 m8 m9 := fun t ht => ⟨congrFun (congrFun K9 75) t, congrFun (congrFun K9 76) t⟩
                have S9 : ∀ t : Nat, t < 20 → -2 ≤ m9 75 t ∧ m9 75 t ≤ 27 := fun t ht => by rw [(R9 t ht).1, (R8 t ht).1]; exact S7 t ht
                have D9 : dM D m9 := dM_k (keep_of kDK K9) D8
                show qJ YX6_seek κ _ (qLy u, m9, y) 0 0 115 [some (qR 56), some (qI z), some (qI i), some (qI (M6 74 (((z * 12) + i).toNat))), some (qI z81), some (qI z99)] []
                refine qJ.run hκ 4 (pc' := 120) (ls' := [some (qR 56), some (qI z), some (qI i), some (qI (M6 74 (((z * 12) + i).toNat))), some (qI z81), some (qI z99)]) (st' := [qI 0, qI z81, qI i, qR 56]) rfl ?_
                refine qJ.callV (As := [qI i, qI z81, qI 0]) (rest := []) hκ rfl kX6_134 (c_lift u m9 y D (VM D (q_fu ch l (i.toNat : Int)) (l + 1)) (uQ (q_fu ch l (i.toNat : Int)) (l + 1)) b i z81 0 hD D9 A9 U9 (by omega) e81 b20 (by decide) S9 (fun t ht p => ((PB t ht).mp p).2)) rfl rfl (by decide) rfl rfl (Nat.le_of_ble_eq_true rfl) (Nat.le_of_ble_eq_true rfl) (Nat.le_of_ble_eq_true rfl) (Or.inl (fun r h' e => by obtain ⟨rfl, mx, Gx, rfl, Kx, Ax, Ux, Lx⟩ := e; rfl)) (fun r h' e => ?_)
                obtain ⟨rfl, mx, Gx, rfl, Kx, Ax, Ux, Lx⟩ := e
                have GX := lf_G hD (by omega) FT PB Lx
                have RX := lf_0 Lx
                show qJ YX6_seek κ _ (qLy u, mx, y) 0 0 123 [some (qR 56), some (qI z), some (qI i), some (qI (M6 74 (((z * 12) + i).toNat))), some (qI z81), some (qI z99)] []
                refine qJ.run hκ 1 (pc' := 125) (ls' := [some (qR 56), some (qI z), some (qI i), some (qI (M6 74 (((z * 12) + i).toNat))), some (qI z81), some (qI z99)]) (st' := [qI z99]) rfl ?_
                refine qJ.if_eq hκ (tgt := 130) rfl rfl (by omega) (fun c125 => ?_) (fun c125 => ?_)
                · show qJ YX6_seek κ _ (qLy u, mx, y) 0 0 130 [some (qR 56), some (qI z), some (qI i), some (qI (M6 74 (((z * 12) + i).toNat))), some (qI z81), some (qI z99)] []
                  exact absurd c125 c106
                · show qJ YX6_seek κ _ (qLy u, mx, y) 0 0 128 [some (qR 56), some (qI z), some (qI i), some (qI (M6 74 (((z * 12) + i).toNat))), some (qI z81), some (qI z99)] []
                  refine qJ.run hκ 1 (pc' := 129) (ls' := [some (qR 56), some (qI z), some (qI i), some (qI (M6 74 (((z * 12) + i).toNat))), some (qI z81), some (qI z99)]) (st' := [qI 1]) rfl ?_
                  exact qJ.bret hκ rfl rfl (by omega) (by decide) (by decide) (by
      obtain ⟨R, r1, r2⟩ := Y8
      have rl : R l = (i.toNat : Int) := ((LV_mem 2 (l + 1) _ (List.mem_of_getElem? r1)).1 l (by omega)).trans q_fu_eq
      have f1 : (ftI D (LV D 2 (l + 1)) l (q_fu ch l (i.toNat : Int)))[p]? = some R := by rw [ftI_y FT]; exact r1
      have f2 := lvF_at (D := D) (G := (LV D 2 (l + 1))) (l := l) (ch := ch) (i := i.toNat) (n := (dK D).toNat) (by omega) f1
      have f3 : (LV D 3 l ch)[q]? = some R := by rw [show q = (lvF D (LV D 2 (l + 1)) l ch i.toNat).length + p by omega]; exact f2
      have r68 : (m 68 : Nat → Int) = m 68 := rfl
      have X71 : mx 71 = m9 71 := congrFun Kx 71
      have X68 : mx 68 = m9 68 := congrFun Kx 68
      have Y71 : m9 71 = m8 71 := congrFun K9 71
      have Y68 : m9 68 = m8 68 := congrFun K9 68
      refine ⟨1, mx, rfl, rfl, (keep_of kSkL Kx).trans ((keep_of kSkK K9).trans (K8.trans ((keep_of kSkL K7).trans v33_2))), aS_c GX Ax, uM_c Ux rfl UU, fun t ht => ⟨(RX t ht).1.trans ((R9 t ht).1.trans ((R8 t ht).1.trans ((R7 t ht).1.trans (v33_5 t ht).1))), (RX t ht).2.trans ((R9 t ht).2.trans ((R8 t ht).2.trans ((R7 t ht).2.trans (v33_5 t ht).2)))⟩, Or.inr ⟨rfl, R, f3, KT_k (M := m9) ⟨congrFun Kx 57, congrFun Kx 58, X68, X71⟩ ?_⟩⟩
      rw [zt, show i.toNat = (R l).toNat by omega] at H9
      rcases H9 with g | g
      · have := g.1; omega
      · exact KT_more (m := m8) (by omega) sg8 r2 ⟨Y71, Y68⟩ g.2.1 g.2.2)
            · show qJ YX6_seek κ _ (qLy u, m7, y) 0 0 92 [some (qR 56), some (qI z), some (qI i), some (qI (M6 74 (((z * 12) + i).toNat))), some (qI z81), none] []
              have Z7 : ¬ (¬ uQ ch l i.toNat ∧ fitW D i.toNat l (VM D ch l)) ∧ aS D (VM D ch l) m7 ∧ uM m7 (uQ ch l) := by rcases H7 with q | ⟨b, q⟩; (exact q.2); (have := q.1; omega)
              clear H7
              have NX : lvF D (LV D 2 (l + 1)) l ch (i + 1).toNat = lvF D (LV D 2 (l + 1)) l ch i.toNat ++ [] := by rw [it1]; show _ ++ ftI D _ l _ = _; rw [ftI_n (fun z => Z7.1 (ftL_fu.mp z))]
              refine qJ.run hκ 3 (pc' := 33) (ls' := [some (qR 56), some (qI z), some (qI (i + 1)), some (qI (M6 74 (((z * 12) + i).toNat))), some (qI z81), none]) (st' := []) rfl ?_
              refine qJ.dl [true, true, true, false, false, false] ?_
              show qJ YX6_seek κ _ (qLy u, m7, y) 0 0 33 [some (qR 56), some (qI z), some (qI (i + 1)), none, none, none] []
              exact ih33  (i + 1) p m7 (by omega) (⟨(congrFun (congrFun K7 56) 19).trans v33_1.1, v33_1.2⟩) ((keep_of kSkL K7).trans v33_2) (Z7.2.1) (Z7.2.2) (fun t ht => ⟨(R7 t ht).1.trans (v33_5 t ht).1, (R7 t ht).2.trans (v33_5 t ht).2⟩) (by rw [NX, List.append_nil]; exact v33_6) (by omega)
          · show qJ YX6_seek κ _ (qLy u, M6, y) 0 0 65 [some (qR 56), some (qI z), some (qI i), some (qI (M6 74 (((z * 12) + i).toNat))), none, none] []
            have SK1 := SK0
            have NX : lvF D (LV D 2 (l + 1)) l ch (i + 1).toNat = lvF D (LV D 2 (l + 1)) l ch i.toNat ++ ftI D (LV D 2 (l + 1)) l (q_fu ch l (i.toNat : Int)) := by rw [it1]; rfl
            refine qJ.run hκ 5 (pc' := 72) (ls' := [some (qR 56), some (qI z), some (qI i), some (qI (M6 74 (((z * 12) + i).toNat))), none, none]) (st' := [qI ((M6 56 19) - (M6 74 (((z * 12) + i).toNat))), qR 56]) rfl ?_
            refine qJ.putI hκ rfl rfl rfl rfl (Or.inl rfl) ?_
            show qJ YX6_seek κ _ (qLy u, (q_up M6 56 19 ((M6 56 19) - (M6 74 (((z * 12) + i).toNat)))), y) 0 0 75 [some (qR 56), some (qI z), some (qI i), some (qI (M6 74 (((z * 12) + i).toNat))), none, none] []
            refine qJ.run hκ 3 (pc' := 33) (ls' := [some (qR 56), some (qI z), some (qI (i + 1)), some (qI (M6 74 (((z * 12) + i).toNat))), none, none]) (st' := []) rfl ?_
            refine qJ.dl [true, true, true, false, false, false] ?_
            show qJ YX6_seek κ _ (qLy u, (q_up M6 56 19 ((M6 56 19) - (M6 74 (((z * 12) + i).toNat)))), y) 0 0 33 [some (qR 56), some (qI z), some (qI (i + 1)), none, none, none] []
            exact ih33  (i + 1) (p - (ftI D (LV D 2 (l + 1)) l (q_fu ch l (i.toNat : Int))).length) (q_up M6 56 19 ((M6 56 19) - (M6 74 (((z * 12) + i).toNat)))) (by omega) (⟨by show M6 56 19 - _ = _; rw [SK1]; omega, by omega⟩) (Eq.trans (keep_up (by rfl)) v33_2) (aS_k (fun i a b => q_up_rw (by omega)) v33_3) (uM_c v33_4 rfl (fun t _ => Iff.rfl)) (fun t ht => v33_5 t ht) (by rw [NX, List.length_append]; omega) (by omega)
  show qJ YX6_seek κ _ (qLy u, m, y) 0 0 0 [some (qR 56), some (qI z), none, none, none, none] []
  refine qJ.run hκ 3 (pc' := 5) (ls' := [some (qR 56), some (qI z), none, none, none, none]) (st' := [qI (m 56 14), qI z]) rfl ?_
  refine qJ.icmp_lt hκ (tgt := 31) rfl rfl (by omega) (by omega) (fun c5 => ?_) (fun c5 => ?_)
  · show qJ YX6_seek κ _ (qLy u, m, y) 0 0 31 [some (qR 56), some (qI z), none, none, none, none] []
    refine qJ.run hκ 2 (pc' := 33) (ls' := [some (qR 56), some (qI z), some (qI 0), none, none, none]) (st' := []) rfl ?_
    exact L33 13 0 q m (by omega) (⟨hq.1, by omega⟩) (rfl) (hA) (hU) (fun t ht => ⟨rfl, rfl⟩) (by show ((0 : Nat) : Int) + _ = _; omega) (by omega)
  · show qJ YX6_seek κ _ (qLy u, m, y) 0 0 8 [some (qR 56), some (qI z), none, none, none, none] []
    exfalso; omega

set_option maxRecDepth 100000 in
theorem c_seek4 (u : qU) (m y : qM) (D : qD) (ch : Nat → Int) (l q : Nat) (z : Int) (hD : dOk D) (hM : dM D m) (hz : z = (l : Int)) (hl : (l : Int) + 4 = dN D) (hA : aS D (VM D ch l) m) (hU : uM m (uQ ch l)) (hsg : sgS D m) (h7 : ∀ t : Nat, t < 20 → -2 ≤ m 75 t ∧ m 75 t ≤ 27) (hq : m 56 19 = (q : Int) ∧ (q : Int) ≤ 1000000) (hH : l = 0 → ∀ i : Nat, (i : Int) < dK D → m 74 i = ((ftI D (LV D 3 (l + 1)) l (q_fu ch l (i : Int))).length : Nat)) : qCt YX6_seek 7 0 0 [qR 56, qI z] (qLy u, m, y) (fun r h => ∃ (zz : Int) (m' : qM), r = some (qI zz) ∧ h = (qLy u, m', y) ∧ keep (kN kSk) m' = keep (kN kSk) m ∧ aS D (VM D ch l) m' ∧ uM m' (uQ ch l) ∧ s75 m m' ∧ ((zz = 0 ∧ (LV D 4 l ch).length ≤ q ∧ m' 56 19 = (q : Int) - ((LV D 4 l ch).length : Nat)) ∨ (zz = 1 ∧ ∃ R, (LV D 4 l ch)[q]? = some R ∧ KT D l R m'))) := by
  refine qCt.intro okX6_seek (Nat.le_of_ble_eq_true rfl) (fun κ hκ => ?_)
  have k0 := hM.1
  have kb := hD.1
  have zt : z.toNat = l := by omega
  have q2 := hq.2
  have L33 : ∀ (n : Nat) (i : Int) (p : Nat) (M6 : qM), (0 ≤ i ∧ i ≤ dK D) → (M6 56 19 = (p : Int) ∧ (p : Int) ≤ 1000000) → (keep (kN kSk) M6 = keep (kN kSk) m) → (aS D (VM D ch l) M6) → (uM M6 (uQ ch l)) → (s75 m M6) → ((((lvF D (LV D 3 (l + 1)) l ch i.toNat).length : Nat) : Int) + (p : Int) = (q : Int)) → ((dK D - i).toNat) < n → qJ YX6_seek κ (qFin (fun r h => ∃ (zz : Int) (m' : qM), r = some (qI zz) ∧ h = (qLy u, m', y) ∧ keep (kN kSk) m' = keep (kN kSk) m ∧ aS D (VM D ch l) m' ∧ uM m' (uQ ch l) ∧ s75 m m' ∧ ((zz = 0 ∧ (LV D 4 l ch).length ≤ q ∧ m' 56 19 = (q : Int) - ((LV D 4 l ch).length : Nat)) ∨ (zz = 1 ∧ ∃ R, (LV D 4 l ch)[q]? = some R ∧ KT D l R m'))) 0 0 κ) (qLy u, M6, y) 0 0 33 [some (qR 56), some (qI z), some (qI i), none, none, none] [] := by
    intro n
    induction n with
    | zero => intro i p M6 _ _ _ _ _ _ _ hz0; omega
    | succ n ih33 =>
      intro i p M6 v33_0 v33_1 v33_2 v33_3 v33_4 v33_5 v33_6 v33_m
      have k10 : M6 56 10 = dK D := (congrFun (congrFun v33_2 56) 10).trans k0.1
      have hM6 := dM_k (keep_of kDS v33_2) hM
      have pq := v33_1
      have S6 : ∀ t : Nat, t < 20 → -2 ≤ M6 75 t ∧ M6 75 t ≤ 27 := fun t ht => by rw [(v33_5 t ht).1]; exact h7 t ht
      have it1 : (i + 1).toNat = i.toNat + 1 := by omega
      refine qJ.run hκ 3 (pc' := 38) (ls' := [some (qR 56), some (qI z), some (qI i), none, none, none]) (st' := [qI (M6 56 10), qI i]) rfl ?_
      refine qJ.icmp_ge hκ (tgt := 136) rfl rfl (by omega) (by omega) (fun c38 => ?_) (fun c38 => ?_)
      · show qJ YX6_seek κ _ (qLy u, M6, y) 0 0 136 [some (qR 56), some (qI z), some (qI i), none, none, none] []
        refine qJ.run hκ 1 (pc' := 137) (ls' := [some (qR 56), some (qI z), some (qI i), none, none, none]) (st' := [qI 0]) rfl ?_
        exact qJ.bret hκ rfl rfl (by omega) (by decide) (by decide) (by
      rw [show i.toNat = (dK D).toNat by omega] at v33_6
      have v6 : (((LV D 4 l ch).length : Nat) : Int) + (p : Int) = (q : Int) := v33_6
      exact ⟨0, M6, rfl, rfl, v33_2, v33_3, v33_4, v33_5, Or.inl ⟨rfl, by omega, by omega⟩⟩)
      · show qJ YX6_seek κ _ (qLy u, M6, y) 0 0 41 [some (qR 56), some (qI z), some (qI i), none, none, none] []
        refine qJ.run hκ 7 (pc' := 51) (ls' := [some (qR 56), some (qI z), some (qI i), none, none, none]) (st' := [qI ((z * 12) + i), qR 74]) rfl ?_
        refine qJ.ald hκ rfl rfl rfl (by decide) (by omega) ?_
        show qJ YX6_seek κ _ (qLy u, M6, y) 0 0 52 [some (qR 56), some (qI z), some (qI i), none, none, none] [qI (M6 74 (((z * 12) + i).toNat))]
        refine qJ.run hκ 2 (pc' := 54) (ls' := [some (qR 56), some (qI z), some (qI i), some (qI (M6 74 (((z * 12) + i).toNat))), none, none]) (st' := [qI z]) rfl ?_
        refine qJ.if_ne hκ (tgt := 78) rfl rfl (by omega) (fun c54 => ?_) (fun c54 => ?_)
        · show qJ YX6_seek κ _ (qLy u, M6, y) 0 0 78 [some (qR 56), some (qI z), some (qI i), some (qI (M6 74 (((z * 12) + i).toNat))), none, none] []
          refine qJ.run hκ 3 (pc' := 81) (ls' := [some (qR 56), some (qI z), some (qI i), some (qI (M6 74 (((z * 12) + i).toNat))), none, none]) (st' := [qI i, qI z, qR 56]) rfl ?_
          refine qJ.callV (As := [qI z, qI i]) (rest := []) hκ rfl kX6_131 (c_place u M6 y D (VM D ch l) (uQ ch l) z i hD (dM_k (keep_of kDS v33_2) hM) v33_3 v33_4 (by omega) (by omega) S6) rfl rfl (by decide) rfl rfl (Nat.le_of_ble_eq_true rfl) (Nat.le_of_ble_eq_true rfl) (Nat.le_of_ble_eq_true rfl) (Or.inl (fun r h' e => by obtain ⟨z81, m7, rfl, rfl, K7, R7, H7⟩ := e; rfl)) (fun r h' e => ?_)
          obtain ⟨z81, m7, rfl, rfl, K7, R7, H7⟩ := e
          rw [zt] at H7
          show qJ YX6_seek κ _ (qLy u, m7, y) 0 0 84 [some (qR 56), some (qI z), some (qI i), some (qI (M6 74 (((z * 12) + i).toNat))), none, none] [qI z81]
          have zr : -1 ≤ z81 ∧ z81 < 1048576 := by rcases H7 with q | ⟨b, q⟩; (omega); (have := q.1; have := q.2.1; omega)
          refine qJ.run hκ 3 (pc' := 89) (ls' := [some (qR 56), some (qI z), some (qI i), some (qI (M6 74 (((z * 12) + i).toNat))), some (qI z81), none]) (st' := [qI (-1), qI z81]) rfl ?_
          refine qJ.icmp_ne hκ (tgt := 95) rfl rfl (by omega) (by omega) (fun c89 => ?_) (fun c89 => ?_)
          · show qJ YX6_seek κ _ (qLy u, m7, y) 0 0 95 [some (qR 56), some (qI z), some (qI i), some (qI (M6 74 (((z * 12) + i).toNat))), some (qI z81), none] []
            have Z7 : ∃ b : Nat, z81 = (b : Int) ∧ b < 1048576 ∧ (¬ uQ ch l i.toNat ∧ fitW D i.toNat l (VM D ch l)) ∧ aS D (vP D i.toNat l (VM D ch l) (dL D i.toNat).toNat) m7 ∧ uM m7 (fun t => uQ ch l t ∨ t = i.toNat) ∧ ∀ t : Nat, t < 20 → (pb b t ↔ (VM D ch l t = -1 ∧ ¬ vP D i.toNat l (VM D ch l) (dL D i.toNat).toNat t = -1)) := by rcases H7 with q | q; (exact absurd q.1 c89); (exact q)
            clear H7
            obtain ⟨b, e81, b20, F7, A70, U70, PB0⟩ := Z7
            have FT : ftL D (q_fu ch l (i.toNat : Int)) l := ftL_fu.mpr F7
            have ve : VM D (q_fu ch l (i.toNat : Int)) (l + 1) = vP D i.toNat l (VM D ch l) (dL D i.toNat).toNat := by rw [VM_fu, F7.2.1]
            have A7 : aS D (VM D (q_fu ch l (i.toNat : Int)) (l + 1)) m7 := by rw [ve]; exact A70
            have U7 : uM m7 (uQ (q_fu ch l (i.toNat : Int)) (l + 1)) := uM_c U70 rfl (fun t _ => uQ_s)
            have PB : ∀ t : Nat, t < 20 → (pb b t ↔ (VM D ch l t = -1 ∧ ¬ VM D (q_fu ch l (i.toNat : Int)) (l + 1) t = -1)) := by rw [ve]; exact PB0
            have S7 : ∀ t : Nat, t < 20 → -2 ≤ m7 75 t ∧ m7 75 t ≤ 27 := fun t ht => by rw [(R7 t ht).1]; exact S6 t ht
            have UU : ∀ t : Nat, t < 12 → ((uQ (q_fu ch l (i.toNat : Int)) (l + 1) t ∧ ¬ t = i.toNat) ↔ uQ ch l t) := fun t _ => ⟨fun q => (uQ_s.mpr q.1).elim id (fun e => absurd e q.2), fun q => ⟨uQ_s.mp (Or.inl q), fun e => F7.1 (by rw [← e]; exact q)⟩⟩
            have NX : lvF D (LV D 3 (l + 1)) l ch (i + 1).toNat = lvF D (LV D 3 (l + 1)) l ch i.toNat ++ ftI D (LV D 3 (l + 1)) l (q_fu ch l (i.toNat : Int)) := by rw [it1]; rfl
            refine qJ.run hκ 4 (pc' := 99) (ls' := [some (qR 56), some (qI z), some (qI i), some (qI (M6 74 (((z * 12) + i).toNat))), some (qI z81), none]) (st' := [qI (z + 1), qR 56]) rfl ?_
            refine qJ.callV (As := [qI (z + 1)]) (rest := []) hκ rfl kX6_138 (c_seek3 u m7 y D (q_fu ch l (i.toNat : Int)) (l + 1) p (z + 1) hD (dM_k (keep_of kDL K7) hM6) (by omega) (by omega) A7 U7 (sgS_k ((congrFun K7 71).trans (congrFun v33_2 71)) hsg) S7 ⟨(congrFun (congrFun K7 56) 19).trans v33_1.1, by omega⟩ (fun z => absurd z (by omega))) rfl rfl (by decide) rfl rfl (Nat.le_of_ble_eq_true rfl) (Nat.le_of_ble_eq_true rfl) (Nat.le_of_ble_eq_true rfl) (Or.inl (fun r h' e => by obtain ⟨z99, m8, rfl, rfl, K8, A8, U8, R8, H8⟩ := e; rfl)) (fun r h' e => ?_)
            obtain ⟨z99, m8, rfl, rfl, K8, A8, U8, R8, H8⟩ := e
            show qJ YX6_seek κ _ (qLy u, m8, y) 0 0 102 [some (qR 56), some (qI z), some (qI i), some (qI (M6 74 (((z * 12) + i).toNat))), some (qI z81), none] [qI z99]
            have zr9 : z99 = 0 ∨ z99 = 1 := by rcases H8 with q | q; (left; exact q.1); (right; exact q.1)
            have S8 : ∀ t : Nat, t < 20 → -2 ≤ m8 75 t ∧ m8 75 t ≤ 27 := fun t ht => by rw [(R8 t ht).1]; exact S7 t ht
            have D8 : dM D m8 := dM_k ((keep_of kDS K8).trans (keep_of kDL K7)) hM6
            have k8 := D8.1
            have sg8 : sgS D m8 := sgS_k ((congrFun K8 71).trans ((congrFun K7 71).trans (congrFun v33_2 71))) hsg
            refine qJ.run hκ 2 (pc' := 106) (ls' := [some (qR 56), some (qI z), some (qI i), some (qI (M6 74 (((z * 12) + i).toNat))), some (qI z81), some (qI z99)]) (st' := [qI z99]) rfl ?_
            refine qJ.if_eq hκ (tgt := 115) rfl rfl (by omega) (fun c106 => ?_) (fun c106 => ?_)
            · show qJ YX6_seek κ _ (qLy u, m8, y) 0 0 115 [some (qR 56), some (qI z), some (qI i), some (qI (M6 74 (((z * 12) + i).toNat))), some (qI z81), some (qI z99)] []
              have N8 : z99 = 0 ∧ (LV D 3 (l + 1) (q_fu ch l (i.toNat : Int))).length ≤ p ∧ m8 56 19 = (p : Int) - ((LV D 3 (l + 1) (q_fu ch l (i.toNat : Int))).length : Nat) := by rcases H8 with q | q; (exact q); (have := q.1; omega)
              clear H8
              refine qJ.run hκ 4 (pc' := 120) (ls' := [some (qR 56), some (qI z), some (qI i), some (qI (M6 74 (((z * 12) + i).toNat))), some (qI z81), some (qI z99)]) (st' := [qI 0, qI z81, qI i, qR 56]) rfl ?_
              refine qJ.callV (As := [qI i, qI z81, qI 0]) (rest := []) hκ rfl kX6_134 (c_lift u m8 y D (VM D (q_fu ch l (i.toNat : Int)) (l + 1)) (uQ (q_fu ch l (i.toNat : Int)) (l + 1)) b i z81 0 hD D8 A8 U8 (by omega) e81 b20 (by decide) S8 (fun t ht p => ((PB t ht).mp p).2)) rfl rfl (by decide) rfl rfl (Nat.le_of_ble_eq_true rfl) (Nat.le_of_ble_eq_true rfl) (Nat.le_of_ble_eq_true rfl) (Or.inl (fun r h' e => by obtain ⟨rfl, mx, Gx, rfl, Kx, Ax, Ux, Lx⟩ := e; rfl)) (fun r h' e => ?_)
              obtain ⟨rfl, mx, Gx, rfl, Kx, Ax, Ux, Lx⟩ := e
              have GX := lf_G hD (by omega) FT PB Lx
              have RX := lf_0 Lx
              show qJ YX6_seek κ _ (qLy u, mx, y) 0 0 123 [some (qR 56), some (qI z), some (qI i), some (qI (M6 74 (((z * 12) + i).toNat))), some (qI z81), some (qI z99)] []
              refine qJ.run hκ 1 (pc' := 125) (ls' := [some (qR 56), some (qI z), some (qI i), some (qI (M6 74 (((z * 12) + i).toNat))), some (qI z81), some (qI z99)]) (st' := [qI z99]) rfl ?_
              refine qJ.if_eq hκ (tgt := 130) rfl rfl (by omega) (fun c125 => ?_) (fun c125 => ?_)
              · show qJ YX6_seek κ _ (qLy u, mx, y) 0 0 130 [some (qR 56), some (qI z), some (qI i), some (qI (M6 74 (((z * 12) + i).toNat))), some (qI z81), some (qI z99)] []
                refine qJ.run hκ 2 (pc' := 33) (ls' := [some (qR 56), some (qI z), some (qI (i + 1)), some (qI (M6 74 (((z * 12) + i).toNat))), some (qI z81), some (qI z99)]) (st' := []) rfl ?_
                refine qJ.dl [true, true, true, false, false, false] ?_
                show qJ YX6_seek κ _ (qLy u, mx, y) 0 0 33 [some (qR 56), some (qI z), some (qI (i + 1)), none, none, none] []
                exact ih33  (i + 1) (p - (LV D 3 (l + 1) (q_fu ch l (i.toNat : Int))).length) mx (by omega) (⟨by rw [show mx 56 19 = m8 56 19 from congrFun (congrFun Kx 56) 19, N8.2.2]; omega, by omega⟩) ((keep_of kSkL Kx).trans (K8.trans ((keep_of kSkL K7).trans v33_2))) (aS_c GX Ax) (uM_c Ux rfl UU) (fun t ht => ⟨(RX t ht).1.trans ((R8 t ht).1.trans ((R7 t ht).1.trans (v33_5 t ht).1)), (RX t ht).2.trans ((R8 t ht).2.trans ((R7 t ht).2.trans (v33_5 t ht).2))⟩) (by rw [NX, List.length_append, ftI_y FT]; have := N8.2.1; omega) (by omega)
              · show qJ YX6_seek κ _ (qLy u, mx, y) 0 0 128 [some (qR 56), some (qI z), some (qI i), some (qI (M6 74 (((z * 12) + i).toNat))), some (qI z81), some (qI z99)] []
                exact absurd c106 c125
            · show qJ YX6_seek κ _ (qLy u, m8, y) 0 0 109 [some (qR 56), some (qI z), some (qI i), some (qI (M6 74 (((z * 12) + i).toNat))), some (qI z81), some (qI z99)] []
              have Y8 : ∃ R, (LV D 3 (l + 1) (q_fu ch l (i.toNat : Int)))[p]? = some R ∧ KT D (l + 1) R m8 := by rcases H8 with q | q; (have := q.1; omega); (exact q.2)
              clear H8
              refine qJ.run hκ 3 (pc' := 112) (ls' := [some (qR 56), some (qI z), some (qI i), some (qI (M6 74 (((z * 12) + i).toNat))), some (qI z81), some (qI z99)]) (st' := [qI i, qI z, qR 56]) rfl ?_
              refine qJ.callV (As := [qI z, qI i]) (rest := []) hκ rfl kX6_142 (c_keep u m8 y z i (by omega) (by omega) (by omega) (by rw [zt]; exact (sg8 l (by omega)).1)) rfl rfl (by decide) rfl rfl (Nat.le_of_ble_eq_true rfl) (Nat.le_of_ble_eq_true rfl) (Nat.le_of_ble_eq_true rfl) (Or.inl (fun r h' e => by obtain ⟨rfl, m9, rfl, K9, H9⟩ := e; rfl)) (fun r h' e => ?_)
              obtain ⟨rfl, m9, rfl, K9, H9⟩ := e
              have A9 : aS D (VM D (q_fu ch l (i.toNat : Int)) (l + 1)) m9 := aS_k (fun i a b => funext fun j => keep_at K9 (by unfold kN kKp; rw [decide_eq_false (by omega)]; rfl)) A8
              have U9 : uM m9 (uQ (q_fu ch l (i.toNat : Int)) (l + 1)) := uM_c U8 (congrFun (congrFun K9 56) 15) (fun t _ => Iff.rfl)
              have R9 : s75 m8 m9 := fun t ht => ⟨congrFun (congrFun K9 75) t, congrFun (congrFun K9 76) t⟩
              have S9 : ∀ t : Nat, t < 20 → -2 ≤ m9 75 t ∧ m9 75 t ≤ 27 := fun t ht => by rw [(R9 t ht).1, (R8 t ht).1]; exact S7 t ht
              have D9 : dM D m9 := dM_k (keep_of kDK K9) D8
              show qJ YX6_seek κ _ (qLy u, m9, y) 0 0 115 [some (qR 56), some (qI z), some (qI i), some (qI (M6 74 (((z * 12) + i).toNat))), some (qI z81), some (qI z99)] []
              refine qJ.run hκ 4 (pc' := 120) (ls' := [some (qR 56), some (qI z), some (qI i), some (qI (M6 74 (((z * 12) + i).toNat))), some (qI z81), some (qI z99)]) (st' := [qI 0, qI z81, qI i, qR 56]) rfl ?_
              refine qJ.callV (As := [qI i, qI z81, qI 0]) (rest := []) hκ rfl kX6_134 (c_lift u m9 y D (VM D (q_fu ch l (i.toNat : Int)) (l + 1)) (uQ (q_fu ch l (i.toNat : Int)) (l + 1)) b i z81 0 hD D9 A9 U9 (by omega) e81 b20 (by decide) S9 (fun t ht p => ((PB t ht).mp p).2)) rfl rfl (by decide) rfl rfl (Nat.le_of_ble_eq_true rfl) (Nat.le_of_ble_eq_true rfl) (Nat.le_of_ble_eq_true rfl) (Or.inl (fun r h' e => by obtain ⟨rfl, mx, Gx, rfl, Kx, Ax, Ux, Lx⟩ := e; rfl)) (fun r h' e => ?_)
              obtain ⟨rfl, mx, Gx, rfl, Kx, Ax, Ux, Lx⟩ := e
              have GX := lf_G hD (by omega) FT PB Lx
              have RX := lf_0 Lx
              show qJ YX6_seek κ _ (qLy u, mx, y) 0 0 123 [some (qR 56), some (qI z), some (qI i), some (qI (M6 74 (((z * 12) + i).toNat))), some (qI z81), some (qI z99)] []
              refine qJ.run hκ 1 (pc' := 125) (ls' := [some (qR 56), some (qI z), some (qI i), some (qI (M6 74 (((z * 12) + i).toNat))), some (qI z81), some (qI z99)]) (st' := [qI z99]) rfl ?_
              refine qJ.if_eq hκ (tgt := 130) rfl rfl (by omega) (fun c125 => ?_) (fun c125 => ?_)
              · show qJ YX6_seek κ _ (qLy u, mx, y) 0 0 130 [some (qR 56), some (qI z), some (qI i), some (qI (M6 74 (((z * 12) + i).toNat))), some (qI z81), some (qI z99)] []
                exact absurd c125 c106
              · show qJ YX6_seek κ _ (qLy u, mx, y) 0 0 128 [some (qR 56), some (qI z), some (qI i), some (qI (M6 74 (((z * 12) + i).toNat))), some (qI z81), some (qI z99)] []
                refine qJ.run hκ 1 (pc' := 129) (ls' := [some (qR 56), some (qI z), some (qI i), some (qI (M6 74 (((z * 12) + i).toNat))), some (qI z81), some (qI z99)]) (st' := [qI 1]) rfl ?_
                exact qJ.bret hκ rfl rfl (by omega) (by decide) (by decide) (by
      obtain ⟨R, r1, r2⟩ := Y8
      have rl : R l = (i.toNat : Int) := ((LV_mem 3 (l + 1) _ (List.mem_of_getElem? r1)).1 l (by omega)).trans q_fu_eq
      have f1 : (ftI D (LV D 3 (l + 1)) l (q_fu ch l (i.toNat : Int)))[p]? = some R := by rw [ftI_y FT]; exact r1
      have f2 := lvF_at (D := D) (G := (LV D 3 (l + 1))) (l := l) (ch := ch) (i := i.toNat) (n := (dK D).toNat) (by omega) f1
      have f3 : (LV D 4 l ch)[q]? = some R := by rw [show q = (lvF D (LV D 3 (l + 1)) l ch i.toNat).length + p by omega]; exact f2
      have r68 : (m 68 : Nat → Int) = m 68 := rfl
      have X71 : mx 71 = m9 71 := congrFun Kx 71
      have X68 : mx 68 = m9 68 := congrFun Kx 68
      have Y71 : m9 71 = m8 71 := congrFun K9 71
      have Y68 : m9 68 = m8 68 := congrFun K9 68
      refine ⟨1, mx, rfl, rfl, (keep_of kSkL Kx).trans ((keep_of kSkK K9).trans (K8.trans ((keep_of kSkL K7).trans v33_2))), aS_c GX Ax, uM_c Ux rfl UU, fun t ht => ⟨(RX t ht).1.trans ((R9 t ht).1.trans ((R8 t ht).1.trans ((R7 t ht).1.trans (v33_5 t ht).1))), (RX t ht).2.trans ((R9 t ht).2.trans ((R8 t ht).2.trans ((R7 t ht).2.trans (v33_5 t ht).2)))⟩, Or.inr ⟨rfl, R, f3, KT_k (M := m9) ⟨congrFun Kx 57, congrFun Kx 58, X68, X71⟩ ?_⟩⟩
      rw [zt, show i.toNat = (R l).toNat by omega] at H9
      rcases H9 with g | g
      · have := g.1; omega
      · exact KT_more (m := m8) (by omega) sg8 r2 ⟨Y71, Y68⟩ g.2.1 g.2.2)
          · show qJ YX6_seek κ _ (qLy u, m7, y) 0 0 92 [some (qR 56), some (qI z), some (qI i), some (qI (M6 74 (((z * 12) + i).toNat))), some (qI z81), none] []
            have Z7 : ¬ (¬ uQ ch l i.toNat ∧ fitW D i.toNat l (VM D ch l)) ∧ aS D (VM D ch l) m7 ∧ uM m7 (uQ ch l) := by rcases H7 with q | ⟨b, q⟩; (exact q.2); (have := q.1; omega)
            clear H7
            have NX : lvF D (LV D 3 (l + 1)) l ch (i + 1).toNat = lvF D (LV D 3 (l + 1)) l ch i.toNat ++ [] := by rw [it1]; show _ ++ ftI D _ l _ = _; rw [ftI_n (fun z => Z7.1 (ftL_fu.mp z))]
            refine qJ.run hκ 3 (pc' := 33) (ls' := [some (qR 56), some (qI z), some (qI (i + 1)), some (qI (M6 74 (((z * 12) + i).toNat))), some (qI z81), none]) (st' := []) rfl ?_
            refine qJ.dl [true, true, true, false, false, false] ?_
            show qJ YX6_seek κ _ (qLy u, m7, y) 0 0 33 [some (qR 56), some (qI z), some (qI (i + 1)), none, none, none] []
            exact ih33  (i + 1) p m7 (by omega) (⟨(congrFun (congrFun K7 56) 19).trans v33_1.1, v33_1.2⟩) ((keep_of kSkL K7).trans v33_2) (Z7.2.1) (Z7.2.2) (fun t ht => ⟨(R7 t ht).1.trans (v33_5 t ht).1, (R7 t ht).2.trans (v33_5 t ht).2⟩) (by rw [NX, List.append_nil]; exact v33_6) (by omega)
        · show qJ YX6_seek κ _ (qLy u, M6, y) 0 0 57 [some (qR 56), some (qI z), some (qI i), some (qI (M6 74 (((z * 12) + i).toNat))), none, none] []
          have SK0 : M6 74 ((z * 12) + i).toNat = ((ftI D (LV D 3 (l + 1)) l (q_fu ch l (i.toNat : Int))).length : Nat) := by
            have l0 : l = 0 := by omega
            rw [show M6 74 = m 74 from congrFun v33_2 74, show ((z * 12) + i).toNat = i.toNat by omega]
            exact hH l0 i.toNat (by omega)
          have SKb : (ftI D (LV D 3 (l + 1)) l (q_fu ch l (i.toNat : Int))).length ≤ 248832 := by
            by_cases e : ftL D (q_fu ch l (i.toNat : Int)) l
            · rw [ftI_y e]; exact LV_b hD (by decide)
            · rw [ftI_n e]; exact Nat.zero_le _
          refine qJ.run hκ 3 (pc' := 62) (ls' := [some (qR 56), some (qI z), some (qI i), some (qI (M6 74 (((z * 12) + i).toNat))), none, none]) (st' := [qI (M6 74 (((z * 12) + i).toNat)), qI (M6 56 19)]) rfl ?_
          refine qJ.icmp_lt hκ (tgt := 78) rfl rfl (by omega) (by omega) (fun c62 => ?_) (fun c62 => ?_)
          · show qJ YX6_seek κ _ (qLy u, M6, y) 0 0 78 [some (qR 56), some (qI z), some (qI i), some (qI (M6 74 (((z * 12) + i).toNat))), none, none] []
            refine qJ.run hκ 3 (pc' := 81) (ls' := [some (qR 56), some (qI z), some (qI i), some (qI (M6 74 (((z * 12) + i).toNat))), none, none]) (st' := [qI i, qI z, qR 56]) rfl ?_
            refine qJ.callV (As := [qI z, qI i]) (rest := []) hκ rfl kX6_131 (c_place u M6 y D (VM D ch l) (uQ ch l) z i hD (dM_k (keep_of kDS v33_2) hM) v33_3 v33_4 (by omega) (by omega) S6) rfl rfl (by decide) rfl rfl (Nat.le_of_ble_eq_true rfl) (Nat.le_of_ble_eq_true rfl) (Nat.le_of_ble_eq_true rfl) (Or.inl (fun r h' e => by obtain ⟨z81, m7, rfl, rfl, K7, R7, H7⟩ := e; rfl)) (fun r h' e => ?_)
            obtain ⟨z81, m7, rfl, rfl, K7, R7, H7⟩ := e
            rw [zt] at H7
            show qJ YX6_seek κ _ (qLy u, m7, y) 0 0 84 [some (qR 56), some (qI z), some (qI i), some (qI (M6 74 (((z * 12) + i).toNat))), none, none] [qI z81]
            have zr : -1 ≤ z81 ∧ z81 < 1048576 := by rcases H7 with q | ⟨b, q⟩; (omega); (have := q.1; have := q.2.1; omega)
            refine qJ.run hκ 3 (pc' := 89) (ls' := [some (qR 56), some (qI z), some (qI i), some (qI (M6 74 (((z * 12) + i).toNat))), some (qI z81), none]) (st' := [qI (-1), qI z81]) rfl ?_
            refine qJ.icmp_ne hκ (tgt := 95) rfl rfl (by omega) (by omega) (fun c89 => ?_) (fun c89 => ?_)
            · show qJ YX6_seek κ _ (qLy u, m7, y) 0 0 95 [some (qR 56), some (qI z), some (qI i), some (qI (M6 74 (((z * 12) + i).toNat))), some (qI z81), none] []
              have Z7 : ∃ b : Nat, z81 = (b : Int) ∧ b < 1048576 ∧ (¬ uQ ch l i.toNat ∧ fitW D i.toNat l (VM D ch l)) ∧ aS D (vP D i.toNat l (VM D ch l) (dL D i.toNat).toNat) m7 ∧ uM m7 (fun t => uQ ch l t ∨ t = i.toNat) ∧ ∀ t : Nat, t < 20 → (pb b t ↔ (VM D ch l t = -1 ∧ ¬ vP D i.toNat l (VM D ch l) (dL D i.toNat).toNat t = -1)) := by rcases H7 with q | q; (exact absurd q.1 c89); (exact q)
              clear H7
              obtain ⟨b, e81, b20, F7, A70, U70, PB0⟩ := Z7
              have FT : ftL D (q_fu ch l (i.toNat : Int)) l := ftL_fu.mpr F7
              have ve : VM D (q_fu ch l (i.toNat : Int)) (l + 1) = vP D i.toNat l (VM D ch l) (dL D i.toNat).toNat := by rw [VM_fu, F7.2.1]
              have A7 : aS D (VM D (q_fu ch l (i.toNat : Int)) (l + 1)) m7 := by rw [ve]; exact A70
              have U7 : uM m7 (uQ (q_fu ch l (i.toNat : Int)) (l + 1)) := uM_c U70 rfl (fun t _ => uQ_s)
              have PB : ∀ t : Nat, t < 20 → (pb b t ↔ (VM D ch l t = -1 ∧ ¬ VM D (q_fu ch l (i.toNat : Int)) (l + 1) t = -1)) := by rw [ve]; exact PB0
              have S7 : ∀ t : Nat, t < 20 → -2 ≤ m7 75 t ∧ m7 75 t ≤ 27 := fun t ht => by rw [(R7 t ht).1]; exact S6 t ht
              have UU : ∀ t : Nat, t < 12 → ((uQ (q_fu ch l (i.toNat : Int)) (l + 1) t ∧ ¬ t = i.toNat) ↔ uQ ch l t) := fun t _ => ⟨fun q => (uQ_s.mpr q.1).elim id (fun e => absurd e q.2), fun q => ⟨uQ_s.mp (Or.inl q), fun e => F7.1 (by rw [← e]; exact q)⟩⟩
              have NX : lvF D (LV D 3 (l + 1)) l ch (i + 1).toNat = lvF D (LV D 3 (l + 1)) l ch i.toNat ++ ftI D (LV D 3 (l + 1)) l (q_fu ch l (i.toNat : Int)) := by rw [it1]; rfl
              refine qJ.run hκ 4 (pc' := 99) (ls' := [some (qR 56), some (qI z), some (qI i), some (qI (M6 74 (((z * 12) + i).toNat))), some (qI z81), none]) (st' := [qI (z + 1), qR 56]) rfl ?_
              refine qJ.callV (As := [qI (z + 1)]) (rest := []) hκ rfl kX6_138 (c_seek3 u m7 y D (q_fu ch l (i.toNat : Int)) (l + 1) p (z + 1) hD (dM_k (keep_of kDL K7) hM6) (by omega) (by omega) A7 U7 (sgS_k ((congrFun K7 71).trans (congrFun v33_2 71)) hsg) S7 ⟨(congrFun (congrFun K7 56) 19).trans v33_1.1, by omega⟩ (fun z => absurd z (by omega))) rfl rfl (by decide) rfl rfl (Nat.le_of_ble_eq_true rfl) (Nat.le_of_ble_eq_true rfl) (Nat.le_of_ble_eq_true rfl) (Or.inl (fun r h' e => by obtain ⟨z99, m8, rfl, rfl, K8, A8, U8, R8, H8⟩ := e; rfl)) (fun r h' e => ?_)
              obtain ⟨z99, m8, rfl, rfl, K8, A8, U8, R8, H8⟩ := e
              show qJ YX6_seek κ _ (qLy u, m8, y) 0 0 102 [some (qR 56), some (qI z), some (qI i), some (qI (M6 74 (((z * 12) + i).toNat))), some (qI z81), none] [qI z99]
              have zr9 : z99 = 0 ∨ z99 = 1 := by rcases H8 with q | q; (left; exact q.1); (right; exact q.1)
              have S8 : ∀ t : Nat, t < 20 → -2 ≤ m8 75 t ∧ m8 75 t ≤ 27 := fun t ht => by rw [(R8 t ht).1]; exact S7 t ht
              have D8 : dM D m8 := dM_k ((keep_of kDS K8).trans (keep_of kDL K7)) hM6
              have k8 := D8.1
              have sg8 : sgS D m8 := sgS_k ((congrFun K8 71).trans ((congrFun K7 71).trans (congrFun v33_2 71))) hsg
              refine qJ.run hκ 2 (pc' := 106) (ls' := [some (qR 56), some (qI z), some (qI i), some (qI (M6 74 (((z * 12) + i).toNat))), some (qI z81), some (qI z99)]) (st' := [qI z99]) rfl ?_
              refine qJ.if_eq hκ (tgt := 115) rfl rfl (by omega) (fun c106 => ?_) (fun c106 => ?_)
              · show qJ YX6_seek κ _ (qLy u, m8, y) 0 0 115 [some (qR 56), some (qI z), some (qI i), some (qI (M6 74 (((z * 12) + i).toNat))), some (qI z81), some (qI z99)] []
                have N8 : z99 = 0 ∧ (LV D 3 (l + 1) (q_fu ch l (i.toNat : Int))).length ≤ p ∧ m8 56 19 = (p : Int) - ((LV D 3 (l + 1) (q_fu ch l (i.toNat : Int))).length : Nat) := by rcases H8 with q | q; (exact q); (have := q.1; omega)
                clear H8
                refine qJ.run hκ 4 (pc' := 120) (ls' := [some (qR 56), some (qI z), some (qI i), some (qI (M6 74 (((z * 12) + i).toNat))), some (qI z81), some (qI z99)]) (st' := [qI 0, qI z81, qI i, qR 56]) rfl ?_
                refine qJ.callV (As := [qI i, qI z81, qI 0]) (rest := []) hκ rfl kX6_134 (c_lift u m8 y D (VM D (q_fu ch l (i.toNat : Int)) (l + 1)) (uQ (q_fu ch l (i.toNat : Int)) (l + 1)) b i z81 0 hD D8 A8 U8 (by omega) e81 b20 (by decide) S8 (fun t ht p => ((PB t ht).mp p).2)) rfl rfl (by decide) rfl rfl (Nat.le_of_ble_eq_true rfl) (Nat.le_of_ble_eq_true rfl) (Nat.le_of_ble_eq_true rfl) (Or.inl (fun r h' e => by obtain ⟨rfl, mx, Gx, rfl, Kx, Ax, Ux, Lx⟩ := e; rfl)) (fun r h' e => ?_)
                obtain ⟨rfl, mx, Gx, rfl, Kx, Ax, Ux, Lx⟩ := e
                have GX := lf_G hD (by omega) FT PB Lx
                have RX := lf_0 Lx
                show qJ YX6_seek κ _ (qLy u, mx, y) 0 0 123 [some (qR 56), some (qI z), some (qI i), some (qI (M6 74 (((z * 12) + i).toNat))), some (qI z81), some (qI z99)] []
                refine qJ.run hκ 1 (pc' := 125) (ls' := [some (qR 56), some (qI z), some (qI i), some (qI (M6 74 (((z * 12) + i).toNat))), some (qI z81), some (qI z99)]) (st' := [qI z99]) rfl ?_
                refine qJ.if_eq hκ (tgt := 130) rfl rfl (by omega) (fun c125 => ?_) (fun c125 => ?_)
                · show qJ YX6_seek κ _ (qLy u, mx, y) 0 0 130 [some (qR 56), some (qI z), some (qI i), some (qI (M6 74 (((z * 12) + i).toNat))), some (qI z81), some (qI z99)] []
                  refine qJ.run hκ 2 (pc' := 33) (ls' := [some (qR 56), some (qI z), some (qI (i + 1)), some (qI (M6 74 (((z * 12) + i).toNat))), some (qI z81), some (qI z99)]) (st' := []) rfl ?_
                  refine qJ.dl [true, true, true, false, false, false] ?_
                  show qJ YX6_seek κ _ (qLy u, mx, y) 0 0 33 [some (qR 56), some (qI z), some (qI (i + 1)), none, none, none] []
                  exact ih33  (i + 1) (p - (LV D 3 (l + 1) (q_fu ch l (i.toNat : Int))).length) mx (by omega) (⟨by rw [show mx 56 19 = m8 56 19 from congrFun (congrFun Kx 56) 19, N8.2.2]; omega, by omega⟩) ((keep_of kSkL Kx).trans (K8.trans ((keep_of kSkL K7).trans v33_2))) (aS_c GX Ax) (uM_c Ux rfl UU) (fun t ht => ⟨(RX t ht).1.trans ((R8 t ht).1.trans ((R7 t ht).1.trans (v33_5 t ht).1)), (RX t ht).2.trans ((R8 t ht).2.trans ((R7 t ht).2.trans (v33_5 t ht).2))⟩) (by rw [NX, List.length_append, ftI_y FT]; have := N8.2.1; omega) (by omega)
                · show qJ YX6_seek κ _ (qLy u, mx, y) 0 0 128 [some (qR 56), some (qI z), some (qI i), some (qI (M6 74 (((z * 12) + i).toNat))), some (qI z81), some (qI z99)] []
                  exact absurd c106 c125
              · show qJ YX6_seek κ _ (qLy u, m8, y) 0 0 109 [some (qR 56), some (qI z), some (qI i), some (qI (M6 74 (((z * 12) + i).toNat))), some (qI z81), some (qI z99)] []
                have Y8 : ∃ R, (LV D 3 (l + 1) (q_fu ch l (i.toNat : Int)))[p]? = some R ∧ KT D (l + 1) R m8 := by rcases H8 with q | q; (have := q.1; omega); (exact q.2)
                clear H8
                refine qJ.run hκ 3 (pc' := 112) (ls' := [some (qR 56), some (qI z), some (qI i), some (qI (M6 74 (((z * 12) + i).toNat))), some (qI z81), some (qI z99)]) (st' := [qI i, qI z, qR 56]) rfl ?_
                refine qJ.callV (As := [qI z, qI i]) (rest := []) hκ rfl kX6_142 (c_keep u m8 y z i (by omega) (by omega) (by omega) (by rw [zt]; exact (sg8 l (by omega)).1)) rfl rfl (by decide) rfl rfl (Nat.le_of_ble_eq_true rfl) (Nat.le_of_ble_eq_true rfl) (Nat.le_of_ble_eq_true rfl) (Or.inl (fun r h' e => by obtain ⟨rfl, m9, rfl, K9, H9⟩ := e; rfl)) (fun r h' e => ?_)
                obtain ⟨rfl, m9, rfl, K9, H9⟩ := e
                have A9 : aS D (VM D (q_fu ch l (i.toNat : Int)) (l + 1)) m9 := aS_k (fun i a b => funext fun j => keep_at K9 (by unfold kN kKp; rw [decide_eq_false (by omega)]; rfl)) A8
                have U9 : uM m9 (uQ (q_fu ch l (i.toNat : Int)) (l + 1)) := uM_c U8 (congrFun (congrFun K9 56) 15) (fun t _ => Iff.rfl)
                have R9 : s75 m8 m9 := fun t ht => ⟨congrFun (congrFun K9 75) t, congrFun (congrFun K9 76) t⟩
                have S9 : ∀ t : Nat, t < 20 → -2 ≤ m9 75 t ∧ m9 75 t ≤ 27 := fun t ht => by rw [(R9 t ht).1, (R8 t ht).1]; exact S7 t ht
                have D9 : dM D m9 := dM_k (keep_of kDK K9) D8
                show qJ YX6_seek κ _ (qLy u, m9, y) 0 0 115 [some (qR 56), some (qI z), some (qI i), some (qI (M6 74 (((z * 12) + i).toNat))), some (qI z81), some (qI z99)] []
                refine qJ.run hκ 4 (pc' := 120) (ls' := [some (qR 56), some (qI z), some (qI i), some (qI (M6 74 (((z * 12) + i).toNat))), some (qI z81), some (qI z99)]) (st' := [qI 0, qI z81, qI i, qR 56]) rfl ?_
                refine qJ.callV (As := [qI i, qI z81, qI 0]) (rest := []) hκ rfl kX6_134 (c_lift u m9 y D (VM D (q_fu ch l (i.toNat : Int)) (l + 1)) (uQ (q_fu ch l (i.toNat : Int)) (l + 1)) b i z81 0 hD D9 A9 U9 (by omega) e81 b20 (by decide) S9 (fun t ht p => ((PB t ht).mp p).2)) rfl rfl (by decide) rfl rfl (Nat.le_of_ble_eq_true rfl) (Nat.le_of_ble_eq_true rfl) (Nat.le_of_ble_eq_true rfl) (Or.inl (fun r h' e => by obtain ⟨rfl, mx, Gx, rfl, Kx, Ax, Ux, Lx⟩ := e; rfl)) (fun r h' e => ?_)
                obtain ⟨rfl, mx, Gx, rfl, Kx, Ax, Ux, Lx⟩ := e
                have GX := lf_G hD (by omega) FT PB Lx
                have RX := lf_0 Lx
                show qJ YX6_seek κ _ (qLy u, mx, y) 0 0 123 [some (qR 56), some (qI z), some (qI i), some (qI (M6 74 (((z * 12) + i).toNat))), some (qI z81), some (qI z99)] []
                refine qJ.run hκ 1 (pc' := 125) (ls' := [some (qR 56), some (qI z), some (qI i), some (qI (M6 74 (((z * 12) + i).toNat))), some (qI z81), some (qI z99)]) (st' := [qI z99]) rfl ?_
                refine qJ.if_eq hκ (tgt := 130) rfl rfl (by omega) (fun c125 => ?_) (fun c125 => ?_)
                · show qJ YX6_seek κ _ (qLy u, mx, y) 0 0 130 [some (qR 56), some (qI z), some (qI i), some (qI (M6 74 (((z * 12) + i).toNat))), some (qI z81), some (qI z99)] []
                  exact absurd c125 c106
                · show qJ YX6_seek κ _ (qLy u, mx, y) 0 0 128 [some (qR 56), some (qI z), some (qI i), some (qI (M6 74 (((z * 12) + i).toNat))), some (qI z81), some (qI z99)] []
                  refine qJ.run hκ 1 (pc' := 129) (ls' := [some (qR 56), some (qI z), some (qI i), some (qI (M6 74 (((z * 12) + i).toNat))), some (qI z81), some (qI z99)]) (st' := [qI 1]) rfl ?_
                  exact qJ.bret hκ rfl rfl (by omega) (by decide) (by decide) (by
      obtain ⟨R, r1, r2⟩ := Y8
      have rl : R l = (i.toNat : Int) := ((LV_mem 3 (l + 1) _ (List.mem_of_getElem? r1)).1 l (by omega)).trans q_fu_eq
      have f1 : (ftI D (LV D 3 (l + 1)) l (q_fu ch l (i.toNat : Int)))[p]? = some R := by rw [ftI_y FT]; exact r1
      have f2 := lvF_at (D := D) (G := (LV D 3 (l + 1))) (l := l) (ch := ch) (i := i.toNat) (n := (dK D).toNat) (by omega) f1
      have f3 : (LV D 4 l ch)[q]? = some R := by rw [show q = (lvF D (LV D 3 (l + 1)) l ch i.toNat).length + p by omega]; exact f2
      have r68 : (m 68 : Nat → Int) = m 68 := rfl
      have X71 : mx 71 = m9 71 := congrFun Kx 71
      have X68 : mx 68 = m9 68 := congrFun Kx 68
      have Y71 : m9 71 = m8 71 := congrFun K9 71
      have Y68 : m9 68 = m8 68 := congrFun K9 68
      refine ⟨1, mx, rfl, rfl, (keep_of kSkL Kx).trans ((keep_of kSkK K9).trans (K8.trans ((keep_of kSkL K7).trans v33_2))), aS_c GX Ax, uM_c Ux rfl UU, fun t ht => ⟨(RX t ht).1.trans ((R9 t ht).1.trans ((R8 t ht).1.trans ((R7 t ht).1.trans (v33_5 t ht).1))), (RX t ht).2.trans ((R9 t ht).2.trans ((R8 t ht).2.trans ((R7 t ht).2.trans (v33_5 t ht).2)))⟩, Or.inr ⟨rfl, R, f3, KT_k (M := m9) ⟨congrFun Kx 57, congrFun Kx 58, X68, X71⟩ ?_⟩⟩
      rw [zt, show i.toNat = (R l).toNat by omega] at H9
      rcases H9 with g | g
      · have := g.1; omega
      · exact KT_more (m := m8) (by omega) sg8 r2 ⟨Y71, Y68⟩ g.2.1 g.2.2)
            · show qJ YX6_seek κ _ (qLy u, m7, y) 0 0 92 [some (qR 56), some (qI z), some (qI i), some (qI (M6 74 (((z * 12) + i).toNat))), some (qI z81), none] []
              have Z7 : ¬ (¬ uQ ch l i.toNat ∧ fitW D i.toNat l (VM D ch l)) ∧ aS D (VM D ch l) m7 ∧ uM m7 (uQ ch l) := by rcases H7 with q | ⟨b, q⟩; (exact q.2); (have := q.1; omega)
              clear H7
              have NX : lvF D (LV D 3 (l + 1)) l ch (i + 1).toNat = lvF D (LV D 3 (l + 1)) l ch i.toNat ++ [] := by rw [it1]; show _ ++ ftI D _ l _ = _; rw [ftI_n (fun z => Z7.1 (ftL_fu.mp z))]
              refine qJ.run hκ 3 (pc' := 33) (ls' := [some (qR 56), some (qI z), some (qI (i + 1)), some (qI (M6 74 (((z * 12) + i).toNat))), some (qI z81), none]) (st' := []) rfl ?_
              refine qJ.dl [true, true, true, false, false, false] ?_
              show qJ YX6_seek κ _ (qLy u, m7, y) 0 0 33 [some (qR 56), some (qI z), some (qI (i + 1)), none, none, none] []
              exact ih33  (i + 1) p m7 (by omega) (⟨(congrFun (congrFun K7 56) 19).trans v33_1.1, v33_1.2⟩) ((keep_of kSkL K7).trans v33_2) (Z7.2.1) (Z7.2.2) (fun t ht => ⟨(R7 t ht).1.trans (v33_5 t ht).1, (R7 t ht).2.trans (v33_5 t ht).2⟩) (by rw [NX, List.append_nil]; exact v33_6) (by omega)
          · show qJ YX6_seek κ _ (qLy u, M6, y) 0 0 65 [some (qR 56), some (qI z), some (qI i), some (qI (M6 74 (((z * 12) + i).toNat))), none, none] []
            have SK1 := SK0
            have NX : lvF D (LV D 3 (l + 1)) l ch (i + 1).toNat = lvF D (LV D 3 (l + 1)) l ch i.toNat ++ ftI D (LV D 3 (l + 1)) l (q_fu ch l (i.toNat : Int)) := by rw [it1]; rfl
            refine qJ.run hκ 5 (pc' := 72) (ls' := [some (qR 56), some (qI z), some (qI i), some (qI (M6 74 (((z * 12) + i).toNat))), none, none]) (st' := [qI ((M6 56 19) - (M6 74 (((z * 12) + i).toNat))), qR 56]) rfl ?_
            refine qJ.putI hκ rfl rfl rfl rfl (Or.inl rfl) ?_
            show qJ YX6_seek κ _ (qLy u, (q_up M6 56 19 ((M6 56 19) - (M6 74 (((z * 12) + i).toNat)))), y) 0 0 75 [some (qR 56), some (qI z), some (qI i), some (qI (M6 74 (((z * 12) + i).toNat))), none, none] []
            refine qJ.run hκ 3 (pc' := 33) (ls' := [some (qR 56), some (qI z), some (qI (i + 1)), some (qI (M6 74 (((z * 12) + i).toNat))), none, none]) (st' := []) rfl ?_
            refine qJ.dl [true, true, true, false, false, false] ?_
            show qJ YX6_seek κ _ (qLy u, (q_up M6 56 19 ((M6 56 19) - (M6 74 (((z * 12) + i).toNat)))), y) 0 0 33 [some (qR 56), some (qI z), some (qI (i + 1)), none, none, none] []
            exact ih33  (i + 1) (p - (ftI D (LV D 3 (l + 1)) l (q_fu ch l (i.toNat : Int))).length) (q_up M6 56 19 ((M6 56 19) - (M6 74 (((z * 12) + i).toNat)))) (by omega) (⟨by show M6 56 19 - _ = _; rw [SK1]; omega, by omega⟩) (Eq.trans (keep_up (by rfl)) v33_2) (aS_k (fun i a b => q_up_rw (by omega)) v33_3) (uM_c v33_4 rfl (fun t _ => Iff.rfl)) (fun t ht => v33_5 t ht) (by rw [NX, List.length_append]; omega) (by omega)
  show qJ YX6_seek κ _ (qLy u, m, y) 0 0 0 [some (qR 56), some (qI z), none, none, none, none] []
  refine qJ.run hκ 3 (pc' := 5) (ls' := [some (qR 56), some (qI z), none, none, none, none]) (st' := [qI (m 56 14), qI z]) rfl ?_
  refine qJ.icmp_lt hκ (tgt := 31) rfl rfl (by omega) (by omega) (fun c5 => ?_) (fun c5 => ?_)
  · show qJ YX6_seek κ _ (qLy u, m, y) 0 0 31 [some (qR 56), some (qI z), none, none, none, none] []
    refine qJ.run hκ 2 (pc' := 33) (ls' := [some (qR 56), some (qI z), some (qI 0), none, none, none]) (st' := []) rfl ?_
    exact L33 13 0 q m (by omega) (⟨hq.1, by omega⟩) (rfl) (hA) (hU) (fun t ht => ⟨rfl, rfl⟩) (by show ((0 : Nat) : Int) + _ = _; omega) (by omega)
  · show qJ YX6_seek κ _ (qLy u, m, y) 0 0 8 [some (qR 56), some (qI z), none, none, none, none] []
    exfalso; omega

set_option maxRecDepth 100000 in
theorem c_seek5 (u : qU) (m y : qM) (D : qD) (ch : Nat → Int) (l q : Nat) (z : Int) (hD : dOk D) (hM : dM D m) (hz : z = (l : Int)) (hl : (l : Int) + 5 = dN D) (hA : aS D (VM D ch l) m) (hU : uM m (uQ ch l)) (hsg : sgS D m) (h7 : ∀ t : Nat, t < 20 → -2 ≤ m 75 t ∧ m 75 t ≤ 27) (hq : m 56 19 = (q : Int) ∧ (q : Int) ≤ 1000000) (hH : l = 0 → ∀ i : Nat, (i : Int) < dK D → m 74 i = ((ftI D (LV D 4 (l + 1)) l (q_fu ch l (i : Int))).length : Nat)) : qCt YX6_seek 8 0 0 [qR 56, qI z] (qLy u, m, y) (fun r h => ∃ (zz : Int) (m' : qM), r = some (qI zz) ∧ h = (qLy u, m', y) ∧ keep (kN kSk) m' = keep (kN kSk) m ∧ aS D (VM D ch l) m' ∧ uM m' (uQ ch l) ∧ s75 m m' ∧ ((zz = 0 ∧ (LV D 5 l ch).length ≤ q ∧ m' 56 19 = (q : Int) - ((LV D 5 l ch).length : Nat)) ∨ (zz = 1 ∧ ∃ R, (LV D 5 l ch)[q]? = some R ∧ KT D l R m'))) := by
  refine qCt.intro okX6_seek (Nat.le_of_ble_eq_true rfl) (fun κ hκ => ?_)
  have k0 := hM.1
  have kb := hD.1
  have zt : z.toNat = l := by omega
  have q2 := hq.2
  have L33 : ∀ (n : Nat) (i : Int) (p : Nat) (M6 : qM), (0 ≤ i ∧ i ≤ dK D) → (M6 56 19 = (p : Int) ∧ (p : Int) ≤ 1000000) → (keep (kN kSk) M6 = keep (kN kSk) m) → (aS D (VM D ch l) M6) → (uM M6 (uQ ch l)) → (s75 m M6) → ((((lvF D (LV D 4 (l + 1)) l ch i.toNat).length : Nat) : Int) + (p : Int) = (q : Int)) → ((dK D - i).toNat) < n → qJ YX6_seek κ (qFin (fun r h => ∃ (zz : Int) (m' : qM), r = some (qI zz) ∧ h = (qLy u, m', y) ∧ keep (kN kSk) m' = keep (kN kSk) m ∧ aS D (VM D ch l) m' ∧ uM m' (uQ ch l) ∧ s75 m m' ∧ ((zz = 0 ∧ (LV D 5 l ch).length ≤ q ∧ m' 56 19 = (q : Int) - ((LV D 5 l ch).length : Nat)) ∨ (zz = 1 ∧ ∃ R, (LV D 5 l ch)[q]? = some R ∧ KT D l R m'))) 0 0 κ) (qLy u, M6, y) 0 0 33 [some (qR 56), some (qI z), some (qI i), none, none, none] [] := by
    intro n
    induction n with
    | zero => intro i p M6 _ _ _ _ _ _ _ hz0; omega
    | succ n ih33 =>
      intro i p M6 v33_0 v33_1 v33_2 v33_3 v33_4 v33_5 v33_6 v33_m
      have k10 : M6 56 10 = dK D := (congrFun (congrFun v33_2 56) 10).trans k0.1
      have hM6 := dM_k (keep_of kDS v33_2) hM
      have pq := v33_1
      have S6 : ∀ t : Nat, t < 20 → -2 ≤ M6 75 t ∧ M6 75 t ≤ 27 := fun t ht => by rw [(v33_5 t ht).1]; exact h7 t ht
      have it1 : (i + 1).toNat = i.toNat + 1 := by omega
      refine qJ.run hκ 3 (pc' := 38) (ls' := [some (qR 56), some (qI z), some (qI i), none, none, none]) (st' := [qI (M6 56 10), qI i]) rfl ?_
      refine qJ.icmp_ge hκ (tgt := 136) rfl rfl (by omega) (by omega) (fun c38 => ?_) (fun c38 => ?_)
      · show qJ YX6_seek κ _ (qLy u, M6, y) 0 0 136 [some (qR 56), some (qI z), some (qI i), none, none, none] []
        refine qJ.run hκ 1 (pc' := 137) (ls' := [some (qR 56), some (qI z), some (qI i), none, none, none]) (st' := [qI 0]) rfl ?_
        exact qJ.bret hκ rfl rfl (by omega) (by decide) (by decide) (by
      rw [show i.toNat = (dK D).toNat by omega] at v33_6
      have v6 : (((LV D 5 l ch).length : Nat) : Int) + (p : Int) = (q : Int) := v33_6
      exact ⟨0, M6, rfl, rfl, v33_2, v33_3, v33_4, v33_5, Or.inl ⟨rfl, by omega, by omega⟩⟩)
      · show qJ YX6_seek κ _ (qLy u, M6, y) 0 0 41 [some (qR 56), some (qI z), some (qI i), none, none, none] []
        refine qJ.run hκ 7 (pc' := 51) (ls' := [some (qR 56), some (qI z), some (qI i), none, none, none]) (st' := [qI ((z * 12) + i), qR 74]) rfl ?_
        refine qJ.ald hκ rfl rfl rfl (by decide) (by omega) ?_
        show qJ YX6_seek κ _ (qLy u, M6, y) 0 0 52 [some (qR 56), some (qI z), some (qI i), none, none, none] [qI (M6 74 (((z * 12) + i).toNat))]
        refine qJ.run hκ 2 (pc' := 54) (ls' := [some (qR 56), some (qI z), some (qI i), some (qI (M6 74 (((z * 12) + i).toNat))), none, none]) (st' := [qI z]) rfl ?_
        refine qJ.if_ne hκ (tgt := 78) rfl rfl (by omega) (fun c54 => ?_) (fun c54 => ?_)
        · show qJ YX6_seek κ _ (qLy u, M6, y) 0 0 78 [some (qR 56), some (qI z), some (qI i), some (qI (M6 74 (((z * 12) + i).toNat))), none, none] []
          refine qJ.run hκ 3 (pc' := 81) (ls' := [some (qR 56), some (qI z), some (qI i), some (qI (M6 74 (((z * 12) + i).toNat))), none, none]) (st' := [qI i, qI z, qR 56]) rfl ?_
          refine qJ.callV (As := [qI z, qI i]) (rest := []) hκ rfl kX6_131 (c_place u M6 y D (VM D ch l) (uQ ch l) z i hD (dM_k (keep_of kDS v33_2) hM) v33_3 v33_4 (by omega) (by omega) S6) rfl rfl (by decide) rfl rfl (Nat.le_of_ble_eq_true rfl) (Nat.le_of_ble_eq_true rfl) (Nat.le_of_ble_eq_true rfl) (Or.inl (fun r h' e => by obtain ⟨z81, m7, rfl, rfl, K7, R7, H7⟩ := e; rfl)) (fun r h' e => ?_)
          obtain ⟨z81, m7, rfl, rfl, K7, R7, H7⟩ := e
          rw [zt] at H7
          show qJ YX6_seek κ _ (qLy u, m7, y) 0 0 84 [some (qR 56), some (qI z), some (qI i), some (qI (M6 74 (((z * 12) + i).toNat))), none, none] [qI z81]
          have zr : -1 ≤ z81 ∧ z81 < 1048576 := by rcases H7 with q | ⟨b, q⟩; (omega); (have := q.1; have := q.2.1; omega)
          refine qJ.run hκ 3 (pc' := 89) (ls' := [some (qR 56), some (qI z), some (qI i), some (qI (M6 74 (((z * 12) + i).toNat))), some (qI z81), none]) (st' := [qI (-1), qI z81]) rfl ?_
          refine qJ.icmp_ne hκ (tgt := 95) rfl rfl (by omega) (by omega) (fun c89 => ?_) (fun c89 => ?_)
          · show qJ YX6_seek κ _ (qLy u, m7, y) 0 0 95 [some (qR 56), some (qI z), some (qI i), some (qI (M6 74 (((z * 12) + i).toNat))), some (qI z81), none] []
            have Z7 : ∃ b : Nat, z81 = (b : Int) ∧ b < 1048576 ∧ (¬ uQ ch l i.toNat ∧ fitW D i.toNat l (VM D ch l)) ∧ aS D (vP D i.toNat l (VM D ch l) (dL D i.toNat).toNat) m7 ∧ uM m7 (fun t => uQ ch l t ∨ t = i.toNat) ∧ ∀ t : Nat, t < 20 → (pb b t ↔ (VM D ch l t = -1 ∧ ¬ vP D i.toNat l (VM D ch l) (dL D i.toNat).toNat t = -1)) := by rcases H7 with q | q; (exact absurd q.1 c89); (exact q)
            clear H7
            obtain ⟨b, e81, b20, F7, A70, U70, PB0⟩ := Z7
            have FT : ftL D (q_fu ch l (i.toNat : Int)) l := ftL_fu.mpr F7
            have ve : VM D (q_fu ch l (i.toNat : Int)) (l + 1) = vP D i.toNat l (VM D ch l) (dL D i.toNat).toNat := by rw [VM_fu, F7.2.1]
            have A7 : aS D (VM D (q_fu ch l (i.toNat : Int)) (l + 1)) m7 := by rw [ve]; exact A70
            have U7 : uM m7 (uQ (q_fu ch l (i.toNat : Int)) (l + 1)) := uM_c U70 rfl (fun t _ => uQ_s)
            have PB : ∀ t : Nat, t < 20 → (pb b t ↔ (VM D ch l t = -1 ∧ ¬ VM D (q_fu ch l (i.toNat : Int)) (l + 1) t = -1)) := by rw [ve]; exact PB0
            have S7 : ∀ t : Nat, t < 20 → -2 ≤ m7 75 t ∧ m7 75 t ≤ 27 := fun t ht => by rw [(R7 t ht).1]; exact S6 t ht
            have UU : ∀ t : Nat, t < 12 → ((uQ (q_fu ch l (i.toNat : Int)) (l + 1) t ∧ ¬ t = i.toNat) ↔ uQ ch l t) := fun t _ => ⟨fun q => (uQ_s.mpr q.1).elim id (fun e => absurd e q.2), fun q => ⟨uQ_s.mp (Or.inl q), fun e => F7.1 (by rw [← e]; exact q)⟩⟩
            have NX : lvF D (LV D 4 (l + 1)) l ch (i + 1).toNat = lvF D (LV D 4 (l + 1)) l ch i.toNat ++ ftI D (LV D 4 (l + 1)) l (q_fu ch l (i.toNat : Int)) := by rw [it1]; rfl
            refine qJ.run hκ 4 (pc' := 99) (ls' := [some (qR 56), some (qI z), some (qI i), some (qI (M6 74 (((z * 12) + i).toNat))), some (qI z81), none]) (st' := [qI (z + 1), qR 56]) rfl ?_
            refine qJ.callV (As := [qI (z + 1)]) (rest := []) hκ rfl kX6_138 (c_seek4 u m7 y D (q_fu ch l (i.toNat : Int)) (l + 1) p (z + 1) hD (dM_k (keep_of kDL K7) hM6) (by omega) (by omega) A7 U7 (sgS_k ((congrFun K7 71).trans (congrFun v33_2 71)) hsg) S7 ⟨(congrFun (congrFun K7 56) 19).trans v33_1.1, by omega⟩ (fun z => absurd z (by omega))) rfl rfl (by decide) rfl rfl (Nat.le_of_ble_eq_true rfl) (Nat.le_of_ble_eq_true rfl) (Nat.le_of_ble_eq_true rfl) (Or.inl (fun r h' e => by obtain ⟨z99, m8, rfl, rfl, K8, A8, U8, R8, H8⟩ := e; rfl)) (fun r h' e => ?_)
            obtain ⟨z99, m8, rfl, rfl, K8, A8, U8, R8, H8⟩ := e
            show qJ YX6_seek κ _ (qLy u, m8, y) 0 0 102 [some (qR 56), some (qI z), some (qI i), some (qI (M6 74 (((z * 12) + i).toNat))), some (qI z81), none] [qI z99]
            have zr9 : z99 = 0 ∨ z99 = 1 := by rcases H8 with q | q; (left; exact q.1); (right; exact q.1)
            have S8 : ∀ t : Nat, t < 20 → -2 ≤ m8 75 t ∧ m8 75 t ≤ 27 := fun t ht => by rw [(R8 t ht).1]; exact S7 t ht
            have D8 : dM D m8 := dM_k ((keep_of kDS K8).trans (keep_of kDL K7)) hM6
            have k8 := D8.1
            have sg8 : sgS D m8 := sgS_k ((congrFun K8 71).trans ((congrFun K7 71).trans (congrFun v33_2 71))) hsg
            refine qJ.run hκ 2 (pc' := 106) (ls' := [some (qR 56), some (qI z), some (qI i), some (qI (M6 74 (((z * 12) + i).toNat))), some (qI z81), some (qI z99)]) (st' := [qI z99]) rfl ?_
            refine qJ.if_eq hκ (tgt := 115) rfl rfl (by omega) (fun c106 => ?_) (fun c106 => ?_)
            · show qJ YX6_seek κ _ (qLy u, m8, y) 0 0 115 [some (qR 56), some (qI z), some (qI i), some (qI (M6 74 (((z * 12) + i).toNat))), some (qI z81), some (qI z99)] []
              have N8 : z99 = 0 ∧ (LV D 4 (l + 1) (q_fu ch l (i.toNat : Int))).length ≤ p ∧ m8 56 19 = (p : Int) - ((LV D 4 (l + 1) (q_fu ch l (i.toNat : Int))).length : Nat) := by rcases H8 with q | q; (exact q); (have := q.1; omega)
              clear H8
              refine qJ.run hκ 4 (pc' := 120) (ls' := [some (qR 56), some (qI z), some (qI i), some (qI (M6 74 (((z * 12) + i).toNat))), some (qI z81), some (qI z99)]) (st' := [qI 0, qI z81, qI i, qR 56]) rfl ?_
              refine qJ.callV (As := [qI i, qI z81, qI 0]) (rest := []) hκ rfl kX6_134 (c_lift u m8 y D (VM D (q_fu ch l (i.toNat : Int)) (l + 1)) (uQ (q_fu ch l (i.toNat : Int)) (l + 1)) b i z81 0 hD D8 A8 U8 (by omega) e81 b20 (by decide) S8 (fun t ht p => ((PB t ht).mp p).2)) rfl rfl (by decide) rfl rfl (Nat.le_of_ble_eq_true rfl) (Nat.le_of_ble_eq_true rfl) (Nat.le_of_ble_eq_true rfl) (Or.inl (fun r h' e => by obtain ⟨rfl, mx, Gx, rfl, Kx, Ax, Ux, Lx⟩ := e; rfl)) (fun r h' e => ?_)
              obtain ⟨rfl, mx, Gx, rfl, Kx, Ax, Ux, Lx⟩ := e
              have GX := lf_G hD (by omega) FT PB Lx
              have RX := lf_0 Lx
              show qJ YX6_seek κ _ (qLy u, mx, y) 0 0 123 [some (qR 56), some (qI z), some (qI i), some (qI (M6 74 (((z * 12) + i).toNat))), some (qI z81), some (qI z99)] []
              refine qJ.run hκ 1 (pc' := 125) (ls' := [some (qR 56), some (qI z), some (qI i), some (qI (M6 74 (((z * 12) + i).toNat))), some (qI z81), some (qI z99)]) (st' := [qI z99]) rfl ?_
              refine qJ.if_eq hκ (tgt := 130) rfl rfl (by omega) (fun c125 => ?_) (fun c125 => ?_)
              · show qJ YX6_seek κ _ (qLy u, mx, y) 0 0 130 [some (qR 56), some (qI z), some (qI i), some (qI (M6 74 (((z * 12) + i).toNat))), some (qI z81), some (qI z99)] []
                refine qJ.run hκ 2 (pc' := 33) (ls' := [some (qR 56), some (qI z), some (qI (i + 1)), some (qI (M6 74 (((z * 12) + i).toNat))), some (qI z81), some (qI z99)]) (st' := []) rfl ?_
                refine qJ.dl [true, true, true, false, false, false] ?_
                show qJ YX6_seek κ _ (qLy u, mx, y) 0 0 33 [some (qR 56), some (qI z), some (qI (i + 1)), none, none, none] []
                exact ih33  (i + 1) (p - (LV D 4 (l + 1) (q_fu ch l (i.toNat : Int))).length) mx (by omega) (⟨by rw [show mx 56 19 = m8 56 19 from congrFun (congrFun Kx 56) 19, N8.2.2]; omega, by omega⟩) ((keep_of kSkL Kx).trans (K8.trans ((keep_of kSkL K7).trans v33_2))) (aS_c GX Ax) (uM_c Ux rfl UU) (fun t ht => ⟨(RX t ht).1.trans ((R8 t ht).1.trans ((R7 t ht).1.trans (v33_5 t ht).1)), (RX t ht).2.trans ((R8 t ht).2.trans ((R7 t ht).2.trans (v33_5 t ht).2))⟩) (by rw [NX, List.length_append, ftI_y FT]; have := N8.2.1; omega) (by omega)
              · show qJ YX6_seek κ _ (qLy u, mx, y) 0 0 128 [some (qR 56), some (qI z), some (qI i), some (qI (M6 74 (((z * 12) + i).toNat))), some (qI z81), some (qI z99)] []
                exact absurd c106 c125
            · show qJ YX6_seek κ _ (qLy u, m8, y) 0 0 109 [some (qR 56), some (qI z), some (qI i), some (qI (M6 74 (((z * 12) + i).toNat))), some (qI z81), some (qI z99)] []
              have Y8 : ∃ R, (LV D 4 (l + 1) (q_fu ch l (i.toNat : Int)))[p]? = some R ∧ KT D (l + 1) R m8 := by rcases H8 with q | q; (have := q.1; omega); (exact q.2)
              clear H8
              refine qJ.run hκ 3 (pc' := 112) (ls' := [some (qR 56), some (qI z), some (qI i), some (qI (M6 74 (((z * 12) + i).toNat))), some (qI z81), some (qI z99)]) (st' := [qI i, qI z, qR 56]) rfl ?_
              refine qJ.callV (As := [qI z, qI i]) (rest := []) hκ rfl kX6_142 (c_keep u m8 y z i (by omega) (by omega) (by omega) (by rw [zt]; exact (sg8 l (by omega)).1)) rfl rfl (by decide) rfl rfl (Nat.le_of_ble_eq_true rfl) (Nat.le_of_ble_eq_true rfl) (Nat.le_of_ble_eq_true rfl) (Or.inl (fun r h' e => by obtain ⟨rfl, m9, rfl, K9, H9⟩ := e; rfl)) (fun r h' e => ?_)
              obtain ⟨rfl, m9, rfl, K9, H9⟩ := e
              have A9 : aS D (VM D (q_fu ch l (i.toNat : Int)) (l + 1)) m9 := aS_k (fun i a b => funext fun j => keep_at K9 (by unfold kN kKp; rw [decide_eq_false (by omega)]; rfl)) A8
              have U9 : uM m9 (uQ (q_fu ch l (i.toNat : Int)) (l + 1)) := uM_c U8 (congrFun (congrFun K9 56) 15) (fun t _ => Iff.rfl)
              have R9 : s75 m8 m9 := fun t ht => ⟨congrFun (congrFun K9 75) t, congrFun (congrFun K9 76) t⟩
              have S9 : ∀ t : Nat, t < 20 → -2 ≤ m9 75 t ∧ m9 75 t ≤ 27 := fun t ht => by rw [(R9 t ht).1, (R8 t ht).1]; exact S7 t ht
              have D9 : dM D m9 := dM_k (keep_of kDK K9) D8
              show qJ YX6_seek κ _ (qLy u, m9, y) 0 0 115 [some (qR 56), some (qI z), some (qI i), some (qI (M6 74 (((z * 12) + i).toNat))), some (qI z81), some (qI z99)] []
              refine qJ.run hκ 4 (pc' := 120) (ls' := [some (qR 56), some (qI z), some (qI i), some (qI (M6 74 (((z * 12) + i).toNat))), some (qI z81), some (qI z99)]) (st' := [qI 0, qI z81, qI i, qR 56]) rfl ?_
              refine qJ.callV (As := [qI i, qI z81, qI 0]) (rest := []) hκ rfl kX6_134 (c_lift u m9 y D (VM D (q_fu ch l (i.toNat : Int)) (l + 1)) (uQ (q_fu ch l (i.toNat : Int)) (l + 1)) b i z81 0 hD D9 A9 U9 (by omega) e81 b20 (by decide) S9 (fun t ht p => ((PB t ht).mp p).2)) rfl rfl (by decide) rfl rfl (Nat.le_of_ble_eq_true rfl) (Nat.le_of_ble_eq_true rfl) (Nat.le_of_ble_eq_true rfl) (Or.inl (fun r h' e => by obtain ⟨rfl, mx, Gx, rfl, Kx, Ax, Ux, Lx⟩ := e; rfl)) (fun r h' e => ?_)
              obtain ⟨rfl, mx, Gx, rfl, Kx, Ax, Ux, Lx⟩ := e
              have GX := lf_G hD (by omega) FT PB Lx
              have RX := lf_0 Lx
              show qJ YX6_seek κ _ (qLy u, mx, y) 0 0 123 [some (qR 56), some (qI z), some (qI i), some (qI (M6 74 (((z * 12) + i).toNat))), some (qI z81), some (qI z99)] []
              refine qJ.run hκ 1 (pc' := 125) (ls' := [some (qR 56), some (qI z), some (qI i), some (qI (M6 74 (((z * 12) + i).toNat))), some (qI z81), some (qI z99)]) (st' := [qI z99]) rfl ?_
              refine qJ.if_eq hκ (tgt := 130) rfl rfl (by omega) (fun c125 => ?_) (fun c125 => ?_)
              · show qJ YX6_seek κ _ (qLy u, mx, y) 0 0 130 [some (qR 56), some (qI z), some (qI i), some (qI (M6 74 (((z * 12) + i).toNat))), some (qI z81), some (qI z99)] []
                exact absurd c125 c106
              · show qJ YX6_seek κ _ (qLy u, mx, y) 0 0 128 [some (qR 56), some (qI z), some (qI i), some (qI (M6 74 (((z * 12) + i).toNat))), some (qI z81), some (qI z99)] []
                refine qJ.run hκ 1 (pc' := 129) (ls' := [some (qR 56), some (qI z), some (qI i), some (qI (M6 74 (((z * 12) + i).toNat))), some (qI z81), some (qI z99)]) (st' := [qI 1]) rfl ?_
                exact qJ.bret hκ rfl rfl (by omega) (by decide) (by decide) (by
      obtain ⟨R, r1, r2⟩ := Y8
      have rl : R l = (i.toNat : Int) := ((LV_mem 4 (l + 1) _ (List.mem_of_getElem? r1)).1 l (by omega)).trans q_fu_eq
      have f1 : (ftI D (LV D 4 (l + 1)) l (q_fu ch l (i.toNat : Int)))[p]? = some R := by rw [ftI_y FT]; exact r1
      have f2 := lvF_at (D := D) (G := (LV D 4 (l + 1))) (l := l) (ch := ch) (i := i.toNat) (n := (dK D).toNat) (by omega) f1
      have f3 : (LV D 5 l ch)[q]? = some R := by rw [show q = (lvF D (LV D 4 (l + 1)) l ch i.toNat).length + p by omega]; exact f2
      have r68 : (m 68 : Nat → Int) = m 68 := rfl
      have X71 : mx 71 = m9 71 := congrFun Kx 71
      have X68 : mx 68 = m9 68 := congrFun Kx 68
      have Y71 : m9 71 = m8 71 := congrFun K9 71
      have Y68 : m9 68 = m8 68 := congrFun K9 68
      refine ⟨1, mx, rfl, rfl, (keep_of kSkL Kx).trans ((keep_of kSkK K9).trans (K8.trans ((keep_of kSkL K7).trans v33_2))), aS_c GX Ax, uM_c Ux rfl UU, fun t ht => ⟨(RX t ht).1.trans ((R9 t ht).1.trans ((R8 t ht).1.trans ((R7 t ht).1.trans (v33_5 t ht).1))), (RX t ht).2.trans ((R9 t ht).2.trans ((R8 t ht).2.trans ((R7 t ht).2.trans (v33_5 t ht).2)))⟩, Or.inr ⟨rfl, R, f3, KT_k (M := m9) ⟨congrFun Kx 57, congrFun Kx 58, X68, X71⟩ ?_⟩⟩
      rw [zt, show i.toNat = (R l).toNat by omega] at H9
      rcases H9 with g | g
      · have := g.1; omega
      · exact KT_more (m := m8) (by omega) sg8 r2 ⟨Y71, Y68⟩ g.2.1 g.2.2)
          · show qJ YX6_seek κ _ (qLy u, m7, y) 0 0 92 [some (qR 56), some (qI z), some (qI i), some (qI (M6 74 (((z * 12) + i).toNat))), some (qI z81), none] []
            have Z7 : ¬ (¬ uQ ch l i.toNat ∧ fitW D i.toNat l (VM D ch l)) ∧ aS D (VM D ch l) m7 ∧ uM m7 (uQ ch l) := by rcases H7 with q | ⟨b, q⟩; (exact q.2); (have := q.1; omega)
            clear H7
            have NX : lvF D (LV D 4 (l + 1)) l ch (i + 1).toNat = lvF D (LV D 4 (l + 1)) l ch i.toNat ++ [] := by rw [it1]; show _ ++ ftI D _ l _ = _; rw [ftI_n (fun z => Z7.1 (ftL_fu.mp z))]
            refine qJ.run hκ 3 (pc' := 33) (ls' := [some (qR 56), some (qI z), some (qI (i + 1)), some (qI (M6 74 (((z * 12) + i).toNat))), some (qI z81), none]) (st' := []) rfl ?_
            refine qJ.dl [true, true, true, false, false, false] ?_
            show qJ YX6_seek κ _ (qLy u, m7, y) 0 0 33 [some (qR 56), some (qI z), some (qI (i + 1)), none, none, none] []
            exact ih33  (i + 1) p m7 (by omega) (⟨(congrFun (congrFun K7 56) 19).trans v33_1.1, v33_1.2⟩) ((keep_of kSkL K7).trans v33_2) (Z7.2.1) (Z7.2.2) (fun t ht => ⟨(R7 t ht).1.trans (v33_5 t ht).1, (R7 t ht).2.trans (v33_5 t ht).2⟩) (by rw [NX, List.append_nil]; exact v33_6) (by omega)
        · show qJ YX6_seek κ _ (qLy u, M6, y) 0 0 57 [some (qR 56), some (qI z), some (qI i), some (qI (M6 74 (((z * 12) + i).toNat))), none, none] []
          have SK0 : M6 74 ((z * 12) + i).toNat = ((ftI D (LV D 4 (l + 1)) l (q_fu ch l (i.toNat : Int))).length : Nat) := by
            have l0 : l = 0 := by omega
            rw [show M6 74 = m 74 from congrFun v33_2 74, show ((z * 12) + i).toNat = i.toNat by omega]
            exact hH l0 i.toNat (by omega)
          have SKb : (ftI D (LV D 4 (l + 1)) l (q_fu ch l (i.toNat : Int))).length ≤ 248832 := by
            by_cases e : ftL D (q_fu ch l (i.toNat : Int)) l
            · rw [ftI_y e]; exact LV_b hD (by decide)
            · rw [ftI_n e]; exact Nat.zero_le _
          refine qJ.run hκ 3 (pc' := 62) (ls' := [some (qR 56), some (qI z), some (qI i), some (qI (M6 74 (((z * 12) + i).toNat))), none, none]) (st' := [qI (M6 74 (((z * 12) + i).toNat)), qI (M6 56 19)]) rfl ?_
          refine qJ.icmp_lt hκ (tgt := 78) rfl rfl (by omega) (by omega) (fun c62 => ?_) (fun c62 => ?_)
          · show qJ YX6_seek κ _ (qLy u, M6, y) 0 0 78 [some (qR 56), some (qI z), some (qI i), some (qI (M6 74 (((z * 12) + i).toNat))), none, none] []
            refine qJ.run hκ 3 (pc' := 81) (ls' := [some (qR 56), some (qI z), some (qI i), some (qI (M6 74 (((z * 12) + i).toNat))), none, none]) (st' := [qI i, qI z, qR 56]) rfl ?_
            refine qJ.callV (As := [qI z, qI i]) (rest := []) hκ rfl kX6_131 (c_place u M6 y D (VM D ch l) (uQ ch l) z i hD (dM_k (keep_of kDS v33_2) hM) v33_3 v33_4 (by omega) (by omega) S6) rfl rfl (by decide) rfl rfl (Nat.le_of_ble_eq_true rfl) (Nat.le_of_ble_eq_true rfl) (Nat.le_of_ble_eq_true rfl) (Or.inl (fun r h' e => by obtain ⟨z81, m7, rfl, rfl, K7, R7, H7⟩ := e; rfl)) (fun r h' e => ?_)
            obtain ⟨z81, m7, rfl, rfl, K7, R7, H7⟩ := e
            rw [zt] at H7
            show qJ YX6_seek κ _ (qLy u, m7, y) 0 0 84 [some (qR 56), some (qI z), some (qI i), some (qI (M6 74 (((z * 12) + i).toNat))), none, none] [qI z81]
            have zr : -1 ≤ z81 ∧ z81 < 1048576 := by rcases H7 with q | ⟨b, q⟩; (omega); (have := q.1; have := q.2.1; omega)
            refine qJ.run hκ 3 (pc' := 89) (ls' := [some (qR 56), some (qI z), some (qI i), some (qI (M6 74 (((z * 12) + i).toNat))), some (qI z81), none]) (st' := [qI (-1), qI z81]) rfl ?_
            refine qJ.icmp_ne hκ (tgt := 95) rfl rfl (by omega) (by omega) (fun c89 => ?_) (fun c89 => ?_)
            · show qJ YX6_seek κ _ (qLy u, m7, y) 0 0 95 [some (qR 56), some (qI z), some (qI i), some (qI (M6 74 (((z * 12) + i).toNat))), some (qI z81), none] []
              have Z7 : ∃ b : Nat, z81 = (b : Int) ∧ b < 1048576 ∧ (¬ uQ ch l i.toNat ∧ fitW D i.toNat l (VM D ch l)) ∧ aS D (vP D i.toNat l (VM D ch l) (dL D i.toNat).toNat) m7 ∧ uM m7 (fun t => uQ ch l t ∨ t = i.toNat) ∧ ∀ t : Nat, t < 20 → (pb b t ↔ (VM D ch l t = -1 ∧ ¬ vP D i.toNat l (VM D ch l) (dL D i.toNat).toNat t = -1)) := by rcases H7 with q | q; (exact absurd q.1 c89); (exact q)
              clear H7
              obtain ⟨b, e81, b20, F7, A70, U70, PB0⟩ := Z7
              have FT : ftL D (q_fu ch l (i.toNat : Int)) l := ftL_fu.mpr F7
              have ve : VM D (q_fu ch l (i.toNat : Int)) (l + 1) = vP D i.toNat l (VM D ch l) (dL D i.toNat).toNat := by rw [VM_fu, F7.2.1]
              have A7 : aS D (VM D (q_fu ch l (i.toNat : Int)) (l + 1)) m7 := by rw [ve]; exact A70
              have U7 : uM m7 (uQ (q_fu ch l (i.toNat : Int)) (l + 1)) := uM_c U70 rfl (fun t _ => uQ_s)
              have PB : ∀ t : Nat, t < 20 → (pb b t ↔ (VM D ch l t = -1 ∧ ¬ VM D (q_fu ch l (i.toNat : Int)) (l + 1) t = -1)) := by rw [ve]; exact PB0
              have S7 : ∀ t : Nat, t < 20 → -2 ≤ m7 75 t ∧ m7 75 t ≤ 27 := fun t ht => by rw [(R7 t ht).1]; exact S6 t ht
              have UU : ∀ t : Nat, t < 12 → ((uQ (q_fu ch l (i.toNat : Int)) (l + 1) t ∧ ¬ t = i.toNat) ↔ uQ ch l t) := fun t _ => ⟨fun q => (uQ_s.mpr q.1).elim id (fun e => absurd e q.2), fun q => ⟨uQ_s.mp (Or.inl q), fun e => F7.1 (by rw [← e]; exact q)⟩⟩
              have NX : lvF D (LV D 4 (l + 1)) l ch (i + 1).toNat = lvF D (LV D 4 (l + 1)) l ch i.toNat ++ ftI D (LV D 4 (l + 1)) l (q_fu ch l (i.toNat : Int)) := by rw [it1]; rfl
              refine qJ.run hκ 4 (pc' := 99) (ls' := [some (qR 56), some (qI z), some (qI i), some (qI (M6 74 (((z * 12) + i).toNat))), some (qI z81), none]) (st' := [qI (z + 1), qR 56]) rfl ?_
              refine qJ.callV (As := [qI (z + 1)]) (rest := []) hκ rfl kX6_138 (c_seek4 u m7 y D (q_fu ch l (i.toNat : Int)) (l + 1) p (z + 1) hD (dM_k (keep_of kDL K7) hM6) (by omega) (by omega) A7 U7 (sgS_k ((congrFun K7 71).trans (congrFun v33_2 71)) hsg) S7 ⟨(congrFun (congrFun K7 56) 19).trans v33_1.1, by omega⟩ (fun z => absurd z (by omega))) rfl rfl (by decide) rfl rfl (Nat.le_of_ble_eq_true rfl) (Nat.le_of_ble_eq_true rfl) (Nat.le_of_ble_eq_true rfl) (Or.inl (fun r h' e => by obtain ⟨z99, m8, rfl, rfl, K8, A8, U8, R8, H8⟩ := e; rfl)) (fun r h' e => ?_)
              obtain ⟨z99, m8, rfl, rfl, K8, A8, U8, R8, H8⟩ := e
              show qJ YX6_seek κ _ (qLy u, m8, y) 0 0 102 [some (qR 56), some (qI z), some (qI i), some (qI (M6 74 (((z * 12) + i).toNat))), some (qI z81), none] [qI z99]
              have zr9 : z99 = 0 ∨ z99 = 1 := by rcases H8 with q | q; (left; exact q.1); (right; exact q.1)
              have S8 : ∀ t : Nat, t < 20 → -2 ≤ m8 75 t ∧ m8 75 t ≤ 27 := fun t ht => by rw [(R8 t ht).1]; exact S7 t ht
              have D8 : dM D m8 := dM_k ((keep_of kDS K8).trans (keep_of kDL K7)) hM6
              have k8 := D8.1
              have sg8 : sgS D m8 := sgS_k ((congrFun K8 71).trans ((congrFun K7 71).trans (congrFun v33_2 71))) hsg
              refine qJ.run hκ 2 (pc' := 106) (ls' := [some (qR 56), some (qI z), some (qI i), some (qI (M6 74 (((z * 12) + i).toNat))), some (qI z81), some (qI z99)]) (st' := [qI z99]) rfl ?_
              refine qJ.if_eq hκ (tgt := 115) rfl rfl (by omega) (fun c106 => ?_) (fun c106 => ?_)
              · show qJ YX6_seek κ _ (qLy u, m8, y) 0 0 115 [some (qR 56), some (qI z), some (qI i), some (qI (M6 74 (((z * 12) + i).toNat))), some (qI z81), some (qI z99)] []
                have N8 : z99 = 0 ∧ (LV D 4 (l + 1) (q_fu ch l (i.toNat : Int))).length ≤ p ∧ m8 56 19 = (p : Int) - ((LV D 4 (l + 1) (q_fu ch l (i.toNat : Int))).length : Nat) := by rcases H8 with q | q; (exact q); (have := q.1; omega)
                clear H8
                refine qJ.run hκ 4 (pc' := 120) (ls' := [some (qR 56), some (qI z), some (qI i), some (qI (M6 74 (((z * 12) + i).toNat))), some (qI z81), some (qI z99)]) (st' := [qI 0, qI z81, qI i, qR 56]) rfl ?_
                refine qJ.callV (As := [qI i, qI z81, qI 0]) (rest := []) hκ rfl kX6_134 (c_lift u m8 y D (VM D (q_fu ch l (i.toNat : Int)) (l + 1)) (uQ (q_fu ch l (i.toNat : Int)) (l + 1)) b i z81 0 hD D8 A8 U8 (by omega) e81 b20 (by decide) S8 (fun t ht p => ((PB t ht).mp p).2)) rfl rfl (by decide) rfl rfl (Nat.le_of_ble_eq_true rfl) (Nat.le_of_ble_eq_true rfl) (Nat.le_of_ble_eq_true rfl) (Or.inl (fun r h' e => by obtain ⟨rfl, mx, Gx, rfl, Kx, Ax, Ux, Lx⟩ := e; rfl)) (fun r h' e => ?_)
                obtain ⟨rfl, mx, Gx, rfl, Kx, Ax, Ux, Lx⟩ := e
                have GX := lf_G hD (by omega) FT PB Lx
                have RX := lf_0 Lx
                show qJ YX6_seek κ _ (qLy u, mx, y) 0 0 123 [some (qR 56), some (qI z), some (qI i), some (qI (M6 74 (((z * 12) + i).toNat))), some (qI z81), some (qI z99)] []
                refine qJ.run hκ 1 (pc' := 125) (ls' := [some (qR 56), some (qI z), some (qI i), some (qI (M6 74 (((z * 12) + i).toNat))), some (qI z81), some (qI z99)]) (st' := [qI z99]) rfl ?_
                refine qJ.if_eq hκ (tgt := 130) rfl rfl (by omega) (fun c125 => ?_) (fun c125 => ?_)
                · show qJ YX6_seek κ _ (qLy u, mx, y) 0 0 130 [some (qR 56), some (qI z), some (qI i), some (qI (M6 74 (((z * 12) + i).toNat))), some (qI z81), some (qI z99)] []
                  refine qJ.run hκ 2 (pc' := 33) (ls' := [some (qR 56), some (qI z), some (qI (i + 1)), some (qI (M6 74 (((z * 12) + i).toNat))), some (qI z81), some (qI z99)]) (st' := []) rfl ?_
                  refine qJ.dl [true, true, true, false, false, false] ?_
                  show qJ YX6_seek κ _ (qLy u, mx, y) 0 0 33 [some (qR 56), some (qI z), some (qI (i + 1)), none, none, none] []
                  exact ih33  (i + 1) (p - (LV D 4 (l + 1) (q_fu ch l (i.toNat : Int))).length) mx (by omega) (⟨by rw [show mx 56 19 = m8 56 19 from congrFun (congrFun Kx 56) 19, N8.2.2]; omega, by omega⟩) ((keep_of kSkL Kx).trans (K8.trans ((keep_of kSkL K7).trans v33_2))) (aS_c GX Ax) (uM_c Ux rfl UU) (fun t ht => ⟨(RX t ht).1.trans ((R8 t ht).1.trans ((R7 t ht).1.trans (v33_5 t ht).1)), (RX t ht).2.trans ((R8 t ht).2.trans ((R7 t ht).2.trans (v33_5 t ht).2))⟩) (by rw [NX, List.length_append, ftI_y FT]; have := N8.2.1; omega) (by omega)
                · show qJ YX6_seek κ _ (qLy u, mx, y) 0 0 128 [some (qR 56), some (qI z), some (qI i), some (qI (M6 74 (((z * 12) + i).toNat))), some (qI z81), some (qI z99)] []
                  exact absurd c106 c125
              · show qJ YX6_seek κ _ (qLy u, m8, y) 0 0 109 [some (qR 56), some (qI z), some (qI i), some (qI (M6 74 (((z * 12) + i).toNat))), some (qI z81), some (qI z99)] []
                have Y8 : ∃ R, (LV D 4 (l + 1) (q_fu ch l (i.toNat : Int)))[p]? = some R ∧ KT D (l + 1) R m8 := by rcases H8 with q | q; (have := q.1; omega); (exact q.2)
                clear H8
                refine qJ.run hκ 3 (pc' := 112) (ls' := [some (qR 56), some (qI z), some (qI i), some (qI (M6 74 (((z * 12) + i).toNat))), some (qI z81), some (qI z99)]) (st' := [qI i, qI z, qR 56]) rfl ?_
                refine qJ.callV (As := [qI z, qI i]) (rest := []) hκ rfl kX6_142 (c_keep u m8 y z i (by omega) (by omega) (by omega) (by rw [zt]; exact (sg8 l (by omega)).1)) rfl rfl (by decide) rfl rfl (Nat.le_of_ble_eq_true rfl) (Nat.le_of_ble_eq_true rfl) (Nat.le_of_ble_eq_true rfl) (Or.inl (fun r h' e => by obtain ⟨rfl, m9, rfl, K9, H9⟩ := e; rfl)) (fun r h' e => ?_)
                obtain ⟨rfl, m9, rfl, K9, H9⟩ := e
                have A9 : aS D (VM D (q_fu ch l (i.toNat : Int)) (l + 1)) m9 := aS_k (fun i a b => funext fun j => keep_at K9 (by unfold kN kKp; rw [decide_eq_false (by omega)]; rfl)) A8
                have U9 : uM m9 (uQ (q_fu ch l (i.toNat : Int)) (l + 1)) := uM_c U8 (congrFun (congrFun K9 56) 15) (fun t _ => Iff.rfl)
                have R9 : s75 m8 m9 := fun t ht => ⟨congrFun (congrFun K9 75) t, congrFun (congrFun K9 76) t⟩
                have S9 : ∀ t : Nat, t < 20 → -2 ≤ m9 75 t ∧ m9 75 t ≤ 27 := fun t ht => by rw [(R9 t ht).1, (R8 t ht).1]; exact S7 t ht
                have D9 : dM D m9 := dM_k (keep_of kDK K9) D8
                show qJ YX6_seek κ _ (qLy u, m9, y) 0 0 115 [some (qR 56), some (qI z), some (qI i), some (qI (M6 74 (((z * 12) + i).toNat))), some (qI z81), some (qI z99)] []
                refine qJ.run hκ 4 (pc' := 120) (ls' := [some (qR 56), some (qI z), some (qI i), some (qI (M6 74 (((z * 12) + i).toNat))), some (qI z81), some (qI z99)]) (st' := [qI 0, qI z81, qI i, qR 56]) rfl ?_
                refine qJ.callV (As := [qI i, qI z81, qI 0]) (rest := []) hκ rfl kX6_134 (c_lift u m9 y D (VM D (q_fu ch l (i.toNat : Int)) (l + 1)) (uQ (q_fu ch l (i.toNat : Int)) (l + 1)) b i z81 0 hD D9 A9 U9 (by omega) e81 b20 (by decide) S9 (fun t ht p => ((PB t ht).mp p).2)) rfl rfl (by decide) rfl rfl (Nat.le_of_ble_eq_true rfl) (Nat.le_of_ble_eq_true rfl) (Nat.le_of_ble_eq_true rfl) (Or.inl (fun r h' e => by obtain ⟨rfl, mx, Gx, rfl, Kx, Ax, Ux, Lx⟩ := e; rfl)) (fun r h' e => ?_)
                obtain ⟨rfl, mx, Gx, rfl, Kx, Ax, Ux, Lx⟩ := e
                have GX := lf_G hD (by omega) FT PB Lx
                have RX := lf_0 Lx
                show qJ YX6_seek κ _ (qLy u, mx, y) 0 0 123 [some (qR 56), some (qI z), some (qI i), some (qI (M6 74 (((z * 12) + i).toNat))), some (qI z81), some (qI z99)] []
                refine qJ.run hκ 1 (pc' := 125) (ls' := [some (qR 56), some (qI z), some (qI i), some (qI (M6 74 (((z * 12) + i).toNat))), some (qI z81), some (qI z99)]) (st' := [qI z99]) rfl ?_
                refine qJ.if_eq hκ (tgt := 130) rfl rfl (by omega) (fun c125 => ?_) (fun c125 => ?_)
                · show qJ YX6_seek κ _ (qLy u, mx, y) 0 0 130 [some (qR 56), some (qI z), some (qI i), some (qI (M6 74 (((z * 12) + i).toNat))), some (qI z81), some (qI z99)] []
                  exact absurd c125 c106
                · show qJ YX6_seek κ _ (qLy u, mx, y) 0 0 128 [some (qR 56), some (qI z), some (qI i), some (qI (M6 74 (((z * 12) + i).toNat))), some (qI z81), some (qI z99)] []
                  refine qJ.run hκ 1 (pc' := 129) (ls' := [some (qR 56), some (qI z), some (qI i), some (qI (M6 74 (((z * 12) + i).toNat))), some (qI z81), some (qI z99)]) (st' := [qI 1]) rfl ?_
                  exact qJ.bret hκ rfl rfl (by omega) (by decide) (by decide) (by
      obtain ⟨R, r1, r2⟩ := Y8
      have rl : R l = (i.toNat : Int) := ((LV_mem 4 (l + 1) _ (List.mem_of_getElem? r1)).1 l (by omega)).trans q_fu_eq
      have f1 : (ftI D (LV D 4 (l + 1)) l (q_fu ch l (i.toNat : Int)))[p]? = some R := by rw [ftI_y FT]; exact r1
      have f2 := lvF_at (D := D) (G := (LV D 4 (l + 1))) (l := l) (ch := ch) (i := i.toNat) (n := (dK D).toNat) (by omega) f1
      have f3 : (LV D 5 l ch)[q]? = some R := by rw [show q = (lvF D (LV D 4 (l + 1)) l ch i.toNat).length + p by omega]; exact f2
      have r68 : (m 68 : Nat → Int) = m 68 := rfl
      have X71 : mx 71 = m9 71 := congrFun Kx 71
      have X68 : mx 68 = m9 68 := congrFun Kx 68
      have Y71 : m9 71 = m8 71 := congrFun K9 71
      have Y68 : m9 68 = m8 68 := congrFun K9 68
      refine ⟨1, mx, rfl, rfl, (keep_of kSkL Kx).trans ((keep_of kSkK K9).trans (K8.trans ((keep_of kSkL K7).trans v33_2))), aS_c GX Ax, uM_c Ux rfl UU, fun t ht => ⟨(RX t ht).1.trans ((R9 t ht).1.trans ((R8 t ht).1.trans ((R7 t ht).1.trans (v33_5 t ht).1))), (RX t ht).2.trans ((R9 t ht).2.trans ((R8 t ht).2.trans ((R7 t ht).2.trans (v33_5 t ht).2)))⟩, Or.inr ⟨rfl, R, f3, KT_k (M := m9) ⟨congrFun Kx 57, congrFun Kx 58, X68, X71⟩ ?_⟩⟩
      rw [zt, show i.toNat = (R l).toNat by omega] at H9
      rcases H9 with g | g
      · have := g.1; omega
      · exact KT_more (m := m8) (by omega) sg8 r2 ⟨Y71, Y68⟩ g.2.1 g.2.2)
            · show qJ YX6_seek κ _ (qLy u, m7, y) 0 0 92 [some (qR 56), some (qI z), some (qI i), some (qI (M6 74 (((z * 12) + i).toNat))), some (qI z81), none] []
              have Z7 : ¬ (¬ uQ ch l i.toNat ∧ fitW D i.toNat l (VM D ch l)) ∧ aS D (VM D ch l) m7 ∧ uM m7 (uQ ch l) := by rcases H7 with q | ⟨b, q⟩; (exact q.2); (have := q.1; omega)
              clear H7
              have NX : lvF D (LV D 4 (l + 1)) l ch (i + 1).toNat = lvF D (LV D 4 (l + 1)) l ch i.toNat ++ [] := by rw [it1]; show _ ++ ftI D _ l _ = _; rw [ftI_n (fun z => Z7.1 (ftL_fu.mp z))]
              refine qJ.run hκ 3 (pc' := 33) (ls' := [some (qR 56), some (qI z), some (qI (i + 1)), some (qI (M6 74 (((z * 12) + i).toNat))), some (qI z81), none]) (st' := []) rfl ?_
              refine qJ.dl [true, true, true, false, false, false] ?_
              show qJ YX6_seek κ _ (qLy u, m7, y) 0 0 33 [some (qR 56), some (qI z), some (qI (i + 1)), none, none, none] []
              exact ih33  (i + 1) p m7 (by omega) (⟨(congrFun (congrFun K7 56) 19).trans v33_1.1, v33_1.2⟩) ((keep_of kSkL K7).trans v33_2) (Z7.2.1) (Z7.2.2) (fun t ht => ⟨(R7 t ht).1.trans (v33_5 t ht).1, (R7 t ht).2.trans (v33_5 t ht).2⟩) (by rw [NX, List.append_nil]; exact v33_6) (by omega)
          · show qJ YX6_seek κ _ (qLy u, M6, y) 0 0 65 [some (qR 56), some (qI z), some (qI i), some (qI (M6 74 (((z * 12) + i).toNat))), none, none] []
            have SK1 := SK0
            have NX : lvF D (LV D 4 (l + 1)) l ch (i + 1).toNat = lvF D (LV D 4 (l + 1)) l ch i.toNat ++ ftI D (LV D 4 (l + 1)) l (q_fu ch l (i.toNat : Int)) := by rw [it1]; rfl
            refine qJ.run hκ 5 (pc' := 72) (ls' := [some (qR 56), some (qI z), some (qI i), some (qI (M6 74 (((z * 12) + i).toNat))), none, none]) (st' := [qI ((M6 56 19) - (M6 74 (((z * 12) + i).toNat))), qR 56]) rfl ?_
            refine qJ.putI hκ rfl rfl rfl rfl (Or.inl rfl) ?_
            show qJ YX6_seek κ _ (qLy u, (q_up M6 56 19 ((M6 56 19) - (M6 74 (((z * 12) + i).toNat)))), y) 0 0 75 [some (qR 56), some (qI z), some (qI i), some (qI (M6 74 (((z * 12) + i).toNat))), none, none] []
            refine qJ.run hκ 3 (pc' := 33) (ls' := [some (qR 56), some (qI z), some (qI (i + 1)), some (qI (M6 74 (((z * 12) + i).toNat))), none, none]) (st' := []) rfl ?_
            refine qJ.dl [true, true, true, false, false, false] ?_
            show qJ YX6_seek κ _ (qLy u, (q_up M6 56 19 ((M6 56 19) - (M6 74 (((z * 12) + i).toNat)))), y) 0 0 33 [some (qR 56), some (qI z), some (qI (i + 1)), none, none, none] []
            exact ih33  (i + 1) (p - (ftI D (LV D 4 (l + 1)) l (q_fu ch l (i.toNat : Int))).length) (q_up M6 56 19 ((M6 56 19) - (M6 74 (((z * 12) + i).toNat)))) (by omega) (⟨by show M6 56 19 - _ = _; rw [SK1]; omega, by omega⟩) (Eq.trans (keep_up (by rfl)) v33_2) (aS_k (fun i a b => q_up_rw (by omega)) v33_3) (uM_c v33_4 rfl (fun t _ => Iff.rfl)) (fun t ht => v33_5 t ht) (by rw [NX, List.length_append]; omega) (by omega)
  show qJ YX6_seek κ _ (qLy u, m, y) 0 0 0 [some (qR 56), some (qI z), none, none, none, none] []
  refine qJ.run hκ 3 (pc' := 5) (ls' := [some (qR 56), some (qI z), none, none, none, none]) (st' := [qI (m 56 14), qI z]) rfl ?_
  refine qJ.icmp_lt hκ (tgt := 31) rfl rfl (by omega) (by omega) (fun c5 => ?_) (fun c5 => ?_)
  · show qJ YX6_seek κ _ (qLy u, m, y) 0 0 31 [some (qR 56), some (qI z), none, none, none, none] []
    refine qJ.run hκ 2 (pc' := 33) (ls' := [some (qR 56), some (qI z), some (qI 0), none, none, none]) (st' := []) rfl ?_
    exact L33 13 0 q m (by omega) (⟨hq.1, by omega⟩) (rfl) (hA) (hU) (fun t ht => ⟨rfl, rfl⟩) (by show ((0 : Nat) : Int) + _ = _; omega) (by omega)
  · show qJ YX6_seek κ _ (qLy u, m, y) 0 0 8 [some (qR 56), some (qI z), none, none, none, none] []
    exfalso; omega

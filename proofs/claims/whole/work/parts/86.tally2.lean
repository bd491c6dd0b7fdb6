/-! printed by p86.py: the class counts readings -/
def kTy : Nat → Nat → Bool := fun i j => decide ((60 ≤ i ∧ i ≤ 65) ∨ (74 ≤ i ∧ i ≤ 76) ∨ (i = 56 ∧ j = 15))
theorem kTyL : ∀ i j, kN kTy i j = true → kN kLf i j = true := by
  intro i j h
  refine kN_t.mpr fun z => kN_t.mp h ?_
  unfold kLf at z
  unfold kTy
  rw [decide_eq_true_eq] at z ⊢
  omega
theorem kDT : ∀ i j, kDm i j = true → kN kTy i j = true := by
  intro i j h
  refine kN_t.mpr fun z => ?_
  unfold kDm at h
  unfold kTy at z
  rw [decide_eq_true_eq] at h z
  omega
theorem VM_r {D : qD} {f : Nat → Int} {M : qM} (h : aS D f M) : ∀ t : Nat, t < 20 → -1 ≤ f t := fun t ht => (h.1.1 t ht).2.1
theorem lf_75 {D : qD} {i b : Nat} {be : Int} {g : Nat → Int} {m : qM} {k : Int} {G : Nat → Int} {M : qM} (h : lfS D i b be g m k G M) (hg : ∀ t : Nat, t < 20 → pb b t → 0 ≤ g t ∧ g t ≤ 27) (h7 : ∀ t : Nat, t < 20 → -2 ≤ m 75 t ∧ m 75 t ≤ 27) : ∀ t : Nat, t < 20 → -2 ≤ M 75 t ∧ M 75 t ≤ 27 := by
  intro t ht
  by_cases p : pb b t ∧ hitW D i k t
  · rw [((h t ht).1 p).2.1]
    exact nV_r (h7 t ht) (hg t ht p.1)
  · rw [((h t ht).2 p).2.1]
    exact h7 t ht

set_option maxRecDepth 100000 in
theorem c_tally0 (u : qU) (m y : qM) (D : qD) (ch : Nat → Int) (l : Nat) (z : Int) (hD : dOk D) (hM : dM D m) (hz : z = (l : Int)) (hl : (l : Int) + 0 = dN D) (hA : aS D (VM D ch l) m) (hU : uM m (uQ ch l)) (hch : ∀ e, l ≤ e → ch e = -1) (h7 : ∀ t : Nat, t < 20 → -2 ≤ m 75 t ∧ m 75 t ≤ 27) : qCt YX6_tally 1 0 0 [qR 56, qI z] (qLy u, m, y) (fun r h => ∃ m', r = some (qI ((LV D 0 l ch).length : Nat)) ∧ h = (qLy u, m', y) ∧ keep (kN kTy) m' = keep (kN kTy) m ∧ aS D (VM D ch l) m' ∧ uM m' (uQ ch l) ∧ tyS D l ch (LV D 0 l ch) m m') := by
  refine qCt.intro okX6_tally (Nat.le_of_ble_eq_true rfl) (fun κ hκ => ?_)
  have k0 := hM.1
  have kb := hD.1
  show qJ YX6_tally κ _ (qLy u, m, y) 0 0 0 [some (qR 56), some (qI z), none, none, none, none] []
  refine qJ.run hκ 3 (pc' := 5) (ls' := [some (qR 56), some (qI z), none, none, none, none]) (st' := [qI (m 56 14), qI z]) rfl ?_
  refine qJ.icmp_lt hκ (tgt := 10) rfl rfl (by omega) (by omega) (fun c5 => ?_) (fun c5 => ?_)
  · show qJ YX6_tally κ _ (qLy u, m, y) 0 0 10 [some (qR 56), some (qI z), none, none, none, none] []
    exfalso; omega
  · show qJ YX6_tally κ _ (qLy u, m, y) 0 0 8 [some (qR 56), some (qI z), none, none, none, none] []
    refine qJ.run hκ 1 (pc' := 9) (ls' := [some (qR 56), some (qI z), none, none, none, none]) (st' := [qI 1]) rfl ?_
    exact qJ.iret hκ rfl rfl (by decide) (by decide) (⟨m, rfl, rfl, rfl, hA, hU, by
      have ln : (dN D).toNat = l := by omega
      refine ⟨fun e i a b => ?_, fun s hs => ⟨fun q => ?_, fun _ => ⟨rfl, rfl⟩⟩, h7⟩
      · by_cases c : l ≤ e
        · rw [if_pos c, hC_none (fun R hR => ?_)]
          · omega
          · rw [show LV D 0 l ch = [ch] from rfl, List.mem_singleton] at hR
            rw [hR, hch e c]; omega
        · rw [if_neg c]; omega
      · have e1 : VM D ch (dN D).toNat s = -1 := by rw [ln]; exact q
        refine ⟨?_, ?_⟩
        · show _ = nV (m 75 s) (VM D ch (dN D).toNat s) (if VM D ch (dN D).toNat s = -1 then 0 else 1)
          rw [if_pos e1]; unfold nV; rw [if_pos rfl]
        · have : sC D s (LV D 0 l ch) = 0 := by
            show (([ch].countP (fun R => decide (¬ VM D R (dN D).toNat s = -1)) : Nat) : Int) = 0
            rw [List.countP_eq_zero.mpr (fun R hR z => by rw [List.mem_singleton] at hR; rw [hR] at z; exact absurd e1 (of_decide_eq_true z))]
            rfl
          rw [this]; omega⟩)

set_option maxRecDepth 100000 in
theorem c_tally1 (u : qU) (m y : qM) (D : qD) (ch : Nat → Int) (l : Nat) (z : Int) (hD : dOk D) (hM : dM D m) (hz : z = (l : Int)) (hl : (l : Int) + 1 = dN D) (hA : aS D (VM D ch l) m) (hU : uM m (uQ ch l)) (hch : ∀ e, l ≤ e → ch e = -1) (h7 : ∀ t : Nat, t < 20 → -2 ≤ m 75 t ∧ m 75 t ≤ 27) : qCt YX6_tally 4 0 0 [qR 56, qI z] (qLy u, m, y) (fun r h => ∃ m', r = some (qI ((LV D 1 l ch).length : Nat)) ∧ h = (qLy u, m', y) ∧ keep (kN kTy) m' = keep (kN kTy) m ∧ aS D (VM D ch l) m' ∧ uM m' (uQ ch l) ∧ tyS D l ch (LV D 1 l ch) m m') := by
  refine qCt.intro okX6_tally (Nat.le_of_ble_eq_true rfl) (fun κ hκ => ?_)
  have k0 := hM.1
  have kb := hD.1
  have zt : z.toNat = l := by omega
  have L14 : ∀ (n : Nat) (s : Int) (i : Int) (M6 : qM), (0 ≤ i ∧ i ≤ dK D) → (s = ((lvF D (LV D 0 (l + 1)) l ch i.toNat).length : Nat)) → (keep (kN kTy) M6 = keep (kN kTy) m) → (aS D (VM D ch l) M6) → (uM M6 (uQ ch l)) → (tyS D l ch (lvF D (LV D 0 (l + 1)) l ch i.toNat) m M6) → ((dK D - i).toNat) < n → qJ YX6_tally κ (qFin (fun r h => ∃ m', r = some (qI ((LV D 1 l ch).length : Nat)) ∧ h = (qLy u, m', y) ∧ keep (kN kTy) m' = keep (kN kTy) m ∧ aS D (VM D ch l) m' ∧ uM m' (uQ ch l) ∧ tyS D l ch (LV D 1 l ch) m m') 0 0 κ) (qLy u, M6, y) 0 0 14 [some (qR 56), some (qI z), some (qI s), some (qI i), none, none] [] := by
    intro n
    induction n with
    | zero => intro s i M6 _ _ _ _ _ _ hz0; omega
    | succ n ih14 =>
      intro s i M6 v14_0 v14_1 v14_2 v14_3 v14_4 v14_5 v14_m
      have k10 : M6 56 10 = dK D := (congrFun (congrFun v14_2 56) 10).trans k0.1
      have hM6 := dM_k (keep_of kDT v14_2) hM
      have sb : (0 : Int) ≤ s ∧ s ≤ 12 * 20736 := by
        have := lvF_len (D := D) (G := (LV D 0 (l + 1))) (l := l) (ch := ch) (B := 12 ^ 0) (fun c => LV_len hD 0 (l + 1) c) i.toNat
        have h2 : i.toNat * 12 ^ 0 ≤ 12 * 20736 := Nat.mul_le_mul (by omega) (by decide)
        omega
      refine qJ.run hκ 3 (pc' := 19) (ls' := [some (qR 56), some (qI z), some (qI s), some (qI i), none, none]) (st' := [qI (M6 56 10), qI i]) rfl ?_
      refine qJ.icmp_ge hκ (tgt := 84) rfl rfl (by omega) (by omega) (fun c19 => ?_) (fun c19 => ?_)
      · show qJ YX6_tally κ _ (qLy u, M6, y) 0 0 84 [some (qR 56), some (qI z), some (qI s), some (qI i), none, none] []
        refine qJ.run hκ 1 (pc' := 85) (ls' := [some (qR 56), some (qI z), some (qI s), some (qI i), none, none]) (st' := [qI s]) rfl ?_
        exact qJ.iret hκ rfl rfl (by decide) (by decide) (by rw [show i.toNat = (dK D).toNat by omega] at v14_1 v14_5; exact ⟨M6, congrArg (fun x => some (qI x)) v14_1, rfl, v14_2, v14_3, v14_4, v14_5⟩)
      · show qJ YX6_tally κ _ (qLy u, M6, y) 0 0 22 [some (qR 56), some (qI z), some (qI s), some (qI i), none, none] []
        refine qJ.run hκ 3 (pc' := 25) (ls' := [some (qR 56), some (qI z), some (qI s), some (qI i), none, none]) (st' := [qI i, qI z, qR 56]) rfl ?_
        refine qJ.callV (As := [qI z, qI i]) (rest := []) hκ rfl kX6_131 (c_place u M6 y D (VM D ch l) (uQ ch l) z i hD (dM_k (keep_of kDT v14_2) hM) v14_3 v14_4 (by omega) (by omega) v14_5.2.2) rfl rfl (by decide) rfl rfl (Nat.le_of_ble_eq_true rfl) (Nat.le_of_ble_eq_true rfl) (Nat.le_of_ble_eq_true rfl) (Or.inl (fun r h' e => by obtain ⟨z25, m7, rfl, rfl, K7, R7, H7⟩ := e; rfl)) (fun r h' e => ?_)
        obtain ⟨z25, m7, rfl, rfl, K7, R7, H7⟩ := e
        rw [zt] at H7
        show qJ YX6_tally κ _ (qLy u, m7, y) 0 0 28 [some (qR 56), some (qI z), some (qI s), some (qI i), none, none] [qI z25]
        have zr : -1 ≤ z25 ∧ z25 < 1048576 := by rcases H7 with q | ⟨b, q⟩; (omega); (have := q.1; have := q.2.1; omega)
        have it1 : (i + 1).toNat = i.toNat + 1 := by omega
        refine qJ.run hκ 3 (pc' := 33) (ls' := [some (qR 56), some (qI z), some (qI s), some (qI i), some (qI z25), none]) (st' := [qI (-1), qI z25]) rfl ?_
        refine qJ.icmp_ne hκ (tgt := 39) rfl rfl (by omega) (by omega) (fun c33 => ?_) (fun c33 => ?_)
        · show qJ YX6_tally κ _ (qLy u, m7, y) 0 0 39 [some (qR 56), some (qI z), some (qI s), some (qI i), some (qI z25), none] []
          have Z7 : ∃ b : Nat, z25 = (b : Int) ∧ b < 1048576 ∧ (¬ uQ ch l i.toNat ∧ fitW D i.toNat l (VM D ch l)) ∧ aS D (vP D i.toNat l (VM D ch l) (dL D i.toNat).toNat) m7 ∧ uM m7 (fun t => uQ ch l t ∨ t = i.toNat) ∧ ∀ t : Nat, t < 20 → (pb b t ↔ (VM D ch l t = -1 ∧ ¬ vP D i.toNat l (VM D ch l) (dL D i.toNat).toNat t = -1)) := by rcases H7 with q | q; (exact absurd q.1 c33); (exact q)
          clear H7
          obtain ⟨b, e25, b20, F7, A70, U70, PB0⟩ := Z7
          have FT : ftL D (q_fu ch l (i.toNat : Int)) l := ftL_fu.mpr F7
          have ve : VM D (q_fu ch l (i.toNat : Int)) (l + 1) = vP D i.toNat l (VM D ch l) (dL D i.toNat).toNat := by rw [VM_fu, F7.2.1]
          have A7 : aS D (VM D (q_fu ch l (i.toNat : Int)) (l + 1)) m7 := by rw [ve]; exact A70
          have U7 : uM m7 (uQ (q_fu ch l (i.toNat : Int)) (l + 1)) := uM_c U70 rfl (fun t _ => uQ_s)
          have PB : ∀ t : Nat, t < 20 → (pb b t ↔ (VM D ch l t = -1 ∧ ¬ VM D (q_fu ch l (i.toNat : Int)) (l + 1) t = -1)) := by rw [ve]; exact PB0
          have S7 : ∀ t : Nat, t < 20 → -2 ≤ m7 75 t ∧ m7 75 t ≤ 27 := fun t ht => by rw [(R7 t ht).1]; exact v14_5.2.2 t ht
          have NX : lvF D (LV D 0 (l + 1)) l ch (i + 1).toNat = lvF D (LV D 0 (l + 1)) l ch i.toNat ++ ftI D (LV D 0 (l + 1)) l (q_fu ch l (i.toNat : Int)) := by rw [it1]; rfl
          refine qJ.run hκ 4 (pc' := 43) (ls' := [some (qR 56), some (qI z), some (qI s), some (qI i), some (qI z25), none]) (st' := [qI (z + 1), qR 56]) rfl ?_
          refine qJ.callV (As := [qI (z + 1)]) (rest := []) hκ rfl kX6_101 (c_tally0 u m7 y D (q_fu ch l (i.toNat : Int)) (l + 1) (z + 1) hD (dM_k (keep_of kDL K7) hM6) (by omega) (by omega) A7 U7 (fun e he => by rw [q_fu_ne (by omega)]; exact hch e (by omega)) S7) rfl rfl (by decide) rfl rfl (Nat.le_of_ble_eq_true rfl) (Nat.le_of_ble_eq_true rfl) (Nat.le_of_ble_eq_true rfl) (Or.inl (fun r h' e => by obtain ⟨m8, rfl, rfl, K8, A8, U8, T8⟩ := e; rfl)) (fun r h' e => ?_)
          obtain ⟨m8, rfl, rfl, K8, A8, U8, T8⟩ := e
          show qJ YX6_tally κ _ (qLy u, m8, y) 0 0 46 [some (qR 56), some (qI z), some (qI s), some (qI i), some (qI z25), none] [qI ((LV D 0 (l + 1) (q_fu ch l (i.toNat : Int))).length : Nat)]
          refine qJ.run hκ 5 (pc' := 54) (ls' := [some (qR 56), some (qI z), some (qI s), some (qI i), some (qI z25), some (qI ((LV D 0 (l + 1) (q_fu ch l (i.toNat : Int))).length : Nat))]) (st' := [qI ((LV D 0 (l + 1) (q_fu ch l (i.toNat : Int))).length : Nat), qI z25, qI i, qR 56]) rfl ?_
          refine qJ.callV (As := [qI i, qI z25, qI ((LV D 0 (l + 1) (q_fu ch l (i.toNat : Int))).length : Nat)]) (rest := []) hκ rfl kX6_134 (c_lift u m8 y D (VM D (q_fu ch l (i.toNat : Int)) (l + 1)) (uQ (q_fu ch l (i.toNat : Int)) (l + 1)) b i z25 (((LV D 0 (l + 1) (q_fu ch l (i.toNat : Int))).length : Nat) : Int) hD (dM_k ((keep_of kDT K8).trans (keep_of kDL K7)) hM6) A8 U8 (by omega) e25 b20 (by have := LV_b hD (r := 0) (l := l + 1) (ch := (q_fu ch l (i.toNat : Int))) (by decide); omega) T8.2.2 (fun t ht p => ((PB t ht).mp p).2)) rfl rfl (by decide) rfl rfl (Nat.le_of_ble_eq_true rfl) (Nat.le_of_ble_eq_true rfl) (Nat.le_of_ble_eq_true rfl) (Or.inl (fun r h' e => by obtain ⟨rfl, m9, G9, rfl, K9, A9, U9, L9⟩ := e; rfl)) (fun r h' e => ?_)
          obtain ⟨rfl, m9, G9, rfl, K9, A9, U9, L9⟩ := e
          show qJ YX6_tally κ _ (qLy u, m9, y) 0 0 57 [some (qR 56), some (qI z), some (qI s), some (qI i), some (qI z25), some (qI ((LV D 0 (l + 1) (q_fu ch l (i.toNat : Int))).length : Nat))] []
          have UU : ∀ t : Nat, t < 12 → ((uQ (q_fu ch l (i.toNat : Int)) (l + 1) t ∧ ¬ t = i.toNat) ↔ uQ ch l t) := fun t _ => ⟨fun q => (uQ_s.mpr q.1).elim id (fun e => absurd e q.2), fun q => ⟨uQ_s.mp (Or.inl q), fun e => F7.1 (by rw [← e]; exact q)⟩⟩
          have ix : (z * 12 + i).toNat = l * 12 + i.toNat := by omega
          have ST := tyS_s (D := D) (l := l) (r := 0) (i := i.toNat) (b := b) (ch := ch) (A := lvF D (LV D 0 (l + 1)) l ch i.toNat) (m := m) (M6 := M6) (M7 := m7) (M8 := m8) (M9 := m9) (M' := q_up m9 74 (z * 12 + i).toNat (m9 74 (z * 12 + i).toNat + ((LV D 0 (l + 1) (q_fu ch l (i.toNat : Int))).length : Nat))) (G := G9) hD (by omega) (by omega) (by omega) v14_5 FT (congrFun K7 74) R7 PB (VM_r A8) T8 L9 (congrFun K9 74) (by rw [q_up_fu, ix]) ⟨q_up_rw (by decide), q_up_rw (by decide)⟩ (lf_75 L9 (fun t ht p => by have := (A8.1.1 t ht).2; have := ((PB t ht).mp p).2; omega) T8.2.2)
          refine qJ.run hκ 8 (pc' := 68) (ls' := [some (qR 56), some (qI z), some (qI s), some (qI i), some (qI z25), some (qI ((LV D 0 (l + 1) (q_fu ch l (i.toNat : Int))).length : Nat))]) (st' := [qI ((z * 12) + i), qR 74, qI ((z * 12) + i), qR 74]) rfl ?_
          refine qJ.ald hκ rfl rfl rfl (by decide) (by omega) ?_
          show qJ YX6_tally κ _ (qLy u, m9, y) 0 0 69 [some (qR 56), some (qI z), some (qI s), some (qI i), some (qI z25), some (qI ((LV D 0 (l + 1) (q_fu ch l (i.toNat : Int))).length : Nat))] [qI (m9 74 (((z * 12) + i).toNat)), qI ((z * 12) + i), qR 74]
          refine qJ.run hκ 2 (pc' := 72) (ls' := [some (qR 56), some (qI z), some (qI s), some (qI i), some (qI z25), some (qI ((LV D 0 (l + 1) (q_fu ch l (i.toNat : Int))).length : Nat))]) (st' := [qI ((m9 74 (((z * 12) + i).toNat)) + ((LV D 0 (l + 1) (q_fu ch l (i.toNat : Int))).length : Nat)), qI ((z * 12) + i), qR 74]) rfl ?_
          refine qJ.ast hκ rfl rfl rfl (by decide) (by omega) ?_
          show qJ YX6_tally κ _ (qLy u, (q_up m9 74 (((z * 12) + i).toNat) ((m9 74 (((z * 12) + i).toNat)) + ((LV D 0 (l + 1) (q_fu ch l (i.toNat : Int))).length : Nat))), y) 0 0 73 [some (qR 56), some (qI z), some (qI s), some (qI i), some (qI z25), some (qI ((LV D 0 (l + 1) (q_fu ch l (i.toNat : Int))).length : Nat))] []
          refine qJ.run hκ 6 (pc' := 14) (ls' := [some (qR 56), some (qI z), some (qI (s + ((LV D 0 (l + 1) (q_fu ch l (i.toNat : Int))).length : Nat))), some (qI (i + 1)), some (qI z25), some (qI ((LV D 0 (l + 1) (q_fu ch l (i.toNat : Int))).length : Nat))]) (st' := []) rfl ?_
          refine qJ.dl [true, true, true, true, false, false] ?_
          show qJ YX6_tally κ _ (qLy u, (q_up m9 74 (((z * 12) + i).toNat) ((m9 74 (((z * 12) + i).toNat)) + ((LV D 0 (l + 1) (q_fu ch l (i.toNat : Int))).length : Nat))), y) 0 0 14 [some (qR 56), some (qI z), some (qI (s + ((LV D 0 (l + 1) (q_fu ch l (i.toNat : Int))).length : Nat))), some (qI (i + 1)), none, none] []
          exact ih14  (s + ((LV D 0 (l + 1) (q_fu ch l (i.toNat : Int))).length : Nat)) (i + 1) (q_up m9 74 (((z * 12) + i).toNat) ((m9 74 (((z * 12) + i).toNat)) + ((LV D 0 (l + 1) (q_fu ch l (i.toNat : Int))).length : Nat))) (by omega) (by rw [NX, List.length_append, v14_1, ftI_y FT]; omega) ((Eq.trans (keep_up (by rfl)) ((keep_of kTyL K9).trans (K8.trans ((keep_of kTyL K7).trans v14_2))))) (aS_k (fun i a b => q_up_rw (by omega)) (aS_c ST.2 A9)) (uM_c U9 rfl UU) (by rw [NX]; exact ST.1) (by omega)
        · show qJ YX6_tally κ _ (qLy u, m7, y) 0 0 36 [some (qR 56), some (qI z), some (qI s), some (qI i), some (qI z25), none] []
          have Z7 : ¬ (¬ uQ ch l i.toNat ∧ fitW D i.toNat l (VM D ch l)) ∧ aS D (VM D ch l) m7 ∧ uM m7 (uQ ch l) := by rcases H7 with q | ⟨b, q⟩; (exact q.2); (have := q.1; omega)
          have NX : lvF D (LV D 0 (l + 1)) l ch (i + 1).toNat = lvF D (LV D 0 (l + 1)) l ch i.toNat ++ [] := by rw [it1]; show _ ++ ftI D _ l _ = _; rw [ftI_n (fun z => Z7.1 (ftL_fu.mp z))]
          clear H7
          refine qJ.run hκ 3 (pc' := 14) (ls' := [some (qR 56), some (qI z), some (qI s), some (qI (i + 1)), some (qI z25), none]) (st' := []) rfl ?_
          refine qJ.dl [true, true, true, true, false, false] ?_
          show qJ YX6_tally κ _ (qLy u, m7, y) 0 0 14 [some (qR 56), some (qI z), some (qI s), some (qI (i + 1)), none, none] []
          exact ih14  s (i + 1) m7 (by omega) (by rw [NX, List.append_nil]; exact v14_1) ((keep_of kTyL K7).trans v14_2) (Z7.2.1) (Z7.2.2) (by rw [NX, List.append_nil]; exact tyS_k v14_5 (congrFun K7 74) R7) (by omega)
  show qJ YX6_tally κ _ (qLy u, m, y) 0 0 0 [some (qR 56), some (qI z), none, none, none, none] []
  refine qJ.run hκ 3 (pc' := 5) (ls' := [some (qR 56), some (qI z), none, none, none, none]) (st' := [qI (m 56 14), qI z]) rfl ?_
  refine qJ.icmp_lt hκ (tgt := 10) rfl rfl (by omega) (by omega) (fun c5 => ?_) (fun c5 => ?_)
  · show qJ YX6_tally κ _ (qLy u, m, y) 0 0 10 [some (qR 56), some (qI z), none, none, none, none] []
    refine qJ.run hκ 4 (pc' := 14) (ls' := [some (qR 56), some (qI z), some (qI 0), some (qI 0), none, none]) (st' := []) rfl ?_
    exact L14 13 0 0 m (by omega) (rfl) (rfl) (hA) (hU) (tyS_0 h7) (by omega)
  · show qJ YX6_tally κ _ (qLy u, m, y) 0 0 8 [some (qR 56), some (qI z), none, none, none, none] []
    exfalso; omega

set_option maxRecDepth 100000 in
theorem c_tally2 (u : qU) (m y : qM) (D : qD) (ch : Nat → Int) (l : Nat) (z : Int) (hD : dOk D) (hM : dM D m) (hz : z = (l : Int)) (hl : (l : Int) + 2 = dN D) (hA : aS D (VM D ch l) m) (hU : uM m (uQ ch l)) (hch : ∀ e, l ≤ e → ch e = -1) (h7 : ∀ t : Nat, t < 20 → -2 ≤ m 75 t ∧ m 75 t ≤ 27) : qCt YX6_tally 5 0 0 [qR 56, qI z] (qLy u, m, y) (fun r h => ∃ m', r = some (qI ((LV D 2 l ch).length : Nat)) ∧ h = (qLy u, m', y) ∧ keep (kN kTy) m' = keep (kN kTy) m ∧ aS D (VM D ch l) m' ∧ uM m' (uQ ch l) ∧ tyS D l ch (LV D 2 l ch) m m') := by
  refine qCt.intro okX6_tally (Nat.le_of_ble_eq_true rfl) (fun κ hκ => ?_)
  have k0 := hM.1
  have kb := hD.1
  have zt : z.toNat = l := by omega
  have L14 : ∀ (n : Nat) (s : Int) (i : Int) (M6 : qM), (0 ≤ i ∧ i ≤ dK D) → (s = ((lvF D (LV D 1 (l + 1)) l ch i.toNat).length : Nat)) → (keep (kN kTy) M6 = keep (kN kTy) m) → (aS D (VM D ch l) M6) → (uM M6 (uQ ch l)) → (tyS D l ch (lvF D (LV D 1 (l + 1)) l ch i.toNat) m M6) → ((dK D - i).toNat) < n → qJ YX6_tally κ (qFin (fun r h => ∃ m', r = some (qI ((LV D 2 l ch).length : Nat)) ∧ h = (qLy u, m', y) ∧ keep (kN kTy) m' = keep (kN kTy) m ∧ aS D (VM D ch l) m' ∧ uM m' (uQ ch l) ∧ tyS D l ch (LV D 2 l ch) m m') 0 0 κ) (qLy u, M6, y) 0 0 14 [some (qR 56), some (qI z), some (qI s), some (qI i), none, none] [] := by
    intro n
    induction n with
    | zero => intro s i M6 _ _ _ _ _ _ hz0; omega
    | succ n ih14 =>
      intro s i M6 v14_0 v14_1 v14_2 v14_3 v14_4 v14_5 v14_m
      have k10 : M6 56 10 = dK D := (congrFun (congrFun v14_2 56) 10).trans k0.1
      have hM6 := dM_k (keep_of kDT v14_2) hM
      have sb : (0 : Int) ≤ s ∧ s ≤ 12 * 20736 := by
        have := lvF_len (D := D) (G := (LV D 1 (l + 1))) (l := l) (ch := ch) (B := 12 ^ 1) (fun c => LV_len hD 1 (l + 1) c) i.toNat
        have h2 : i.toNat * 12 ^ 1 ≤ 12 * 20736 := Nat.mul_le_mul (by omega) (by decide)
        omega
      refine qJ.run hκ 3 (pc' := 19) (ls' := [some (qR 56), some (qI z), some (qI s), some (qI i), none, none]) (st' := [qI (M6 56 10), qI i]) rfl ?_
      refine qJ.icmp_ge hκ (tgt := 84) rfl rfl (by omega) (by omega) (fun c19 => ?_) (fun c19 => ?_)
      · show qJ YX6_tally κ _ (qLy u, M6, y) 0 0 84 [some (qR 56), some (qI z), some (qI s), some (qI i), none, none] []
        refine qJ.run hκ 1 (pc' := 85) (ls' := [some (qR 56), some (qI z), some (qI s), some (qI i), none, none]) (st' := [qI s]) rfl ?_
        exact qJ.iret hκ rfl rfl (by decide) (by decide) (by rw [show i.toNat = (dK D).toNat by omega] at v14_1 v14_5; exact ⟨M6, congrArg (fun x => some (qI x)) v14_1, rfl, v14_2, v14_3, v14_4, v14_5⟩)
      · show qJ YX6_tally κ _ (qLy u, M6, y) 0 0 22 [some (qR 56), some (qI z), some (qI s), some (qI i), none, none] []
        refine qJ.run hκ 3 (pc' := 25) (ls' := [some (qR 56), some (qI z), some (qI s), some (qI i), none, none]) (st' := [qI i, qI z, qR 56]) rfl ?_
        refine qJ.callV (As := [qI z, qI i]) (rest := []) hκ rfl kX6_131 (c_place u M6 y D (VM D ch l) (uQ ch l) z i hD (dM_k (keep_of kDT v14_2) hM) v14_3 v14_4 (by omega) (by omega) v14_5.2.2) rfl rfl (by decide) rfl rfl (Nat.le_of_ble_eq_true rfl) (Nat.le_of_ble_eq_true rfl) (Nat.le_of_ble_eq_true rfl) (Or.inl (fun r h' e => by obtain ⟨z25, m7, rfl, rfl, K7, R7, H7⟩ := e; rfl)) (fun r h' e => ?_)
        obtain ⟨z25, m7, rfl, rfl, K7, R7, H7⟩ := e
        rw [zt] at H7
        show qJ YX6_tally κ _ (qLy u, m7, y) 0 0 28 [some (qR 56), some (qI z), some (qI s), some (qI i), none, none] [qI z25]
        have zr : -1 ≤ z25 ∧ z25 < 1048576 := by rcases H7 with q | ⟨b, q⟩; (omega); (have := q.1; have := q.2.1; omega)
        have it1 : (i + 1).toNat = i.toNat + 1 := by omega
        refine qJ.run hκ 3 (pc' := 33) (ls' := [some (qR 56), some (qI z), some (qI s), some (qI i), some (qI z25), none]) (st' := [qI (-1), qI z25]) rfl ?_
        refine qJ.icmp_ne hκ (tgt := 39) rfl rfl (by omega) (by omega) (fun c33 => ?_) (fun c33 => ?_)
        · show qJ YX6_tally κ _ (qLy u, m7, y) 0 0 39 [some (qR 56), some (qI z), some (qI s), some (qI i), some (qI z25), none] []
          have Z7 : ∃ b : Nat, z25 = (b : Int) ∧ b < 1048576 ∧ (¬ uQ ch l i.toNat ∧ fitW D i.toNat l (VM D ch l)) ∧ aS D (vP D i.toNat l (VM D ch l) (dL D i.toNat).toNat) m7 ∧ uM m7 (fun t => uQ ch l t ∨ t = i.toNat) ∧ ∀ t : Nat, t < 20 → (pb b t ↔ (VM D ch l t = -1 ∧ ¬ vP D i.toNat l (VM D ch l) (dL D i.toNat).toNat t = -1)) := by rcases H7 with q | q; (exact absurd q.1 c33); (exact q)
          clear H7
          obtain ⟨b, e25, b20, F7, A70, U70, PB0⟩ := Z7
          have FT : ftL D (q_fu ch l (i.toNat : Int)) l := ftL_fu.mpr F7
          have ve : VM D (q_fu ch l (i.toNat : Int)) (l + 1) = vP D i.toNat l (VM D ch l) (dL D i.toNat).toNat := by rw [VM_fu, F7.2.1]
          have A7 : aS D (VM D (q_fu ch l (i.toNat : Int)) (l + 1)) m7 := by rw [ve]; exact A70
          have U7 : uM m7 (uQ (q_fu ch l (i.toNat : Int)) (l + 1)) := uM_c U70 rfl (fun t _ => uQ_s)
          have PB : ∀ t : Nat, t < 20 → (pb b t ↔ (VM D ch l t = -1 ∧ ¬ VM D (q_fu ch l (i.toNat : Int)) (l + 1) t = -1)) := by rw [ve]; exact PB0
          have S7 : ∀ t : Nat, t < 20 → -2 ≤ m7 75 t ∧ m7 75 t ≤ 27 := fun t ht => by rw [(R7 t ht).1]; exact v14_5.2.2 t ht
          have NX : lvF D (LV D 1 (l + 1)) l ch (i + 1).toNat = lvF D (LV D 1 (l + 1)) l ch i.toNat ++ ftI D (LV D 1 (l + 1)) l (q_fu ch l (i.toNat : Int)) := by rw [it1]; rfl
          refine qJ.run hκ 4 (pc' := 43) (ls' := [some (qR 56), some (qI z), some (qI s), some (qI i), some (qI z25), none]) (st' := [qI (z + 1), qR 56]) rfl ?_
          refine qJ.callV (As := [qI (z + 1)]) (rest := []) hκ rfl kX6_101 (c_tally1 u m7 y D (q_fu ch l (i.toNat : Int)) (l + 1) (z + 1) hD (dM_k (keep_of kDL K7) hM6) (by omega) (by omega) A7 U7 (fun e he => by rw [q_fu_ne (by omega)]; exact hch e (by omega)) S7) rfl rfl (by decide) rfl rfl (Nat.le_of_ble_eq_true rfl) (Nat.le_of_ble_eq_true rfl) (Nat.le_of_ble_eq_true rfl) (Or.inl (fun r h' e => by obtain ⟨m8, rfl, rfl, K8, A8, U8, T8⟩ := e; rfl)) (fun r h' e => ?_)
          obtain ⟨m8, rfl, rfl, K8, A8, U8, T8⟩ := e
          show qJ YX6_tally κ _ (qLy u, m8, y) 0 0 46 [some (qR 56), some (qI z), some (qI s), some (qI i), some (qI z25), none] [qI ((LV D 1 (l + 1) (q_fu ch l (i.toNat : Int))).length : Nat)]
          refine qJ.run hκ 5 (pc' := 54) (ls' := [some (qR 56), some (qI z), some (qI s), some (qI i), some (qI z25), some (qI ((LV D 1 (l + 1) (q_fu ch l (i.toNat : Int))).length : Nat))]) (st' := [qI ((LV D 1 (l + 1) (q_fu ch l (i.toNat : Int))).length : Nat), qI z25, qI i, qR 56]) rfl ?_
          refine qJ.callV (As := [qI i, qI z25, qI ((LV D 1 (l + 1) (q_fu ch l (i.toNat : Int))).length : Nat)]) (rest := []) hκ rfl kX6_134 (c_lift u m8 y D (VM D (q_fu ch l (i.toNat : Int)) (l + 1)) (uQ (q_fu ch l (i.toNat : Int)) (l + 1)) b i z25 (((LV D 1 (l + 1) (q_fu ch l (i.toNat : Int))).length : Nat) : Int) hD (dM_k ((keep_of kDT K8).trans (keep_of kDL K7)) hM6) A8 U8 (by omega) e25 b20 (by have := LV_b hD (r := 1) (l := l + 1) (ch := (q_fu ch l (i.toNat : Int))) (by decide); omega) T8.2.2 (fun t ht p => ((PB t ht).mp p).2)) rfl rfl (by decide) rfl rfl (Nat.le_of_ble_eq_true rfl) (Nat.le_of_ble_eq_true rfl) (Nat.le_of_ble_eq_true rfl) (Or.inl (fun r h' e => by obtain ⟨rfl, m9, G9, rfl, K9, A9, U9, L9⟩ := e; rfl)) (fun r h' e => ?_)
          obtain ⟨rfl, m9, G9, rfl, K9, A9, U9, L9⟩ := e
          show qJ YX6_tally κ _ (qLy u, m9, y) 0 0 57 [some (qR 56), some (qI z), some (qI s), some (qI i), some (qI z25), some (qI ((LV D 1 (l + 1) (q_fu ch l (i.toNat : Int))).length : Nat))] []
          have UU : ∀ t : Nat, t < 12 → ((uQ (q_fu ch l (i.toNat : Int)) (l + 1) t ∧ ¬ t = i.toNat) ↔ uQ ch l t) := fun t _ => ⟨fun q => (uQ_s.mpr q.1).elim id (fun e => absurd e q.2), fun q => ⟨uQ_s.mp (Or.inl q), fun e => F7.1 (by rw [← e]; exact q)⟩⟩
          have ix : (z * 12 + i).toNat = l * 12 + i.toNat := by omega
          have ST := tyS_s (D := D) (l := l) (r := 1) (i := i.toNat) (b := b) (ch := ch) (A := lvF D (LV D 1 (l + 1)) l ch i.toNat) (m := m) (M6 := M6) (M7 := m7) (M8 := m8) (M9 := m9) (M' := q_up m9 74 (z * 12 + i).toNat (m9 74 (z * 12 + i).toNat + ((LV D 1 (l + 1) (q_fu ch l (i.toNat : Int))).length : Nat))) (G := G9) hD (by omega) (by omega) (by omega) v14_5 FT (congrFun K7 74) R7 PB (VM_r A8) T8 L9 (congrFun K9 74) (by rw [q_up_fu, ix]) ⟨q_up_rw (by decide), q_up_rw (by decide)⟩ (lf_75 L9 (fun t ht p => by have := (A8.1.1 t ht).2; have := ((PB t ht).mp p).2; omega) T8.2.2)
          refine qJ.run hκ 8 (pc' := 68) (ls' := [some (qR 56), some (qI z), some (qI s), some (qI i), some (qI z25), some (qI ((LV D 1 (l + 1) (q_fu ch l (i.toNat : Int))).length : Nat))]) (st' := [qI ((z * 12) + i), qR 74, qI ((z * 12) + i), qR 74]) rfl ?_
          refine qJ.ald hκ rfl rfl rfl (by decide) (by omega) ?_
          show qJ YX6_tally κ _ (qLy u, m9, y) 0 0 69 [some (qR 56), some (qI z), some (qI s), some (qI i), some (qI z25), some (qI ((LV D 1 (l + 1) (q_fu ch l (i.toNat : Int))).length : Nat))] [qI (m9 74 (((z * 12) + i).toNat)), qI ((z * 12) + i), qR 74]
          refine qJ.run hκ 2 (pc' := 72) (ls' := [some (qR 56), some (qI z), some (qI s), some (qI i), some (qI z25), some (qI ((LV D 1 (l + 1) (q_fu ch l (i.toNat : Int))).length : Nat))]) (st' := [qI ((m9 74 (((z * 12) + i).toNat)) + ((LV D 1 (l + 1) (q_fu ch l (i.toNat : Int))).length : Nat)), qI ((z * 12) + i), qR 74]) rfl ?_
          refine qJ.ast hκ rfl rfl rfl (by decide) (by omega) ?_
          show qJ YX6_tally κ _ (qLy u, (q_up m9 74 (((z * 12) + i).toNat) ((m9 74 (((z * 12) + i).toNat)) + ((LV D 1 (l + 1) (q_fu ch l (i.toNat : Int))).length : Nat))), y) 0 0 73 [some (qR 56), some (qI z), some (qI s), some (qI i), some (qI z25), some (qI ((LV D 1 (l + 1) (q_fu ch l (i.toNat : Int))).length : Nat))] []
          refine qJ.run hκ 6 (pc' := 14) (ls' := [some (qR 56), some (qI z), some (qI (s + ((LV D 1 (l + 1) (q_fu ch l (i.toNat : Int))).length : Nat))), some (qI (i + 1)), some (qI z25), some (qI ((LV D 1 (l + 1) (q_fu ch l (i.toNat : Int))).length : Nat))]) (st' := []) rfl ?_
          refine qJ.dl [true, true, true, true, false, false] ?_
          show qJ YX6_tally κ _ (qLy u, (q_up m9 74 (((z * 12) + i).toNat) ((m9 74 (((z * 12) + i).toNat)) + ((LV D 1 (l + 1) (q_fu ch l (i.toNat : Int))).length : Nat))), y) 0 0 14 [some (qR 56), some (qI z), some (qI (s + ((LV D 1 (l + 1) (q_fu ch l (i.toNat : Int))).length : Nat))), some (qI (i + 1)), none, none] []
          exact ih14  (s + ((LV D 1 (l + 1) (q_fu ch l (i.toNat : Int))).length : Nat)) (i + 1) (q_up m9 74 (((z * 12) + i).toNat) ((m9 74 (((z * 12) + i).toNat)) + ((LV D 1 (l + 1) (q_fu ch l (i.toNat : Int))).length : Nat))) (by omega) (by rw [NX, List.length_append, v14_1, ftI_y FT]; omega) ((Eq.trans (keep_up (by rfl)) ((keep_of kTyL K9).trans (K8.trans ((keep_of kTyL K7).trans v14_2))))) (aS_k (fun i a b => q_up_rw (by omega)) (aS_c ST.2 A9)) (uM_c U9 rfl UU) (by rw [NX]; exact ST.1) (by omega)
        · show qJ YX6_tally κ _ (qLy u, m7, y) 0 0 36 [some (qR 56), some (qI z), some (qI s), some (qI i), some (qI z25), none] []
          have Z7 : ¬ (¬ uQ ch l i.toNat ∧ fitW D i.toNat l (VM D ch l)) ∧ aS D (VM D ch l) m7 ∧ uM m7 (uQ ch l) := by rcases H7 with q | ⟨b, q⟩; (exact q.2); (have := q.1; omega)
          have NX : lvF D (LV D 1 (l + 1)) l ch (i + 1).toNat = lvF D (LV D 1 (l + 1)) l ch i.toNat ++ [] := by rw [it1]; show _ ++ ftI D _ l _ = _; rw [ftI_n (fun z => Z7.1 (ftL_fu.mp z))]
          clear H7
          refine qJ.run hκ 3 (pc' := 14) (ls' := [some (qR 56), some (qI z), some (qI s), some (qI (i + 1)), some (qI z25), none]) (st' := []) rfl ?_
          refine qJ.dl [true, true, true, true, false, false] ?_
          show qJ YX6_tally κ _ (qLy u, m7, y) 0 0 14 [some (qR 56), some (qI z), some (qI s), some (qI (i + 1)), none, none] []
          exact ih14  s (i + 1) m7 (by omega) (by rw [NX, List.append_nil]; exact v14_1) ((keep_of kTyL K7).trans v14_2) (Z7.2.1) (Z7.2.2) (by rw [NX, List.append_nil]; exact tyS_k v14_5 (congrFun K7 74) R7) (by omega)
  show qJ YX6_tally κ _ (qLy u, m, y) 0 0 0 [some (qR 56), some (qI z), none, none, none, none] []
  refine qJ.run hκ 3 (pc' := 5) (ls' := [some (qR 56), some (qI z), none, none, none, none]) (st' := [qI (m 56 14), qI z]) rfl ?_
  refine qJ.icmp_lt hκ (tgt := 10) rfl rfl (by omega) (by omega) (fun c5 => ?_) (fun c5 => ?_)
  · show qJ YX6_tally κ _ (qLy u, m, y) 0 0 10 [some (qR 56), some (qI z), none, none, none, none] []
    refine qJ.run hκ 4 (pc' := 14) (ls' := [some (qR 56), some (qI z), some (qI 0), some (qI 0), none, none]) (st' := []) rfl ?_
    exact L14 13 0 0 m (by omega) (rfl) (rfl) (hA) (hU) (tyS_0 h7) (by omega)
  · show qJ YX6_tally κ _ (qLy u, m, y) 0 0 8 [some (qR 56), some (qI z), none, none, none, none] []
    exfalso; omega

set_option maxRecDepth 100000 in
theorem c_tally3 (u : qU) (m y : qM) (D : qD) (ch : Nat → Int) (l : Nat) (z : Int) (hD : dOk D) (hM : dM D m) (hz : z = (l : Int)) (hl : (l : Int) + 3 = dN D) (hA : aS D (VM D ch l) m) (hU : uM m (uQ ch l)) (hch : ∀ e, l ≤ e → ch e = -1) (h7 : ∀ t : Nat, t < 20 → -2 ≤ m 75 t ∧ m 75 t ≤ 27) : qCt YX6_tally 6 0 0 [qR 56, qI z] (qLy u, m, y) (fun r h => ∃ m', r = some (qI ((LV D 3 l ch).length : Nat)) ∧ h = (qLy u, m', y) ∧ keep (kN kTy) m' = keep (kN kTy) m ∧ aS D (VM D ch l) m' ∧ uM m' (uQ ch l) ∧ tyS D l ch (LV D 3 l ch) m m') := by
  refine qCt.intro okX6_tally (Nat.le_of_ble_eq_true rfl) (fun κ hκ => ?_)
  have k0 := hM.1
  have kb := hD.1
  have zt : z.toNat = l := by omega
  have L14 : ∀ (n : Nat) (s : Int) (i : Int) (M6 : qM), (0 ≤ i ∧ i ≤ dK D) → (s = ((lvF D (LV D 2 (l + 1)) l ch i.toNat).length : Nat)) → (keep (kN kTy) M6 = keep (kN kTy) m) → (aS D (VM D ch l) M6) → (uM M6 (uQ ch l)) → (tyS D l ch (lvF D (LV D 2 (l + 1)) l ch i.toNat) m M6) → ((dK D - i).toNat) < n → qJ YX6_tally κ (qFin (fun r h => ∃ m', r = some (qI ((LV D 3 l ch).length : Nat)) ∧ h = (qLy u, m', y) ∧ keep (kN kTy) m' = keep (kN kTy) m ∧ aS D (VM D ch l) m' ∧ uM m' (uQ ch l) ∧ tyS D l ch (LV D 3 l ch) m m') 0 0 κ) (qLy u, M6, y) 0 0 14 [some (qR 56), some (qI z), some (qI s), some (qI i), none, none] [] := by
    intro n
    induction n with
    | zero => intro s i M6 _ _ _ _ _ _ hz0; omega
    | succ n ih14 =>
      intro s i M6 v14_0 v14_1 v14_2 v14_3 v14_4 v14_5 v14_m
      have k10 : M6 56 10 = dK D := (congrFun (congrFun v14_2 56) 10).trans k0.1
      have hM6 := dM_k (keep_of kDT v14_2) hM
      have sb : (0 : Int) ≤ s ∧ s ≤ 12 * 20736 := by
        have := lvF_len (D := D) (G := (LV D 2 (l + 1))) (l := l) (ch := ch) (B := 12 ^ 2) (fun c => LV_len hD 2 (l + 1) c) i.toNat
        have h2 : i.toNat * 12 ^ 2 ≤ 12 * 20736 := Nat.mul_le_mul (by omega) (by decide)
        omega
      refine qJ.run hκ 3 (pc' := 19) (ls' := [some (qR 56), some (qI z), some (qI s), some (qI i), none, none]) (st' := [qI (M6 56 10), qI i]) rfl ?_
      refine qJ.icmp_ge hκ (tgt := 84) rfl rfl (by omega) (by omega) (fun c19 => ?_) (fun c19 => ?_)
      · show qJ YX6_tally κ _ (qLy u, M6, y) 0 0 84 [some (qR 56), some (qI z), some (qI s), some (qI i), none, none] []
        refine qJ.run hκ 1 (pc' := 85) (ls' := [some (qR 56), some (qI z), some (qI s), some (qI i), none, none]) (st' := [qI s]) rfl ?_
        exact qJ.iret hκ rfl rfl (by decide) (by decide) (by rw [show i.toNat = (dK D).toNat by omega] at v14_1 v14_5; exact ⟨M6, congrArg (fun x => some (qI x)) v14_1, rfl, v14_2, v14_3, v14_4, v14_5⟩)
      · show qJ YX6_tally κ _ (qLy u, M6, y) 0 0 22 [some (qR 56), some (qI z), some (qI s), some (qI i), none, none] []
        refine qJ.run hκ 3 (pc' := 25) (ls' := [some (qR 56), some (qI z), some (qI s), some (qI i), none, none]) (st' := [qI i, qI z, qR 56]) rfl ?_
        refine qJ.callV (As := [qI z, qI i]) (rest := []) hκ rfl kX6_131 (c_place u M6 y D (VM D ch l) (uQ ch l) z i hD (dM_k (keep_of kDT v14_2) hM) v14_3 v14_4 (by omega) (by omega) v14_5.2.2) rfl rfl (by decide) rfl rfl (Nat.le_of_ble_eq_true rfl) (Nat.le_of_ble_eq_true rfl) (Nat.le_of_ble_eq_true rfl) (Or.inl (fun r h' e => by obtain ⟨z25, m7, rfl, rfl, K7, R7, H7⟩ := e; rfl)) (fun r h' e => ?_)
        obtain ⟨z25, m7, rfl, rfl, K7, R7, H7⟩ := e
        rw [zt] at H7
        show qJ YX6_tally κ _ (qLy u, m7, y) 0 0 28 [some (qR 56), some (qI z), some (qI s), some (qI i), none, none] [qI z25]
        have zr : -1 ≤ z25 ∧ z25 < 1048576 := by rcases H7 with q | ⟨b, q⟩; (omega); (have := q.1; have := q.2.1; omega)
        have it1 : (i + 1).toNat = i.toNat + 1 := by omega
        refine qJ.run hκ 3 (pc' := 33) (ls' := [some (qR 56), some (qI z), some (qI s), some (qI i), some (qI z25), none]) (st' := [qI (-1), qI z25]) rfl ?_
        refine qJ.icmp_ne hκ (tgt := 39) rfl rfl (by omega) (by omega) (fun c33 => ?_) (fun c33 => ?_)
        · show qJ YX6_tally κ _ (qLy u, m7, y) 0 0 39 [some (qR 56), some (qI z), some (qI s), some (qI i), some (qI z25), none] []
          have Z7 : ∃ b : Nat, z25 = (b : Int) ∧ b < 1048576 ∧ (¬ uQ ch l i.toNat ∧ fitW D i.toNat l (VM D ch l)) ∧ aS D (vP D i.toNat l (VM D ch l) (dL D i.toNat).toNat) m7 ∧ uM m7 (fun t => uQ ch l t ∨ t = i.toNat) ∧ ∀ t : Nat, t < 20 → (pb b t ↔ (VM D ch l t = -1 ∧ ¬ vP D i.toNat l (VM D ch l) (dL D i.toNat).toNat t = -1)) := by rcases H7 with q | q; (exact absurd q.1 c33); (exact q)
          clear H7
          obtain ⟨b, e25, b20, F7, A70, U70, PB0⟩ := Z7
          have FT : ftL D (q_fu ch l (i.toNat : Int)) l := ftL_fu.mpr F7
          have ve : VM D (q_fu ch l (i.toNat : Int)) (l + 1) = vP D i.toNat l (VM D ch l) (dL D i.toNat).toNat := by rw [VM_fu, F7.2.1]
          have A7 : aS D (VM D (q_fu ch l (i.toNat : Int)) (l + 1)) m7 := by rw [ve]; exact A70
          have U7 : uM m7 (uQ (q_fu ch l (i.toNat : Int)) (l + 1)) := uM_c U70 rfl (fun t _ => uQ_s)
          have PB : ∀ t : Nat, t < 20 → (pb b t ↔ (VM D ch l t = -1 ∧ ¬ VM D (q_fu ch l (i.toNat : Int)) (l + 1) t = -1)) := by rw [ve]; exact PB0
          have S7 : ∀ t : Nat, t < 20 → -2 ≤ m7 75 t ∧ m7 75 t ≤ 27 := fun t ht => by rw [(R7 t ht).1]; exact v14_5.2.2 t ht
          have NX : lvF D (LV D 2 (l + 1)) l ch (i + 1).toNat = lvF D (LV D 2 (l + 1)) l ch i.toNat ++ ftI D (LV D 2 (l + 1)) l (q_fu ch l (i.toNat : Int)) := by rw [it1]; rfl
          refine qJ.run hκ 4 (pc' := 43) (ls' := [some (qR 56), some (qI z), some (qI s), some (qI i), some (qI z25), none]) (st' := [qI (z + 1), qR 56]) rfl ?_
          refine qJ.callV (As := [qI (z + 1)]) (rest := []) hκ rfl kX6_101 (c_tally2 u m7 y D (q_fu ch l (i.toNat : Int)) (l + 1) (z + 1) hD (dM_k (keep_of kDL K7) hM6) (by omega) (by omega) A7 U7 (fun e he => by rw [q_fu_ne (by omega)]; exact hch e (by omega)) S7) rfl rfl (by decide) rfl rfl (Nat.le_of_ble_eq_true rfl) (Nat.le_of_ble_eq_true rfl) (Nat.le_of_ble_eq_true rfl) (Or.inl (fun r h' e => by obtain ⟨m8, rfl, rfl, K8, A8, U8, T8⟩ := e; rfl)) (fun r h' e => ?_)
          obtain ⟨m8, rfl, rfl, K8, A8, U8, T8⟩ := e
          show qJ YX6_tally κ _ (qLy u, m8, y) 0 0 46 [some (qR 56), some (qI z), some (qI s), some (qI i), some (qI z25), none] [qI ((LV D 2 (l + 1) (q_fu ch l (i.toNat : Int))).length : Nat)]
          refine qJ.run hκ 5 (pc' := 54) (ls' := [some (qR 56), some (qI z), some (qI s), some (qI i), some (qI z25), some (qI ((LV D 2 (l + 1) (q_fu ch l (i.toNat : Int))).length : Nat))]) (st' := [qI ((LV D 2 (l + 1) (q_fu ch l (i.toNat : Int))).length : Nat), qI z25, qI i, qR 56]) rfl ?_
          refine qJ.callV (As := [qI i, qI z25, qI ((LV D 2 (l + 1) (q_fu ch l (i.toNat : Int))).length : Nat)]) (rest := []) hκ rfl kX6_134 (c_lift u m8 y D (VM D (q_fu ch l (i.toNat : Int)) (l + 1)) (uQ (q_fu ch l (i.toNat : Int)) (l + 1)) b i z25 (((LV D 2 (l + 1) (q_fu ch l (i.toNat : Int))).length : Nat) : Int) hD (dM_k ((keep_of kDT K8).trans (keep_of kDL K7)) hM6) A8 U8 (by omega) e25 b20 (by have := LV_b hD (r := 2) (l := l + 1) (ch := (q_fu ch l (i.toNat : Int))) (by decide); omega) T8.2.2 (fun t ht p => ((PB t ht).mp p).2)) rfl rfl (by decide) rfl rfl (Nat.le_of_ble_eq_true rfl) (Nat.le_of_ble_eq_true rfl) (Nat.le_of_ble_eq_true rfl) (Or.inl (fun r h' e => by obtain ⟨rfl, m9, G9, rfl, K9, A9, U9, L9⟩ := e; rfl)) (fun r h' e => ?_)
          obtain ⟨rfl, m9, G9, rfl, K9, A9, U9, L9⟩ := e
          show qJ YX6_tally κ _ (qLy u, m9, y) 0 0 57 [some (qR 56), some (qI z), some (qI s), some (qI i), some (qI z25), some (qI ((LV D 2 (l + 1) (q_fu ch l (i.toNat : Int))).length : Nat))] []
          have UU : ∀ t : Nat, t < 12 → ((uQ (q_fu ch l (i.toNat : Int)) (l + 1) t ∧ ¬ t = i.toNat) ↔ uQ ch l t) := fun t _ => ⟨fun q => (uQ_s.mpr q.1).elim id (fun e => absurd e q.2), fun q => ⟨uQ_s.mp (Or.inl q), fun e => F7.1 (by rw [← e]; exact q)⟩⟩
          have ix : (z * 12 + i).toNat = l * 12 + i.toNat := by omega
          have ST := tyS_s (D := D) (l := l) (r := 2) (i := i.toNat) (b := b) (ch := ch) (A := lvF D (LV D 2 (l + 1)) l ch i.toNat) (m := m) (M6 := M6) (M7 := m7) (M8 := m8) (M9 := m9) (M' := q_up m9 74 (z * 12 + i).toNat (m9 74 (z * 12 + i).toNat + ((LV D 2 (l + 1) (q_fu ch l (i.toNat : Int))).length : Nat))) (G := G9) hD (by omega) (by omega) (by omega) v14_5 FT (congrFun K7 74) R7 PB (VM_r A8) T8 L9 (congrFun K9 74) (by rw [q_up_fu, ix]) ⟨q_up_rw (by decide), q_up_rw (by decide)⟩ (lf_75 L9 (fun t ht p => by have := (A8.1.1 t ht).2; have := ((PB t ht).mp p).2; omega) T8.2.2)
          refine qJ.run hκ 8 (pc' := 68) (ls' := [some (qR 56), some (qI z), some (qI s), some (qI i), some (qI z25), some (qI ((LV D 2 (l + 1) (q_fu ch l (i.toNat : Int))).length : Nat))]) (st' := [qI ((z * 12) + i), qR 74, qI ((z * 12) + i), qR 74]) rfl ?_
          refine qJ.ald hκ rfl rfl rfl (by decide) (by omega) ?_
          show qJ YX6_tally κ _ (qLy u, m9, y) 0 0 69 [some (qR 56), some (qI z), some (qI s), some (qI i), some (qI z25), some (qI ((LV D 2 (l + 1) (q_fu ch l (i.toNat : Int))).length : Nat))] [qI (m9 74 (((z * 12) + i).toNat)), qI ((z * 12) + i), qR 74]
          refine qJ.run hκ 2 (pc' := 72) (ls' := [some (qR 56), some (qI z), some (qI s), some (qI i), some (qI z25), some (qI ((LV D 2 (l + 1) (q_fu ch l (i.toNat : Int))).length : Nat))]) (st' := [qI ((m9 74 (((z * 12) + i).toNat)) + ((LV D 2 (l + 1) (q_fu ch l (i.toNat : Int))).length : Nat)), qI ((z * 12) + i), qR 74]) rfl ?_
          refine qJ.ast hκ rfl rfl rfl (by decide) (by omega) ?_
          show qJ YX6_tally κ _ (qLy u, (q_up m9 74 (((z * 12) + i).toNat) ((m9 74 (((z * 12) + i).toNat)) + ((LV D 2 (l + 1) (q_fu ch l (i.toNat : Int))).length : Nat))), y) 0 0 73 [some (qR 56), some (qI z), some (qI s), some (qI i), some (qI z25), some (qI ((LV D 2 (l + 1) (q_fu ch l (i.toNat : Int))).length : Nat))] []
          refine qJ.run hκ 6 (pc' := 14) (ls' := [some (qR 56), some (qI z), some (qI (s + ((LV D 2 (l + 1) (q_fu ch l (i.toNat : Int))).length : Nat))), some (qI (i + 1)), some (qI z25), some (qI ((LV D 2 (l + 1) (q_fu ch l (i.toNat : Int))).length : Nat))]) (st' := []) rfl ?_
          refine qJ.dl [true, true, true, true, false, false] ?_
          show qJ YX6_tally κ _ (qLy u, (q_up m9 74 (((z * 12) + i).toNat) ((m9 74 (((z * 12) + i).toNat)) + ((LV D 2 (l + 1) (q_fu ch l (i.toNat : Int))).length : Nat))), y) 0 0 14 [some (qR 56), some (qI z), some (qI (s + ((LV D 2 (l + 1) (q_fu ch l (i.toNat : Int))).length : Nat))), some (qI (i + 1)), none, none] []
          exact ih14  (s + ((LV D 2 (l + 1) (q_fu ch l (i.toNat : Int))).length : Nat)) (i + 1) (q_up m9 74 (((z * 12) + i).toNat) ((m9 74 (((z * 12) + i).toNat)) + ((LV D 2 (l + 1) (q_fu ch l (i.toNat : Int))).length : Nat))) (by omega) (by rw [NX, List.length_append, v14_1, ftI_y FT]; omega) ((Eq.trans (keep_up (by rfl)) ((keep_of kTyL K9).trans (K8.trans ((keep_of kTyL K7).trans v14_2))))) (aS_k (fun i a b => q_up_rw (by omega)) (aS_c ST.2 A9)) (uM_c U9 rfl UU) (by rw [NX]; exact ST.1) (by omega)
        · show qJ YX6_tally κ _ (qLy u, m7, y) 0 0 36 [some (qR 56), some (qI z), some (qI s), some (qI i), some (qI z25), none] []
          have Z7 : ¬ (¬ uQ ch l i.toNat ∧ fitW D i.toNat l (VM D ch l)) ∧ aS D (VM D ch l) m7 ∧ uM m7 (uQ ch l) := by rcases H7 with q | ⟨b, q⟩; (exact q.2); (have := q.1; omega)
          have NX : lvF D (LV D 2 (l + 1)) l ch (i + 1).toNat = lvF D (LV D 2 (l + 1)) l ch i.toNat ++ [] := by rw [it1]; show _ ++ ftI D _ l _ = _; rw [ftI_n (fun z => Z7.1 (ftL_fu.mp z))]
          clear H7
          refine qJ.run hκ 3 (pc' := 14) (ls' := [some (qR 56), some (qI z), some (qI s), some (qI (i + 1)), some (qI z25), none]) (st' := []) rfl ?_
          refine qJ.dl [true, true, true, true, false, false] ?_
          show qJ YX6_tally κ _ (qLy u, m7, y) 0 0 14 [some (qR 56), some (qI z), some (qI s), some (qI (i + 1)), none, none] []
          exact ih14  s (i + 1) m7 (by omega) (by rw [NX, List.append_nil]; exact v14_1) ((keep_of kTyL K7).trans v14_2) (Z7.2.1) (Z7.2.2) (by rw [NX, List.append_nil]; exact tyS_k v14_5 (congrFun K7 74) R7) (by omega)
  show qJ YX6_tally κ _ (qLy u, m, y) 0 0 0 [some (qR 56), some (qI z), none, none, none, none] []
  refine qJ.run hκ 3 (pc' := 5) (ls' := [some (qR 56), some (qI z), none, none, none, none]) (st' := [qI (m 56 14), qI z]) rfl ?_
  refine qJ.icmp_lt hκ (tgt := 10) rfl rfl (by omega) (by omega) (fun c5 => ?_) (fun c5 => ?_)
  · show qJ YX6_tally κ _ (qLy u, m, y) 0 0 10 [some (qR 56), some (qI z), none, none, none, none] []
    refine qJ.run hκ 4 (pc' := 14) (ls' := [some (qR 56), some (qI z), some (qI 0), some (qI 0), none, none]) (st' := []) rfl ?_
    exact L14 13 0 0 m (by omega) (rfl) (rfl) (hA) (hU) (tyS_0 h7) (by omega)
  · show qJ YX6_tally κ _ (qLy u, m, y) 0 0 8 [some (qR 56), some (qI z), none, none, none, none] []
    exfalso; omega

set_option maxRecDepth 100000 in
theorem c_tally4 (u : qU) (m y : qM) (D : qD) (ch : Nat → Int) (l : Nat) (z : Int) (hD : dOk D) (hM : dM D m) (hz : z = (l : Int)) (hl : (l : Int) + 4 = dN D) (hA : aS D (VM D ch l) m) (hU : uM m (uQ ch l)) (hch : ∀ e, l ≤ e → ch e = -1) (h7 : ∀ t : Nat, t < 20 → -2 ≤ m 75 t ∧ m 75 t ≤ 27) : qCt YX6_tally 7 0 0 [qR 56, qI z] (qLy u, m, y) (fun r h => ∃ m', r = some (qI ((LV D 4 l ch).length : Nat)) ∧ h = (qLy u, m', y) ∧ keep (kN kTy) m' = keep (kN kTy) m ∧ aS D (VM D ch l) m' ∧ uM m' (uQ ch l) ∧ tyS D l ch (LV D 4 l ch) m m') := by
  refine qCt.intro okX6_tally (Nat.le_of_ble_eq_true rfl) (fun κ hκ => ?_)
  have k0 := hM.1
  have kb := hD.1
  have zt : z.toNat = l := by omega
  have L14 : ∀ (n : Nat) (s : Int) (i : Int) (M6 : qM), (0 ≤ i ∧ i ≤ dK D) → (s = ((lvF D (LV D 3 (l + 1)) l ch i.toNat).length : Nat)) → (keep (kN kTy) M6 = keep (kN kTy) m) → (aS D (VM D ch l) M6) → (uM M6 (uQ ch l)) → (tyS D l ch (lvF D (LV D 3 (l + 1)) l ch i.toNat) m M6) → ((dK D - i).toNat) < n → qJ YX6_tally κ (qFin (fun r h => ∃ m', r = some (qI ((LV D 4 l ch).length : Nat)) ∧ h = (qLy u, m', y) ∧ keep (kN kTy) m' = keep (kN kTy) m ∧ aS D (VM D ch l) m' ∧ uM m' (uQ ch l) ∧ tyS D l ch (LV D 4 l ch) m m') 0 0 κ) (qLy u, M6, y) 0 0 14 [some (qR 56), some (qI z), some (qI s), some (qI i), none, none] [] := by
    intro n
    induction n with
    | zero => intro s i M6 _ _ _ _ _ _ hz0; omega
    | succ n ih14 =>
      intro s i M6 v14_0 v14_1 v14_2 v14_3 v14_4 v14_5 v14_m
      have k10 : M6 56 10 = dK D := (congrFun (congrFun v14_2 56) 10).trans k0.1
      have hM6 := dM_k (keep_of kDT v14_2) hM
      have sb : (0 : Int) ≤ s ∧ s ≤ 12 * 20736 := by
        have := lvF_len (D := D) (G := (LV D 3 (l + 1))) (l := l) (ch := ch) (B := 12 ^ 3) (fun c => LV_len hD 3 (l + 1) c) i.toNat
        have h2 : i.toNat * 12 ^ 3 ≤ 12 * 20736 := Nat.mul_le_mul (by omega) (by decide)
        omega
      refine qJ.run hκ 3 (pc' := 19) (ls' := [some (qR 56), some (qI z), some (qI s), some (qI i), none, none]) (st' := [qI (M6 56 10), qI i]) rfl ?_
      refine qJ.icmp_ge hκ (tgt := 84) rfl rfl (by omega) (by omega) (fun c19 => ?_) (fun c19 => ?_)
      · show qJ YX6_tally κ _ (qLy u, M6, y) 0 0 84 [some (qR 56), some (qI z), some (qI s), some (qI i), none, none] []
        refine qJ.run hκ 1 (pc' := 85) (ls' := [some (qR 56), some (qI z), some (qI s), some (qI i), none, none]) (st' := [qI s]) rfl ?_
        exact qJ.iret hκ rfl rfl (by decide) (by decide) (by rw [show i.toNat = (dK D).toNat by omega] at v14_1 v14_5; exact ⟨M6, congrArg (fun x => some (qI x)) v14_1, rfl, v14_2, v14_3, v14_4, v14_5⟩)
      · show qJ YX6_tally κ _ (qLy u, M6, y) 0 0 22 [some (qR 56), some (qI z), some (qI s), some (qI i), none, none] []
        refine qJ.run hκ 3 (pc' := 25) (ls' := [some (qR 56), some (qI z), some (qI s), some (qI i), none, none]) (st' := [qI i, qI z, qR 56]) rfl ?_
        refine qJ.callV (As := [qI z, qI i]) (rest := []) hκ rfl kX6_131 (c_place u M6 y D (VM D ch l) (uQ ch l) z i hD (dM_k (keep_of kDT v14_2) hM) v14_3 v14_4 (by omega) (by omega) v14_5.2.2) rfl rfl (by decide) rfl rfl (Nat.le_of_ble_eq_true rfl) (Nat.le_of_ble_eq_true rfl) (Nat.le_of_ble_eq_true rfl) (Or.inl (fun r h' e => by obtain ⟨z25, m7, rfl, rfl, K7, R7, H7⟩ := e; rfl)) (fun r h' e => ?_)
        obtain ⟨z25, m7, rfl, rfl, K7, R7, H7⟩ := e
        rw [zt] at H7
        show qJ YX6_tally κ _ (qLy u, m7, y) 0 0 28 [some (qR 56), some (qI z), some (qI s), some (qI i), none, none] [qI z25]
        have zr : -1 ≤ z25 ∧ z25 < 1048576 := by rcases H7 with q | ⟨b, q⟩; (omega); (have := q.1; have := q.2.1; omega)
        have it1 : (i + 1).toNat = i.toNat + 1 := by omega
        refine qJ.run hκ 3 (pc' := 33) (ls' := [some (qR 56), some (qI z), some (qI s), some (qI i), some (qI z25), none]) (st' := [qI (-1), qI z25]) rfl ?_
        refine qJ.icmp_ne hκ (tgt := 39) rfl rfl (by omega) (by omega) (fun c33 => ?_) (fun c33 => ?_)
        · show qJ YX6_tally κ _ (qLy u, m7, y) 0 0 39 [some (qR 56), some (qI z), some (qI s), some (qI i), some (qI z25), none] []
          have Z7 : ∃ b : Nat, z25 = (b : Int) ∧ b < 1048576 ∧ (¬ uQ ch l i.toNat ∧ fitW D i.toNat l (VM D ch l)) ∧ aS D (vP D i.toNat l (VM D ch l) (dL D i.toNat).toNat) m7 ∧ uM m7 (fun t => uQ ch l t ∨ t = i.toNat) ∧ ∀ t : Nat, t < 20 → (pb b t ↔ (VM D ch l t = -1 ∧ ¬ vP D i.toNat l (VM D ch l) (dL D i.toNat).toNat t = -1)) := by rcases H7 with q | q; (exact absurd q.1 c33); (exact q)
          clear H7
          obtain ⟨b, e25, b20, F7, A70, U70, PB0⟩ := Z7
          have FT : ftL D (q_fu ch l (i.toNat : Int)) l := ftL_fu.mpr F7
          have ve : VM D (q_fu ch l (i.toNat : Int)) (l + 1) = vP D i.toNat l (VM D ch l) (dL D i.toNat).toNat := by rw [VM_fu, F7.2.1]
          have A7 : aS D (VM D (q_fu ch l (i.toNat : Int)) (l + 1)) m7 := by rw [ve]; exact A70
          have U7 : uM m7 (uQ (q_fu ch l (i.toNat : Int)) (l + 1)) := uM_c U70 rfl (fun t _ => uQ_s)
          have PB : ∀ t : Nat, t < 20 → (pb b t ↔ (VM D ch l t = -1 ∧ ¬ VM D (q_fu ch l (i.toNat : Int)) (l + 1) t = -1)) := by rw [ve]; exact PB0
          have S7 : ∀ t : Nat, t < 20 → -2 ≤ m7 75 t ∧ m7 75 t ≤ 27 := fun t ht => by rw [(R7 t ht).1]; exact v14_5.2.2 t ht
          have NX : lvF D (LV D 3 (l + 1)) l ch (i + 1).toNat = lvF D (LV D 3 (l + 1)) l ch i.toNat ++ ftI D (LV D 3 (l + 1)) l (q_fu ch l (i.toNat : Int)) := by rw [it1]; rfl
          refine qJ.run hκ 4 (pc' := 43) (ls' := [some (qR 56), some (qI z), some (qI s), some (qI i), some (qI z25), none]) (st' := [qI (z + 1), qR 56]) rfl ?_
          refine qJ.callV (As := [qI (z + 1)]) (rest := []) hκ rfl kX6_101 (c_tally3 u m7 y D (q_fu ch l (i.toNat : Int)) (l + 1) (z + 1) hD (dM_k (keep_of kDL K7) hM6) (by omega) (by omega) A7 U7 (fun e he => by rw [q_fu_ne (by omega)]; exact hch e (by omega)) S7) rfl rfl (by decide) rfl rfl (Nat.le_of_ble_eq_true rfl) (Nat.le_of_ble_eq_true rfl) (Nat.le_of_ble_eq_true rfl) (Or.inl (fun r h' e => by obtain ⟨m8, rfl, rfl, K8, A8, U8, T8⟩ := e; rfl)) (fun r h' e => ?_)
          obtain ⟨m8, rfl, rfl, K8, A8, U8, T8⟩ := e
          show qJ YX6_tally κ _ (qLy u, m8, y) 0 0 46 [some (qR 56), some (qI z), some (qI s), some (qI i), some (qI z25), none] [qI ((LV D 3 (l + 1) (q_fu ch l (i.toNat : Int))).length : Nat)]
          refine qJ.run hκ 5 (pc' := 54) (ls' := [some (qR 56), some (qI z), some (qI s), some (qI i), some (qI z25), some (qI ((LV D 3 (l + 1) (q_fu ch l (i.toNat : Int))).length : Nat))]) (st' := [qI ((LV D 3 (l + 1) (q_fu ch l (i.toNat : Int))).length : Nat), qI z25, qI i, qR 56]) rfl ?_
          refine qJ.callV (As := [qI i, qI z25, qI ((LV D 3 (l + 1) (q_fu ch l (i.toNat : Int))).length : Nat)]) (rest := []) hκ rfl kX6_134 (c_lift u m8 y D (VM D (q_fu ch l (i.toNat : Int)) (l + 1)) (uQ (q_fu ch l (i.toNat : Int)) (l + 1)) b i z25 (((LV D 3 (l + 1) (q_fu ch l (i.toNat : Int))).length : Nat) : Int) hD (dM_k ((keep_of kDT K8).trans (keep_of kDL K7)) hM6) A8 U8 (by omega) e25 b20 (by have := LV_b hD (r := 3) (l := l + 1) (ch := (q_fu ch l (i.toNat : Int))) (by decide); omega) T8.2.2 (fun t ht p => ((PB t ht).mp p).2)) rfl rfl (by decide) rfl rfl (Nat.le_of_ble_eq_true rfl) (Nat.le_of_ble_eq_true rfl) (Nat.le_of_ble_eq_true rfl) (Or.inl (fun r h' e => by obtain ⟨rfl, m9, G9, rfl, K9, A9, U9, L9⟩ := e; rfl)) (fun r h' e => ?_)
          obtain ⟨rfl, m9, G9, rfl, K9, A9, U9, L9⟩ := e
          show qJ YX6_tally κ _ (qLy u, m9, y) 0 0 57 [some (qR 56), some (qI z), some (qI s), some (qI i), some (qI z25), some (qI ((LV D 3 (l + 1) (q_fu ch l (i.toNat : Int))).length : Nat))] []
          have UU : ∀ t : Nat, t < 12 → ((uQ (q_fu ch l (i.toNat : Int)) (l + 1) t ∧ ¬ t = i.toNat) ↔ uQ ch l t) := fun t _ => ⟨fun q => (uQ_s.mpr q.1).elim id (fun e => absurd e q.2), fun q => ⟨uQ_s.mp (Or.inl q), fun e => F7.1 (by rw [← e]; exact q)⟩⟩
          have ix : (z * 12 + i).toNat = l * 12 + i.toNat := by omega
          have ST := tyS_s (D := D) (l := l) (r := 3) (i := i.toNat) (b := b) (ch := ch) (A := lvF D (LV D 3 (l + 1)) l ch i.toNat) (m := m) (M6 := M6) (M7 := m7) (M8 := m8) (M9 := m9) (M' := q_up m9 74 (z * 12 + i).toNat (m9 74 (z * 12 + i).toNat + ((LV D 3 (l + 1) (q_fu ch l (i.toNat : Int))).length : Nat))) (G := G9) hD (by omega) (by omega) (by omega) v14_5 FT (congrFun K7 74) R7 PB (VM_r A8) T8 L9 (congrFun K9 74) (by rw [q_up_fu, ix]) ⟨q_up_rw (by decide), q_up_rw (by decide)⟩ (lf_75 L9 (fun t ht p => by have := (A8.1.1 t ht).2; have := ((PB t ht).mp p).2; omega) T8.2.2)
          refine qJ.run hκ 8 (pc' := 68) (ls' := [some (qR 56), some (qI z), some (qI s), some (qI i), some (qI z25), some (qI ((LV D 3 (l + 1) (q_fu ch l (i.toNat : Int))).length : Nat))]) (st' := [qI ((z * 12) + i), qR 74, qI ((z * 12) + i), qR 74]) rfl ?_
          refine qJ.ald hκ rfl rfl rfl (by decide) (by omega) ?_
          show qJ YX6_tally κ _ (qLy u, m9, y) 0 0 69 [some (qR 56), some (qI z), some (qI s), some (qI i), some (qI z25), some (qI ((LV D 3 (l + 1) (q_fu ch l (i.toNat : Int))).length : Nat))] [qI (m9 74 (((z * 12) + i).toNat)), qI ((z * 12) + i), qR 74]
          refine qJ.run hκ 2 (pc' := 72) (ls' := [some (qR 56), some (qI z), some (qI s), some (qI i), some (qI z25), some (qI ((LV D 3 (l + 1) (q_fu ch l (i.toNat : Int))).length : Nat))]) (st' := [qI ((m9 74 (((z * 12) + i).toNat)) + ((LV D 3 (l + 1) (q_fu ch l (i.toNat : Int))).length : Nat)), qI ((z * 12) + i), qR 74]) rfl ?_
          refine qJ.ast hκ rfl rfl rfl (by decide) (by omega) ?_
          show qJ YX6_tally κ _ (qLy u, (q_up m9 74 (((z * 12) + i).toNat) ((m9 74 (((z * 12) + i).toNat)) + ((LV D 3 (l + 1) (q_fu ch l (i.toNat : Int))).length : Nat))), y) 0 0 73 [some (qR 56), some (qI z), some (qI s), some (qI i), some (qI z25), some (qI ((LV D 3 (l + 1) (q_fu ch l (i.toNat : Int))).length : Nat))] []
          refine qJ.run hκ 6 (pc' := 14) (ls' := [some (qR 56), some (qI z), some (qI (s + ((LV D 3 (l + 1) (q_fu ch l (i.toNat : Int))).length : Nat))), some (qI (i + 1)), some (qI z25), some (qI ((LV D 3 (l + 1) (q_fu ch l (i.toNat : Int))).length : Nat))]) (st' := []) rfl ?_
          refine qJ.dl [true, true, true, true, false, false] ?_
          show qJ YX6_tally κ _ (qLy u, (q_up m9 74 (((z * 12) + i).toNat) ((m9 74 (((z * 12) + i).toNat)) + ((LV D 3 (l + 1) (q_fu ch l (i.toNat : Int))).length : Nat))), y) 0 0 14 [some (qR 56), some (qI z), some (qI (s + ((LV D 3 (l + 1) (q_fu ch l (i.toNat : Int))).length : Nat))), some (qI (i + 1)), none, none] []
          exact ih14  (s + ((LV D 3 (l + 1) (q_fu ch l (i.toNat : Int))).length : Nat)) (i + 1) (q_up m9 74 (((z * 12) + i).toNat) ((m9 74 (((z * 12) + i).toNat)) + ((LV D 3 (l + 1) (q_fu ch l (i.toNat : Int))).length : Nat))) (by omega) (by rw [NX, List.length_append, v14_1, ftI_y FT]; omega) ((Eq.trans (keep_up (by rfl)) ((keep_of kTyL K9).trans (K8.trans ((keep_of kTyL K7).trans v14_2))))) (aS_k (fun i a b => q_up_rw (by omega)) (aS_c ST.2 A9)) (uM_c U9 rfl UU) (by rw [NX]; exact ST.1) (by omega)
        · show qJ YX6_tally κ _ (qLy u, m7, y) 0 0 36 [some (qR 56), some (qI z), some (qI s), some (qI i), some (qI z25), none] []
          have Z7 : ¬ (¬ uQ ch l i.toNat ∧ fitW D i.toNat l (VM D ch l)) ∧ aS D (VM D ch l) m7 ∧ uM m7 (uQ ch l) := by rcases H7 with q | ⟨b, q⟩; (exact q.2); (have := q.1; omega)
          have NX : lvF D (LV D 3 (l + 1)) l ch (i + 1).toNat = lvF D (LV D 3 (l + 1)) l ch i.toNat ++ [] := by rw [it1]; show _ ++ ftI D _ l _ = _; rw [ftI_n (fun z => Z7.1 (ftL_fu.mp z))]
          clear H7
          refine qJ.run hκ 3 (pc' := 14) (ls' := [some (qR 56), some (qI z), some (qI s), some (qI (i + 1)), some (qI z25), none]) (st' := []) rfl ?_
          refine qJ.dl [true, true, true, true, false, false] ?_
          show qJ YX6_tally κ _ (qLy u, m7, y) 0 0 14 [some (qR 56), some (qI z), some (qI s), some (qI (i + 1)), none, none] []
          exact ih14  s (i + 1) m7 (by omega) (by rw [NX, List.append_nil]; exact v14_1) ((keep_of kTyL K7).trans v14_2) (Z7.2.1) (Z7.2.2) (by rw [NX, List.append_nil]; exact tyS_k v14_5 (congrFun K7 74) R7) (by omega)
  show qJ YX6_tally κ _ (qLy u, m, y) 0 0 0 [some (qR 56), some (qI z), none, none, none, none] []
  refine qJ.run hκ 3 (pc' := 5) (ls' := [some (qR 56), some (qI z), none, none, none, none]) (st' := [qI (m 56 14), qI z]) rfl ?_
  refine qJ.icmp_lt hκ (tgt := 10) rfl rfl (by omega) (by omega) (fun c5 => ?_) (fun c5 => ?_)
  · show qJ YX6_tally κ _ (qLy u, m, y) 0 0 10 [some (qR 56), some (qI z), none, none, none, none] []
    refine qJ.run hκ 4 (pc' := 14) (ls' := [some (qR 56), some (qI z), some (qI 0), some (qI 0), none, none]) (st' := []) rfl ?_
    exact L14 13 0 0 m (by omega) (rfl) (rfl) (hA) (hU) (tyS_0 h7) (by omega)
  · show qJ YX6_tally κ _ (qLy u, m, y) 0 0 8 [some (qR 56), some (qI z), none, none, none, none] []
    exfalso; omega

set_option maxRecDepth 100000 in
theorem c_tally5 (u : qU) (m y : qM) (D : qD) (ch : Nat → Int) (l : Nat) (z : Int) (hD : dOk D) (hM : dM D m) (hz : z = (l : Int)) (hl : (l : Int) + 5 = dN D) (hA : aS D (VM D ch l) m) (hU : uM m (uQ ch l)) (hch : ∀ e, l ≤ e → ch e = -1) (h7 : ∀ t : Nat, t < 20 → -2 ≤ m 75 t ∧ m 75 t ≤ 27) : qCt YX6_tally 8 0 0 [qR 56, qI z] (qLy u, m, y) (fun r h => ∃ m', r = some (qI ((LV D 5 l ch).length : Nat)) ∧ h = (qLy u, m', y) ∧ keep (kN kTy) m' = keep (kN kTy) m ∧ aS D (VM D ch l) m' ∧ uM m' (uQ ch l) ∧ tyS D l ch (LV D 5 l ch) m m') := by
  refine qCt.intro okX6_tally (Nat.le_of_ble_eq_true rfl) (fun κ hκ => ?_)
  have k0 := hM.1
  have kb := hD.1
  have zt : z.toNat = l := by omega
  have L14 : ∀ (n : Nat) (s : Int) (i : Int) (M6 : qM), (0 ≤ i ∧ i ≤ dK D) → (s = ((lvF D (LV D 4 (l + 1)) l ch i.toNat).length : Nat)) → (keep (kN kTy) M6 = keep (kN kTy) m) → (aS D (VM D ch l) M6) → (uM M6 (uQ ch l)) → (tyS D l ch (lvF D (LV D 4 (l + 1)) l ch i.toNat) m M6) → ((dK D - i).toNat) < n → qJ YX6_tally κ (qFin (fun r h => ∃ m', r = some (qI ((LV D 5 l ch).length : Nat)) ∧ h = (qLy u, m', y) ∧ keep (kN kTy) m' = keep (kN kTy) m ∧ aS D (VM D ch l) m' ∧ uM m' (uQ ch l) ∧ tyS D l ch (LV D 5 l ch) m m') 0 0 κ) (qLy u, M6, y) 0 0 14 [some (qR 56), some (qI z), some (qI s), some (qI i), none, none] [] := by
    intro n
    induction n with
    | zero => intro s i M6 _ _ _ _ _ _ hz0; omega
    | succ n ih14 =>
      intro s i M6 v14_0 v14_1 v14_2 v14_3 v14_4 v14_5 v14_m
      have k10 : M6 56 10 = dK D := (congrFun (congrFun v14_2 56) 10).trans k0.1
      have hM6 := dM_k (keep_of kDT v14_2) hM
      have sb : (0 : Int) ≤ s ∧ s ≤ 12 * 20736 := by
        have := lvF_len (D := D) (G := (LV D 4 (l + 1))) (l := l) (ch := ch) (B := 12 ^ 4) (fun c => LV_len hD 4 (l + 1) c) i.toNat
        have h2 : i.toNat * 12 ^ 4 ≤ 12 * 20736 := Nat.mul_le_mul (by omega) (by decide)
        omega
      refine qJ.run hκ 3 (pc' := 19) (ls' := [some (qR 56), some (qI z), some (qI s), some (qI i), none, none]) (st' := [qI (M6 56 10), qI i]) rfl ?_
      refine qJ.icmp_ge hκ (tgt := 84) rfl rfl (by omega) (by omega) (fun c19 => ?_) (fun c19 => ?_)
      · show qJ YX6_tally κ _ (qLy u, M6, y) 0 0 84 [some (qR 56), some (qI z), some (qI s), some (qI i), none, none] []
        refine qJ.run hκ 1 (pc' := 85) (ls' := [some (qR 56), some (qI z), some (qI s), some (qI i), none, none]) (st' := [qI s]) rfl ?_
        exact qJ.iret hκ rfl rfl (by decide) (by decide) (by rw [show i.toNat = (dK D).toNat by omega] at v14_1 v14_5; exact ⟨M6, congrArg (fun x => some (qI x)) v14_1, rfl, v14_2, v14_3, v14_4, v14_5⟩)
      · show qJ YX6_tally κ _ (qLy u, M6, y) 0 0 22 [some (qR 56), some (qI z), some (qI s), some (qI i), none, none] []
        refine qJ.run hκ 3 (pc' := 25) (ls' := [some (qR 56), some (qI z), some (qI s), some (qI i), none, none]) (st' := [qI i, qI z, qR 56]) rfl ?_
        refine qJ.callV (As := [qI z, qI i]) (rest := []) hκ rfl kX6_131 (c_place u M6 y D (VM D ch l) (uQ ch l) z i hD (dM_k (keep_of kDT v14_2) hM) v14_3 v14_4 (by omega) (by omega) v14_5.2.2) rfl rfl (by decide) rfl rfl (Nat.le_of_ble_eq_true rfl) (Nat.le_of_ble_eq_true rfl) (Nat.le_of_ble_eq_true rfl) (Or.inl (fun r h' e => by obtain ⟨z25, m7, rfl, rfl, K7, R7, H7⟩ := e; rfl)) (fun r h' e => ?_)
        obtain ⟨z25, m7, rfl, rfl, K7, R7, H7⟩ := e
        rw [zt] at H7
        show qJ YX6_tally κ _ (qLy u, m7, y) 0 0 28 [some (qR 56), some (qI z), some (qI s), some (qI i), none, none] [qI z25]
        have zr : -1 ≤ z25 ∧ z25 < 1048576 := by rcases H7 with q | ⟨b, q⟩; (omega); (have := q.1; have := q.2.1; omega)
        have it1 : (i + 1).toNat = i.toNat + 1 := by omega
        refine qJ.run hκ 3 (pc' := 33) (ls' := [some (qR 56), some (qI z), some (qI s), some (qI i), some (qI z25), none]) (st' := [qI (-1), qI z25]) rfl ?_
        refine qJ.icmp_ne hκ (tgt := 39) rfl rfl (by omega) (by omega) (fun c33 => ?_) (fun c33 => ?_)
        · show qJ YX6_tally κ _ (qLy u, m7, y) 0 0 39 [some (qR 56), some (qI z), some (qI s), some (qI i), some (qI z25), none] []
          have Z7 : ∃ b : Nat, z25 = (b : Int) ∧ b < 1048576 ∧ (¬ uQ ch l i.toNat ∧ fitW D i.toNat l (VM D ch l)) ∧ aS D (vP D i.toNat l (VM D ch l) (dL D i.toNat).toNat) m7 ∧ uM m7 (fun t => uQ ch l t ∨ t = i.toNat) ∧ ∀ t : Nat, t < 20 → (pb b t ↔ (VM D ch l t = -1 ∧ ¬ vP D i.toNat l (VM D ch l) (dL D i.toNat).toNat t = -1)) := by rcases H7 with q | q; (exact absurd q.1 c33); (exact q)
          clear H7
          obtain ⟨b, e25, b20, F7, A70, U70, PB0⟩ := Z7
          have FT : ftL D (q_fu ch l (i.toNat : Int)) l := ftL_fu.mpr F7
          have ve : VM D (q_fu ch l (i.toNat : Int)) (l + 1) = vP D i.toNat l (VM D ch l) (dL D i.toNat).toNat := by rw [VM_fu, F7.2.1]
          have A7 : aS D (VM D (q_fu ch l (i.toNat : Int)) (l + 1)) m7 := by rw [ve]; exact A70
          have U7 : uM m7 (uQ (q_fu ch l (i.toNat : Int)) (l + 1)) := uM_c U70 rfl (fun t _ => uQ_s)
          have PB : ∀ t : Nat, t < 20 → (pb b t ↔ (VM D ch l t = -1 ∧ ¬ VM D (q_fu ch l (i.toNat : Int)) (l + 1) t = -1)) := by rw [ve]; exact PB0
          have S7 : ∀ t : Nat, t < 20 → -2 ≤ m7 75 t ∧ m7 75 t ≤ 27 := fun t ht => by rw [(R7 t ht).1]; exact v14_5.2.2 t ht
          have NX : lvF D (LV D 4 (l + 1)) l ch (i + 1).toNat = lvF D (LV D 4 (l + 1)) l ch i.toNat ++ ftI D (LV D 4 (l + 1)) l (q_fu ch l (i.toNat : Int)) := by rw [it1]; rfl
          refine qJ.run hκ 4 (pc' := 43) (ls' := [some (qR 56), some (qI z), some (qI s), some (qI i), some (qI z25), none]) (st' := [qI (z + 1), qR 56]) rfl ?_
          refine qJ.callV (As := [qI (z + 1)]) (rest := []) hκ rfl kX6_101 (c_tally4 u m7 y D (q_fu ch l (i.toNat : Int)) (l + 1) (z + 1) hD (dM_k (keep_of kDL K7) hM6) (by omega) (by omega) A7 U7 (fun e he => by rw [q_fu_ne (by omega)]; exact hch e (by omega)) S7) rfl rfl (by decide) rfl rfl (Nat.le_of_ble_eq_true rfl) (Nat.le_of_ble_eq_true rfl) (Nat.le_of_ble_eq_true rfl) (Or.inl (fun r h' e => by obtain ⟨m8, rfl, rfl, K8, A8, U8, T8⟩ := e; rfl)) (fun r h' e => ?_)
          obtain ⟨m8, rfl, rfl, K8, A8, U8, T8⟩ := e
          show qJ YX6_tally κ _ (qLy u, m8, y) 0 0 46 [some (qR 56), some (qI z), some (qI s), some (qI i), some (qI z25), none] [qI ((LV D 4 (l + 1) (q_fu ch l (i.toNat : Int))).length : Nat)]
          refine qJ.run hκ 5 (pc' := 54) (ls' := [some (qR 56), some (qI z), some (qI s), some (qI i), some (qI z25), some (qI ((LV D 4 (l + 1) (q_fu ch l (i.toNat : Int))).length : Nat))]) (st' := [qI ((LV D 4 (l + 1) (q_fu ch l (i.toNat : Int))).length : Nat), qI z25, qI i, qR 56]) rfl ?_
          refine qJ.callV (As := [qI i, qI z25, qI ((LV D 4 (l + 1) (q_fu ch l (i.toNat : Int))).length : Nat)]) (rest := []) hκ rfl kX6_134 (c_lift u m8 y D (VM D (q_fu ch l (i.toNat : Int)) (l + 1)) (uQ (q_fu ch l (i.toNat : Int)) (l + 1)) b i z25 (((LV D 4 (l + 1) (q_fu ch l (i.toNat : Int))).length : Nat) : Int) hD (dM_k ((keep_of kDT K8).trans (keep_of kDL K7)) hM6) A8 U8 (by omega) e25 b20 (by have := LV_b hD (r := 4) (l := l + 1) (ch := (q_fu ch l (i.toNat : Int))) (by decide); omega) T8.2.2 (fun t ht p => ((PB t ht).mp p).2)) rfl rfl (by decide) rfl rfl (Nat.le_of_ble_eq_true rfl) (Nat.le_of_ble_eq_true rfl) (Nat.le_of_ble_eq_true rfl) (Or.inl (fun r h' e => by obtain ⟨rfl, m9, G9, rfl, K9, A9, U9, L9⟩ := e; rfl)) (fun r h' e => ?_)
          obtain ⟨rfl, m9, G9, rfl, K9, A9, U9, L9⟩ := e
          show qJ YX6_tally κ _ (qLy u, m9, y) 0 0 57 [some (qR 56), some (qI z), some (qI s), some (qI i), some (qI z25), some (qI ((LV D 4 (l + 1) (q_fu ch l (i.toNat : Int))).length : Nat))] []
          have UU : ∀ t : Nat, t < 12 → ((uQ (q_fu ch l (i.toNat : Int)) (l + 1) t ∧ ¬ t = i.toNat) ↔ uQ ch l t) := fun t _ => ⟨fun q => (uQ_s.mpr q.1).elim id (fun e => absurd e q.2), fun q => ⟨uQ_s.mp (Or.inl q), fun e => F7.1 (by rw [← e]; exact q)⟩⟩
          have ix : (z * 12 + i).toNat = l * 12 + i.toNat := by omega
          have ST := tyS_s (D := D) (l := l) (r := 4) (i := i.toNat) (b := b) (ch := ch) (A := lvF D (LV D 4 (l + 1)) l ch i.toNat) (m := m) (M6 := M6) (M7 := m7) (M8 := m8) (M9 := m9) (M' := q_up m9 74 (z * 12 + i).toNat (m9 74 (z * 12 + i).toNat + ((LV D 4 (l + 1) (q_fu ch l (i.toNat : Int))).length : Nat))) (G := G9) hD (by omega) (by omega) (by omega) v14_5 FT (congrFun K7 74) R7 PB (VM_r A8) T8 L9 (congrFun K9 74) (by rw [q_up_fu, ix]) ⟨q_up_rw (by decide), q_up_rw (by decide)⟩ (lf_75 L9 (fun t ht p => by have := (A8.1.1 t ht).2; have := ((PB t ht).mp p).2; omega) T8.2.2)
          refine qJ.run hκ 8 (pc' := 68) (ls' := [some (qR 56), some (qI z), some (qI s), some (qI i), some (qI z25), some (qI ((LV D 4 (l + 1) (q_fu ch l (i.toNat : Int))).length : Nat))]) (st' := [qI ((z * 12) + i), qR 74, qI ((z * 12) + i), qR 74]) rfl ?_
          refine qJ.ald hκ rfl rfl rfl (by decide) (by omega) ?_
          show qJ YX6_tally κ _ (qLy u, m9, y) 0 0 69 [some (qR 56), some (qI z), some (qI s), some (qI i), some (qI z25), some (qI ((LV D 4 (l + 1) (q_fu ch l (i.toNat : Int))).length : Nat))] [qI (m9 74 (((z * 12) + i).toNat)), qI ((z * 12) + i), qR 74]
          refine qJ.run hκ 2 (pc' := 72) (ls' := [some (qR 56), some (qI z), some (qI s), some (qI i), some (qI z25), some (qI ((LV D 4 (l + 1) (q_fu ch l (i.toNat : Int))).length : Nat))]) (st' := [qI ((m9 74 (((z * 12) + i).toNat)) + ((LV D 4 (l + 1) (q_fu ch l (i.toNat : Int))).length : Nat)), qI ((z * 12) + i), qR 74]) rfl ?_
          refine qJ.ast hκ rfl rfl rfl (by decide) (by omega) ?_
          show qJ YX6_tally κ _ (qLy u, (q_up m9 74 (((z * 12) + i).toNat) ((m9 74 (((z * 12) + i).toNat)) + ((LV D 4 (l + 1) (q_fu ch l (i.toNat : Int))).length : Nat))), y) 0 0 73 [some (qR 56), some (qI z), some (qI s), some (qI i), some (qI z25), some (qI ((LV D 4 (l + 1) (q_fu ch l (i.toNat : Int))).length : Nat))] []
          refine qJ.run hκ 6 (pc' := 14) (ls' := [some (qR 56), some (qI z), some (qI (s + ((LV D 4 (l + 1) (q_fu ch l (i.toNat : Int))).length : Nat))), some (qI (i + 1)), some (qI z25), some (qI ((LV D 4 (l + 1) (q_fu ch l (i.toNat : Int))).length : Nat))]) (st' := []) rfl ?_
          refine qJ.dl [true, true, true, true, false, false] ?_
          show qJ YX6_tally κ _ (qLy u, (q_up m9 74 (((z * 12) + i).toNat) ((m9 74 (((z * 12) + i).toNat)) + ((LV D 4 (l + 1) (q_fu ch l (i.toNat : Int))).length : Nat))), y) 0 0 14 [some (qR 56), some (qI z), some (qI (s + ((LV D 4 (l + 1) (q_fu ch l (i.toNat : Int))).length : Nat))), some (qI (i + 1)), none, none] []
          exact ih14  (s + ((LV D 4 (l + 1) (q_fu ch l (i.toNat : Int))).length : Nat)) (i + 1) (q_up m9 74 (((z * 12) + i).toNat) ((m9 74 (((z * 12) + i).toNat)) + ((LV D 4 (l + 1) (q_fu ch l (i.toNat : Int))).length : Nat))) (by omega) (by rw [NX, List.length_append, v14_1, ftI_y FT]; omega) ((Eq.trans (keep_up (by rfl)) ((keep_of kTyL K9).trans (K8.trans ((keep_of kTyL K7).trans v14_2))))) (aS_k (fun i a b => q_up_rw (by omega)) (aS_c ST.2 A9)) (uM_c U9 rfl UU) (by rw [NX]; exact ST.1) (by omega)
        · show qJ YX6_tally κ _ (qLy u, m7, y) 0 0 36 [some (qR 56), some (qI z), some (qI s), some (qI i), some (qI z25), none] []
          have Z7 : ¬ (¬ uQ ch l i.toNat ∧ fitW D i.toNat l (VM D ch l)) ∧ aS D (VM D ch l) m7 ∧ uM m7 (uQ ch l) := by rcases H7 with q | ⟨b, q⟩; (exact q.2); (have := q.1; omega)
          have NX : lvF D (LV D 4 (l + 1)) l ch (i + 1).toNat = lvF D (LV D 4 (l + 1)) l ch i.toNat ++ [] := by rw [it1]; show _ ++ ftI D _ l _ = _; rw [ftI_n (fun z => Z7.1 (ftL_fu.mp z))]
          clear H7
          refine qJ.run hκ 3 (pc' := 14) (ls' := [some (qR 56), some (qI z), some (qI s), some (qI (i + 1)), some (qI z25), none]) (st' := []) rfl ?_
          refine qJ.dl [true, true, true, true, false, false] ?_
          show qJ YX6_tally κ _ (qLy u, m7, y) 0 0 14 [some (qR 56), some (qI z), some (qI s), some (qI (i + 1)), none, none] []
          exact ih14  s (i + 1) m7 (by omega) (by rw [NX, List.append_nil]; exact v14_1) ((keep_of kTyL K7).trans v14_2) (Z7.2.1) (Z7.2.2) (by rw [NX, List.append_nil]; exact tyS_k v14_5 (congrFun K7 74) R7) (by omega)
  show qJ YX6_tally κ _ (qLy u, m, y) 0 0 0 [some (qR 56), some (qI z), none, none, none, none] []
  refine qJ.run hκ 3 (pc' := 5) (ls' := [some (qR 56), some (qI z), none, none, none, none]) (st' := [qI (m 56 14), qI z]) rfl ?_
  refine qJ.icmp_lt hκ (tgt := 10) rfl rfl (by omega) (by omega) (fun c5 => ?_) (fun c5 => ?_)
  · show qJ YX6_tally κ _ (qLy u, m, y) 0 0 10 [some (qR 56), some (qI z), none, none, none, none] []
    refine qJ.run hκ 4 (pc' := 14) (ls' := [some (qR 56), some (qI z), some (qI 0), some (qI 0), none, none]) (st' := []) rfl ?_
    exact L14 13 0 0 m (by omega) (rfl) (rfl) (hA) (hU) (tyS_0 h7) (by omega)
  · show qJ YX6_tally κ _ (qLy u, m, y) 0 0 8 [some (qR 56), some (qI z), none, none, none, none] []
    exfalso; omega

/-! printed by p90.py: the class gathers words and names; starts its assignment; the best word -/
set_option maxRecDepth 100000 in
theorem c_gPool (u : qU) (m M y : qM) (hR : rC m) (hK : keep kCore M = keep kCore m) : qCt YX6_gatherPool 3 0 0 [qR 56, qR 2, qI (gHz m)] (qLy u, M, y) (fun r h => r = none ∧ ∃ M', h = (qLy u, M', y) ∧ keep (kN kPo) M' = keep (kN kPo) M ∧ M' 56 10 = (nC m : Int) ∧ poS m M' (nW m)) := by
  refine qCt.intro okX6_gatherPool (Nat.le_of_ble_eq_true rfl) (fun κ hκ => ?_)
  have k2 : M 2 = m 2 := congrFun hK 2
  have k3 : M 3 = m 3 := congrFun hK 3
  have k4 : M 4 = m 4 := congrFun hK 4
  have k7 : M 7 = m 7 := congrFun hK 7
  have k8 : M 8 = m 8 := congrFun hK 8
  have a0 := hR.1.1
  have zr := gHz_r hR.1
  have nl := nW_le hR.1
  have nc := nC_le hR
  have L14 : ∀ (n : Nat) (w : Int) (M6 : qM), (0 ≤ w ∧ w ≤ (nW m : Int)) → (keep (kN kPo) M6 = keep (kN kPo) M) → (M6 56 10 = (q_cnt (cwP m) w.toNat : Nat)) → (poS m M6 w.toNat) → (((nW m : Int) - w).toNat) < n → qJ YX6_gatherPool κ (qFin (fun r h => r = none ∧ ∃ M', h = (qLy u, M', y) ∧ keep (kN kPo) M' = keep (kN kPo) M ∧ M' 56 10 = (nC m : Int) ∧ poS m M' (nW m)) 0 0 κ) (qLy u, M6, y) 0 0 14 [some (qR 56), some (qR 2), some (qI (gHz m)), some (qI (nW m : Int)), some (qI w), none] [] := by
    intro n
    induction n with
    | zero => intro w M6 _ _ _ _ hz0; omega
    | succ n ih14 =>
      intro w M6 v14_0 v14_1 v14_2 v14_3 v14_m
      have L70 : ∀ (n : Nat) (k : Int) (M5 : qM), (0 ≤ k ∧ k ≤ 5) → (keep (kN kPo) M5 = keep (kN kPo) M) → (M5 56 10 = M6 56 10) → (poS m M5 w.toNat) → (M5 68 (M6 56 10).toNat = w ∧ M5 70 (M6 56 10).toNat = m 4 w.toNat ∧ ∀ j : Nat, (j : Int) < k → M5 69 ((M6 56 10).toNat * 5 + j) = m 3 (w.toNat * 5 + j)) → (m 8 w.toNat = 1 ∧ 0 ≤ M6 56 10 ∧ M6 56 10 < 12 ∧ w < (nW m : Int)) → ((5 - k).toNat) < n → qJ YX6_gatherPool κ (qFin (fun r h => r = none ∧ ∃ M', h = (qLy u, M', y) ∧ keep (kN kPo) M' = keep (kN kPo) M ∧ M' 56 10 = (nC m : Int) ∧ poS m M' (nW m)) 0 0 κ) (qLy u, M5, y) 0 0 70 [some (qR 56), some (qR 2), some (qI (gHz m)), some (qI (nW m : Int)), some (qI w), some (qI k)] [] := by
        intro n
        induction n with
        | zero => intro k M5 _ _ _ _ _ _ hz0; omega
        | succ n ih70 =>
          intro k M5 v70_0 v70_1 v70_2 v70_3 v70_4 v70_5 v70_m
          refine qJ.run hκ 2 (pc' := 73) (ls' := [some (qR 56), some (qR 2), some (qI (gHz m)), some (qI (nW m : Int)), some (qI w), some (qI k)]) (st' := [qI 5, qI k]) rfl ?_
          refine qJ.icmp_ge hκ (tgt := 104) rfl rfl (by omega) (by omega) (fun c73 => ?_) (fun c73 => ?_)
          · show qJ YX6_gatherPool κ _ (qLy u, M5, y) 0 0 104 [some (qR 56), some (qR 2), some (qI (gHz m)), some (qI (nW m : Int)), some (qI w), some (qI k)] []
            refine qJ.run hκ 5 (pc' := 111) (ls' := [some (qR 56), some (qR 2), some (qI (gHz m)), some (qI (nW m : Int)), some (qI w), some (qI k)]) (st' := [qI ((M5 56 10) + 1), qR 56]) rfl ?_
            refine qJ.putI hκ rfl rfl rfl rfl (Or.inl rfl) ?_
            show qJ YX6_gatherPool κ _ (qLy u, (q_up M5 56 10 ((M5 56 10) + 1)), y) 0 0 114 [some (qR 56), some (qR 2), some (qI (gHz m)), some (qI (nW m : Int)), some (qI w), some (qI k)] []
            refine qJ.run hκ 2 (pc' := 14) (ls' := [some (qR 56), some (qR 2), some (qI (gHz m)), some (qI (nW m : Int)), some (qI (w + 1)), some (qI k)]) (st' := []) rfl ?_
            refine qJ.dl [true, true, true, true, true, false] ?_
            show qJ YX6_gatherPool κ _ (qLy u, (q_up M5 56 10 ((M5 56 10) + 1)), y) 0 0 14 [some (qR 56), some (qR 2), some (qI (gHz m)), some (qI (nW m : Int)), some (qI (w + 1)), none] []
            exact ih14  (w + 1) (q_up M5 56 10 ((M5 56 10) + 1)) (by omega) (Eq.trans (keep_up (by rfl)) v70_1) (by show M5 56 10 + 1 = _; rw [q_cnt_s v14_0.1, if_pos v70_5.1, v70_2, v14_2]; omega) (fun x hx h8 => by
          by_cases e : x = w.toNat
          · rw [e]
            have cc : q_cnt (cwP m) w.toNat = (M6 56 10).toNat := by omega
            refine ⟨?_, ?_, fun k hk => ?_⟩
            · show M5 68 _ = _; rw [cc, v70_4.1]; omega
            · show M5 70 _ = _; rw [cc]; exact v70_4.2.1
            · show M5 69 _ = _; rw [cc]; exact v70_4.2.2 k (by omega)
          · exact v70_3 x (by omega) h8) (by omega)
          · show qJ YX6_gatherPool κ _ (qLy u, M5, y) 0 0 76 [some (qR 56), some (qR 2), some (qI (gHz m)), some (qI (nW m : Int)), some (qI w), some (qI k)] []
            refine qJ.run hκ 11 (pc' := 94) (ls' := [some (qR 56), some (qR 2), some (qI (gHz m)), some (qI (nW m : Int)), some (qI w), some (qI k)]) (st' := [qI k, qI w, qR 2, qI (((M5 56 10) * 5) + k), qR 69]) rfl ?_
            refine qJ.callV (As := [qI w, qI k]) (rest := [qI (((M5 56 10) * 5) + k), qR 69]) hκ rfl kX6_119 (c_signAt u M5 y w k (by omega)) rfl rfl (by decide) rfl rfl (Nat.le_of_ble_eq_true rfl) (Nat.le_of_ble_eq_true rfl) (Nat.le_of_ble_eq_true rfl) (Or.inl (fun r h' e => by obtain ⟨rfl, rfl⟩ := e; rfl)) (fun r h' e => ?_)
            obtain ⟨rfl, rfl⟩ := e
            show qJ YX6_gatherPool κ _ (qLy u, M5, y) 0 0 97 [some (qR 56), some (qR 2), some (qI (gHz m)), some (qI (nW m : Int)), some (qI w), some (qI k)] [qI (M5 3 (w * 5 + k).toNat), qI (((M5 56 10) * 5) + k), qR 69]
            refine qJ.ast hκ rfl rfl rfl (by decide) (by omega) ?_
            show qJ YX6_gatherPool κ _ (qLy u, (q_up M5 69 ((((M5 56 10) * 5) + k).toNat) (M5 3 (w * 5 + k).toNat)), y) 0 0 98 [some (qR 56), some (qR 2), some (qI (gHz m)), some (qI (nW m : Int)), some (qI w), some (qI k)] []
            refine qJ.run hκ 2 (pc' := 70) (ls' := [some (qR 56), some (qR 2), some (qI (gHz m)), some (qI (nW m : Int)), some (qI w), some (qI (k + 1))]) (st' := []) rfl ?_
            exact ih70  (k + 1) (q_up M5 69 ((((M5 56 10) * 5) + k).toNat) (M5 3 (w * 5 + k).toNat)) (by omega) (Eq.trans (keep_up (by rfl)) v70_1) (v70_2) (fun x hx h8 => by
          have lt := q_cnt_lt (p := cwP m) h8 hx
          have a := v70_3 x hx h8
          refine ⟨a.1, a.2.1, fun j hj => ?_⟩
          rw [up_o (by omega)]; exact a.2.2 j hj) (⟨v70_4.1, v70_4.2.1, fun j hj => by
          by_cases e : (j : Int) = k
          · rw [show (M6 56 10).toNat * 5 + j = (M5 56 10 * 5 + k).toNat by omega, q_up_eq]
            show M5 3 _ = _
            rw [show M5 3 = M 3 from congrFun v70_1 3, k3, show (w * 5 + k).toNat = w.toNat * 5 + j by omega]
          · rw [up_o (by omega)]; exact v70_4.2.2 j (by omega)⟩) (v70_5) (by omega)
      have e8 : M6 8 w.toNat = m 8 w.toNat := by rw [show M6 8 = M 8 from congrFun v14_1 8, k8]
      have cl := q_cnt_le (cwP m) w.toNat
      refine qJ.run hκ 2 (pc' := 17) (ls' := [some (qR 56), some (qR 2), some (qI (gHz m)), some (qI (nW m : Int)), some (qI w), none]) (st' := [qI (nW m : Int), qI w]) rfl ?_
      refine qJ.icmp_ge hκ (tgt := 120) rfl rfl (by omega) (by omega) (fun c17 => ?_) (fun c17 => ?_)
      · show qJ YX6_gatherPool κ _ (qLy u, M6, y) 0 0 120 [some (qR 56), some (qR 2), some (qI (gHz m)), some (qI (nW m : Int)), some (qI w), none] []
        exact qJ.vret hκ rfl rfl (by decide) (by decide) (by
      refine ⟨rfl, M6, rfl, v14_1, ?_, ?_⟩
      · first
        | (rw [v14_2, show w.toNat = nW m by omega]; rfl)
        | (have a := q_cnt_mono (cwP m) (a := w.toNat) (nW m) (by omega)
           rw [v14_2]
           have := nc.1
           unfold nC at this ⊢
           omega)
      · intro x hx h8
        by_cases e : x < w.toNat
        · exact v14_3 x e h8
        · exfalso
          have a := q_cnt_mono (cwP m) (a := w.toNat) x (by omega)
          have b := q_cnt_lt (p := cwP m) h8 hx
          have := nc.1
          unfold nC at this
          omega)
      · show qJ YX6_gatherPool κ _ (qLy u, M6, y) 0 0 20 [some (qR 56), some (qR 2), some (qI (gHz m)), some (qI (nW m : Int)), some (qI w), none] []
        have w8 : m 8 w.toNat = 0 ∨ m 8 w.toNat = 1 := (hR.2.2.1 w (by omega) (by omega)).2.1.2.2
        refine qJ.run hκ 3 (pc' := 26) (ls' := [some (qR 56), some (qR 2), some (qI (gHz m)), some (qI (nW m : Int)), some (qI w), none]) (st' := [qI 12, qI (M6 56 10)]) rfl ?_
        refine qJ.icmp_ge hκ (tgt := 120) rfl rfl (by omega) (by omega) (fun c26 => ?_) (fun c26 => ?_)
        · show qJ YX6_gatherPool κ _ (qLy u, M6, y) 0 0 120 [some (qR 56), some (qR 2), some (qI (gHz m)), some (qI (nW m : Int)), some (qI w), none] []
          exact qJ.vret hκ rfl rfl (by decide) (by decide) (by
      refine ⟨rfl, M6, rfl, v14_1, ?_, ?_⟩
      · first
        | (rw [v14_2, show w.toNat = nW m by omega]; rfl)
        | (have a := q_cnt_mono (cwP m) (a := w.toNat) (nW m) (by omega)
           rw [v14_2]
           have := nc.1
           unfold nC at this ⊢
           omega)
      · intro x hx h8
        by_cases e : x < w.toNat
        · exact v14_3 x e h8
        · exfalso
          have a := q_cnt_mono (cwP m) (a := w.toNat) x (by omega)
          have b := q_cnt_lt (p := cwP m) h8 hx
          have := nc.1
          unfold nC at this
          omega)
        · show qJ YX6_gatherPool κ _ (qLy u, M6, y) 0 0 29 [some (qR 56), some (qR 2), some (qI (gHz m)), some (qI (nW m : Int)), some (qI w), none] []
          refine qJ.run hκ 3 (pc' := 35) (ls' := [some (qR 56), some (qR 2), some (qI (gHz m)), some (qI (nW m : Int)), some (qI w), none]) (st' := [qI w, qR 8]) rfl ?_
          refine qJ.ald hκ rfl rfl rfl (by decide) (by omega) ?_
          show qJ YX6_gatherPool κ _ (qLy u, M6, y) 0 0 36 [some (qR 56), some (qR 2), some (qI (gHz m)), some (qI (nW m : Int)), some (qI w), none] [qI (M6 8 w.toNat)]
          refine qJ.run hκ 1 (pc' := 37) (ls' := [some (qR 56), some (qR 2), some (qI (gHz m)), some (qI (nW m : Int)), some (qI w), none]) (st' := [qI 1, qI (M6 8 w.toNat)]) rfl ?_
          refine qJ.icmp_ne hκ (tgt := 114) rfl rfl (by omega) (by omega) (fun c37 => ?_) (fun c37 => ?_)
          · show qJ YX6_gatherPool κ _ (qLy u, M6, y) 0 0 114 [some (qR 56), some (qR 2), some (qI (gHz m)), some (qI (nW m : Int)), some (qI w), none] []
            skip
            refine qJ.run hκ 2 (pc' := 14) (ls' := [some (qR 56), some (qR 2), some (qI (gHz m)), some (qI (nW m : Int)), some (qI (w + 1)), none]) (st' := []) rfl ?_
            exact ih14  (w + 1) M6 (by omega) (v14_1) (by rw [q_cnt_s v14_0.1, if_neg (fun z => c37 (e8.trans z))]; exact v14_2) (fun x hx h8 => by
          by_cases e : x = w.toNat
          · rw [e] at h8; exact absurd (e8.trans h8) c37
          · exact v14_3 x (by omega) h8) (by omega)
          · show qJ YX6_gatherPool κ _ (qLy u, M6, y) 0 0 40 [some (qR 56), some (qR 2), some (qI (gHz m)), some (qI (nW m : Int)), some (qI w), none] []
            refine qJ.run hκ 5 (pc' := 50) (ls' := [some (qR 56), some (qR 2), some (qI (gHz m)), some (qI (nW m : Int)), some (qI w), none]) (st' := [qI w, qI (M6 56 10), qR 68]) rfl ?_
            refine qJ.ast hκ rfl rfl rfl (by decide) (by omega) ?_
            show qJ YX6_gatherPool κ _ (qLy u, (q_up M6 68 ((M6 56 10).toNat) w), y) 0 0 51 [some (qR 56), some (qR 2), some (qI (gHz m)), some (qI (nW m : Int)), some (qI w), none] []
            refine qJ.run hκ 7 (pc' := 65) (ls' := [some (qR 56), some (qR 2), some (qI (gHz m)), some (qI (nW m : Int)), some (qI w), none]) (st' := [qI w, qR 4, qI (M6 56 10), qR 70]) rfl ?_
            refine qJ.ald hκ rfl rfl rfl (by decide) (by omega) ?_
            show qJ YX6_gatherPool κ _ (qLy u, (q_up M6 68 ((M6 56 10).toNat) w), y) 0 0 66 [some (qR 56), some (qR 2), some (qI (gHz m)), some (qI (nW m : Int)), some (qI w), none] [qI (M6 4 w.toNat), qI (M6 56 10), qR 70]
            refine qJ.ast hκ rfl rfl rfl (by decide) (by omega) ?_
            show qJ YX6_gatherPool κ _ (qLy u, (q_up (q_up M6 68 ((M6 56 10).toNat) w) 70 ((M6 56 10).toNat) (M6 4 w.toNat)), y) 0 0 67 [some (qR 56), some (qR 2), some (qI (gHz m)), some (qI (nW m : Int)), some (qI w), none] []
            refine qJ.run hκ 2 (pc' := 70) (ls' := [some (qR 56), some (qR 2), some (qI (gHz m)), some (qI (nW m : Int)), some (qI w), some (qI 0)]) (st' := []) rfl ?_
            exact L70 6 0 (q_up (q_up M6 68 ((M6 56 10).toNat) w) 70 ((M6 56 10).toNat) (M6 4 w.toNat)) (by omega) (Eq.trans (keep_up (by rfl)) (Eq.trans (keep_up (by rfl)) v14_1)) (rfl) (fun x hx h8 => by
          have lt := q_cnt_lt (p := cwP m) h8 hx
          have a := v14_3 x hx h8
          refine ⟨?_, ?_, a.2.2⟩
          · show q_up M6 68 (M6 56 10).toNat w 68 _ = _
            rw [up_o (by omega)]; exact a.1
          · show q_up (q_up M6 68 (M6 56 10).toNat w) 70 (M6 56 10).toNat (M6 4 w.toNat) 70 _ = _
            rw [up_o (by omega)]; exact a.2.1) (⟨by show q_up M6 68 (M6 56 10).toNat w 68 _ = _; exact q_up_eq, by show q_up (q_up M6 68 (M6 56 10).toNat w) 70 (M6 56 10).toNat (M6 4 w.toNat) 70 _ = _; rw [q_up_eq, show M6 4 = M 4 from congrFun v14_1 4, k4], fun j hj => by omega⟩) (⟨e8.symm.trans c37, by omega, by omega, by omega⟩) (by omega)
  show qJ YX6_gatherPool κ _ (qLy u, M, y) 0 0 0 [some (qR 56), some (qR 2), some (qI (gHz m)), none, none, none] []
  refine qJ.run hκ 2 (pc' := 2) (ls' := [some (qR 56), some (qR 2), some (qI (gHz m)), none, none, none]) (st' := [qI 0, qR 56]) rfl ?_
  refine qJ.putI hκ rfl rfl rfl rfl (Or.inl rfl) ?_
  show qJ YX6_gatherPool κ _ (qLy u, (q_up M 56 10 0), y) 0 0 5 [some (qR 56), some (qR 2), some (qI (gHz m)), none, none, none] []
  refine qJ.run hκ 2 (pc' := 7) (ls' := [some (qR 56), some (qR 2), some (qI (gHz m)), none, none, none]) (st' := [qI (gHz m), qR 2]) rfl ?_
  refine qJ.callV (As := [qI (gHz m)]) (rest := []) hκ rfl kX6_108 (c_seenWords u (q_up M 56 10 0) y (gHz m) (show 0 ≤ M 2 0 ∧ M 2 0 ≤ 60 from by rw [k2]; omega) (by omega) (fun k k0 k1 => by show qr (M 7 k.toNat); rw [k7]; have := (hR.2.2.1 k k0 (by have : k < M 2 0 := k1; rw [k2] at this; exact this)).2.1.2.1; have := hR.1.2.1.1; omega)) rfl rfl (by decide) rfl rfl (Nat.le_of_ble_eq_true rfl) (Nat.le_of_ble_eq_true rfl) (Nat.le_of_ble_eq_true rfl) (Or.inl (fun r h' e => by obtain ⟨rfl, rfl⟩ := e; rfl)) (fun r h' e => ?_)
  obtain ⟨rfl, rfl⟩ := e
  rw [show ((q_pfx ((q_up M 56 10 0) 7) (gHz m) ((q_up M 56 10 0) 2 0).toNat : Nat) : Int) = (nW m : Int) from by show ((q_pfx (M 7) (gHz m) (M 2 0).toNat : Nat) : Int) = _; rw [k7, k2]; rfl]
  show qJ YX6_gatherPool κ _ (qLy u, (q_up M 56 10 0), y) 0 0 10 [some (qR 56), some (qR 2), some (qI (gHz m)), none, none, none] [qI (nW m : Int)]
  refine qJ.run hκ 3 (pc' := 14) (ls' := [some (qR 56), some (qR 2), some (qI (gHz m)), some (qI (nW m : Int)), some (qI 0), none]) (st' := []) rfl ?_
  exact L14 61 0 (q_up M 56 10 0) (by omega) (keep_up (by rfl)) (rfl) (fun x hx => absurd hx (Nat.not_lt_zero x)) (by omega)

theorem SP_M {m M M' : qM} {a : Int} (h5 : M' 55 = M 55) (h4 : M' 54 = M 54) (h : SP m M a) : SP m M' a := by
  unfold SP at h ⊢
  rw [h5, h4]
  exact h
theorem spl_i {m : qM} {a : Int} (h0 : 0 ≤ a) : (0 < (if a < (nN m : Int) then (if 5 < vL m a then 0 else (vL m a : Int)) else 0) ↔ spA m a.toNat) ∧ (spA m a.toNat → (if a < (nN m : Int) then (if 5 < vL m a then 0 else (vL m a : Int)) else 0) = (vL m a : Int)) ∧ (0 ≤ (if a < (nN m : Int) then (if 5 < vL m a then 0 else (vL m a : Int)) else 0) ∧ (if a < (nN m : Int) then (if 5 < vL m a then 0 else (vL m a : Int)) else 0) ≤ 5) := by
  unfold spA
  rw [q_tn h0]
  by_cases c : a < (nN m : Int)
  · rw [if_pos c]
    by_cases d : 5 < vL m a
    · rw [if_pos d]; refine ⟨⟨fun z => by omega, fun z => by omega⟩, fun z => by omega, by omega⟩
    · rw [if_neg d]; refine ⟨⟨fun z => by omega, fun z => by omega⟩, fun z => rfl, by omega⟩
  · rw [if_neg c]; refine ⟨⟨fun z => by omega, fun z => by omega⟩, fun z => by omega, by omega⟩

set_option maxRecDepth 100000 in
theorem c_gNames (u : qU) (m M y : qM) (hX : rXn m) (hn : M 53 2 = (nN m : Int)) (hS : ∀ a : Int, 0 ≤ a → a < (nN m : Int) → SP m M a) : qCt YX6_gatherNames 3 0 0 [qR 56, qR 53] (qLy u, M, y) (fun r h => r = none ∧ ∃ M', h = (qLy u, M', y) ∧ keep (kN kSn) M' = keep (kN kSn) M ∧ M' 56 14 = (nS m : Int) ∧ snS m M' 5) := by
  refine qCt.intro okX6_gatherNames (Nat.le_of_ble_eq_true rfl) (fun κ hκ => ?_)
  have nl := nN_le hX
  have n5 := hX.1.1
  have L7 : ∀ (n : Nat) (a : Int) (M6 : qM), (0 ≤ a ∧ a ≤ 5) → (keep (kN kSn) M6 = keep (kN kSn) M) → (M6 56 14 = (q_cnt (spA m) a.toNat : Nat)) → (snS m M6 a.toNat) → ((5 - a).toNat) < n → qJ YX6_gatherNames κ (qFin (fun r h => r = none ∧ ∃ M', h = (qLy u, M', y) ∧ keep (kN kSn) M' = keep (kN kSn) M ∧ M' 56 14 = (nS m : Int) ∧ snS m M' 5) 0 0 κ) (qLy u, M6, y) 0 0 7 [some (qR 56), some (qR 53), some (qI a), none, none] [] := by
    intro n
    induction n with
    | zero => intro a M6 _ _ _ _ hz0; omega
    | succ n ih7 =>
      intro a M6 v7_0 v7_1 v7_2 v7_3 v7_m
      have L45 : ∀ (n : Nat) (k : Int) (len : Int) (M5 : qM), (0 ≤ k ∧ k ≤ len) → (keep (kN kSn) M5 = keep (kN kSn) M) → (M5 56 14 = M6 56 14) → (snS m M5 a.toNat) → (M5 71 (M6 56 14).toNat = a ∧ M5 73 (M6 56 14).toNat = len ∧ ∀ j : Nat, (j : Int) < k → M5 72 ((M6 56 14).toNat * 5 + j) = sv m a (j : Int)) → (spA m a.toNat ∧ len = (vL m a : Int) ∧ (0 ≤ M6 56 14 ∧ M6 56 14 < 5) ∧ len ≤ 5 ∧ a < 5) → ((len - k).toNat) < n → qJ YX6_gatherNames κ (qFin (fun r h => r = none ∧ ∃ M', h = (qLy u, M', y) ∧ keep (kN kSn) M' = keep (kN kSn) M ∧ M' 56 14 = (nS m : Int) ∧ snS m M' 5) 0 0 κ) (qLy u, M5, y) 0 0 45 [some (qR 56), some (qR 53), some (qI a), some (qI len), some (qI k)] [] := by
        intro n
        induction n with
        | zero => intro k len M5 _ _ _ _ _ _ hz0; omega
        | succ n ih45 =>
          intro k len M5 v45_0 v45_1 v45_2 v45_3 v45_4 v45_5 v45_m
          refine qJ.run hκ 2 (pc' := 48) (ls' := [some (qR 56), some (qR 53), some (qI a), some (qI len), some (qI k)]) (st' := [qI len, qI k]) rfl ?_
          refine qJ.icmp_ge hκ (tgt := 78) rfl rfl (by omega) (by omega) (fun c48 => ?_) (fun c48 => ?_)
          · show qJ YX6_gatherNames κ _ (qLy u, M5, y) 0 0 78 [some (qR 56), some (qR 53), some (qI a), some (qI len), some (qI k)] []
            refine qJ.run hκ 5 (pc' := 85) (ls' := [some (qR 56), some (qR 53), some (qI a), some (qI len), some (qI k)]) (st' := [qI ((M5 56 14) + 1), qR 56]) rfl ?_
            refine qJ.putI hκ rfl rfl rfl rfl (Or.inl rfl) ?_
            show qJ YX6_gatherNames κ _ (qLy u, (q_up M5 56 14 ((M5 56 14) + 1)), y) 0 0 88 [some (qR 56), some (qR 53), some (qI a), some (qI len), some (qI k)] []
            refine qJ.run hκ 2 (pc' := 7) (ls' := [some (qR 56), some (qR 53), some (qI (a + 1)), some (qI len), some (qI k)]) (st' := []) rfl ?_
            refine qJ.dl [true, true, true, false, false] ?_
            show qJ YX6_gatherNames κ _ (qLy u, (q_up M5 56 14 ((M5 56 14) + 1)), y) 0 0 7 [some (qR 56), some (qR 53), some (qI (a + 1)), none, none] []
            exact ih7  (a + 1) (q_up M5 56 14 ((M5 56 14) + 1)) (by omega) (Eq.trans (keep_up (by rfl)) v45_1) (by show M5 56 14 + 1 = _; rw [q_cnt_s v7_0.1, if_pos v45_5.1, v45_2, v7_2]; omega) (fun x hx h8 => by
          by_cases e : x = a.toNat
          · rw [e]
            have cc : q_cnt (spA m) a.toNat = (M6 56 14).toNat := by omega
            have at1 : ((a.toNat : Nat) : Int) = a := q_tn v7_0.1
            rw [at1]
            refine ⟨?_, ?_, fun k hk => ?_⟩
            · show M5 71 _ = _; rw [cc]; exact v45_4.1
            · show M5 73 _ = _; rw [cc, v45_4.2.1]; exact v45_5.2.1
            · show M5 72 _ = _; rw [cc]; exact v45_4.2.2 k (by have := v45_5.2.1; omega)
          · exact v45_3 x (by omega) h8) (by omega)
          · show qJ YX6_gatherNames κ _ (qLy u, M5, y) 0 0 51 [some (qR 56), some (qR 53), some (qI a), some (qI len), some (qI k)] []
            refine qJ.run hκ 11 (pc' := 68) (ls' := [some (qR 56), some (qR 53), some (qI a), some (qI len), some (qI k)]) (st' := [qI k, qI a, qR 53, qI (((M5 56 14) * 5) + k), qR 72]) rfl ?_
            refine qJ.callV (As := [qI a, qI k]) (rest := [qI (((M5 56 14) * 5) + k), qR 72]) hκ rfl kX6_128 (c_valueAt u M5 y a k (by omega)) rfl rfl (by decide) rfl rfl (Nat.le_of_ble_eq_true rfl) (Nat.le_of_ble_eq_true rfl) (Nat.le_of_ble_eq_true rfl) (Or.inl (fun r h' e => by obtain ⟨rfl, rfl⟩ := e; rfl)) (fun r h' e => ?_)
            obtain ⟨rfl, rfl⟩ := e
            show qJ YX6_gatherNames κ _ (qLy u, M5, y) 0 0 71 [some (qR 56), some (qR 53), some (qI a), some (qI len), some (qI k)] [qI (M5 54 (a * 10 + k).toNat), qI (((M5 56 14) * 5) + k), qR 72]
            refine qJ.ast hκ rfl rfl rfl (by decide) (by omega) ?_
            show qJ YX6_gatherNames κ _ (qLy u, (q_up M5 72 ((((M5 56 14) * 5) + k).toNat) (M5 54 (a * 10 + k).toNat)), y) 0 0 72 [some (qR 56), some (qR 53), some (qI a), some (qI len), some (qI k)] []
            refine qJ.run hκ 2 (pc' := 45) (ls' := [some (qR 56), some (qR 53), some (qI a), some (qI len), some (qI (k + 1))]) (st' := []) rfl ?_
            exact ih45  (k + 1) len (q_up M5 72 ((((M5 56 14) * 5) + k).toNat) (M5 54 (a * 10 + k).toNat)) (by omega) (Eq.trans (keep_up (by rfl)) v45_1) (v45_2) (fun x hx h8 => by
          have lt := q_cnt_lt (p := spA m) h8 hx
          have b := v45_3 x hx h8
          refine ⟨b.1, b.2.1, fun j hj => ?_⟩
          have vl := h8.2.2
          rw [up_o (by omega)]; exact b.2.2 j hj) (⟨v45_4.1, v45_4.2.1, fun j hj => by
          by_cases e : (j : Int) = k
          · rw [show (M6 56 14).toNat * 5 + j = (M5 56 14 * 5 + k).toNat by omega, q_up_eq, e]
            show M5 54 _ = _
            rw [show M5 54 = M 54 from congrFun v45_1 54]
            have sp := v45_5.1.1
            rw [q_tn v7_0.1] at sp
            exact SP_sv (hS a v7_0.1 sp).2 v45_0.1 (by omega)
          · rw [up_o (by omega)]; exact v45_4.2.2 j (by omega)⟩) (v45_5) (by omega)
      have cl := q_cnt_le (spA m) a.toNat
      refine qJ.run hκ 2 (pc' := 9) (ls' := [some (qR 56), some (qR 53), some (qI a), none, none]) (st' := [qI 5, qI a]) rfl ?_
      refine qJ.icmp_ge hκ (tgt := 94) rfl rfl (by omega) (by omega) (fun c9 => ?_) (fun c9 => ?_)
      · show qJ YX6_gatherNames κ _ (qLy u, M6, y) 0 0 94 [some (qR 56), some (qR 53), some (qI a), none, none] []
        exact qJ.vret hκ rfl rfl (by decide) (by decide) (by rw [show a.toNat = 5 by omega] at v7_2 v7_3; exact ⟨rfl, M6, rfl, v7_1, v7_2, v7_3⟩)
      · show qJ YX6_gatherNames κ _ (qLy u, M6, y) 0 0 12 [some (qR 56), some (qR 53), some (qI a), none, none] []
        refine qJ.run hκ 2 (pc' := 14) (ls' := [some (qR 56), some (qR 53), some (qI a), none, none]) (st' := [qI a, qR 53]) rfl ?_
        refine qJ.callV (As := [qI a]) (rest := []) hκ rfl kX6_123 (c_spl u m M6 y a (show M6 53 2 = _ from (congrFun (congrFun v7_1 53) 2).trans hn) (by omega) (fun b b0 b1 => SP_M (show M6 55 = M 55 from congrFun v7_1 55) (show M6 54 = M 54 from congrFun v7_1 54) (hS b b0 b1)) (by omega) (fun b1 => (hX.2.1 a v7_0.1 (by omega)).2.1.2)) rfl rfl (by decide) rfl rfl (Nat.le_of_ble_eq_true rfl) (Nat.le_of_ble_eq_true rfl) (Nat.le_of_ble_eq_true rfl) (Or.inl (fun r h' e => by obtain ⟨rfl, rfl⟩ := e; rfl)) (fun r h' e => ?_)
        obtain ⟨rfl, rfl⟩ := e
        show qJ YX6_gatherNames κ _ (qLy u, M6, y) 0 0 17 [some (qR 56), some (qR 53), some (qI a), none, none] [qI (if a < (nN m : Int) then (if 5 < vL m a then 0 else (vL m a : Int)) else 0)]
        refine qJ.run hκ 1 (pc' := 18) (ls' := [some (qR 56), some (qR 53), some (qI a), some (qI (if a < (nN m : Int) then (if 5 < vL m a then 0 else (vL m a : Int)) else 0)), none]) (st' := []) rfl ?_
        have li := spl_i (m := m) (a := a) v7_0.1
        generalize hlen : (if a < (nN m : Int) then (if 5 < vL m a then 0 else (vL m a : Int)) else 0) = len at li ⊢
        show qJ YX6_gatherNames κ _ (qLy u, M6, y) 0 0 18 [some (qR 56), some (qR 53), some (qI a), some (qI len), none] []
        refine qJ.run hκ 1 (pc' := 19) (ls' := [some (qR 56), some (qR 53), some (qI a), some (qI len), none]) (st' := [qI len]) rfl ?_
        refine qJ.if_le hκ (tgt := 88) rfl rfl (by omega) (fun c19 => ?_) (fun c19 => ?_)
        · show qJ YX6_gatherNames κ _ (qLy u, M6, y) 0 0 88 [some (qR 56), some (qR 53), some (qI a), some (qI len), none] []
          refine qJ.run hκ 2 (pc' := 7) (ls' := [some (qR 56), some (qR 53), some (qI (a + 1)), some (qI len), none]) (st' := []) rfl ?_
          refine qJ.dl [true, true, true, false, false] ?_
          show qJ YX6_gatherNames κ _ (qLy u, M6, y) 0 0 7 [some (qR 56), some (qR 53), some (qI (a + 1)), none, none] []
          exact ih7  (a + 1) M6 (by omega) (v7_1) (by rw [q_cnt_s v7_0.1, if_neg (fun z => by have := li.1.mpr z; omega)]; exact v7_2) (fun x hx h8 => by
          by_cases e : x = a.toNat
          · rw [e] at h8; have := li.1.mpr h8; omega
          · exact v7_3 x (by omega) h8) (by omega)
        · show qJ YX6_gatherNames κ _ (qLy u, M6, y) 0 0 22 [some (qR 56), some (qR 53), some (qI a), some (qI len), none] []
          refine qJ.run hκ 5 (pc' := 31) (ls' := [some (qR 56), some (qR 53), some (qI a), some (qI len), none]) (st' := [qI a, qI (M6 56 14), qR 71]) rfl ?_
          refine qJ.ast hκ rfl rfl rfl (by decide) (by omega) ?_
          show qJ YX6_gatherNames κ _ (qLy u, (q_up M6 71 ((M6 56 14).toNat) a), y) 0 0 32 [some (qR 56), some (qR 53), some (qI a), some (qI len), none] []
          refine qJ.run hκ 5 (pc' := 41) (ls' := [some (qR 56), some (qR 53), some (qI a), some (qI len), none]) (st' := [qI len, qI (M6 56 14), qR 73]) rfl ?_
          refine qJ.ast hκ rfl rfl rfl (by decide) (by omega) ?_
          show qJ YX6_gatherNames κ _ (qLy u, (q_up (q_up M6 71 ((M6 56 14).toNat) a) 73 ((M6 56 14).toNat) len), y) 0 0 42 [some (qR 56), some (qR 53), some (qI a), some (qI len), none] []
          refine qJ.run hκ 2 (pc' := 45) (ls' := [some (qR 56), some (qR 53), some (qI a), some (qI len), some (qI 0)]) (st' := []) rfl ?_
          exact L45 6 0 len (q_up (q_up M6 71 ((M6 56 14).toNat) a) 73 ((M6 56 14).toNat) len) (by omega) (Eq.trans (keep_up (by rfl)) (Eq.trans (keep_up (by rfl)) v7_1)) (rfl) (fun x hx h8 => by
          have lt := q_cnt_lt (p := spA m) h8 hx
          have b := v7_3 x hx h8
          refine ⟨?_, ?_, b.2.2⟩
          · show q_up M6 71 (M6 56 14).toNat a 71 _ = _
            rw [up_o (by omega)]; exact b.1
          · show q_up (q_up M6 71 (M6 56 14).toNat a) 73 (M6 56 14).toNat len 73 _ = _
            rw [up_o (by omega)]; exact b.2.1) (⟨by show q_up M6 71 (M6 56 14).toNat a 71 _ = _; exact q_up_eq, by show q_up (q_up M6 71 (M6 56 14).toNat a) 73 (M6 56 14).toNat len 73 _ = _; exact q_up_eq, fun j hj => by omega⟩) (⟨li.1.mp (by omega), li.2.1 (li.1.mp (by omega)), by omega, by omega, by omega⟩) (by omega)
  show qJ YX6_gatherNames κ _ (qLy u, M, y) 0 0 0 [some (qR 56), some (qR 53), none, none, none] []
  refine qJ.run hκ 2 (pc' := 2) (ls' := [some (qR 56), some (qR 53), none, none, none]) (st' := [qI 0, qR 56]) rfl ?_
  refine qJ.putI hκ rfl rfl rfl rfl (Or.inl rfl) ?_
  show qJ YX6_gatherNames κ _ (qLy u, (q_up M 56 14 0), y) 0 0 5 [some (qR 56), some (qR 53), none, none, none] []
  refine qJ.run hκ 2 (pc' := 7) (ls' := [some (qR 56), some (qR 53), some (qI 0), none, none]) (st' := []) rfl ?_
  exact L7 6 0 (q_up M 56 14 0) (by omega) (keep_up (by rfl)) (rfl) (fun x hx => absurd hx (Nat.not_lt_zero x)) (by omega)

/-! printed by p98.py: the model starts its readings -/
def kFp : Nat → Nat → Bool := fun i j => decide ((108 ≤ i ∧ i ≤ 111) ∨ (i = 77 ∧ (j = 35 ∨ j = 36)))
def kSt : Nat → Nat → Bool := fun i _ => decide (i = 77 ∨ (107 ≤ i ∧ i ≤ 122))
theorem kObSt : ∀ i j, kObs i j = true → kN kSt i j = true := by
  intro i j h
  refine kN_t.mpr fun z => ?_
  unfold kObs at h
  unfold kSt at z
  rw [decide_eq_true_eq] at h z
  omega
theorem kStF : ∀ i j, kN kSt i j = true → kN kFp i j = true := by
  intro i j h
  refine kN_t.mpr fun z => kN_t.mp h ?_
  unfold kFp at z
  unfold kSt
  rw [decide_eq_true_eq] at z ⊢
  omega
theorem rXn_o {m m' : qM} (h : keep kObs m' = keep kObs m) (hX : rXn m) : rXn m' := by
  have h2 : rXn (keep kObs m) := hX
  rw [← h] at h2
  exact h2
theorem rXl_o {m m' : qM} (h : keep kObs m' = keep kObs m) (hX : rXl m) : rXl m' := by
  have h2 : rXl (keep kObs m) := hX
  rw [← h] at h2
  exact h2
theorem vL_o {m m' : qM} (h : keep kObs m' = keep kObs m) (a : Int) : vL m' a = vL m a := by
  have e : m' 17 = m 17 := congrFun h 17
  unfold vL vN
  rw [pV_o h, e]
theorem SPv_o {m m' : qM} (h : keep kObs m' = keep kObs m) {f : Nat → Int} {a k : Int} (hs : SPv m' f a k) : SPv m f a k := by
  unfold SPv vN at hs ⊢
  rw [pV_o h] at hs
  exact hs
theorem SPv_lt {m : qM} {f f0 : Nat → Int} {a x : Int} (hf : ∀ j : Nat, (j : Int) < a * 10 → f j = f0 j) (hx : 0 ≤ x ∧ x < a) (hl : m 17 x.toNat ≤ 10) (hs : SPv m f0 x (m 17 x.toNat)) : SPv m f x (m 17 x.toNat) := by
  intro j j0 j1 j2
  have := vN_le m x j.toNat
  rw [hf _ (by omega)]
  exact hs j j0 j1 j2
theorem q_cnt_ex2 {p : Nat → Prop} [DecidablePred p] {a : Nat} : ∀ b, a ≤ b → (∀ k, a ≤ k → k < b → ¬ p k) → q_cnt p b = q_cnt p a
  | 0, h, _ => by rw [show a = 0 by omega]
  | b + 1, h, hn => by
    by_cases e : a = b + 1
    · rw [e]
    · rw [← q_cnt_ex2 b (by omega) (fun k h1 h2 => hn k h1 (by omega))]
      show q_cnt p b + (if p b then 1 else 0) = _
      rw [if_neg (hn b (by omega) (by omega))]; omega
/-- names and their values in the model's rows -/
def stN (m M : qM) : Prop := M 77 54 = (nS m : Int) ∧ (∀ e : Nat, e < nS m → M 119 e = sN m e) ∧ ∀ e : Nat, e < nS m → M 118 (sN m e).toNat = (vL m (sN m e) : Int) ∧ ∀ k : Int, 0 ≤ k → k < (vL m (sN m e) : Int) → M 117 (10 * sN m e + k).toNat = sv m (sN m e) k
theorem stN_of {m M : qM} (h54 : M 77 54 = (nS m : Int)) (h3 : ∀ x : Nat, x < 5 → spA m x → M 119 (q_cnt (spA m) x) = (x : Int)) (h4 : ∀ x : Nat, x < 5 → (x : Int) < (nN m : Int) → M 118 x = (vL m (x : Int) : Int) ∧ SPv m (M 117) (x : Int) (m 17 x)) : stN m M := by
  refine ⟨h54, fun e he => ?_, fun e he => ?_⟩
  · have a := sN_at he
    have b := h3 (sN m e).toNat a.2.1 a.2.2.1
    rw [a.2.2.2, q_tn a.1] at b
    exact b
  · have a := sN_at he
    have b := h4 (sN m e).toNat a.2.1 a.2.2.1.1
    rw [q_tn a.1] at b
    refine ⟨b.1, fun k k0 k1 => ?_⟩
    have := SP_sv (m := m) (a := sN m e) b.2 k0 k1
    rw [show (10 * sN m e + k).toNat = (sN m e * 10 + k).toNat by omega]
    exact this
theorem stN_k {m M M' : qM} (h : M' 77 54 = M 77 54 ∧ M' 119 = M 119 ∧ M' 118 = M 118 ∧ M' 117 = M 117) (hs : stN m M) : stN m M' := by
  unfold stN at hs ⊢
  rw [h.1, h.2.1, h.2.2.1, h.2.2.2]
  exact hs

set_option maxRecDepth 100000 in
theorem m_findPlain2 (u : qU) (m y : qM) (n0 : Nat) (t0 : Int) (hR : rC m) (h1 : (n0 : Int) = t0 + 1 ∧ (n0 : Int) ≤ m 2 2) : qCt YX12_findPlainGrid 4 0 0 [qR 77, qI t0] (qLy u, m, y) (fun r h => r = none ∧ ∃ m', h = (qLy u, m', y) ∧ keep (kN kFp) m' = keep (kN kFp) m ∧ gdI m (-1) (-1) n0 (m' 110) (m' 111)) := by
  refine qCt.intro okX12_findPlainGrid (Nat.le_of_ble_eq_true rfl) (fun κ hκ => ?_)
  show qJ YX12_findPlainGrid κ _ (qLy u, m, y) 0 0 0 [some (qR 77), some (qI t0)] []
  refine qJ.run hκ 2 (pc' := 2) (ls' := [some (qR 77), some (qI t0)]) (st' := [qI (-1), qR 77]) rfl ?_
  refine qJ.putI hκ rfl rfl rfl rfl (Or.inl rfl) ?_
  show qJ YX12_findPlainGrid κ _ (qLy u, (q_up m 77 35 (-1)), y) 0 0 5 [some (qR 77), some (qI t0)] []
  refine qJ.run hκ 2 (pc' := 7) (ls' := [some (qR 77), some (qI t0)]) (st' := [qI (-1), qR 77]) rfl ?_
  refine qJ.putI hκ rfl rfl rfl rfl (Or.inl rfl) ?_
  show qJ YX12_findPlainGrid κ _ (qLy u, (q_up (q_up m 77 35 (-1)) 77 36 (-1)), y) 0 0 10 [some (qR 77), some (qI t0)] []
  refine qJ.run hκ 2 (pc' := 12) (ls' := [some (qR 77), some (qI t0)]) (st' := [qI t0, qR 77]) rfl ?_
  refine qJ.callV (As := [qI t0]) (rest := []) hκ rfl kX12_211 (c_findGrid u (q_up (q_up m 77 35 (-1)) 77 36 (-1)) y (-1) (-1) n0 t0 (show rC (q_up (q_up m 77 35 (-1)) 77 36 (-1)) from hR) ⟨rfl, rfl⟩ (Or.inl ⟨rfl, rfl⟩) h1) rfl rfl (by decide) rfl rfl (Nat.le_of_ble_eq_true rfl) (Nat.le_of_ble_eq_true rfl) (Nat.le_of_ble_eq_true rfl) (Or.inl (fun r h' e => by obtain ⟨rfl, a, b, f, c, rfl, hgd⟩ := e; rfl)) (fun r h' e => ?_)
  obtain ⟨rfl, a, b, f, c, rfl, hgd⟩ := e
  show qJ YX12_findPlainGrid κ _ (qLy u, (q_row (q_row (q_row (q_row (q_up (q_up m 77 35 (-1)) 77 36 (-1)) 108 a) 109 b) 110 f) 111 c), y) 0 0 15 [some (qR 77), some (qI t0)] []
  exact qJ.vret hκ rfl rfl (by decide) (by decide) (⟨rfl, _, rfl, (Eq.trans (keep_row (by intro j; rfl)) (Eq.trans (keep_row (by intro j; rfl)) (Eq.trans (keep_row (by intro j; rfl)) (Eq.trans (keep_row (by intro j; rfl)) (Eq.trans (keep_up (by rfl)) (Eq.trans (keep_up (by rfl)) rfl)))))), gdI_c (m := (q_up (q_up m 77 35 (-1)) 77 36 (-1))) rfl rfl rfl rfl rfl hgd⟩)

set_option maxRecDepth 100000 in
theorem m_startR (u : qU) (m M y : qM) (hR : rC m) (hX : rXn m) (hl : rXl m) (hK : keep kObs M = keep kObs m) : qCt YX12_startReadings 5 0 0 [qR 77] (qLy u, M, y) (fun r h => r = none ∧ ∃ M', h = (qLy u, M', y) ∧ keep (kN kSt) M' = keep (kN kSt) M ∧ itS m M' (RLm m) ∧ dOk (DD m)) := by
  refine qCt.intro okX12_startReadings (Nat.le_of_ble_eq_true rfl) (fun κ hκ => ?_)
  have n0 := hX.1
  have nl := nN_le hX
  have wl := nW_le hR.1
  have a20 := hR.1.1.1
  have nc := nC_le hR
  have ns := nS_le m
  have L144 : ∀ (n : Nat) (i : Int) (M6 : qM), (0 ≤ i ∧ i ≤ 5) → (keep (kN kSt) M6 = keep (kN kSt) M) → (mR m M6) → ((M6 77 60 = 0 ∧ RLm m = []) ∨ (M6 77 60 = 1 ∧ RLm m = rem (DD m) (nS m) (fun _ => -1) 0 ∧ 1 ≤ nS m)) → (∀ e : Nat, (e : Int) < i → M6 121 e = -1) → (dOk (DD m)) → ((5 - i).toNat) < n → qJ YX12_startReadings κ (qFin (fun r h => r = none ∧ ∃ M', h = (qLy u, M', y) ∧ keep (kN kSt) M' = keep (kN kSt) M ∧ itS m M' (RLm m) ∧ dOk (DD m)) 0 0 κ) (qLy u, M6, y) 0 0 144 [some (qR 77), some (qI i)] [] := by
    intro n
    induction n with
    | zero => intro i M6 _ _ _ _ _ _ hz0; omega
    | succ n ih144 =>
      intro i M6 v144_0 v144_1 v144_2 v144_3 v144_4 v144_5 v144_m
      refine qJ.run hκ 2 (pc' := 146) (ls' := [some (qR 77), some (qI i)]) (st' := [qI 5, qI i]) rfl ?_
      refine qJ.icmp_ge hκ (tgt := 162) rfl rfl (by omega) (by omega) (fun c146 => ?_) (fun c146 => ?_)
      · show qJ YX12_startReadings κ _ (qLy u, M6, y) 0 0 162 [some (qR 77), some (qI i)] []
        refine qJ.run hκ 2 (pc' := 164) (ls' := [some (qR 77), some (qI i)]) (st' := [qI 0, qR 77]) rfl ?_
        refine qJ.putI hκ rfl rfl rfl rfl (Or.inl rfl) ?_
        show qJ YX12_startReadings κ _ (qLy u, (q_up M6 77 61 0), y) 0 0 167 [some (qR 77), some (qI i)] []
        exact qJ.vret hκ rfl rfl (by decide) (by decide) (by
      refine ⟨rfl, _, rfl, Eq.trans (keep_up (by rfl)) v144_1, ⟨mR_k (keep_up (by rfl)) v144_2, ?_⟩, v144_5⟩
      rcases v144_3 with ⟨q1, q2⟩ | ⟨q1, q2, q3⟩
      · exact Or.inl ⟨q1, q2⟩
      · exact Or.inr ⟨q1, fun _ => -1, 0, fun e he => v144_4 e (by omega), ⟨Int.le_refl 0, by omega⟩, Or.inl rfl, Or.inr ⟨Int.le_refl 0, q2, ⟨Int.le_refl _, by show (-1 : Int) + 1 ≤ _; omega⟩, fun e _ => rfl, fun e he => absurd he (Nat.not_lt_zero e)⟩⟩)
      · show qJ YX12_startReadings κ _ (qLy u, M6, y) 0 0 149 [some (qR 77), some (qI i)] []
        refine qJ.run hκ 4 (pc' := 155) (ls' := [some (qR 77), some (qI i)]) (st' := [qI (-1), qI i, qR 121]) rfl ?_
        refine qJ.ast hκ rfl rfl rfl (by decide) (by omega) ?_
        show qJ YX12_startReadings κ _ (qLy u, (q_up M6 121 i.toNat (-1)), y) 0 0 156 [some (qR 77), some (qI i)] []
        refine qJ.run hκ 2 (pc' := 144) (ls' := [some (qR 77), some (qI (i + 1))]) (st' := []) rfl ?_
        exact ih144  (i + 1) (q_up M6 121 i.toNat (-1)) (by omega) (Eq.trans (keep_up (by rfl)) v144_1) (mR_k (keep_up (by rfl)) v144_2) (v144_3) (fun e he => by
        by_cases q : e = i.toNat
        · rw [q, q_up_eq]
        · rw [up_o q]; exact v144_4 e (by omega)) (v144_5) (by omega)
  have L58 : ∀ (n : Nat) (w : Int) (M6 : qM), (0 ≤ w ∧ w ≤ m 2 0) → (keep (kN kSt) M6 = keep (kN kSt) M) → (M6 77 56 = (q_cnt (cwP m) (min w.toNat (nW m)) : Nat)) → (∀ x : Nat, x < min w.toNat (nW m) → m 8 x = 1 → M6 120 (q_cnt (cwP m) x) = (x : Int)) → (stN m M6) → ((m 2 0 - w).toNat) < n → qJ YX12_startReadings κ (qFin (fun r h => r = none ∧ ∃ M', h = (qLy u, M', y) ∧ keep (kN kSt) M' = keep (kN kSt) M ∧ itS m M' (RLm m) ∧ dOk (DD m)) 0 0 κ) (qLy u, M6, y) 0 0 58 [some (qR 77), some (qI w)] [] := by
    intro n
    induction n with
    | zero => intro w M6 _ _ _ _ _ hz0; omega
    | succ n ih58 =>
      intro w M6 v58_0 v58_1 v58_2 v58_3 v58_4 v58_m
      have O6 := ((keep_of kObSt v58_1).trans hK)
      have k85 : M6 85 0 = m 2 0 := (congrFun (congrFun O6 85) 0).trans hR.1.2.2.1.1
      have cl := q_cnt_le (cwP m) (min w.toNat (nW m))
      have cm := q_cnt_mono (cwP m) (a := min w.toNat (nW m)) (nW m) (by omega)
      have nc2 := nc.1
      unfold nC at nc2
      refine qJ.run hκ 4 (pc' := 64) (ls' := [some (qR 77), some (qI w)]) (st' := [qI 0, qR 85, qI w]) rfl ?_
      refine qJ.ald hκ rfl rfl rfl (by decide) (by omega) ?_
      show qJ YX12_startReadings κ _ (qLy u, M6, y) 0 0 65 [some (qR 77), some (qI w)] [qI (M6 85 0), qI w]
      refine qJ.icmp_ge hκ (tgt := 111) rfl rfl (by omega) (by omega) (fun c65 => ?_) (fun c65 => ?_)
      · show qJ YX12_startReadings κ _ (qLy u, M6, y) 0 0 111 [some (qR 77), some (qI w)] []
        refine qJ.run hκ 2 (pc' := 113) (ls' := [some (qR 77), some (qI w)]) (st' := [qR 77, qR 77]) rfl ?_
        refine qJ.callV (As := []) (rest := [qR 77]) hκ rfl kX12_183 (c_latest u M6 y (rC_o O6 hR)) rfl rfl (by decide) rfl rfl (Nat.le_of_ble_eq_true rfl) (Nat.le_of_ble_eq_true rfl) (Nat.le_of_ble_eq_true rfl) (Or.inl (fun r h' e => by obtain ⟨rfl, rfl⟩ := e; rfl)) (fun r h' e => ?_)
        obtain ⟨rfl, rfl⟩ := e
        show qJ YX12_startReadings κ _ (qLy u, M6, y) 0 0 116 [some (qR 77), some (qI w)] [qI ((nT M6 : Int) - 1), qR 77]
        refine qJ.callV (As := [qI ((nT M6 : Int) - 1)]) (rest := []) hκ rfl kX12_214 (m_findPlain2 u M6 y (nT M6) ((nT M6 : Int) - 1) (rC_o O6 hR) ⟨by omega, nT_le (rC_o O6 hR).1⟩) rfl rfl (by decide) rfl rfl (Nat.le_of_ble_eq_true rfl) (Nat.le_of_ble_eq_true rfl) (Nat.le_of_ble_eq_true rfl) (Or.inl (fun r h' e => by obtain ⟨rfl, m7, rfl, K7, G7⟩ := e; rfl)) (fun r h' e => ?_)
        obtain ⟨rfl, m7, rfl, K7, G7⟩ := e
        have G8 : gdI m (-1) (-1) (nT m) (m7 110) (m7 111) := by rw [← nT_o O6]; exact gdI_o O6 G7
        show qJ YX12_startReadings κ _ (qLy u, m7, y) 0 0 119 [some (qR 77), some (qI w)] []
        have k54 : m7 77 54 = (nS m : Int) := (congrFun (congrFun K7 77) 54).trans v58_4.1
        have bi := gB_i G8
        have b01 : (if brk (m7 110) (m7 111) then (1 : Int) else 0) = 0 ∨ (if brk (m7 110) (m7 111) then (1 : Int) else 0) = 1 := by split; (right; rfl); (left; rfl)
        refine qJ.run hκ 3 (pc' := 124) (ls' := [some (qR 77), some (qI w)]) (st' := [qI (m7 77 54), qR 77]) rfl ?_
        refine qJ.if_le hκ (tgt := 138) rfl rfl (by omega) (fun c124 => ?_) (fun c124 => ?_)
        · show qJ YX12_startReadings κ _ (qLy u, m7, y) 0 0 138 [some (qR 77), some (qI w)] [qR 77]
          have RE : RLm m = [] := by unfold RLm; rw [if_pos (Or.inr (by omega))]
          refine qJ.run hκ 1 (pc' := 139) (ls' := [some (qR 77), some (qI w)]) (st' := [qI 0, qR 77]) rfl ?_
          refine qJ.putI hκ rfl rfl rfl rfl (Or.inr ⟨rfl, by omega⟩) ?_
          show qJ YX12_startReadings κ _ (qLy u, (q_up m7 77 60 0), y) 0 0 142 [some (qR 77), some (qI w)] []
          refine qJ.run hκ 2 (pc' := 144) (ls' := [some (qR 77), some (qI 0)]) (st' := []) rfl ?_
          exact L144 6 0 (q_up m7 77 60 0) (by omega) (Eq.trans (keep_up (by rfl)) ((keep_of kStF K7).trans v58_1)) (by
      refine ⟨(keep_of kObSt (Eq.trans (keep_up (by rfl)) ((keep_of kStF K7).trans v58_1))).trans hK, ⟨(congrFun (congrFun K7 77) 54).trans v58_4.1, ?_⟩, ⟨?_, ?_⟩, ?_, ?_⟩
      · exact (show m7 77 56 = M6 77 56 from congrFun (congrFun K7 77) 56).trans (by rw [v58_2, show min w.toNat (nW m) = nW m by omega]; rfl)
      · intro e he
        exact (congrFun (congrFun K7 119) e).trans (v58_4.2.1 e he)
      · intro j hj
        have c := cW_at hj
        have := v58_3 (cW m j).toNat (by omega) c.2.2.1
        rw [c.2.2.2, q_tn c.1] at this
        exact (congrFun (congrFun K7 120) j).trans this
      · intro e he
        have v := v58_4.2.2 e he
        exact ⟨(congrFun (congrFun K7 118) _).trans v.1, fun k k0 k1 => (congrFun (congrFun K7 117) _).trans (v.2 k k0 k1)⟩
      · intro s hs2
        exact ⟨G8.2.2.1 s hs2, G8.2.2.2 s hs2⟩) (Or.inl ⟨rfl, RE⟩) (fun e he => by omega) (DD_ok hR hX (rX_lxS hl) G8) (by omega)
        · show qJ YX12_startReadings κ _ (qLy u, m7, y) 0 0 127 [some (qR 77), some (qI w)] [qR 77]
          refine qJ.run hκ 1 (pc' := 128) (ls' := [some (qR 77), some (qI w)]) (st' := [qR 77, qR 77]) rfl ?_
          refine qJ.callV (As := []) (rest := [qR 77]) hκ rfl kX12_217 (m_isBroken u m7 y G8.1 G8.2.1) rfl rfl (by decide) rfl rfl (Nat.le_of_ble_eq_true rfl) (Nat.le_of_ble_eq_true rfl) (Nat.le_of_ble_eq_true rfl) (Or.inl (fun r h' e => by obtain ⟨rfl, rfl⟩ := e; rfl)) (fun r h' e => ?_)
          obtain ⟨rfl, rfl⟩ := e
          show qJ YX12_startReadings κ _ (qLy u, m7, y) 0 0 131 [some (qR 77), some (qI w)] [qI (if brk (m7 110) (m7 111) then 1 else 0), qR 77]
          refine qJ.if_ne hκ (tgt := 138) rfl rfl (by omega) (fun c131 => ?_) (fun c131 => ?_)
          · show qJ YX12_startReadings κ _ (qLy u, m7, y) 0 0 138 [some (qR 77), some (qI w)] [qR 77]
            have RE : RLm m = [] := by unfold RLm; rw [if_pos (Or.inl (bi.mp (by by_cases z : brk (m7 110) (m7 111); exact z; rw [if_neg z] at c131; exact absurd rfl c131)))]
            refine qJ.run hκ 1 (pc' := 139) (ls' := [some (qR 77), some (qI w)]) (st' := [qI 0, qR 77]) rfl ?_
            refine qJ.putI hκ rfl rfl rfl rfl (Or.inr ⟨rfl, by omega⟩) ?_
            show qJ YX12_startReadings κ _ (qLy u, (q_up m7 77 60 0), y) 0 0 142 [some (qR 77), some (qI w)] []
            refine qJ.run hκ 2 (pc' := 144) (ls' := [some (qR 77), some (qI 0)]) (st' := []) rfl ?_
            exact L144 6 0 (q_up m7 77 60 0) (by omega) (Eq.trans (keep_up (by rfl)) ((keep_of kStF K7).trans v58_1)) (by
      refine ⟨(keep_of kObSt (Eq.trans (keep_up (by rfl)) ((keep_of kStF K7).trans v58_1))).trans hK, ⟨(congrFun (congrFun K7 77) 54).trans v58_4.1, ?_⟩, ⟨?_, ?_⟩, ?_, ?_⟩
      · exact (show m7 77 56 = M6 77 56 from congrFun (congrFun K7 77) 56).trans (by rw [v58_2, show min w.toNat (nW m) = nW m by omega]; rfl)
      · intro e he
        exact (congrFun (congrFun K7 119) e).trans (v58_4.2.1 e he)
      · intro j hj
        have c := cW_at hj
        have := v58_3 (cW m j).toNat (by omega) c.2.2.1
        rw [c.2.2.2, q_tn c.1] at this
        exact (congrFun (congrFun K7 120) j).trans this
      · intro e he
        have v := v58_4.2.2 e he
        exact ⟨(congrFun (congrFun K7 118) _).trans v.1, fun k k0 k1 => (congrFun (congrFun K7 117) _).trans (v.2 k k0 k1)⟩
      · intro s hs2
        exact ⟨G8.2.2.1 s hs2, G8.2.2.2 s hs2⟩) (Or.inl ⟨rfl, RE⟩) (fun e he => by omega) (DD_ok hR hX (rX_lxS hl) G8) (by omega)
          · show qJ YX12_startReadings κ _ (qLy u, m7, y) 0 0 134 [some (qR 77), some (qI w)] [qR 77]
            have NS1 : 1 ≤ nS m := by omega
            have RE : RLm m = rem (DD m) (nS m) (fun _ => -1) 0 := by rw [rem_0 NS1]; unfold RLm; rw [if_neg (fun z => by rcases z with z | z; (rw [if_pos (bi.mpr z)] at c131; exact absurd c131 (by decide)); (omega))]
            refine qJ.run hκ 2 (pc' := 139) (ls' := [some (qR 77), some (qI w)]) (st' := [qI 1, qR 77]) rfl ?_
            refine qJ.putI hκ rfl rfl rfl rfl (Or.inr ⟨rfl, by omega⟩) ?_
            show qJ YX12_startReadings κ _ (qLy u, (q_up m7 77 60 1), y) 0 0 142 [some (qR 77), some (qI w)] []
            refine qJ.run hκ 2 (pc' := 144) (ls' := [some (qR 77), some (qI 0)]) (st' := []) rfl ?_
            exact L144 6 0 (q_up m7 77 60 1) (by omega) (Eq.trans (keep_up (by rfl)) ((keep_of kStF K7).trans v58_1)) (by
      refine ⟨(keep_of kObSt (Eq.trans (keep_up (by rfl)) ((keep_of kStF K7).trans v58_1))).trans hK, ⟨(congrFun (congrFun K7 77) 54).trans v58_4.1, ?_⟩, ⟨?_, ?_⟩, ?_, ?_⟩
      · exact (show m7 77 56 = M6 77 56 from congrFun (congrFun K7 77) 56).trans (by rw [v58_2, show min w.toNat (nW m) = nW m by omega]; rfl)
      · intro e he
        exact (congrFun (congrFun K7 119) e).trans (v58_4.2.1 e he)
      · intro j hj
        have c := cW_at hj
        have := v58_3 (cW m j).toNat (by omega) c.2.2.1
        rw [c.2.2.2, q_tn c.1] at this
        exact (congrFun (congrFun K7 120) j).trans this
      · intro e he
        have v := v58_4.2.2 e he
        exact ⟨(congrFun (congrFun K7 118) _).trans v.1, fun k k0 k1 => (congrFun (congrFun K7 117) _).trans (v.2 k k0 k1)⟩
      · intro s hs2
        exact ⟨G8.2.2.1 s hs2, G8.2.2.2 s hs2⟩) (Or.inr ⟨rfl, RE, NS1⟩) (fun e he => by omega) (DD_ok hR hX (rX_lxS hl) G8) (by omega)
      · show qJ YX12_startReadings κ _ (qLy u, M6, y) 0 0 68 [some (qR 77), some (qI w)] []
        refine qJ.run hκ 2 (pc' := 70) (ls' := [some (qR 77), some (qI w)]) (st' := [qI w, qR 77]) rfl ?_
        refine qJ.callV (As := [qI w]) (rest := []) hκ rfl kX12_221 (m_there u M6 y w (rC_o O6 hR) (by omega)) rfl rfl (by decide) rfl rfl (Nat.le_of_ble_eq_true rfl) (Nat.le_of_ble_eq_true rfl) (Nat.le_of_ble_eq_true rfl) (Or.inl (fun r h' e => by obtain ⟨z70, rfl, hz70, rfl⟩ := e; rfl)) (fun r h' e => ?_)
        obtain ⟨z70, rfl, hz70, rfl⟩ := e
        show qJ YX12_startReadings κ _ (qLy u, M6, y) 0 0 73 [some (qR 77), some (qI w)] [qI z70]
        have nwo := nW_o O6
        have zr : z70 = 0 ∨ z70 = 1 := by omega
        refine qJ.if_eq hκ (tgt := 105) rfl rfl (by omega) (fun c73 => ?_) (fun c73 => ?_)
        · show qJ YX12_startReadings κ _ (qLy u, M6, y) 0 0 105 [some (qR 77), some (qI w)] []
          refine qJ.run hκ 2 (pc' := 58) (ls' := [some (qR 77), some (qI (w + 1))]) (st' := []) rfl ?_
          exact ih58  (w + 1) M6 (by omega) (v58_1) (by rw [show min (w + 1).toNat (nW m) = min w.toNat (nW m) by omega]; exact v58_2) (by rw [show min (w + 1).toNat (nW m) = min w.toNat (nW m) by omega]; exact v58_3) (v58_4) (by omega)
        · show qJ YX12_startReadings κ _ (qLy u, M6, y) 0 0 76 [some (qR 77), some (qI w)] []
          have wn : w < (nW m : Int) := by omega
          have k91 : M6 91 w.toNat = m 8 w.toNat := (congrFun (congrFun O6 91) _).trans (hR.2.2.1 w v58_0.1 (by omega)).1.2.2.2
          have w8 := (hR.2.2.1 w v58_0.1 (by omega)).2.1.2.2
          refine qJ.run hκ 3 (pc' := 81) (ls' := [some (qR 77), some (qI w)]) (st' := [qI w, qR 91]) rfl ?_
          refine qJ.ald hκ rfl rfl rfl (by decide) (by omega) ?_
          show qJ YX12_startReadings κ _ (qLy u, M6, y) 0 0 82 [some (qR 77), some (qI w)] [qI (M6 91 w.toNat)]
          refine qJ.if_eq hκ (tgt := 105) rfl rfl (by omega) (fun c82 => ?_) (fun c82 => ?_)
          · show qJ YX12_startReadings κ _ (qLy u, M6, y) 0 0 105 [some (qR 77), some (qI w)] []
            have N8 : ¬ cwP m w.toNat := by unfold cwP; omega
            refine qJ.run hκ 2 (pc' := 58) (ls' := [some (qR 77), some (qI (w + 1))]) (st' := []) rfl ?_
            exact ih58  (w + 1) M6 (by omega) (v58_1) (by rw [show min (w + 1).toNat (nW m) = (w + 1).toNat by omega, q_cnt_s v58_0.1, if_neg N8, show w.toNat = min w.toNat (nW m) by omega]; exact v58_2) (fun x hx h8 => by
          by_cases e : x = w.toNat
          · rw [e] at h8; exact absurd h8 N8
          · exact v58_3 x (by omega) h8) (v58_4) (by omega)
          · show qJ YX12_startReadings κ _ (qLy u, M6, y) 0 0 85 [some (qR 77), some (qI w)] []
            have Y8 : cwP m w.toNat := by unfold cwP; omega
            have ltc := q_cnt_lt (p := cwP m) Y8 (show w.toNat < nW m by omega)
            have mw2 : min w.toNat (nW m) = w.toNat := by omega
            rw [mw2] at cl cm
            have c56 : M6 77 56 = (q_cnt (cwP m) w.toNat : Nat) := by rw [v58_2, mw2]
            refine qJ.run hκ 5 (pc' := 94) (ls' := [some (qR 77), some (qI w)]) (st' := [qI w, qI (M6 77 56), qR 120]) rfl ?_
            refine qJ.ast hκ rfl rfl rfl (by decide) (by omega) ?_
            show qJ YX12_startReadings κ _ (qLy u, (q_up M6 120 ((M6 77 56).toNat) w), y) 0 0 95 [some (qR 77), some (qI w)] []
            refine qJ.run hκ 5 (pc' := 102) (ls' := [some (qR 77), some (qI w)]) (st' := [qI ((M6 77 56) + 1), qR 77]) rfl ?_
            refine qJ.putI hκ rfl rfl rfl rfl (Or.inl rfl) ?_
            show qJ YX12_startReadings κ _ (qLy u, (q_up (q_up M6 120 ((M6 77 56).toNat) w) 77 56 ((M6 77 56) + 1)), y) 0 0 105 [some (qR 77), some (qI w)] []
            refine qJ.run hκ 2 (pc' := 58) (ls' := [some (qR 77), some (qI (w + 1))]) (st' := []) rfl ?_
            exact ih58  (w + 1) (q_up (q_up M6 120 ((M6 77 56).toNat) w) 77 56 ((M6 77 56) + 1)) (by omega) (Eq.trans (keep_up (by rfl)) (Eq.trans (keep_up (by rfl)) v58_1)) (by show M6 77 56 + 1 = _; rw [show min (w + 1).toNat (nW m) = (w + 1).toNat by omega, q_cnt_s v58_0.1, if_pos Y8, v58_2, show min w.toNat (nW m) = w.toNat by omega]; omega) (fun x hx h8 => by
          show q_up M6 120 (M6 77 56).toNat w 120 _ = _
          have mw : min w.toNat (nW m) = w.toNat := by omega
          rw [mw] at v58_2 v58_3
          by_cases e : x = w.toNat
          · rw [e, show q_cnt (cwP m) w.toNat = (M6 77 56).toNat by omega, q_up_eq]; omega
          · have lt := q_cnt_lt (p := cwP m) h8 (show x < w.toNat by omega)
            rw [up_o (by omega)]; exact v58_3 x (by omega) h8) (stN_k (M := M6) ⟨rfl, rfl, rfl, rfl⟩ v58_4) (by omega)
  have L7 : ∀ (n : Nat) (a : Int) (M6 : qM), (0 ≤ a ∧ a ≤ m 15 0) → (keep (kN kSt) M6 = keep (kN kSt) M) → (M6 77 54 = (q_cnt (spA m) a.toNat : Nat)) → (∀ x : Nat, x < a.toNat → spA m x → M6 119 (q_cnt (spA m) x) = (x : Int)) → (∀ x : Nat, x < a.toNat → (x : Int) < (nN m : Int) → M6 118 x = (vL m (x : Int) : Int) ∧ SPv m (M6 117) (x : Int) (m 17 x)) → ((m 15 0 - a).toNat) < n → qJ YX12_startReadings κ (qFin (fun r h => r = none ∧ ∃ M', h = (qLy u, M', y) ∧ keep (kN kSt) M' = keep (kN kSt) M ∧ itS m M' (RLm m) ∧ dOk (DD m)) 0 0 κ) (qLy u, M6, y) 0 0 7 [some (qR 77), some (qI a)] [] := by
    intro n
    induction n with
    | zero => intro a M6 _ _ _ _ _ hz0; omega
    | succ n ih7 =>
      intro a M6 v7_0 v7_1 v7_2 v7_3 v7_4 v7_m
      have O6 := ((keep_of kObSt v7_1).trans hK)
      have k101 : M6 101 0 = m 15 0 := (congrFun (congrFun O6 101) 0).trans n0.2
      have cl := q_cnt_le (spA m) a.toNat
      refine qJ.run hκ 4 (pc' := 13) (ls' := [some (qR 77), some (qI a)]) (st' := [qI 0, qR 101, qI a]) rfl ?_
      refine qJ.ald hκ rfl rfl rfl (by decide) (by omega) ?_
      show qJ YX12_startReadings κ _ (qLy u, M6, y) 0 0 14 [some (qR 77), some (qI a)] [qI (M6 101 0), qI a]
      refine qJ.icmp_ge hκ (tgt := 51) rfl rfl (by omega) (by omega) (fun c14 => ?_) (fun c14 => ?_)
      · show qJ YX12_startReadings κ _ (qLy u, M6, y) 0 0 51 [some (qR 77), some (qI a)] []
        refine qJ.run hκ 2 (pc' := 53) (ls' := [some (qR 77), some (qI a)]) (st' := [qI 0, qR 77]) rfl ?_
        refine qJ.putI hκ rfl rfl rfl rfl (Or.inl rfl) ?_
        show qJ YX12_startReadings κ _ (qLy u, (q_up M6 77 56 0), y) 0 0 56 [some (qR 77), some (qI a)] []
        refine qJ.run hκ 2 (pc' := 58) (ls' := [some (qR 77), some (qI 0)]) (st' := []) rfl ?_
        exact L58 61 0 (q_up M6 77 56 0) (by omega) (Eq.trans (keep_up (by rfl)) v7_1) (by show (0 : Int) = _; rw [show min (Int.toNat 0) (nW m) = 0 by omega]; rfl) (fun x hx => by rw [show (0 : Int).toNat = 0 from rfl, Nat.zero_min] at hx; exact absurd hx (Nat.not_lt_zero x)) (stN_k (M := M6) ⟨rfl, rfl, rfl, rfl⟩ (stN_of (by rw [v7_2]; have := q_cnt_ex2 (p := spA m) (a := a.toNat) 5 (by omega) (fun k h1 h2 z => by have := z.1; omega); unfold nS; omega) (fun x hx h8 => v7_3 x (by have := h8.1; omega) h8) (fun x hx hn => v7_4 x (by omega) hn))) (by omega)
      · show qJ YX12_startReadings κ _ (qLy u, M6, y) 0 0 17 [some (qR 77), some (qI a)] []
        refine qJ.run hκ 2 (pc' := 19) (ls' := [some (qR 77), some (qI a)]) (st' := [qI a, qR 77]) rfl ?_
        refine qJ.callV (As := [qI a]) (rest := []) hκ rfl kX12_358 (m_isSpelled u M6 y a (rXn_o O6 hX) (rXl_o O6 hl) (rC_o O6 hR).1 (by omega)) rfl rfl (by decide) rfl rfl (Nat.le_of_ble_eq_true rfl) (Nat.le_of_ble_eq_true rfl) (Nat.le_of_ble_eq_true rfl) (Or.inl (fun r h' e => by obtain ⟨z19, rfl, hz19, f, g, rfl, hST⟩ := e; rfl)) (fun r h' e => ?_)
        obtain ⟨z19, rfl, hz19, f, g, rfl, hST⟩ := e
        show qJ YX12_startReadings κ _ (qLy u, (q_row (q_row M6 117 f) 118 g), y) 0 0 22 [some (qR 77), some (qI a)] [qI z19]
        have sp : isSp M6 a ↔ spA m a.toNat := by unfold isSp spA; rw [nN_o O6, vL_o O6, q_tn v7_0.1]; exact ⟨fun z => ⟨z.1.2, z.2⟩, fun z => ⟨⟨v7_0.1, z.1⟩, z.2⟩⟩
        have zr : z19 = 0 ∨ z19 = 1 := by rcases hz19 with q | q; (right; exact q.1); (left; exact q.1)
        refine qJ.if_eq hκ (tgt := 45) rfl rfl (by omega) (fun c22 => ?_) (fun c22 => ?_)
        · show qJ YX12_startReadings κ _ (qLy u, (q_row (q_row M6 117 f) 118 g), y) 0 0 45 [some (qR 77), some (qI a)] []
          have NS : ¬ spA m a.toNat := by rcases hz19 with q | q; (have := q.1; omega); (exact fun z => q.2 (sp.mpr z))
          refine qJ.run hκ 2 (pc' := 7) (ls' := [some (qR 77), some (qI (a + 1))]) (st' := []) rfl ?_
          exact ih7  (a + 1) (q_row (q_row M6 117 f) 118 g) (by omega) (Eq.trans (keep_row (by intro j; rfl)) (Eq.trans (keep_row (by intro j; rfl)) v7_1)) (by show M6 77 54 = _; rw [q_cnt_s v7_0.1, if_neg NS]; exact v7_2) (fun x hx h8 => by
          by_cases e : x = a.toNat
          · rw [e] at h8; exact absurd h8 NS
          · exact v7_3 x (by omega) h8) (fun x hx hn => by
          by_cases e : x = a.toNat
          · subst e
            have st := hST.1 ⟨v7_0.1, by rw [nN_o O6]; omega⟩
            have g0 : g a.toNat = (vL m a : Int) := by rw [← vL_o O6]; exact st.2.2.1
            refine ⟨?_, ?_⟩
            · show g a.toNat = _
              rw [q_tn v7_0.1]; exact g0
            · show SPv m f ((a.toNat : Nat) : Int) _
              rw [q_tn v7_0.1]
              have s4 := SPv_o O6 st.2.2.2
              rw [show M6 17 = m 17 from congrFun O6 17] at s4
              exact s4
          · have o4 := v7_4 x (by omega) hn
            by_cases sn : a < (nN m : Int)
            · have st := hST.1 ⟨v7_0.1, by rw [nN_o O6]; omega⟩
              have lx := (hX.2.1 (x : Int) (by omega) (by omega)).2.1.2
              refine ⟨(st.2.1 x e).trans o4.1, ?_⟩
              have := SPv_lt (m := m) (f := f) (f0 := M6 117) (a := a) (x := (x : Int)) st.1 ⟨by omega, by omega⟩ lx o4.2
              exact this
            · have st := hST.2 (fun z => sn (by have := z.2; rw [nN_o O6] at this; exact this))
              exact ⟨(congrFun st.2 x).trans o4.1, by show SPv m f _ _; rw [st.1]; exact o4.2⟩) (by omega)
        · show qJ YX12_startReadings κ _ (qLy u, (q_row (q_row M6 117 f) 118 g), y) 0 0 25 [some (qR 77), some (qI a)] []
          have YS : spA m a.toNat := by rcases hz19 with q | q; (exact sp.mp q.2); (have := q.1; omega)
          refine qJ.run hκ 5 (pc' := 34) (ls' := [some (qR 77), some (qI a)]) (st' := [qI a, qI (M6 77 54), qR 119]) rfl ?_
          refine qJ.ast hκ rfl rfl rfl (by decide) (by omega) ?_
          show qJ YX12_startReadings κ _ (qLy u, (q_up (q_row (q_row M6 117 f) 118 g) 119 ((M6 77 54).toNat) a), y) 0 0 35 [some (qR 77), some (qI a)] []
          refine qJ.run hκ 5 (pc' := 42) (ls' := [some (qR 77), some (qI a)]) (st' := [qI ((M6 77 54) + 1), qR 77]) rfl ?_
          refine qJ.putI hκ rfl rfl rfl rfl (Or.inl rfl) ?_
          show qJ YX12_startReadings κ _ (qLy u, (q_up (q_up (q_row (q_row M6 117 f) 118 g) 119 ((M6 77 54).toNat) a) 77 54 ((M6 77 54) + 1)), y) 0 0 45 [some (qR 77), some (qI a)] []
          refine qJ.run hκ 2 (pc' := 7) (ls' := [some (qR 77), some (qI (a + 1))]) (st' := []) rfl ?_
          exact ih7  (a + 1) (q_up (q_up (q_row (q_row M6 117 f) 118 g) 119 ((M6 77 54).toNat) a) 77 54 ((M6 77 54) + 1)) (by omega) (Eq.trans (keep_up (by rfl)) (Eq.trans (keep_up (by rfl)) (Eq.trans (keep_row (by intro j; rfl)) (Eq.trans (keep_row (by intro j; rfl)) v7_1)))) (by show M6 77 54 + 1 = _; rw [q_cnt_s v7_0.1, if_pos YS, v7_2]; omega) (fun x hx h8 => by
          show q_up (q_row (q_row M6 117 f) 118 g) 119 (M6 77 54).toNat a 119 _ = _
          by_cases e : x = a.toNat
          · rw [e, show q_cnt (spA m) a.toNat = (M6 77 54).toNat by omega, q_up_eq]; omega
          · have lt := q_cnt_lt (p := spA m) h8 (show x < a.toNat by omega)
            rw [up_o (by omega)]; exact v7_3 x (by omega) h8) (fun x hx hn => by
          by_cases e : x = a.toNat
          · subst e
            have st := hST.1 ⟨v7_0.1, by rw [nN_o O6]; omega⟩
            have g0 : g a.toNat = (vL m a : Int) := by rw [← vL_o O6]; exact st.2.2.1
            refine ⟨?_, ?_⟩
            · show g a.toNat = _
              rw [q_tn v7_0.1]; exact g0
            · show SPv m f ((a.toNat : Nat) : Int) _
              rw [q_tn v7_0.1]
              have s4 := SPv_o O6 st.2.2.2
              rw [show M6 17 = m 17 from congrFun O6 17] at s4
              exact s4
          · have o4 := v7_4 x (by omega) hn
            by_cases sn : a < (nN m : Int)
            · have st := hST.1 ⟨v7_0.1, by rw [nN_o O6]; omega⟩
              have lx := (hX.2.1 (x : Int) (by omega) (by omega)).2.1.2
              refine ⟨(st.2.1 x e).trans o4.1, ?_⟩
              have := SPv_lt (m := m) (f := f) (f0 := M6 117) (a := a) (x := (x : Int)) st.1 ⟨by omega, by omega⟩ lx o4.2
              exact this
            · have st := hST.2 (fun z => sn (by have := z.2; rw [nN_o O6] at this; exact this))
              exact ⟨(congrFun st.2 x).trans o4.1, by show SPv m f _ _; rw [st.1]; exact o4.2⟩) (by omega)
  show qJ YX12_startReadings κ _ (qLy u, M, y) 0 0 0 [some (qR 77), none] []
  refine qJ.run hκ 2 (pc' := 2) (ls' := [some (qR 77), none]) (st' := [qI 0, qR 77]) rfl ?_
  refine qJ.putI hκ rfl rfl rfl rfl (Or.inl rfl) ?_
  show qJ YX12_startReadings κ _ (qLy u, (q_up M 77 54 0), y) 0 0 5 [some (qR 77), none] []
  refine qJ.run hκ 2 (pc' := 7) (ls' := [some (qR 77), some (qI 0)]) (st' := []) rfl ?_
  exact L7 6 0 (q_up M 77 54 0) (by omega) (keep_up (by rfl)) (rfl) (fun x hx => absurd hx (Nat.not_lt_zero x)) (fun x hx => absurd hx (Nat.not_lt_zero x)) (by omega)

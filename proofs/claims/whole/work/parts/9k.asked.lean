/-! printed by p108.py: both sides answer alike, the invariant stays: what is asked -/
/-- class and model called one behind the other answer alike, and all stays true -/
def qPair (YX YM : qY) (dX dM : Nat) (ax am : List qV) (c : Int) (u : qU) (m y : qM) : Prop :=
  ∃ (mc ms : Nat) (Q : Option qV → qH → Prop), mc ≤ 21 ∧ ms ≤ 2101 ∧ qCt YX dX mc ms ax (qLy u, m, y) Q ∧ ∀ r h, Q r h → ∃ (z : Int) (u1 : qU) (m1 y1 : qM), r = some (qI z) ∧ h = (qLy u1, m1, y1) ∧ ∃ Q2 : Option qV → qH → Prop, qCt YM dM 0 0 am (qLy u1, m1, y1) Q2 ∧ ∀ r2 h2, Q2 r2 h2 → r2 = some (qI z) ∧ ∃ m2 y2, h2 = (qLy u1, m2, y2) ∧ iA (c + 1) u1 m2
/-- what a reader of the class leaves -/
def rdK (m m1 : qM) : Prop := keep kCore m1 = keep kCore m ∧ (iK m → iK m1)
theorem rdK_G {m m1 : qM} (h : fGr m m1) : rdK m m1 := ⟨fGr_core h, iK_G h⟩
theorem rdK_U {m m1 : qM} (h : fUs m m1) : rdK m m1 := ⟨fUs_core h, iK_U h⟩
theorem rdK_S {m m1 : qM} (h : fSm m m1) : rdK m m1 := ⟨fSm_core h, iK_S h⟩
theorem rdK_P {m m1 : qM} (h : fSp m m1) : rdK m m1 := ⟨fSp_core h, iK_P h⟩
theorem rdK_R {m m1 : qM} (h : fSr m m1) : rdK m m1 := ⟨fSr_core h, iK_R h⟩
theorem rdK_0 {m : qM} : rdK m m := ⟨rfl, id⟩
theorem kTrC : ∀ i j, kCore i j = true → kN kTr i j = true := by
  intro i j h
  refine kN_t.mpr fun z => ?_
  unfold kCore at h
  unfold kTr at z
  rw [decide_eq_true_eq] at h z
  omega
theorem kTrQ : ∀ i j, kQ i j = true → kN kTr i j = true := by
  intro i j h
  refine kN_t.mpr fun z => ?_
  unfold kQ at h
  unfold kTr at z
  rw [decide_eq_true_eq] at h z
  omega
theorem rdK_Tr {m mG m1 : qM} (h : keep (kN kTr) m1 = keep (kN kTr) mG) (hG : rdK m mG) : rdK m m1 := ⟨(keep_of kTrC h).trans hG.1, fun k => iK_k (keep_of kTrQ h) (hG.2 k)⟩
theorem rdK_48 {m mG m1 : qM} (h : keep (fun i _ => decide (¬ i = 48)) m1 = keep (fun i _ => decide (¬ i = 48)) mG) (hG : rdK m mG) : rdK m m1 := by
  refine ⟨(keep_of (fun i j z => ?_) h).trans hG.1, fun k => iK_k (keep_of (fun i j z => ?_) h) (hG.2 k)⟩
  · unfold kCore at z
    rw [decide_eq_true_eq] at z ⊢
    omega
  · unfold kQ at z
    rw [decide_eq_true_eq] at z ⊢
    omega
theorem rdK.A {c : Int} {u : qU} {m m1 : qM} (h : rdK m m1) (hA : iA c u m) : iA c u m1 := iA_c h.1 (h.2 hA.2.1) hA
theorem rdK.q {m m1 : qM} (h : rdK m m1) : sQ m m1 := sQ.core h.1

theorem j_row {c : Int} {u : qU} {m : qM} (y : qM) (s : Int) (hA : iA c u m) (q0 : qr s) : qPair YX11_row YX12_row 7 5 [qR 0, qI s] [qR 77, qI s] c u m y := by
  refine ⟨0, 0, _, by decide, by decide, x_row u m y s hA.1.1.1 hA.2.1.1.2.1 hA.2.1.2.2.1 q0, ?_⟩
  rintro r h ⟨m1, rfl, rfl, hm⟩
  have hr : rdK m m1 := by
    rcases hm with rfl | hm
    · exact rdK_0
    · exact rdK_G hm
  have hB := hr.A hA
  refine ⟨_, u, m1, y, rfl, rfl, _, m_row u m1 y s hB.1.1.1 q0, ?_⟩
  rintro r2 h2 ⟨m2, rfl, rfl, hk⟩
  exact ⟨by rw [ansRow_q hr.q], m2, y, rfl, iA_o hk hB⟩

theorem j_column {c : Int} {u : qU} {m : qM} (y : qM) (s : Int) (hA : iA c u m) (q0 : qr s) : qPair YX11_column YX12_column 7 5 [qR 0, qI s] [qR 77, qI s] c u m y := by
  refine ⟨0, 0, _, by decide, by decide, x_column u m y s hA.1.1.1 hA.2.1.1.2.1 hA.2.1.2.2.1 q0, ?_⟩
  rintro r h ⟨m1, rfl, rfl, hm⟩
  have hr : rdK m m1 := by
    rcases hm with rfl | hm
    · exact rdK_0
    · exact rdK_G hm
  have hB := hr.A hA
  refine ⟨_, u, m1, y, rfl, rfl, _, m_column u m1 y s hB.1.1.1 q0, ?_⟩
  rintro r2 h2 ⟨m2, rfl, rfl, hk⟩
  exact ⟨by rw [ansCol_q hr.q], m2, y, rfl, iA_o hk hB⟩

theorem j_breaker {c : Int} {u : qU} {m : qM} (y : qM) (hA : iA c u m)  : qPair YX11_breaker YX12_breaker 7 5 [qR 0] [qR 77] c u m y := by
  refine ⟨0, 0, _, by decide, by decide, x_breaker u m y  hA.1.1.1 hA.2.1.1.2.1 hA.2.1.2.2.1 , ?_⟩
  rintro r h ⟨m1, rfl, rfl, hm⟩
  have hr : rdK m m1 := (by obtain ⟨mG, k1, k2⟩ := hm; exact rdK_Tr k1 (rdK_G k2))
  have hB := hr.A hA
  refine ⟨_, u, m1, y, rfl, rfl, _, m_breaker u m1 y  hB.1.1.1 , ?_⟩
  rintro r2 h2 ⟨m2, rfl, rfl, hk⟩
  exact ⟨by rw [ansBrk_q hr.q], m2, y, rfl, iA_o hk hB⟩

theorem j_use {c : Int} {u : qU} {m : qM} (y : qM) (s w : Int) (hA : iA c u m) (q0 : qr s) (q1 : qr w) : qPair YX11_use YX12_use 5 4 [qR 0, qI s, qI w] [qR 77, qI s, qI w] c u m y := by
  refine ⟨0, 0, _, by decide, by decide, x_use u m y s w hA.1.1.1 hA.2.1.1.1 hA.2.1.2.1 q0 q1, ?_⟩
  rintro r h ⟨m1, rfl, rfl, hm⟩
  have hr : rdK m m1 := by
    rcases hm with rfl | hm
    · exact rdK_0
    · exact rdK_U hm
  have hB := hr.A hA
  refine ⟨_, u, m1, y, rfl, rfl, _, m_use u m1 y s w hB.1.1.1 q0 q1, ?_⟩
  rintro r2 h2 ⟨m2, rfl, rfl, hk⟩
  exact ⟨by rw [ansUse_q hr.q], m2, y, rfl, iA_o hk hB⟩

theorem j_initial {c : Int} {u : qU} {m : qM} (y : qM) (k : Int) (hA : iA c u m) (q0 : qr k) : qPair YX11_initial YX12_initial 5 4 [qR 0, qI k] [qR 77, qI k] c u m y := by
  refine ⟨0, 0, _, by decide, by decide, x_initial u m y k hA.1.1.1 hA.2.1.1.1 hA.2.1.2.1 q0, ?_⟩
  rintro r h ⟨m1, rfl, rfl, hm⟩
  have hr : rdK m m1 := rdK_U hm
  have hB := hr.A hA
  refine ⟨_, u, m1, y, rfl, rfl, _, m_initial u m1 y k hB.1.1.1 q0, ?_⟩
  rintro r2 h2 ⟨m2, rfl, rfl, hk⟩
  exact ⟨by rw [ansIni_q hr.q], m2, y, rfl, iA_o hk hB⟩

theorem j_twins {c : Int} {u : qU} {m : qM} (y : qM) (a b : Int) (hA : iA c u m) (q0 : qr a) (q1 : qr b) : qPair YX11_twins YX12_twins 4 4 [qR 0, qI a, qI b] [qR 77, qI a, qI b] c u m y := by
  refine ⟨0, 0, _, by decide, by decide, x_twins u m y a b hA.1.1.1 q0 q1, ?_⟩
  rintro r h ⟨rfl, rfl⟩
  refine ⟨_, u, m, y, rfl, rfl, _, m_twins u m y a b hA.1.1.1 q0 q1, ?_⟩
  rintro r2 h2 ⟨m2, rfl, rfl, hk⟩
  exact ⟨rfl, m2, y, rfl, iA_o hk hA⟩

theorem j_one {c : Int} {u : qU} {m : qM} (y : qM) (a b : Int) (hA : iA c u m) (q0 : qr a) (q1 : qr b) : qPair YX11_one YX12_one 6 4 [qR 0, qI a, qI b] [qR 77, qI a, qI b] c u m y := by
  refine ⟨0, 0, _, by decide, by decide, x_one u m y a b hA.1.1.1 hA.2.1.1.1 hA.2.1.2.1 q0 q1, ?_⟩
  rintro r h ⟨m1, rfl, rfl, hm⟩
  have hr : rdK m m1 := by
    rcases hm with rfl | hm
    · exact rdK_0
    · exact (by obtain ⟨mG, k1, k2⟩ := hm; exact rdK_Tr k1 (rdK_U k2))
  have hB := hr.A hA
  refine ⟨_, u, m1, y, rfl, rfl, _, m_one u m1 y a b hB.1.1.1 q0 q1, ?_⟩
  rintro r2 h2 ⟨m2, rfl, rfl, hk⟩
  exact ⟨by rw [ansOne_q hr.q], m2, y, rfl, iA_o hk hB⟩

theorem j_fills {c : Int} {u : qU} {m : qM} (y : qM) (w : Int) (hA : iA c u m) (q0 : qr w) : qPair YX11_fills YX12_fills 4 4 [qR 0, qI w] [qR 77, qI w] c u m y := by
  refine ⟨0, 0, _, by decide, by decide, x_fills u m y w hA.1.1.1 q0, ?_⟩
  rintro r h ⟨rfl, rfl⟩
  refine ⟨_, u, m, y, rfl, rfl, _, m_fills u m y w hA.1.1.1 q0, ?_⟩
  rintro r2 h2 ⟨m2, rfl, rfl, hk⟩
  exact ⟨rfl, m2, y, rfl, iA_o hk hA⟩

theorem j_fill {c : Int} {u : qU} {m : qM} (y : qM) (w k : Int) (hA : iA c u m) (q0 : qr w) (q1 : qr k) : qPair YX11_fill YX12_fill 4 4 [qR 0, qI w, qI k] [qR 77, qI w, qI k] c u m y := by
  refine ⟨0, 0, _, by decide, by decide, x_fill u m y w k hA.1.1.1 q0 q1, ?_⟩
  rintro r h ⟨rfl, rfl⟩
  refine ⟨_, u, m, y, rfl, rfl, _, m_fill u m y w k hA.1.1.1 q0 q1, ?_⟩
  rintro r2 h2 ⟨m2, rfl, rfl, hk⟩
  exact ⟨rfl, m2, y, rfl, iA_o hk hA⟩

theorem j_about {c : Int} {u : qU} {m : qM} (y : qM) (w k : Int) (hA : iA c u m) (q0 : qr w) (q1 : qr k) : qPair YX11_about YX12_about 3 3 [qR 0, qI w, qI k] [qR 77, qI w, qI k] c u m y := by
  refine ⟨0, 0, _, by decide, by decide, x_about u m y w k hA.1.1.1 q0 q1, ?_⟩
  rintro r h ⟨rfl, rfl⟩
  refine ⟨_, u, m, y, rfl, rfl, _, m_about u m y w k hA.1.1.1 q0 q1, ?_⟩
  rintro r2 h2 ⟨m2, rfl, rfl, hk⟩
  exact ⟨rfl, m2, y, rfl, iA_o hk hA⟩

theorem j_telling {c : Int} {u : qU} {m : qM} (y : qM) (k w : Int) (hA : iA c u m) (q0 : qr k) (q1 : qr w) : qPair YX11_telling YX12_telling 1 2 [qR 0, qI k, qI w] [qR 77, qI k, qI w] c u m y := by
  refine ⟨0, 0, _, by decide, by decide, x_telling u m y k w hA.1.1.1 q0 q1, ?_⟩
  rintro r h ⟨rfl, rfl⟩
  refine ⟨_, u, m, y, rfl, rfl, _, m_telling u m y k w hA.1.1.1 q0 q1, ?_⟩
  rintro r2 h2 ⟨m2, rfl, rfl, hk⟩
  exact ⟨rfl, m2, y, rfl, iA_o hk hA⟩

theorem j_sets {c : Int} {u : qU} {m : qM} (y : qM) (hA : iA c u m)  : qPair YX11_sets YX12_sets 6 4 [qR 0] [qR 77] c u m y := by
  refine ⟨0, 0, _, by decide, by decide, x_sets u m y  hA.1.1.2 hA.1.1.1.1 hA.2.1.1.2.2.1 hA.2.1.2.2.2.1 , ?_⟩
  rintro r h ⟨m1, rfl, rfl, hm⟩
  have hr : rdK m m1 := rdK_S hm
  have hB := hr.A hA
  refine ⟨_, u, m1, y, rfl, rfl, _, m_sets u m1 y  hB.1.1.2 hB.1.1.1.1 , ?_⟩
  rintro r2 h2 ⟨m2, rfl, rfl, hk⟩
  exact ⟨by rw [ansSets_q hr.q], m2, y, rfl, iA_o hk hB⟩

theorem j_ratio {c : Int} {u : qU} {m : qM} (y : qM) (k w : Int) (hA : iA c u m) (q0 : qr k) (q1 : qr w) : qPair YX11_ratio YX12_ratio 6 4 [qR 0, qI k, qI w] [qR 77, qI k, qI w] c u m y := by
  refine ⟨0, 0, _, by decide, by decide, x_ratio u m y k w hA.1.1.2 hA.1.1.1.1 hA.2.1.1.2.2.1 hA.2.1.2.2.2.1 q0 q1, ?_⟩
  rintro r h ⟨m1, rfl, rfl, hm⟩
  have hr : rdK m m1 := by
    rcases hm with rfl | hm
    · exact rdK_0
    · exact (by obtain ⟨mG, k1, k2⟩ := hm; exact rdK_48 k1 (rdK_S k2))
  have hB := hr.A hA
  refine ⟨_, u, m1, y, rfl, rfl, _, m_ratio u m1 y k w hB.1.1.2 hB.1.1.1.1 q0 q1, ?_⟩
  rintro r2 h2 ⟨m2, rfl, rfl, hk⟩
  exact ⟨by rw [ansRat_q hr.q], m2, y, rfl, iA_o hk hB⟩

theorem j_sureRatio {c : Int} {u : qU} {m : qM} (y : qM) (w : Int) (hA : iA c u m) (q0 : qr w) : qPair YX11_sureRatio YX12_sureRatio 6 4 [qR 0, qI w] [qR 77, qI w] c u m y := by
  refine ⟨0, 0, _, by decide, by decide, x_sureRatio u m y w hA.1.1.2 hA.1.1.1.1 hA.2.1.1.2.2.1 hA.2.1.2.2.2.1 q0, ?_⟩
  rintro r h ⟨m1, rfl, rfl, hm⟩
  have hr : rdK m m1 := by
    rcases hm with rfl | hm
    · exact rdK_0
    · exact rdK_S hm
  have hB := hr.A hA
  refine ⟨_, u, m1, y, rfl, rfl, _, m_sureRatio u m1 y w hB.1.1.2 hB.1.1.1.1 q0, ?_⟩
  rintro r2 h2 ⟨m2, rfl, rfl, hk⟩
  exact ⟨by rw [ansSur_q hr.q], m2, y, rfl, iA_o hk hB⟩

theorem j_odd {c : Int} {u : qU} {m : qM} (y : qM) (k : Int) (hA : iA c u m) (q0 : qr k) : qPair YX11_odd YX12_odd 6 4 [qR 0, qI k] [qR 77, qI k] c u m y := by
  refine ⟨0, 0, _, by decide, by decide, x_odd u m y k hA.1.1.2 hA.1.1.1.1 hA.2.1.1.2.2.1 hA.2.1.2.2.2.1 q0, ?_⟩
  rintro r h ⟨m1, rfl, rfl, hm⟩
  have hr : rdK m m1 := rdK_S hm
  have hB := hr.A hA
  refine ⟨_, u, m1, y, rfl, rfl, _, m_odd u m1 y k hB.1.1.2 hB.1.1.1.1 q0, ?_⟩
  rintro r2 h2 ⟨m2, rfl, rfl, hk⟩
  exact ⟨by rw [ansOdd_q hr.q], m2, y, rfl, iA_o hk hB⟩

theorem j_spelled {c : Int} {u : qU} {m : qM} (y : qM) (a k : Int) (hA : iA c u m) (q0 : qr a) (q1 : qr k) : qPair YX11_spelled YX12_spelled 7 5 [qR 0, qI a, qI k] [qR 77, qI a, qI k] c u m y := by
  refine ⟨0, 0, _, by decide, by decide, x_spelled u m y a k hA.1.2.1.1 (rX_lxS hA.1.2.1.2.1) hA.1.1.1.1 hA.2.1.1.2.2.2.1 hA.2.1.2.2.2.2.1 q0 q1, ?_⟩
  rintro r h ⟨m1, rfl, rfl, hm⟩
  have hr : rdK m m1 := by
    rcases hm with rfl | hm
    · exact rdK_0
    · exact rdK_P hm
  have hB := hr.A hA
  refine ⟨_, u, m1, y, rfl, rfl, _, m_spelled u m1 y a k hB.1.2.1.1 hB.1.2.1.2.1 hB.1.1.1.1 q0 q1, ?_⟩
  rintro r2 h2 ⟨m2, rfl, rfl, hk⟩
  exact ⟨by rw [ansSpd_q hr.q], m2, y, rfl, iA_o hk hB⟩

theorem j_readings {c : Int} {u : qU} {m : qM} (y : qM) (hA : iA c u m)  : qPair YX11_readings YX12_readings 11 6 [qR 0] [qR 77] c u m y := by
  refine ⟨0, 0, _, by decide, by decide, x_readings u m y  hA.1.1.1 hA.1.2.1.1 (rX_lxS hA.1.2.1.2.1) hA.2.1.1.2.1 hA.2.1.2.2.1 hA.2.1.1.2.2.2.1 hA.2.1.2.2.2.2.1 hA.2.1.1.2.2.2.2 hA.2.1.2.2.2.2.2 , ?_⟩
  rintro r h ⟨m1, rfl, rfl, hm⟩
  have hr : rdK m m1 := by
    rcases hm with rfl | hm
    · exact rdK_0
    · exact rdK_R hm
  have hB := hr.A hA
  refine ⟨_, u, m1, y, rfl, rfl, _, m_readings u m1 y  hB.1.1.1 hB.1.2.1.1 hB.1.2.1.2.1 , ?_⟩
  rintro r2 h2 ⟨m2, rfl, rfl, hk⟩
  exact ⟨by rw [ansRds_q hr.q], m2, y, rfl, iA_o hk hB⟩

theorem j_reading {c : Int} {u : qU} {m : qM} (y : qM) (k a : Int) (hA : iA c u m) (q0 : qr k) (q1 : qr a) : qPair YX11_reading YX12_reading 11 7 [qR 0, qI k, qI a] [qR 77, qI k, qI a] c u m y := by
  refine ⟨0, 0, _, by decide, by decide, x_reading u m y k a hA.1.1.1 hA.1.2.1.1 (rX_lxS hA.1.2.1.2.1) hA.2.1.1.2.1 hA.2.1.2.2.1 hA.2.1.1.2.2.2.1 hA.2.1.2.2.2.2.1 hA.2.1.1.2.2.2.2 hA.2.1.2.2.2.2.2 q0 q1, ?_⟩
  rintro r h ⟨m1, rfl, rfl, hm⟩
  have hr : rdK m m1 := by
    rcases hm with rfl | hm
    · exact rdK_0
    · exact rdK_R hm
  have hB := hr.A hA
  refine ⟨_, u, m1, y, rfl, rfl, _, m_reading u m1 y k a hB.1.1.1 hB.1.2.1.1 hB.1.2.1.2.1 q0 q1, ?_⟩
  rintro r2 h2 ⟨m2, rfl, rfl, hk⟩
  exact ⟨by rw [ansRdg_q hr.q], m2, y, rfl, iA_o hk hB⟩

theorem j_value {c : Int} {u : qU} {m : qM} (y : qM) (k s : Int) (hA : iA c u m) (q0 : qr k) (q1 : qr s) : qPair YX11_value YX12_value 11 7 [qR 0, qI k, qI s] [qR 77, qI k, qI s] c u m y := by
  refine ⟨0, 0, _, by decide, by decide, x_value u m y k s hA.1.1.1 hA.1.2.1.1 (rX_lxS hA.1.2.1.2.1) hA.2.1.1.2.1 hA.2.1.2.2.1 hA.2.1.1.2.2.2.1 hA.2.1.2.2.2.2.1 hA.2.1.1.2.2.2.2 hA.2.1.2.2.2.2.2 q0 q1, ?_⟩
  rintro r h ⟨m1, rfl, rfl, hm⟩
  have hr : rdK m m1 := by
    rcases hm with rfl | hm
    · exact rdK_0
    · exact rdK_R hm
  have hB := hr.A hA
  refine ⟨_, u, m1, y, rfl, rfl, _, m_value u m1 y k s hB.1.1.1 hB.1.2.1.1 hB.1.2.1.2.1 q0 q1, ?_⟩
  rintro r2 h2 ⟨m2, rfl, rfl, hk⟩
  exact ⟨by rw [ansVal_q hr.q], m2, y, rfl, iA_o hk hB⟩

theorem j_sure {c : Int} {u : qU} {m : qM} (y : qM) (s : Int) (hA : iA c u m) (q0 : qr s) : qPair YX11_sure YX12_sure 11 6 [qR 0, qI s] [qR 77, qI s] c u m y := by
  refine ⟨0, 0, _, by decide, by decide, x_sure u m y s hA.1.1.1 hA.1.2.1.1 (rX_lxS hA.1.2.1.2.1) hA.2.1.1.2.1 hA.2.1.2.2.1 hA.2.1.1.2.2.2.1 hA.2.1.2.2.2.2.1 hA.2.1.1.2.2.2.2 hA.2.1.2.2.2.2.2 q0, ?_⟩
  rintro r h ⟨m1, rfl, rfl, hm⟩
  have hr : rdK m m1 := by
    rcases hm with rfl | hm
    · exact rdK_0
    · exact rdK_R hm
  have hB := hr.A hA
  refine ⟨_, u, m1, y, rfl, rfl, _, m_sure u m1 y s hB.1.1.1 hB.1.2.1.1 hB.1.2.1.2.1 q0, ?_⟩
  rintro r2 h2 ⟨m2, rfl, rfl, hk⟩
  exact ⟨by rw [ansSure_q hr.q], m2, y, rfl, iA_o hk hB⟩

theorem j_next {c : Int} {u : qU} {m : qM} (y : qM) (w : Int) (hA : iA c u m) (q0 : qr w) : qPair YX11_next YX12_next 11 6 [qR 0, qI w] [qR 77, qI w] c u m y := by
  refine ⟨0, 0, _, by decide, by decide, x_next u m y w hA.1.1.1 hA.1.2.1.1 (rX_lxS hA.1.2.1.2.1) hA.2.1.1.2.1 hA.2.1.2.2.1 hA.2.1.1.2.2.2.1 hA.2.1.2.2.2.2.1 hA.2.1.1.2.2.2.2 hA.2.1.2.2.2.2.2 q0, ?_⟩
  rintro r h ⟨m1, rfl, rfl, hm⟩
  have hr : rdK m m1 := by
    rcases hm with rfl | hm
    · exact rdK_0
    · exact rdK_R hm
  have hB := hr.A hA
  refine ⟨_, u, m1, y, rfl, rfl, _, m_next u m1 y w hB.1.1.1 hB.1.2.1.1 hB.1.2.1.2.1 q0, ?_⟩
  rintro r2 h2 ⟨m2, rfl, rfl, hk⟩
  exact ⟨by rw [ansNxt_q hr.q], m2, y, rfl, iA_o hk hB⟩

theorem j_many {c : Int} {u : qU} {m : qM} (y : qM) (w : Int) (hA : iA c u m) (q0 : qr w) : qPair YX11_many YX12_many 5 4 [qR 0, qI w] [qR 77, qI w] c u m y := by
  refine ⟨0, 0, _, by decide, by decide, x_many u m y w hA.1.1.1 hA.2.1.1.1 hA.2.1.2.1 hA.1.1.2 hA.1.2.1.1 hA.1.2.1.2.1 q0, ?_⟩
  rintro r h ⟨m1, rfl, rfl, hm⟩
  have hr : rdK m m1 := by
    rcases hm with rfl | hm
    · exact rdK_0
    · exact rdK_U hm
  have hB := hr.A hA
  refine ⟨_, u, m1, y, rfl, rfl, _, m_many u m1 y w hB.1.1.1 hB.1.1.2 hB.1.2.1.1 hB.1.2.1.2.1 hB.1.1.1.1 q0, ?_⟩
  rintro r2 h2 ⟨m2, rfl, rfl, hk⟩
  exact ⟨by rw [ansMany_core hr.1], m2, y, rfl, iA_o hk hB⟩

theorem j_fault {c : Int} {u : qU} {m : qM} (y : qM) (w : Int) (hA : iA c u m) (q0 : qr w) : qPair YX11_fault YX12_fault 1 1 [qR 0, qI w] [qR 77, qI w] c u m y := by
  refine ⟨0, 0, _, by decide, by decide, x_fault u m y w q0, ?_⟩
  rintro r h ⟨rfl, rfl⟩
  refine ⟨_, u, m, y, rfl, rfl, _, m_fault u m y w q0, ?_⟩
  rintro r2 h2 ⟨rfl, rfl⟩
  have e := hA.1.2.1.2.2.2.2.1
  exact ⟨by unfold ansFt; rw [e.1, e.2], _, y, rfl, iA_o (keep_up rfl) hA⟩

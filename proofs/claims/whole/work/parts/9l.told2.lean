/-! printed by p109.py: both sides answer alike, the invariant stays: what is told -/
def kRC : Nat → Nat → Bool := fun i j => decide ((i = 1 ∧ 7 ≤ j ∧ j ≤ 9) ∨ (2 ≤ i ∧ i ≤ 11) ∨ (82 ≤ i ∧ i ≤ 95))
def kRL : Nat → Nat → Bool := fun i j => decide ((i = 1 ∧ j = 8) ∨ (12 ≤ i ∧ i ≤ 14) ∨ (96 ≤ i ∧ i ≤ 100))
def kRN : Nat → Nat → Bool := fun i j => decide ((i = 1 ∧ j = 8) ∨ (i = 15 ∧ j = 0) ∨ (16 ≤ i ∧ i ≤ 18) ∨ (101 ≤ i ∧ i ≤ 104))
def kRX : Nat → Nat → Bool := fun i j => decide ((i = 15 ∧ j = 4) ∨ i = 19 ∨ i = 20 ∨ i = 105 ∨ i = 106)
def kRT : Nat → Nat → Bool := fun i j => decide ((i = 1 ∧ 4 ≤ j ∧ j ≤ 6) ∨ i = 21 ∨ (78 ≤ i ∧ i ≤ 81))
theorem rC_k {m m' : qM} (h : keep kRC m' = keep kRC m) (hR : rC m) : rC m' := by
  have h2 : rC (keep kRC m) := hR
  rw [← h] at h2
  exact h2
theorem rL_k {m m' : qM} (h : keep kRL m' = keep kRL m) (hR : rL m) : rL m' := by
  have h2 : rL (keep kRL m) := hR
  rw [← h] at h2
  exact h2
theorem rXn_k {m m' : qM} (h : keep kRN m' = keep kRN m) (hR : rXn m) : rXn m' := by
  have h2 : rXn (keep kRN m) := hR
  rw [← h] at h2
  exact h2
theorem rXl_k {m m' : qM} (h : keep kRX m' = keep kRX m) (hR : rXl m) : rXl m' := by
  have h2 : rXl (keep kRX m) := hR
  rw [← h] at h2
  exact h2
theorem rTp_k {m m' : qM} (h : keep kRT m' = keep kRT m) (hR : rTp m) : rTp m' := by
  have h2 : rTp (keep kRT m) := hR
  rw [← h] at h2
  exact h2
theorem kIm_f {i j : Nat} (h1 : i < 124) (h2 : j < nrS i) : kIm i j = false := by
  unfold kIm
  rw [decide_eq_false]
  omega
theorem keep_rowv {K : Nat → Nat → Bool} {m : qM} {a : Nat} {f : Nat → Int} (h : ∀ j, K a j = true → f j = m a j) : keep K (q_row m a f) = keep K m := by
  funext i j
  unfold keep q_row
  by_cases z : K i j = true
  · rw [if_pos z, if_pos z]
    by_cases e : i = a
    · subst e
      rw [if_pos rfl, h j z]
    · rw [if_neg e]
  · rw [if_neg z, if_neg z]
theorem kIm_j {i j : Nat} (h : kIm i j = true) (h1 : i < 124) : nrS i ≤ j := by
  unfold kIm at h
  rw [decide_eq_true_eq] at h
  omega
theorem iA_cq {c : Int} {u : qU} {m m' : qM} (h1 : keep kCore m' = keep kCore m) (h2 : keep kQ m' = keep kQ m) (hA : iA c u m) : iA (c + 1) u m' := ⟨iT_le (iT_core h1 hA.1) (by omega), iK_k h2 hA.2.1, iI_k (keep_of kImC h1) (by omega) hA.2.2⟩
theorem q_up_fu2 {M m : qM} {a k : Nat} {v : Int} (h : M a = m a) : q_up M a k v a = q_fu (m a) k v := by rw [q_up_fu, h]
theorem q_row_rw2 {m : qM} {a i : Nat} {f : Nat → Int} (h : i ≠ a) : q_row m a f i = m i := by
  funext j
  unfold q_row
  rw [if_neg h]

theorem j_site {c : Int} {u : qU} {m : qM} (y : qM) (v : Int) (hA : iA c u m) (q0 : qr v) : qPair YX11_site YX12_site 1 2 [qR 0, qI v] [qR 77, qI v] c u m y := by
  refine ⟨0, 0, _, by decide, by decide, x_site u m y v q0, ?_⟩
  rintro r h (⟨rfl, hv, rfl⟩ | ⟨rfl, hv, rfl⟩)
  · refine ⟨_, u, _, y, rfl, rfl, _, c_mSite u _ y v q0, ?_⟩
    rintro r2 h2 (⟨rfl, -, rfl⟩ | ⟨-, hn, -⟩)
    · refine ⟨rfl, _, y, rfl, ⟨⟨rC_site hA.1.1.1 hv, rL_k (Eq.trans (keep_up (by rfl)) (Eq.trans (keep_up (by rfl)) (Eq.trans (keep_up (by rfl)) rfl))) hA.1.1.2⟩, ⟨rXn_k (Eq.trans (keep_up (by rfl)) (Eq.trans (keep_up (by rfl)) (Eq.trans (keep_up (by rfl)) rfl))) hA.1.2.1.1, rXl_k (Eq.trans (keep_up (by rfl)) (Eq.trans (keep_up (by rfl)) (Eq.trans (keep_up (by rfl)) rfl))) hA.1.2.1.2.1, rTp_k (Eq.trans (keep_up (by rfl)) (Eq.trans (keep_up (by rfl)) (Eq.trans (keep_up (by rfl)) rfl))) hA.1.2.1.2.2⟩, ?_, hA.1.2.2.2⟩, iK_k (Eq.trans (keep_up (by rfl)) (Eq.trans (keep_up (by rfl)) (Eq.trans (keep_up (by rfl)) rfl))) hA.2.1, iI_k (Eq.trans (keep_up (by rfl)) (Eq.trans (keep_up (by rfl)) (Eq.trans (keep_up (by rfl)) rfl))) (by omega) hA.2.2⟩
      have := hA.1.2.2.1
      show m 12 1 ≤ c + 1
      omega
    · exact absurd hv hn
  · refine ⟨_, u, m, y, rfl, rfl, _, c_mSite u m y v q0, ?_⟩
    rintro r2 h2 (⟨-, hn, -⟩ | ⟨rfl, -, rfl⟩)
    · exact absurd hn hv
    · exact ⟨rfl, _, y, rfl, iA_o (keep_up rfl) hA⟩
theorem pfx_day {f : Nat → Int} {m m' : qM} {n : Nat} (hf : ∀ k, k < n → f k ≤ m 1 8) (h8 : m 1 8 ≤ m' 1 8) (h9 : m' 1 9 = m 1 9) : q_pfx f (gHz m') n = q_pfx f (gHz m) n := by
  unfold gHz
  rw [h9]
  by_cases e : m 1 9 = -1
  · rw [if_pos e, if_pos e, q_pfx_full n hf, q_pfx_full n (fun k hk => by have := hf k hk; omega)]
  · rw [if_neg e, if_neg e]
theorem sQ_day {m : qM} {v : Int} (hR : rC m) (hL : rL m) (hX : rXn m) (hv : m 1 8 ≤ v) : sQ m (q_up (q_up (q_up m 1 8 v) 77 0 0) 82 0 v) := by
  refine ⟨(Eq.trans (keep_up (by rfl)) (Eq.trans (keep_up (by rfl)) (Eq.trans (keep_up (by rfl)) rfl))), ?_, ?_, ?_, ?_⟩
  · show q_pfx (m 7) _ (m 2 0).toNat = q_pfx (m 7) _ (m 2 0).toNat
    refine pfx_day (fun k hk => ?_) hv rfl
    have := (hR.2.2.1 (k : Int) (by omega) (by omega)).2.1.2.1.2
    rwa [Int.toNat_natCast] at this
  · show q_pfx (m 11) _ (m 2 2).toNat = q_pfx (m 11) _ (m 2 2).toNat
    refine pfx_day (fun k hk => ?_) hv rfl
    have := (hR.2.2.2.2.1 (k : Int) (by omega) (by omega)).2.1.2
    rwa [Int.toNat_natCast] at this
  · show q_pfx (fun k => lD (m 13 k)) _ (m 12 1).toNat = q_pfx (fun k => lD (m 13 k)) _ (m 12 1).toNat
    refine pfx_day (fun k hk => ?_) hv rfl
    have := (hL.1.2.1 (k : Int) (by omega) (by omega)).2.2.2.2
    rwa [Int.toNat_natCast] at this
  · show q_pfx (m 18) _ (m 15 0).toNat = q_pfx (m 18) _ (m 15 0).toNat
    refine pfx_day (fun k hk => ?_) hv rfl
    have := (hX.2.1 (k : Int) (by omega) (by omega)).2.2.1.2
    rwa [Int.toNat_natCast] at this
theorem j_day {c : Int} {u : qU} {m : qM} (y : qM) (v : Int) (hA : iA c u m) (q0 : qr v) : qPair YX11_day YX12_day 1 2 [qR 0, qI v] [qR 77, qI v] c u m y := by
  have a := hA.1.1.1.1
  have e82 : m 82 0 = m 1 8 := a.2.2.2.1
  have e83 : m 83 0 = m 1 9 := a.2.2.2.2.1
  have r8 := a.2.1.1
  have r9 := a.2.1.2.1
  have d1 : 0 ≤ m 82 0 ∧ m 82 0 ≤ 999 := by omega
  have d2 : -1 ≤ m 83 0 ∧ m 83 0 ≤ m 82 0 := by omega
  refine ⟨0, 0, _, by decide, by decide, x_day u m y v q0 r8, ?_⟩
  rintro r h (⟨rfl, hv, rfl⟩ | ⟨rfl, hv, rfl⟩)
  · refine ⟨_, u, _, y, rfl, rfl, _, c_mDay u _ y v q0 d1 d2, ?_⟩
    rintro r2 h2 (⟨rfl, -, rfl⟩ | ⟨-, hn, -⟩)
    · have hX := hA.1.2.1.1
      refine ⟨rfl, _, y, rfl, ⟨⟨rC_day hA.1.1.1 hv, rL_day (m := m) hv.1 rfl rfl rfl rfl rfl rfl rfl rfl hA.1.1.2⟩, ⟨?_, rXl_k (Eq.trans (keep_up (by rfl)) (Eq.trans (keep_up (by rfl)) (Eq.trans (keep_up (by rfl)) rfl))) hA.1.2.1.2.1, rTp_k (Eq.trans (keep_up (by rfl)) (Eq.trans (keep_up (by rfl)) (Eq.trans (keep_up (by rfl)) rfl))) hA.1.2.1.2.2⟩, ?_, hA.1.2.2.2⟩, iK_q (sQ_day hA.1.1.1 hA.1.1.2 hX hv.1) rfl (fun i hi => ?_) hA.2.1, iI_k (Eq.trans (keep_up (by rfl)) (Eq.trans (keep_up (by rfl)) (Eq.trans (keep_up (by rfl)) rfl))) (by omega) hA.2.2⟩
      · refine ⟨hX.1, fun a a0 a1 => ⟨(hX.2.1 a a0 a1).1, (hX.2.1 a a0 a1).2.1, ⟨(hX.2.1 a a0 a1).2.2.1.1, ?_⟩, (hX.2.1 a a0 a1).2.2.2⟩, hX.2.2⟩
        have := (hX.2.1 a a0 a1).2.2.1.2
        show m 18 a.toNat ≤ v
        omega
      · have := hA.1.2.2.1
        show m 12 1 ≤ c + 1
        omega
      · rw [q_up_rw (by omega), q_up_rw (by omega), q_up_rw (by omega)]
    · exact absurd (show m 82 0 ≤ v ∧ v ≤ 999 by omega) hn
  · refine ⟨_, u, m, y, rfl, rfl, _, c_mDay u m y v q0 d1 d2, ?_⟩
    rintro r2 h2 (⟨-, hn, -⟩ | ⟨rfl, -, rfl⟩)
    · exact absurd (show m 1 8 ≤ v ∧ v ≤ 999 by omega) hv
    · exact ⟨rfl, _, y, rfl, iA_o (keep_up rfl) hA⟩

theorem j_view {c : Int} {u : qU} {m : qM} (y : qM) (v : Int) (hA : iA c u m) (q0 : qr v) : qPair YX11_view YX12_view 2 2 [qR 0, qI v] [qR 77, qI v] c u m y := by
  have a := hA.1.1.1.1
  have e82 : m 82 0 = m 1 8 := a.2.2.2.1
  have e83 : m 83 0 = m 1 9 := a.2.2.2.2.1
  have r8 := a.2.1.1
  have r9 := a.2.1.2.1
  have d1 : 0 ≤ m 82 0 ∧ m 82 0 ≤ 999 := by omega
  have d2 : -1 ≤ m 83 0 ∧ m 83 0 ≤ m 82 0 := by omega
  refine ⟨0, 0, _, by decide, by decide, x_view u m y v q0 r8, ?_⟩
  rintro r h (⟨rfl, hv, rfl⟩ | ⟨rfl, hv, rfl⟩)
  · refine ⟨_, u, _, y, rfl, rfl, _, c_mView u _ y v q0 d1 d2, ?_⟩
    rintro r2 h2 (⟨rfl, -, rfl⟩ | ⟨-, hn, -⟩)
    · refine ⟨rfl, _, y, rfl, ⟨⟨rC_view hA.1.1.1 hv, rL_k (Eq.trans (keep_up (by rfl)) (Eq.trans (keep_up (by rfl)) (Eq.trans (keep_up (by rfl)) (Eq.trans (keep_up (by rfl)) (Eq.trans (keep_up (by rfl)) (Eq.trans (keep_up (by rfl)) (Eq.trans (keep_up (by rfl)) (Eq.trans (keep_up (by rfl)) rfl)))))))) hA.1.1.2⟩, ⟨rXn_k (Eq.trans (keep_up (by rfl)) (Eq.trans (keep_up (by rfl)) (Eq.trans (keep_up (by rfl)) (Eq.trans (keep_up (by rfl)) (Eq.trans (keep_up (by rfl)) (Eq.trans (keep_up (by rfl)) (Eq.trans (keep_up (by rfl)) (Eq.trans (keep_up (by rfl)) rfl)))))))) hA.1.2.1.1, rXl_k (Eq.trans (keep_up (by rfl)) (Eq.trans (keep_up (by rfl)) (Eq.trans (keep_up (by rfl)) (Eq.trans (keep_up (by rfl)) (Eq.trans (keep_up (by rfl)) (Eq.trans (keep_up (by rfl)) (Eq.trans (keep_up (by rfl)) (Eq.trans (keep_up (by rfl)) rfl)))))))) hA.1.2.1.2.1, rTp_k (Eq.trans (keep_up (by rfl)) (Eq.trans (keep_up (by rfl)) (Eq.trans (keep_up (by rfl)) (Eq.trans (keep_up (by rfl)) (Eq.trans (keep_up (by rfl)) (Eq.trans (keep_up (by rfl)) (Eq.trans (keep_up (by rfl)) (Eq.trans (keep_up (by rfl)) rfl)))))))) hA.1.2.1.2.2⟩, ?_, hA.1.2.2.2⟩, iK_1 ⟨rfl, rfl, rfl, rfl, rfl⟩, iI_k (Eq.trans (keep_up (by rfl)) (Eq.trans (keep_up (by rfl)) (Eq.trans (keep_up (by rfl)) (Eq.trans (keep_up (by rfl)) (Eq.trans (keep_up (by rfl)) (Eq.trans (keep_up (by rfl)) (Eq.trans (keep_up (by rfl)) (Eq.trans (keep_up (by rfl)) rfl)))))))) (by omega) hA.2.2⟩
      have := hA.1.2.2.1
      show m 12 1 ≤ c + 1
      omega
    · exact absurd (show -1 ≤ v ∧ v ≤ m 82 0 by omega) hn
  · refine ⟨_, u, m, y, rfl, rfl, _, c_mView u m y v q0 d1 d2, ?_⟩
    rintro r2 h2 (⟨-, hn, -⟩ | ⟨rfl, -, rfl⟩)
    · exact absurd (show -1 ≤ v ∧ v ≤ m 1 8 by omega) hv
    · exact ⟨rfl, _, y, rfl, iA_o (keep_up rfl) hA⟩

theorem j_tell {c : Int} {u : qU} {m : qM} (y : qM) (w k : Int) (hA : iA c u m) (q0 : qr w) (q1 : qr k) : qPair YX11_tell YX12_tell 2 2 [qR 0, qI w, qI k] [qR 77, qI w, qI k] c u m y := by
  have a := hA.1.1.1.1
  have r0 := a.1.1
  have r2 := a.1.2.2
  have e85 : m 85 0 = m 2 0 := a.2.2.1.1
  have e92 : m 92 0 = m 2 2 := a.2.2.1.2.2
  have d1 : 0 ≤ m 92 0 ∧ m 92 0 ≤ 150 := by omega
  have d2 : 0 ≤ m 85 0 ∧ m 85 0 ≤ 60 := by omega
  refine ⟨0, 0, _, by decide, by decide, x_tell u m y w k hA.1.1.1 q0 q1, ?_⟩
  rintro r h (⟨rfl, hv, rfl⟩ | ⟨rfl, hv, rfl⟩)
  · refine ⟨_, u, _, y, rfl, rfl, _, c_mTell u _ y w k d1 d2 q0 q1, ?_⟩
    rintro r2 h2 (⟨rfl, -, rfl⟩ | ⟨-, hn, -⟩)
    · refine ⟨congrArg (fun z => some (qI z)) e92, _, y, rfl, ⟨⟨?_, rL_k (Eq.trans (keep_up (by rfl)) (Eq.trans (keep_up (by rfl)) (Eq.trans (keep_up (by rfl)) (Eq.trans (keep_up (by rfl)) (Eq.trans (keep_up (by rfl)) (Eq.trans (keep_up (by rfl)) (Eq.trans (keep_up (by rfl)) (Eq.trans (keep_up (by rfl)) (Eq.trans (keep_up (by rfl)) (Eq.trans (keep_up (by rfl)) (Eq.trans (keep_up (by rfl)) (Eq.trans (keep_up (by rfl)) (Eq.trans (keep_up (by rfl)) (Eq.trans (keep_up (by rfl)) rfl)))))))))))))) hA.1.1.2⟩, ⟨rXn_k (Eq.trans (keep_up (by rfl)) (Eq.trans (keep_up (by rfl)) (Eq.trans (keep_up (by rfl)) (Eq.trans (keep_up (by rfl)) (Eq.trans (keep_up (by rfl)) (Eq.trans (keep_up (by rfl)) (Eq.trans (keep_up (by rfl)) (Eq.trans (keep_up (by rfl)) (Eq.trans (keep_up (by rfl)) (Eq.trans (keep_up (by rfl)) (Eq.trans (keep_up (by rfl)) (Eq.trans (keep_up (by rfl)) (Eq.trans (keep_up (by rfl)) (Eq.trans (keep_up (by rfl)) rfl)))))))))))))) hA.1.2.1.1, rXl_k (Eq.trans (keep_up (by rfl)) (Eq.trans (keep_up (by rfl)) (Eq.trans (keep_up (by rfl)) (Eq.trans (keep_up (by rfl)) (Eq.trans (keep_up (by rfl)) (Eq.trans (keep_up (by rfl)) (Eq.trans (keep_up (by rfl)) (Eq.trans (keep_up (by rfl)) (Eq.trans (keep_up (by rfl)) (Eq.trans (keep_up (by rfl)) (Eq.trans (keep_up (by rfl)) (Eq.trans (keep_up (by rfl)) (Eq.trans (keep_up (by rfl)) (Eq.trans (keep_up (by rfl)) rfl)))))))))))))) hA.1.2.1.2.1, rTp_k (Eq.trans (keep_up (by rfl)) (Eq.trans (keep_up (by rfl)) (Eq.trans (keep_up (by rfl)) (Eq.trans (keep_up (by rfl)) (Eq.trans (keep_up (by rfl)) (Eq.trans (keep_up (by rfl)) (Eq.trans (keep_up (by rfl)) (Eq.trans (keep_up (by rfl)) (Eq.trans (keep_up (by rfl)) (Eq.trans (keep_up (by rfl)) (Eq.trans (keep_up (by rfl)) (Eq.trans (keep_up (by rfl)) (Eq.trans (keep_up (by rfl)) (Eq.trans (keep_up (by rfl)) rfl)))))))))))))) hA.1.2.1.2.2⟩, ?_, hA.1.2.2.2⟩, iK_1 ⟨rfl, rfl, rfl, rfl, rfl⟩, iI_k (Eq.trans (keep_up (kIm_f (by decide) (show (m 92 0).toNat < 150 by omega))) (Eq.trans (keep_up (kIm_f (by decide) (show (m 92 0).toNat < 150 by omega))) (Eq.trans (keep_up (kIm_f (by decide) (show (m 92 0).toNat < 150 by omega))) (Eq.trans (keep_up (by rfl)) (Eq.trans (keep_up (by rfl)) (Eq.trans (keep_up (by rfl)) (Eq.trans (keep_up (by rfl)) (Eq.trans (keep_up (by rfl)) (Eq.trans (keep_up (by rfl)) (Eq.trans (keep_up (by rfl)) (Eq.trans (keep_up (by rfl)) (Eq.trans (keep_up (by rfl)) (Eq.trans (keep_up (by rfl)) (Eq.trans (keep_up (by rfl)) rfl)))))))))))))) (by omega) hA.2.2⟩
      · exact rC_tell hA.1.1.1 hv rfl ⟨rfl, rfl, rfl⟩ ⟨rfl, rfl, rfl, rfl, rfl, rfl⟩ (by rw [q_up_rw (by decide), q_up_rw (by decide), q_up_rw (by decide), q_up_rw (by decide), q_up_rw (by decide), q_up_rw (by decide), q_up_rw (by decide), q_up_rw (by decide)]; exact q_up_fu2 rfl) (by rw [q_up_rw (by decide), q_up_rw (by decide), q_up_rw (by decide), q_up_rw (by decide), q_up_rw (by decide), q_up_rw (by decide), q_up_rw (by decide)]; exact q_up_fu2 rfl) (by rw [q_up_rw (by decide), q_up_rw (by decide), q_up_rw (by decide), q_up_rw (by decide), q_up_rw (by decide), q_up_rw (by decide)]; exact q_up_fu2 rfl) ⟨rfl, rfl, rfl, rfl, rfl, rfl, rfl, rfl, rfl, rfl⟩ rfl (by rw [q_up_rw (by decide), q_up_rw (by decide)]; exact q_up_fu2 rfl) (by rw [q_up_rw (by decide)]; exact q_up_fu2 rfl) (q_up_fu2 rfl)
      · have := hA.1.2.2.1
        show m 12 1 ≤ c + 1
        omega
    · exact absurd (show ¬ m 92 0 = 150 ∧ (0 ≤ w ∧ w ≤ m 85 0 - 1) ∧ 0 ≤ k ∧ k ≤ 3 by omega) hn
  · refine ⟨_, u, m, y, rfl, rfl, _, c_mTell u m y w k d1 d2 q0 q1, ?_⟩
    rintro r2 h2 (⟨-, hn, -⟩ | ⟨rfl, -, rfl⟩)
    · exact absurd (by omega) hv
    · exact ⟨rfl, _, y, rfl, iA_o (keep_up rfl) hA⟩

theorem kIm_w {m m' : qM} (hk : keep (fun i _ => decide (¬ ((85 ≤ i ∧ i ≤ 95) ∨ i = 77 ∨ i = 107))) m' = keep (fun i _ => decide (¬ ((85 ≤ i ∧ i ≤ 95) ∨ i = 77 ∨ i = 107))) m) (hU : mUp m m') (n nm : Int) (h0 : 0 ≤ m 85 0 ∧ m 85 0 < 60) (h2 : 0 ≤ m 92 0 ∧ m 92 0 < 150)
    (h8 : m' 88 = q_fu (m 88) (m 85 0).toNat n ∧ m' 89 = q_fu (m 89) (m 85 0).toNat (m 84 0) ∧ m' 90 = q_fu (m 90) (m 85 0).toNat (m 82 0) ∧ m' 91 = q_fu (m 91) (m 85 0).toNat nm) (h9 : m' 93 = q_fu (m 93) (m 92 0).toNat (m 85 0) ∧ m' 94 = q_fu (m 94) (m 92 0).toNat (-1) ∧ m' 95 = q_fu (m 95) (m 92 0).toNat (m 82 0)) : keep kIm m' = keep kIm m := by
  funext i j
  unfold keep
  by_cases z : kIm i j = true
  · rw [if_pos z, if_pos z]
    by_cases e : 85 ≤ i ∧ i ≤ 95
    · have q := kIm_j z (by omega)
      have : i = 85 ∨ i = 86 ∨ i = 87 ∨ i = 88 ∨ i = 89 ∨ i = 90 ∨ i = 91 ∨ i = 92 ∨ i = 93 ∨ i = 94 ∨ i = 95 := by omega
      rcases this with rfl | rfl | rfl | rfl | rfl | rfl | rfl | rfl | rfl | rfl | rfl
      · exact (hU.1 j q).1
      · exact (hU.1 j q).2.1
      · exact hU.2 j q
      · have q : 60 ≤ j := q
        rw [h8.1, q_fu_ne (by omega)]
      · have q : 60 ≤ j := q
        rw [h8.2.1, q_fu_ne (by omega)]
      · have q : 60 ≤ j := q
        rw [h8.2.2.1, q_fu_ne (by omega)]
      · have q : 60 ≤ j := q
        rw [h8.2.2.2, q_fu_ne (by omega)]
      · exact (hU.1 j q).2.2
      · have q : 150 ≤ j := q
        rw [h9.1, q_fu_ne (by omega)]
      · have q : 150 ≤ j := q
        rw [h9.2.1, q_fu_ne (by omega)]
      · have q : 150 ≤ j := q
        rw [h9.2.2, q_fu_ne (by omega)]
    · unfold kIm at z
      rw [decide_eq_true_eq] at z
      exact keep_at hk (decide_eq_true (by omega))
  · rw [if_neg z, if_neg z]
theorem kWd_r {m m' : qM} (h : keep kWd m' = keep kWd m) (i : Nat) (hi : i = 1 ∨ (12 ≤ i ∧ i ≤ 22) ∨ 24 ≤ i) : m' i = m i := keep_rw h (fun j => by unfold kWd; rw [decide_eq_true_eq]; omega)
theorem j_word {c : Int} {u : qU} {m : qM} (y : qM) (nm a b cc d e : Int) (hA : iA c u m) (hnm : nm = 0 ∨ nm = 1) (q1 : qr a) (q2 : qr b) (q3 : qr cc) (q4 : qr d) (q5 : qr e) : qPair YX11_word YX12_word 4 3 [qR 0, qI nm, qI a, qI b, qI cc, qI d, qI e] [qR 77, qI nm, qI a, qI b, qI cc, qI d, qI e] c u m y := by
  have ra := hA.1.1.1.1
  have r0 := ra.1.1
  have r1 := ra.1.2.1
  have r2 := ra.1.2.2
  have e85 : m 85 0 = m 2 0 := ra.2.2.1.1
  have e86 : m 86 0 = m 2 1 := ra.2.2.1.2.1
  have e92 : m 92 0 = m 2 2 := ra.2.2.1.2.2
  refine ⟨0, 0, _, by decide, by decide, x_word u m y nm a b cc d e hA.1.1.1 hnm q1 q2 q3 q4 q5, ?_⟩
  rintro r h (⟨n, m1, rfl, hw, rfl, hc⟩ | ⟨gv, rfl, hw, rfl⟩)
  · have f : ∀ i, 24 ≤ i → m1 i = m i := fun i hi => kWd_r hc.1 i (by omega)
    have f85 := f 85 (by decide)
    have f86 := f 86 (by decide)
    have f92 := f 92 (by decide)
    refine ⟨_, u, m1, y, rfl, rfl, _, m_wordI u m1 y nm a b cc d e (by rw [f85]; omega) (by rw [f86]; omega) (by rw [f92]; omega) hnm q1 q2 q3 q4 q5, ?_⟩
    rintro r2 h2 (⟨n2, m2, rfl, hw2, rfl, hm, hU⟩ | ⟨gv, rfl, hw2, rfl⟩)
    · have en : n2 = n := wOK_u hw2.1.2.1 hw.1.2.1
      subst en
      have hw3 := hw.2
      have g : ∀ i, i = 1 ∨ (12 ≤ i ∧ i ≤ 21) ∨ (78 ≤ i ∧ i ≤ 84) ∨ (96 ≤ i ∧ i ≤ 106) ∨ 124 ≤ i → m2 i = m i := fun i hi => (keep_rw hm.1 (fun j => decide_eq_true (by omega))).trans (kWd_r hc.1 i (by omega))
      have k : ∀ K : Nat → Nat → Bool, (∀ i j, K i j = true → i = 1 ∨ (12 ≤ i ∧ i ≤ 21) ∨ (78 ≤ i ∧ i ≤ 84) ∨ (96 ≤ i ∧ i ≤ 106) ∨ 124 ≤ i) → keep K m2 = keep K m := fun K hK => by
        funext i j
        unfold keep
        by_cases z : K i j = true
        · rw [if_pos z, if_pos z, g i (hK i j z)]
        · rw [if_neg z, if_neg z]
      have f0 : ∀ j, m2 0 j = m1 0 j := fun j => keep_at hm.1 (by rfl)
      refine ⟨congrArg (fun z => some (qI z)) (by rw [f85, e85]), m2, y, rfl, ⟨⟨rC_word hA.1.1.1 hw.1 hw3 hnm hc hm, rL_k (k _ fun i j z => ?_) hA.1.1.2⟩, ⟨rXn_k (k _ fun i j z => ?_) hA.1.2.1.1, rXl_k (k _ fun i j z => ?_) hA.1.2.1.2.1, rTp_k (k _ fun i j z => ?_) hA.1.2.1.2.2⟩, ?_, fun a a0 a1 => ?_⟩, iK_1 ?_, iI_k ?_ (by omega) hA.2.2⟩
      · unfold kRL at z; rw [decide_eq_true_eq] at z; omega
      · unfold kRN at z; rw [decide_eq_true_eq] at z; omega
      · unfold kRX at z; rw [decide_eq_true_eq] at z; omega
      · unfold kRT at z; rw [decide_eq_true_eq] at z; omega
      · have := hA.1.2.2.1
        rw [g 12 (by decide)]
        omega
      · rw [g 99 (by decide)]
        exact hA.1.2.2.2 a a0 a1
      · rw [f0, f0, f0, f0, f0]
        exact hc.2.1
      · refine (kIm_w hm.1 hU n2 nm (by rw [f85]; omega) (by rw [f92]; omega) hm.2.2.2.1 hm.2.2.2.2).trans (keep_of (fun i j z => ?_) hc.1)
        unfold kIm at z
        unfold kWd
        rw [decide_eq_true_eq] at z ⊢
        omega
    · refine absurd ?_ (hw2 n)
      refine ⟨hw.1, ?_⟩
      have hw3 := hw.2
      rw [f85, f86, f92, e85, e86, e92]
      exact hw3
  · refine ⟨_, u, _, y, rfl, rfl, _, m_wordI u (q_row m 23 gv) y nm a b cc d e (show 0 ≤ m 85 0 ∧ m 85 0 ≤ 60 by omega) (show 0 ≤ m 86 0 ∧ m 86 0 ≤ 12 by omega) (show 0 ≤ m 92 0 ∧ m 92 0 ≤ 150 by omega) hnm q1 q2 q3 q4 q5, ?_⟩
    rintro r2 h2 (⟨n2, m2, rfl, hw2, rfl, hm, hU⟩ | ⟨gv2, rfl, hw2, rfl⟩)
    · refine absurd ?_ (hw n2)
      have hw3 : m 85 0 < 60 ∧ m 92 0 < 150 ∧ (nm = 0 ∨ m 86 0 < 12) := hw2.2
      refine ⟨hw2.1, ?_⟩
      rw [← e85, ← e86, ← e92]
      exact hw3
    · exact ⟨rfl, _, y, rfl, iA_cq (Eq.trans (keep_row (by intro j; rfl)) (Eq.trans (keep_up (by rfl)) (Eq.trans (keep_row (by intro j; rfl)) rfl))) (Eq.trans (keep_row (by intro j; rfl)) (Eq.trans (keep_up (by rfl)) (Eq.trans (keep_row (by intro j; rfl)) rfl))) hA⟩

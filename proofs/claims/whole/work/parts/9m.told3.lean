/-! printed by p110.py: accounts, counts, the tape, names, spellings: both sides alike -/

theorem j_account {c : Int} {u : qU} {m : qM} (y : qM) (hA : iA c u m) : qPair YX11_account YX12_account 1 1 [qR 0] [qR 77] c u m y := by
  have hL := hA.1.1.2
  have r0 := hL.1.1.1
  have e96 : m 96 0 = m 12 0 := hL.1.1.2.2
  have d1 : 0 ≤ m 96 0 ∧ m 96 0 ≤ 10 := by omega
  refine ⟨0, 0, _, by decide, by decide, x_account u m y hL.1 hA.1.1.1.1.2.1.1, ?_⟩
  rintro r h (⟨rfl, hv, rfl⟩ | ⟨rfl, hv, rfl⟩)
  · refine ⟨_, u, _, y, rfl, rfl, _, m_account u _ y d1, ?_⟩
    rintro r2 h2 (⟨rfl, -, rfl⟩ | ⟨-, hn, -⟩)
    · refine ⟨congrArg (fun z => some (qI z)) e96, _, y, rfl, ⟨⟨rC_k (Eq.trans (keep_up (by rfl)) (Eq.trans (keep_up (by rfl)) (Eq.trans (keep_up (by rfl)) (Eq.trans (keep_up (by rfl)) (Eq.trans (keep_up (by rfl)) rfl))))) hA.1.1.1, ?_⟩, ⟨rXn_k (Eq.trans (keep_up (by rfl)) (Eq.trans (keep_up (by rfl)) (Eq.trans (keep_up (by rfl)) (Eq.trans (keep_up (by rfl)) (Eq.trans (keep_up (by rfl)) rfl))))) hA.1.2.1.1, rXl_k (Eq.trans (keep_up (by rfl)) (Eq.trans (keep_up (by rfl)) (Eq.trans (keep_up (by rfl)) (Eq.trans (keep_up (by rfl)) (Eq.trans (keep_up (by rfl)) rfl))))) hA.1.2.1.2.1, rTp_k (Eq.trans (keep_up (by rfl)) (Eq.trans (keep_up (by rfl)) (Eq.trans (keep_up (by rfl)) (Eq.trans (keep_up (by rfl)) (Eq.trans (keep_up (by rfl)) rfl))))) hA.1.2.1.2.2⟩, ?_, fun a a0 a1 => ?_⟩, iK_k (Eq.trans (keep_up (by rfl)) (Eq.trans (keep_up (by rfl)) (Eq.trans (keep_up (by rfl)) (Eq.trans (keep_up (by rfl)) (Eq.trans (keep_up (by rfl)) rfl))))) hA.2.1, iI_k (Eq.trans (keep_up (kIm_f (by decide) (show (m 96 0).toNat < 10 by omega))) (Eq.trans (keep_up (kIm_f (by decide) (show (m 96 0).toNat < 10 by omega))) (Eq.trans (keep_up (by rfl)) (Eq.trans (keep_up (by rfl)) (Eq.trans (keep_up (by rfl)) rfl))))) (by omega) hA.2.2⟩
      · exact rL_acc hL hv rfl rfl rfl rfl rfl rfl (by rw [q_up_rw (by decide), ← e96]; exact q_up_fu2 rfl) rfl (by rw [← e96]; exact q_up_fu2 rfl) rfl
      · have := hA.1.2.2.1
        show m 12 1 ≤ c + 1
        omega
      · show 0 ≤ q_up _ 99 (m 96 0).toNat 0 99 a.toNat ∧ q_up _ 99 (m 96 0).toNat 0 99 a.toNat ≤ 1000
        by_cases q : a.toNat = (m 96 0).toNat
        · rw [q, q_up_eq]; exact ⟨by decide, by decide⟩
        · rw [q_up_ne2 q]; exact hA.1.2.2.2 a a0 a1
    · exact absurd (show m 96 0 < 10 by omega) hn
  · refine ⟨_, u, m, y, rfl, rfl, _, m_account u m y d1, ?_⟩
    rintro r2 h2 (⟨-, hn, -⟩ | ⟨rfl, -, rfl⟩)
    · exact absurd (by omega) hv
    · exact ⟨rfl, _, y, rfl, iA_o (keep_up rfl) hA⟩
theorem cnt_hp {m : qM} (hL : rL m) (ha : rA m) : ∀ a : Int, 0 ≤ a → a < m 96 0 → (0 ≤ m 97 a.toNat ∧ m 97 a.toNat ≤ 6) ∧ (0 ≤ m 99 a.toNat ∧ m 99 a.toNat ≤ 1000) ∧ (m 99 a.toNat = 1000 → m 100 (5000 * a + 5 * (m 99 a.toNat - 1) + 4).toNat = m 82 0) ∧ (0 < m 99 a.toNat → qr (m 100 (5000 * a + 5 * (m 99 a.toNat - 1) + 4).toNat)) := by
  intro a a0 a1
  have e96 : m 96 0 = m 12 0 := hL.1.1.2.2
  have e82 : m 82 0 = m 1 8 := ha.2.2.2.1
  have r8 := ha.2.1.1
  obtain ⟨⟨⟨p1, p2⟩, -, p5, p6⟩, -⟩ := hL.2 a a0 (by omega)
  refine ⟨by omega, p5, fun z => ?_, fun z => ?_⟩
  · have := (p6 (m 99 a.toNat - 1) (by omega) (by omega)).2.1
    omega
  · have := (p6 (m 99 a.toNat - 1) (by omega) (by omega)).2.1
    constructor <;> omega

theorem j_count0 {c : Int} {u : qU} {m : qM} (y : qM) (ac a b cc d : Int) (hA : iA c u m) (h5 : c < 512) (q0 : qr ac) (q1 : qr a) (q2 : qr b) (q3 : qr cc) (q4 : qr d) : qPair YX11_count YX12_count 2 2 [qR 0, qI ac, qI 0, qI a, qI b, qI cc, qI d] [qR 77, qI ac, qI 0, qI a, qI b, qI cc, qI d] c u m y := by
  have hL := hA.1.1.2
  have ra := hA.1.1.1.1
  have r0 := hL.1.1.1
  have e96 : m 96 0 = m 12 0 := hL.1.1.2.2
  have e82 : m 82 0 = m 1 8 := ra.2.2.2.1
  have r8 := ra.2.1.1
  have r12 := hA.1.2.2.1
  have hp := cnt_hp hL ra
  have d1 : 0 ≤ m 96 0 ∧ m 96 0 ≤ 10 := by omega
  have d2 : 0 ≤ m 82 0 ∧ m 82 0 ≤ 999 := by omega
  refine ⟨0, 0, _, by decide, by decide, x_count0 u m y ac a b cc d hL.1 r8 (by omega) (fun a a0 a1 => (hL.2 a a0 a1).1.1.2) q0 q1 q2 q3 q4, ?_⟩
  rintro r h (⟨rfl, hv, rfl⟩ | ⟨rfl, hv, rfl⟩)
  · have e97 : m 97 ac.toNat = m 14 ac.toNat := (hL.2 ac hv.1.1 hv.1.2).1.1.1
    have r97 := (hL.2 ac hv.1.1 hv.1.2).1.1.2
    refine ⟨_, u, _, y, rfl, rfl, _, m_count0 u _ y ac a b cc d d1 d2 hp q0 q1 q2 q3 q4, ?_⟩
    rintro r2 h2 (⟨rfl, -, rfl⟩ | ⟨-, hn, -⟩)
    · refine ⟨congrArg (fun z => some (qI (z + 1))) e97, _, y, rfl, ⟨⟨rC_k (Eq.trans (keep_up (by rfl)) (Eq.trans (keep_row (by intro j; rfl)) (Eq.trans (keep_up (by rfl)) (Eq.trans (keep_up (by rfl)) (Eq.trans (keep_up (by rfl)) (Eq.trans (keep_up (by rfl)) (Eq.trans (keep_up (by rfl)) (Eq.trans (keep_up (by rfl)) (Eq.trans (keep_up (by rfl)) (Eq.trans (keep_up (by rfl)) (Eq.trans (keep_up (by rfl)) rfl))))))))))) hA.1.1.1, ?_⟩, ⟨rXn_k (Eq.trans (keep_up (by rfl)) (Eq.trans (keep_row (by intro j; rfl)) (Eq.trans (keep_up (by rfl)) (Eq.trans (keep_up (by rfl)) (Eq.trans (keep_up (by rfl)) (Eq.trans (keep_up (by rfl)) (Eq.trans (keep_up (by rfl)) (Eq.trans (keep_up (by rfl)) (Eq.trans (keep_up (by rfl)) (Eq.trans (keep_up (by rfl)) (Eq.trans (keep_up (by rfl)) rfl))))))))))) hA.1.2.1.1, rXl_k (Eq.trans (keep_up (by rfl)) (Eq.trans (keep_row (by intro j; rfl)) (Eq.trans (keep_up (by rfl)) (Eq.trans (keep_up (by rfl)) (Eq.trans (keep_up (by rfl)) (Eq.trans (keep_up (by rfl)) (Eq.trans (keep_up (by rfl)) (Eq.trans (keep_up (by rfl)) (Eq.trans (keep_up (by rfl)) (Eq.trans (keep_up (by rfl)) (Eq.trans (keep_up (by rfl)) rfl))))))))))) hA.1.2.1.2.1, rTp_k (Eq.trans (keep_up (by rfl)) (Eq.trans (keep_row (by intro j; rfl)) (Eq.trans (keep_up (by rfl)) (Eq.trans (keep_up (by rfl)) (Eq.trans (keep_up (by rfl)) (Eq.trans (keep_up (by rfl)) (Eq.trans (keep_up (by rfl)) (Eq.trans (keep_up (by rfl)) (Eq.trans (keep_up (by rfl)) (Eq.trans (keep_up (by rfl)) (Eq.trans (keep_up (by rfl)) rfl))))))))))) hA.1.2.1.2.2⟩, ?_, hA.1.2.2.2⟩, iK_1 ⟨rfl, rfl, rfl, rfl, rfl⟩, iI_k (Eq.trans (keep_up (kIm_f (by decide) (show ac.toNat < 10 by omega))) (Eq.trans (keep_rowv (fun j z => fu5_out (show 0 ≤ 5 * (6 * ac + m 97 ac.toNat) by omega) (Or.inr (show 5 * (6 * ac + m 97 ac.toNat) + 5 ≤ (j : Int) by have q : 300 ≤ j := kIm_j z (by decide); omega)))) (Eq.trans (keep_up (by rfl)) (Eq.trans (keep_up (by rfl)) (Eq.trans (keep_up (by rfl)) (Eq.trans (keep_up (by rfl)) (Eq.trans (keep_up (by rfl)) (Eq.trans (keep_up (by rfl)) (Eq.trans (keep_up (by rfl)) (Eq.trans (keep_up (by rfl)) (Eq.trans (keep_up (by rfl)) rfl))))))))))) (by omega) hA.2.2⟩
      · refine rL_cnt0 (ac := ac) hL (pk_row hv.2.1.1 hv.2.1.2.1 hv.2.1.2.2.1 hv.2.1.2.2.2 (by omega) (by decide) r8) hv.2.1 hv.1 r8.1 ⟨rfl, ?_⟩ (by omega) hv.2.2 rfl rfl ?_ rfl (q_up_fu2 rfl) ?_ rfl rfl
        · rw [q_up_rw (by decide), q_row_rw2 (by decide), q_up_rw (by decide), q_up_rw (by decide), q_up_rw (by decide)]
          exact q_up_fu2 rfl
        · rw [q_up_rw (by decide), q_row_rw2 (by decide), q_up_rw (by decide)]
          exact q_up_fu2 rfl
        · show fu5 (m 98) (5 * (6 * ac + m 97 ac.toNat)) a b cc d (m 82 0) = _
          rw [e82]
      · show m 12 1 + 1 ≤ c + 1
        omega
    · refine absurd ⟨?_, hv.2.1, ?_⟩ hn
      · show 0 ≤ ac ∧ ac < m 96 0
        omega
      · show ¬ m 97 ac.toNat = 6
        have := hv.2.2
        omega
  · refine ⟨_, u, m, y, rfl, rfl, _, m_count0 u m y ac a b cc d d1 d2 hp q0 q1 q2 q3 q4, ?_⟩
    rintro r2 h2 (⟨-, hn, -⟩ | ⟨rfl, -, rfl⟩)
    · have l1 : 0 ≤ ac ∧ ac < m 12 0 := by have := hn.1; omega
      have e97 : m 97 ac.toNat = m 14 ac.toNat := (hL.2 ac l1.1 l1.2).1.1.1
      have r97 := (hL.2 ac l1.1 l1.2).1.1.2
      refine absurd ⟨l1, hn.2.1, ?_⟩ hv
      have := hn.2.2
      omega
    · exact ⟨rfl, _, y, rfl, iA_o (keep_up rfl) hA⟩

theorem j_count1 {c : Int} {u : qU} {m : qM} (y : qM) (ac a b cc d : Int) (hA : iA c u m) (h5 : c < 512) (q0 : qr ac) (q1 : qr a) (q2 : qr b) (q3 : qr cc) (q4 : qr d) : qPair YX11_count YX12_count 2 2 [qR 0, qI ac, qI 1, qI a, qI b, qI cc, qI d] [qR 77, qI ac, qI 1, qI a, qI b, qI cc, qI d] c u m y := by
  have hL := hA.1.1.2
  have ra := hA.1.1.1.1
  have r0 := hL.1.1.1
  have e96 : m 96 0 = m 12 0 := hL.1.1.2.2
  have e82 : m 82 0 = m 1 8 := ra.2.2.2.1
  have r8 := ra.2.1.1
  have r12 := hA.1.2.2.1
  have hp := cnt_hp hL ra
  have d1 : 0 ≤ m 96 0 ∧ m 96 0 ≤ 10 := by omega
  have d2 : 0 ≤ m 82 0 ∧ m 82 0 ≤ 999 := by omega
  refine ⟨0, 0, _, by decide, by decide, x_count1 u m y ac a b cc d hL.1 r8 (by omega) (fun a a0 a1 => (hL.2 a a0 a1).1.1.2) q0 q1 q2 q3 q4, ?_⟩
  rintro r h (⟨rfl, hv, rfl⟩ | ⟨rfl, hv, rfl⟩)
  · have e97 : m 97 ac.toNat = m 14 ac.toNat := (hL.2 ac hv.1.1 hv.1.2).1.1.1
    refine ⟨_, u, _, y, rfl, rfl, _, m_count1 u _ y ac a b cc d d1 d2 hp q0 q1 q2 q3 q4, ?_⟩
    rintro r2 h2 (⟨kk, hk, rfl, -, rfl⟩ | ⟨-, hn, -⟩)
    · have hk : (kk = m 99 ac.toNat - 1 ∧ 0 < m 99 ac.toNat ∧ m 100 (5000 * ac + 5 * (m 99 ac.toNat - 1) + 4).toNat = m 82 0) ∨ (kk = m 99 ac.toNat ∧ (m 99 ac.toNat ≤ 0 ∨ ¬ m 100 (5000 * ac + 5 * (m 99 ac.toNat - 1) + 4).toNat = m 82 0)) := hk
      have rk := hp ac hv.1.1 (by omega)
      have k9 : 0 ≤ kk ∧ kk + 1 ≤ 1000 := by
        by_cases z : m 99 ac.toNat = 1000
        · have := rk.2.2.1 z
          omega
        · omega
      refine ⟨congrArg (fun z => some (qI z)) e97, _, y, rfl, ⟨⟨rC_k (Eq.trans (keep_up (by rfl)) (Eq.trans (keep_row (by intro j; rfl)) (Eq.trans (keep_up (by rfl)) (Eq.trans (keep_up (by rfl)) (Eq.trans (keep_up (by rfl)) (Eq.trans (keep_up (by rfl)) (Eq.trans (keep_up (by rfl)) (Eq.trans (keep_up (by rfl)) (Eq.trans (keep_up (by rfl)) (Eq.trans (keep_up (by rfl)) rfl)))))))))) hA.1.1.1, ?_⟩, ⟨rXn_k (Eq.trans (keep_up (by rfl)) (Eq.trans (keep_row (by intro j; rfl)) (Eq.trans (keep_up (by rfl)) (Eq.trans (keep_up (by rfl)) (Eq.trans (keep_up (by rfl)) (Eq.trans (keep_up (by rfl)) (Eq.trans (keep_up (by rfl)) (Eq.trans (keep_up (by rfl)) (Eq.trans (keep_up (by rfl)) (Eq.trans (keep_up (by rfl)) rfl)))))))))) hA.1.2.1.1, rXl_k (Eq.trans (keep_up (by rfl)) (Eq.trans (keep_row (by intro j; rfl)) (Eq.trans (keep_up (by rfl)) (Eq.trans (keep_up (by rfl)) (Eq.trans (keep_up (by rfl)) (Eq.trans (keep_up (by rfl)) (Eq.trans (keep_up (by rfl)) (Eq.trans (keep_up (by rfl)) (Eq.trans (keep_up (by rfl)) (Eq.trans (keep_up (by rfl)) rfl)))))))))) hA.1.2.1.2.1, rTp_k (Eq.trans (keep_up (by rfl)) (Eq.trans (keep_row (by intro j; rfl)) (Eq.trans (keep_up (by rfl)) (Eq.trans (keep_up (by rfl)) (Eq.trans (keep_up (by rfl)) (Eq.trans (keep_up (by rfl)) (Eq.trans (keep_up (by rfl)) (Eq.trans (keep_up (by rfl)) (Eq.trans (keep_up (by rfl)) (Eq.trans (keep_up (by rfl)) rfl)))))))))) hA.1.2.1.2.2⟩, ?_, fun a a0 a1 => ?_⟩, iK_1 ⟨rfl, rfl, rfl, rfl, rfl⟩, iI_k (Eq.trans (keep_up (kIm_f (by decide) (show ac.toNat < 10 by omega))) (Eq.trans (keep_rowv (fun j z => fu5_out (show 0 ≤ 5000 * ac + 5 * kk by omega) (Or.inr (show 5000 * ac + 5 * kk + 5 ≤ (j : Int) by have q : 50000 ≤ j := kIm_j z (by decide); omega)))) (Eq.trans (keep_up (by rfl)) (Eq.trans (keep_up (by rfl)) (Eq.trans (keep_up (by rfl)) (Eq.trans (keep_up (by rfl)) (Eq.trans (keep_up (by rfl)) (Eq.trans (keep_up (by rfl)) (Eq.trans (keep_up (by rfl)) (Eq.trans (keep_up (by rfl)) rfl)))))))))) (by omega) hA.2.2⟩
      · refine rL_cnt1 (ac := ac) (kk := kk) hL (pk_row hv.2.1 hv.2.2.1 hv.2.2.2.1 hv.2.2.2.2 (by omega) (by decide) r8) hv.2 hv.1 r8 ⟨rfl, ?_⟩ (by omega) (by rw [← e82]; exact hk) rfl rfl rfl rfl rfl rfl (q_up_fu2 rfl) ?_
        · rw [q_up_rw (by decide), q_row_rw2 (by decide), q_up_rw (by decide), q_up_rw (by decide)]
          exact q_up_fu2 rfl
        · show fu5 (m 100) (5000 * ac + 5 * kk) a b cc d (m 82 0) = _
          rw [e82]
      · show m 12 1 + 1 ≤ c + 1
        omega
      · show 0 ≤ q_up _ 99 ac.toNat (kk + 1) 99 a.toNat ∧ q_up _ 99 ac.toNat (kk + 1) 99 a.toNat ≤ 1000
        by_cases q : a.toNat = ac.toNat
        · rw [q, q_up_eq]; omega
        · rw [q_up_ne2 q]; exact hA.1.2.2.2 a a0 a1
    · refine absurd ⟨?_, hv.2⟩ hn
      show 0 ≤ ac ∧ ac < m 96 0
      omega
  · refine ⟨_, u, m, y, rfl, rfl, _, m_count1 u m y ac a b cc d d1 d2 hp q0 q1 q2 q3 q4, ?_⟩
    rintro r2 h2 (⟨kk, -, -, hn, -⟩ | ⟨rfl, -, rfl⟩)
    · refine absurd ⟨?_, hn.2⟩ hv
      have := hn.1
      omega
    · exact ⟨rfl, _, y, rfl, iA_o (keep_up rfl) hA⟩

theorem fu20_out {f : Nat → Int} {L a b c d e : Int} {j : Nat} (h0 : 0 ≤ L) (hj : L + 20 ≤ (j : Int)) : fu20 f L a b c d e j = f j := by
  unfold fu20
  rw [fu4_out (by omega) (by omega), fu4_out (by omega) (by omega), fu4_out (by omega) (by omega), fu4_out (by omega) (by omega), fu4_out (by omega) (by omega)]
theorem j_feed {c : Int} {u : qU} {m : qM} (y : qM) (a b cc d e : Int) (hA : iA c u m) : qPair YX11_feed YX12_feed 2 2 [qR 0, qI a, qI b, qI cc, qI d, qI e] [qR 77, qI a, qI b, qI cc, qI d, qI e] c u m y := by
  have hT := hA.1.2.1.2.2
  have r4 := hT.1.1
  have e79 : m 79 0 = m 1 4 := hT.1.2
  have d1 : 0 ≤ m 79 0 ∧ m 79 0 ≤ 400 := by omega
  refine ⟨0, 0, _, by decide, by decide, x_feed u m y a b cc d e r4, ?_⟩
  rintro r h (⟨rfl, hv, gv, rfl⟩ | ⟨rfl, hv, rfl⟩)
  · refine ⟨_, u, _, y, rfl, rfl, _, m_feed u _ y a b cc d e d1, ?_⟩
    rintro r2 h2 (⟨rfl, -, rfl⟩ | ⟨-, hn, -⟩)
    · refine ⟨congrArg (fun z => some (qI (z + 20))) e79, _, y, rfl, ⟨⟨rC_k (Eq.trans (keep_up (by rfl)) (Eq.trans (keep_row (by intro j; rfl)) (Eq.trans (keep_up (by rfl)) (Eq.trans (keep_up (by rfl)) (Eq.trans (keep_row (by intro j; rfl)) (Eq.trans (keep_row (by intro j; rfl)) rfl)))))) hA.1.1.1, rL_k (Eq.trans (keep_up (by rfl)) (Eq.trans (keep_row (by intro j; rfl)) (Eq.trans (keep_up (by rfl)) (Eq.trans (keep_up (by rfl)) (Eq.trans (keep_row (by intro j; rfl)) (Eq.trans (keep_row (by intro j; rfl)) rfl)))))) hA.1.1.2⟩, ⟨rXn_k (Eq.trans (keep_up (by rfl)) (Eq.trans (keep_row (by intro j; rfl)) (Eq.trans (keep_up (by rfl)) (Eq.trans (keep_up (by rfl)) (Eq.trans (keep_row (by intro j; rfl)) (Eq.trans (keep_row (by intro j; rfl)) rfl)))))) hA.1.2.1.1, rXl_k (Eq.trans (keep_up (by rfl)) (Eq.trans (keep_row (by intro j; rfl)) (Eq.trans (keep_up (by rfl)) (Eq.trans (keep_up (by rfl)) (Eq.trans (keep_row (by intro j; rfl)) (Eq.trans (keep_row (by intro j; rfl)) rfl)))))) hA.1.2.1.2.1, ?_⟩, ?_, hA.1.2.2.2⟩, iK_k (Eq.trans (keep_up (by rfl)) (Eq.trans (keep_row (by intro j; rfl)) (Eq.trans (keep_up (by rfl)) (Eq.trans (keep_up (by rfl)) (Eq.trans (keep_row (by intro j; rfl)) (Eq.trans (keep_row (by intro j; rfl)) rfl)))))) hA.2.1, iI_k (Eq.trans (keep_up (by rfl)) (Eq.trans (keep_rowv (fun j z => fu20_out (show 0 ≤ m 79 0 by omega) (show m 79 0 + 20 ≤ (j : Int) by have q : 400 ≤ j := kIm_j z (by decide); omega))) (Eq.trans (keep_up (by rfl)) (Eq.trans (keep_up (by rfl)) (Eq.trans (keep_row (by intro j; rfl)) (Eq.trans (keep_row (by intro j; rfl)) rfl)))))) (by omega) hA.2.2⟩
      · exact rTp_feed hT hv rfl ⟨rfl, rfl⟩ rfl rfl rfl ⟨rfl, rfl⟩
      · have := hA.1.2.2.1
        show m 12 1 ≤ c + 1
        omega
    · exact absurd (show m 79 0 ≤ 380 by omega) hn
  · refine ⟨_, u, m, y, rfl, rfl, _, m_feed u m y a b cc d e d1, ?_⟩
    rintro r2 h2 (⟨-, hn, -⟩ | ⟨rfl, -, rfl⟩)
    · exact absurd (by omega) hv
    · exact ⟨rfl, _, y, rfl, iA_o (keep_up rfl) hA⟩
theorem j_end {c : Int} {u : qU} {m : qM} (y : qM) (v : Int) (hA : iA c u m) (q0 : qr v) : qPair YX11_end YX12_end 1 2 [qR 0, qI v] [qR 77, qI v] c u m y := by
  have hT := hA.1.2.1.2.2
  have r4 := hT.1.1
  have e79 : m 79 0 = m 1 4 := hT.1.2
  have d1 : 0 ≤ m 79 0 ∧ m 79 0 ≤ 400 := by omega
  refine ⟨0, 0, _, by decide, by decide, x_end u m y v r4 q0, ?_⟩
  rintro r h (⟨rfl, hv, rfl⟩ | ⟨rfl, hv, rfl⟩)
  · refine ⟨_, u, _, y, rfl, rfl, _, m_end u _ y v d1 q0, ?_⟩
    rintro r2 h2 (⟨rfl, -, rfl⟩ | ⟨-, hn, -⟩)
    · refine ⟨rfl, _, y, rfl, ⟨⟨rC_k (Eq.trans (keep_up (by rfl)) (Eq.trans (keep_up (by rfl)) (Eq.trans (keep_up (by rfl)) rfl))) hA.1.1.1, rL_k (Eq.trans (keep_up (by rfl)) (Eq.trans (keep_up (by rfl)) (Eq.trans (keep_up (by rfl)) rfl))) hA.1.1.2⟩, ⟨rXn_k (Eq.trans (keep_up (by rfl)) (Eq.trans (keep_up (by rfl)) (Eq.trans (keep_up (by rfl)) rfl))) hA.1.2.1.1, rXl_k (Eq.trans (keep_up (by rfl)) (Eq.trans (keep_up (by rfl)) (Eq.trans (keep_up (by rfl)) rfl))) hA.1.2.1.2.1, ?_⟩, ?_, hA.1.2.2.2⟩, iK_k (Eq.trans (keep_up (by rfl)) (Eq.trans (keep_up (by rfl)) (Eq.trans (keep_up (by rfl)) rfl))) hA.2.1, iI_k (Eq.trans (keep_up (by rfl)) (Eq.trans (keep_up (by rfl)) (Eq.trans (keep_up (by rfl)) rfl))) (by omega) hA.2.2⟩
      · refine ⟨⟨?_, rfl⟩, fun j hj => hT.2.1 j ?_, hT.2.2.1, hT.2.2.2.1, hT.2.2.2.2⟩
        · show 0 ≤ v ∧ v ≤ 400
          omega
        · have hj : (j : Int) < v := hj
          omega
      · have := hA.1.2.2.1
        show m 12 1 ≤ c + 1
        omega
    · exact absurd (show 0 ≤ v ∧ v ≤ m 79 0 by omega) hn
  · refine ⟨_, u, m, y, rfl, rfl, _, m_end u m y v d1 q0, ?_⟩
    rintro r2 h2 (⟨-, hn, -⟩ | ⟨rfl, -, rfl⟩)
    · exact absurd (by omega) hv
    · exact ⟨rfl, _, y, rfl, iA_o (keep_up rfl) hA⟩

theorem rTp_z {m : qM} (h4 : m 1 4 = 0) (h79 : m 79 0 = 0) (h80 : m 80 0 = m 1 5) (h81 : m 81 0 = m 1 6) (h5 : 0 ≤ m 1 5 ∧ m 1 5 ≤ 3) (h6 : -1 ≤ m 1 6 ∧ m 1 6 ≤ 400) : rTp m := ⟨⟨by omega, by omega⟩, fun j hj => by omega, ⟨h80, h81⟩, h5, h6⟩
theorem noL_r {f : Nat → Int} {n : Int} (h : 0 ≤ n ∧ n ≤ 400) : -1 ≤ noL f n ∧ noL f n ≤ 400 := by
  unfold noL
  by_cases e : n = 0
  · rw [if_pos e]; exact ⟨by decide, by decide⟩
  · rw [if_neg e]
    have := q_fst_r (fun j => lcode (f j) < 0) n.toNat
    omega
theorem noL_e {m : qM} (hT : rTp m) : noL (m 78) (m 79 0) = noL (m 21) (m 1 4) := by
  unfold noL
  rw [hT.1.2, q_fst_c (q := fun j => lcode (m 21 j) < 0) _ (fun k hk => by rw [(hT.2.1 k (by omega)).1])]
theorem rXn_name {m m' : qM} {f g : Nat → Int} (h : rXn m) (hT : rTp m) (e82 : m 82 0 = m 1 8) (h18 : 0 ≤ m 1 8) (hlt : m 15 0 < 5) (hno : noL (m 21) (m 1 4) = -1) (hle : m 1 4 ≤ 10) (k8 : m' 1 8 = m 1 8) (k15 : m' 15 0 = m 15 0 + 1) (k16 : m' 16 = f) (k17 : m' 17 = q_fu (m 17) (m 15 0).toNat (m 1 4)) (k18 : m' 18 = q_fu (m 18) (m 15 0).toNat (m 1 8)) (k101 : m' 101 0 = m 101 0 + 1) (k102 : m' 102 = q_fu (m 102) (m 101 0).toNat (m 79 0)) (k103 : m' 103 = q_fu (m 103) (m 101 0).toNat (m 82 0)) (k104 : m' 104 = g)
    (hf0 : ∀ j : Nat, (j : Int) < m 15 0 * 10 → f j = m 16 j) (hf1 : ∀ i : Int, 0 ≤ i → i < m 1 4 → f (m 15 0 * 10 + i).toNat = lcode (m 21 i.toNat)) (hg0 : ∀ j : Nat, (j : Int) < m 101 0 * 10 → g j = m 104 j) (hg1 : ∀ i : Int, 0 ≤ i → i < m 79 0 → g (10 * m 101 0 + i).toNat = m 78 i.toNat) : rXn m' := by
  obtain ⟨⟨x0, x1⟩, x2, x3⟩ := h
  have e79 : m 79 0 = m 1 4 := hT.1.2
  have r4 := hT.1.1
  have n0 : ¬ m 1 4 = 0 := fun z => by unfold noL at hno; rw [if_pos z] at hno; exact absurd hno (by decide)
  have al : ∀ j : Nat, (j : Int) < m 1 4 → 0 ≤ lcode (m 21 j) := fun j hj => by
    unfold noL at hno
    rw [if_neg n0] at hno
    have z := (q_cnt_no _).mp ((q_fst_0 _ _).mp hno) j (by omega)
    omega
  refine ⟨⟨by omega, by omega⟩, fun a a0 a1 => ?_, fun j k jk kn => ?_⟩
  · rw [k17, k18, k102, k103, k16, k104, k8, x1, e82, e79]
    by_cases e : a = m 15 0
    · subst e
      rw [q_fu_eq, q_fu_eq, q_fu_eq, q_fu_eq]
      refine ⟨⟨rfl, rfl⟩, by omega, ⟨h18, Int.le_refl _⟩, fun i i0 i1 => ?_⟩
      rw [hf1 i i0 i1, show 10 * m 15 0 + i = 10 * m 101 0 + i by rw [x1], hg1 i i0 (by omega)]
      have b := hT.2.1 i.toNat (by omega)
      rw [b.1]
      exact ⟨rfl, al _ (by omega), b.2⟩
    · have a2 : a < m 15 0 := by omega
      rw [q_fu_ne (by omega), q_fu_ne (by omega), q_fu_ne (by omega), q_fu_ne (by omega)]
      have b := x2 a a0 a2
      refine ⟨b.1, b.2.1, b.2.2.1, fun i i0 i1 => ?_⟩
      have b1 := b.2.1
      rw [hf0 _ (by omega), hg0 _ (by omega)]
      exact b.2.2.2 i i0 i1
  · rw [k18]
    by_cases e : k = (m 15 0).toNat
    · rw [e, q_fu_eq]
      by_cases e2 : j = (m 15 0).toNat
      · rw [e2, q_fu_eq]
        exact Int.le_refl _
      · rw [q_fu_ne e2]
        have := (x2 (j : Int) (by omega) (by omega)).2.2.1.2
        rwa [Int.toNat_natCast] at this
    · rw [q_fu_ne e, q_fu_ne (by omega)]
      exact x3 j k jk (by omega)

theorem j_name {c : Int} {u : qU} {m : qM} (y : qM) (hA : iA c u m) : qPair YX11_name YX12_name 6 2 [qR 0] [qR 77] c u m y := by
  have hT := hA.1.2.1.2.2
  have hX := hA.1.2.1.1
  have r4 := hT.1.1
  have e79 : m 79 0 = m 1 4 := hT.1.2
  have eN := noL_e hT
  have rN := noL_r (f := m 21) r4
  have x0 := hX.1.1
  have e101 : m 101 0 = m 15 0 := hX.1.2
  have e82 : m 82 0 = m 1 8 := hA.1.1.1.1.2.2.2.1
  have r8 := hA.1.1.1.1.2.1.1
  have r12 := hA.1.2.2.1
  have d1 : 0 ≤ m 79 0 ∧ m 79 0 ≤ 400 := by omega
  have d2 : ∀ j : Nat, (j : Int) < m 79 0 → -128 ≤ m 78 j ∧ m 78 j ≤ 127 := fun j hj => by
    have b := hT.2.1 j (by omega)
    rw [b.1]; exact b.2
  have d3 : 0 ≤ m 101 0 ∧ m 101 0 ≤ 5 := by omega
  refine ⟨0, 0, _, by decide, by decide, x_name u m y hT hX, ?_⟩
  rintro r h (⟨rfl, hv, rfl⟩ | ⟨rfl, hv, rfl⟩ | ⟨rfl, hv, rfl⟩ | ⟨rfl, hv, f, rfl, hf0, hf1⟩)
  · refine ⟨_, u, _, y, rfl, rfl, _, m_nameI u _ y d1 d2 d3, ?_⟩
    rintro r2 h2 (⟨rfl, hn, rfl⟩ | ⟨rfl, hn, rfl⟩ | ⟨rfl, hn, rfl⟩ | ⟨rfl, hn, g, rfl, hg0, hg1, hg2⟩)
    · exact ⟨rfl, _, y, rfl, ⟨⟨rC_k (Eq.trans (keep_up (by rfl)) (Eq.trans (keep_up (by rfl)) (Eq.trans (keep_up (by rfl)) (Eq.trans (keep_up (by rfl)) (Eq.trans (keep_up (by rfl)) (Eq.trans (keep_up (by rfl)) (Eq.trans (keep_up (by rfl)) rfl))))))) hA.1.1.1, rL_k (Eq.trans (keep_up (by rfl)) (Eq.trans (keep_up (by rfl)) (Eq.trans (keep_up (by rfl)) (Eq.trans (keep_up (by rfl)) (Eq.trans (keep_up (by rfl)) (Eq.trans (keep_up (by rfl)) (Eq.trans (keep_up (by rfl)) rfl))))))) hA.1.1.2⟩, ⟨rXn_k (Eq.trans (keep_up (by rfl)) (Eq.trans (keep_up (by rfl)) (Eq.trans (keep_up (by rfl)) (Eq.trans (keep_up (by rfl)) (Eq.trans (keep_up (by rfl)) (Eq.trans (keep_up (by rfl)) (Eq.trans (keep_up (by rfl)) rfl))))))) hX, rXl_k (Eq.trans (keep_up (by rfl)) (Eq.trans (keep_up (by rfl)) (Eq.trans (keep_up (by rfl)) (Eq.trans (keep_up (by rfl)) (Eq.trans (keep_up (by rfl)) (Eq.trans (keep_up (by rfl)) (Eq.trans (keep_up (by rfl)) rfl))))))) hA.1.2.1.2.1, rTp_z rfl rfl rfl rfl ⟨by show (0 : Int) ≤ 0; decide, by show (0 : Int) ≤ 3; decide⟩ ⟨by show (-1 : Int) ≤ -1; decide, by show (-1 : Int) ≤ 400; decide⟩⟩, show m 12 1 ≤ c + 1 by omega, hA.1.2.2.2⟩, iK_k (Eq.trans (keep_up (by rfl)) (Eq.trans (keep_up (by rfl)) (Eq.trans (keep_up (by rfl)) (Eq.trans (keep_up (by rfl)) (Eq.trans (keep_up (by rfl)) (Eq.trans (keep_up (by rfl)) (Eq.trans (keep_up (by rfl)) rfl))))))) hA.2.1, iI_k (Eq.trans (keep_up (by rfl)) (Eq.trans (keep_up (by rfl)) (Eq.trans (keep_up (by rfl)) (Eq.trans (keep_up (by rfl)) (Eq.trans (keep_up (by rfl)) (Eq.trans (keep_up (by rfl)) (Eq.trans (keep_up (by rfl)) rfl))))))) (by omega) hA.2.2⟩
    · exact absurd (show m 101 0 = 5 by omega) hn.1
    · exact absurd (show m 101 0 = 5 by omega) hn.1
    · exact absurd (show m 101 0 = 5 by omega) hn.1
  · refine ⟨_, u, _, y, rfl, rfl, _, m_nameI u _ y d1 d2 d3, ?_⟩
    rintro r2 h2 (⟨rfl, hn, rfl⟩ | ⟨rfl, hn, rfl⟩ | ⟨rfl, hn, rfl⟩ | ⟨rfl, hn, g, rfl, hg0, hg1, hg2⟩)
    · have hn : m 101 0 = 5 := hn
      omega
    · exact ⟨rfl, _, y, rfl, ⟨⟨rC_k (Eq.trans (keep_up (by rfl)) (Eq.trans (keep_up (by rfl)) (Eq.trans (keep_up (by rfl)) (Eq.trans (keep_up (by rfl)) (Eq.trans (keep_up (by rfl)) (Eq.trans (keep_up (by rfl)) (Eq.trans (keep_up (by rfl)) (Eq.trans (keep_up (by rfl)) (Eq.trans (keep_up (by rfl)) (Eq.trans (keep_up (by rfl)) (Eq.trans (keep_up (by rfl)) rfl))))))))))) hA.1.1.1, rL_k (Eq.trans (keep_up (by rfl)) (Eq.trans (keep_up (by rfl)) (Eq.trans (keep_up (by rfl)) (Eq.trans (keep_up (by rfl)) (Eq.trans (keep_up (by rfl)) (Eq.trans (keep_up (by rfl)) (Eq.trans (keep_up (by rfl)) (Eq.trans (keep_up (by rfl)) (Eq.trans (keep_up (by rfl)) (Eq.trans (keep_up (by rfl)) (Eq.trans (keep_up (by rfl)) rfl))))))))))) hA.1.1.2⟩, ⟨rXn_k (Eq.trans (keep_up (by rfl)) (Eq.trans (keep_up (by rfl)) (Eq.trans (keep_up (by rfl)) (Eq.trans (keep_up (by rfl)) (Eq.trans (keep_up (by rfl)) (Eq.trans (keep_up (by rfl)) (Eq.trans (keep_up (by rfl)) (Eq.trans (keep_up (by rfl)) (Eq.trans (keep_up (by rfl)) (Eq.trans (keep_up (by rfl)) (Eq.trans (keep_up (by rfl)) rfl))))))))))) hX, rXl_k (Eq.trans (keep_up (by rfl)) (Eq.trans (keep_up (by rfl)) (Eq.trans (keep_up (by rfl)) (Eq.trans (keep_up (by rfl)) (Eq.trans (keep_up (by rfl)) (Eq.trans (keep_up (by rfl)) (Eq.trans (keep_up (by rfl)) (Eq.trans (keep_up (by rfl)) (Eq.trans (keep_up (by rfl)) (Eq.trans (keep_up (by rfl)) (Eq.trans (keep_up (by rfl)) rfl))))))))))) hA.1.2.1.2.1, rTp_z rfl rfl rfl eN ⟨by show (0 : Int) ≤ 1; decide, by show (1 : Int) ≤ 3; decide⟩ rN⟩, show m 12 1 ≤ c + 1 by omega, hA.1.2.2.2⟩, iK_k (Eq.trans (keep_up (by rfl)) (Eq.trans (keep_up (by rfl)) (Eq.trans (keep_up (by rfl)) (Eq.trans (keep_up (by rfl)) (Eq.trans (keep_up (by rfl)) (Eq.trans (keep_up (by rfl)) (Eq.trans (keep_up (by rfl)) (Eq.trans (keep_up (by rfl)) (Eq.trans (keep_up (by rfl)) (Eq.trans (keep_up (by rfl)) (Eq.trans (keep_up (by rfl)) rfl))))))))))) hA.2.1, iI_k (Eq.trans (keep_up (by rfl)) (Eq.trans (keep_up (by rfl)) (Eq.trans (keep_up (by rfl)) (Eq.trans (keep_up (by rfl)) (Eq.trans (keep_up (by rfl)) (Eq.trans (keep_up (by rfl)) (Eq.trans (keep_up (by rfl)) (Eq.trans (keep_up (by rfl)) (Eq.trans (keep_up (by rfl)) (Eq.trans (keep_up (by rfl)) (Eq.trans (keep_up (by rfl)) rfl))))))))))) (by omega) hA.2.2⟩
    · exact absurd (eN.symm.trans hn.2.1) hv.2
    · exact absurd (eN.symm.trans hn.2.1) hv.2
  · refine ⟨_, u, _, y, rfl, rfl, _, m_nameI u _ y d1 d2 d3, ?_⟩
    rintro r2 h2 (⟨rfl, hn, rfl⟩ | ⟨rfl, hn, rfl⟩ | ⟨rfl, hn, rfl⟩ | ⟨rfl, hn, g, rfl, hg0, hg1, hg2⟩)
    · have hn : m 101 0 = 5 := hn
      omega
    · exact absurd (eN.trans hv.2.1) hn.2
    · exact ⟨rfl, _, y, rfl, ⟨⟨rC_k (Eq.trans (keep_up (by rfl)) (Eq.trans (keep_up (by rfl)) (Eq.trans (keep_up (by rfl)) (Eq.trans (keep_up (by rfl)) (Eq.trans (keep_up (by rfl)) (Eq.trans (keep_up (by rfl)) (Eq.trans (keep_up (by rfl)) (Eq.trans (keep_up (by rfl)) (Eq.trans (keep_up (by rfl)) (Eq.trans (keep_up (by rfl)) (Eq.trans (keep_up (by rfl)) rfl))))))))))) hA.1.1.1, rL_k (Eq.trans (keep_up (by rfl)) (Eq.trans (keep_up (by rfl)) (Eq.trans (keep_up (by rfl)) (Eq.trans (keep_up (by rfl)) (Eq.trans (keep_up (by rfl)) (Eq.trans (keep_up (by rfl)) (Eq.trans (keep_up (by rfl)) (Eq.trans (keep_up (by rfl)) (Eq.trans (keep_up (by rfl)) (Eq.trans (keep_up (by rfl)) (Eq.trans (keep_up (by rfl)) rfl))))))))))) hA.1.1.2⟩, ⟨rXn_k (Eq.trans (keep_up (by rfl)) (Eq.trans (keep_up (by rfl)) (Eq.trans (keep_up (by rfl)) (Eq.trans (keep_up (by rfl)) (Eq.trans (keep_up (by rfl)) (Eq.trans (keep_up (by rfl)) (Eq.trans (keep_up (by rfl)) (Eq.trans (keep_up (by rfl)) (Eq.trans (keep_up (by rfl)) (Eq.trans (keep_up (by rfl)) (Eq.trans (keep_up (by rfl)) rfl))))))))))) hX, rXl_k (Eq.trans (keep_up (by rfl)) (Eq.trans (keep_up (by rfl)) (Eq.trans (keep_up (by rfl)) (Eq.trans (keep_up (by rfl)) (Eq.trans (keep_up (by rfl)) (Eq.trans (keep_up (by rfl)) (Eq.trans (keep_up (by rfl)) (Eq.trans (keep_up (by rfl)) (Eq.trans (keep_up (by rfl)) (Eq.trans (keep_up (by rfl)) (Eq.trans (keep_up (by rfl)) rfl))))))))))) hA.1.2.1.2.1, rTp_z rfl rfl rfl rfl ⟨by show (0 : Int) ≤ 2; decide, by show (2 : Int) ≤ 3; decide⟩ ⟨by show (-1 : Int) ≤ 10; decide, by show (10 : Int) ≤ 400; decide⟩⟩, show m 12 1 ≤ c + 1 by omega, hA.1.2.2.2⟩, iK_k (Eq.trans (keep_up (by rfl)) (Eq.trans (keep_up (by rfl)) (Eq.trans (keep_up (by rfl)) (Eq.trans (keep_up (by rfl)) (Eq.trans (keep_up (by rfl)) (Eq.trans (keep_up (by rfl)) (Eq.trans (keep_up (by rfl)) (Eq.trans (keep_up (by rfl)) (Eq.trans (keep_up (by rfl)) (Eq.trans (keep_up (by rfl)) (Eq.trans (keep_up (by rfl)) rfl))))))))))) hA.2.1, iI_k (Eq.trans (keep_up (by rfl)) (Eq.trans (keep_up (by rfl)) (Eq.trans (keep_up (by rfl)) (Eq.trans (keep_up (by rfl)) (Eq.trans (keep_up (by rfl)) (Eq.trans (keep_up (by rfl)) (Eq.trans (keep_up (by rfl)) (Eq.trans (keep_up (by rfl)) (Eq.trans (keep_up (by rfl)) (Eq.trans (keep_up (by rfl)) (Eq.trans (keep_up (by rfl)) rfl))))))))))) (by omega) hA.2.2⟩
    · have hn3 : m 79 0 ≤ 10 := hn.2.2
      omega
  · refine ⟨_, u, _, y, rfl, rfl, _, m_nameI u _ y d1 d2 d3, ?_⟩
    rintro r2 h2 (⟨rfl, hn, rfl⟩ | ⟨rfl, hn, rfl⟩ | ⟨rfl, hn, rfl⟩ | ⟨rfl, hn, g, rfl, hg0, hg1, hg2⟩)
    · have hn : m 101 0 = 5 := hn
      omega
    · exact absurd (eN.trans hv.2.1) hn.2
    · have hn3 : 10 < m 79 0 := hn.2.2
      omega
    · refine ⟨congrArg (fun z => some (qI z)) e101, _, y, rfl, ⟨⟨rC_k (Eq.trans (keep_row (by intro j; rfl)) (Eq.trans (keep_up (by rfl)) (Eq.trans (keep_up (by rfl)) (Eq.trans (keep_up (by rfl)) (Eq.trans (keep_up (by rfl)) (Eq.trans (keep_up (by rfl)) (Eq.trans (keep_up (by rfl)) (Eq.trans (keep_up (by rfl)) (Eq.trans (keep_up (by rfl)) (Eq.trans (keep_up (by rfl)) (Eq.trans (keep_up (by rfl)) (Eq.trans (keep_row (by intro j; rfl)) (Eq.trans (keep_up (by rfl)) (Eq.trans (keep_up (by rfl)) (Eq.trans (keep_up (by rfl)) (Eq.trans (keep_up (by rfl)) (Eq.trans (keep_up (by rfl)) (Eq.trans (keep_up (by rfl)) (Eq.trans (keep_up (by rfl)) (Eq.trans (keep_up (by rfl)) rfl)))))))))))))))))))) hA.1.1.1, rL_k (Eq.trans (keep_row (by intro j; rfl)) (Eq.trans (keep_up (by rfl)) (Eq.trans (keep_up (by rfl)) (Eq.trans (keep_up (by rfl)) (Eq.trans (keep_up (by rfl)) (Eq.trans (keep_up (by rfl)) (Eq.trans (keep_up (by rfl)) (Eq.trans (keep_up (by rfl)) (Eq.trans (keep_up (by rfl)) (Eq.trans (keep_up (by rfl)) (Eq.trans (keep_up (by rfl)) (Eq.trans (keep_row (by intro j; rfl)) (Eq.trans (keep_up (by rfl)) (Eq.trans (keep_up (by rfl)) (Eq.trans (keep_up (by rfl)) (Eq.trans (keep_up (by rfl)) (Eq.trans (keep_up (by rfl)) (Eq.trans (keep_up (by rfl)) (Eq.trans (keep_up (by rfl)) (Eq.trans (keep_up (by rfl)) rfl)))))))))))))))))))) hA.1.1.2⟩, ⟨?_, rXl_k (Eq.trans (keep_row (by intro j; rfl)) (Eq.trans (keep_up (by rfl)) (Eq.trans (keep_up (by rfl)) (Eq.trans (keep_up (by rfl)) (Eq.trans (keep_up (by rfl)) (Eq.trans (keep_up (by rfl)) (Eq.trans (keep_up (by rfl)) (Eq.trans (keep_up (by rfl)) (Eq.trans (keep_up (by rfl)) (Eq.trans (keep_up (by rfl)) (Eq.trans (keep_up (by rfl)) (Eq.trans (keep_row (by intro j; rfl)) (Eq.trans (keep_up (by rfl)) (Eq.trans (keep_up (by rfl)) (Eq.trans (keep_up (by rfl)) (Eq.trans (keep_up (by rfl)) (Eq.trans (keep_up (by rfl)) (Eq.trans (keep_up (by rfl)) (Eq.trans (keep_up (by rfl)) (Eq.trans (keep_up (by rfl)) rfl)))))))))))))))))))) hA.1.2.1.2.1, rTp_z rfl rfl rfl rfl ⟨by show (0 : Int) ≤ 0; decide, by show (0 : Int) ≤ 3; decide⟩ ⟨by show (-1 : Int) ≤ -1; decide, by show (-1 : Int) ≤ 400; decide⟩⟩, show m 12 1 ≤ c + 1 by omega, hA.1.2.2.2⟩, iK_1 ⟨rfl, rfl, rfl, rfl, rfl⟩, iI_k (Eq.trans (keep_rowv (fun j z => hg2 j (by have q : 50 ≤ j := kIm_j z (by decide); exact q))) (Eq.trans (keep_up (kIm_f (by decide) (show (m 101 0).toNat < 5 by omega))) (Eq.trans (keep_up (kIm_f (by decide) (show (m 101 0).toNat < 5 by omega))) (Eq.trans (keep_up (by rfl)) (Eq.trans (keep_up (by rfl)) (Eq.trans (keep_up (by rfl)) (Eq.trans (keep_up (by rfl)) (Eq.trans (keep_up (by rfl)) (Eq.trans (keep_up (by rfl)) (Eq.trans (keep_up (by rfl)) (Eq.trans (keep_up (by rfl)) (Eq.trans (keep_row (by intro j; rfl)) (Eq.trans (keep_up (by rfl)) (Eq.trans (keep_up (by rfl)) (Eq.trans (keep_up (by rfl)) (Eq.trans (keep_up (by rfl)) (Eq.trans (keep_up (by rfl)) (Eq.trans (keep_up (by rfl)) (Eq.trans (keep_up (by rfl)) (Eq.trans (keep_up (by rfl)) rfl)))))))))))))))))))) (by omega) hA.2.2⟩
      refine rXn_name (f := f) (g := g) hX hT e82 r8.1 hv.1 hv.2.1 hv.2.2 rfl rfl ?_ ?_ ?_ rfl ?_ ?_ ?_ hf0 hf1 hg0 hg1
      · rfl
      · rw [q_row_rw2 (by decide), q_up_rw (by decide), q_up_rw (by decide), q_up_rw (by decide), q_up_rw (by decide), q_up_rw (by decide), q_up_rw (by decide), q_up_rw (by decide), q_up_rw (by decide), q_up_rw (by decide)]
        exact q_up_fu2 rfl
      · rw [q_row_rw2 (by decide), q_up_rw (by decide), q_up_rw (by decide), q_up_rw (by decide), q_up_rw (by decide), q_up_rw (by decide), q_up_rw (by decide), q_up_rw (by decide), q_up_rw (by decide)]
        exact q_up_fu2 rfl
      · rw [q_row_rw2 (by decide), q_up_rw (by decide)]
        exact q_up_fu2 rfl
      · rw [q_row_rw2 (by decide)]
        exact q_up_fu2 rfl
      · rfl

theorem mLn_e {t t' : Nat → Int} {L : Int} {M : qM} {i : Nat} (h : sB t L = sB t' L) (hm : mLn t L M i) : mLn t' L M i := by
  intro l hl
  have := hm l hl
  rw [yC_e h, yW_e h, yA_e h, yO0_e h] at this
  exact this
theorem rOut_f {t : Nat → Int} {L : Int} {i : Nat} {fa fp : Int} (hL : 0 ≤ L) (h : rOut t L i fa fp) : (0 ≤ fa ∧ fa ≤ 3) ∧ -1 ≤ fp ∧ fp ≤ L := by
  have a := mu9_r t L i
  have b := mu10_r (t := t) hL i
  have c := lnP_r (t := t) hL i
  have d := lnX_r (t := t) c.1 c.2
  rcases h.2 with ⟨-, h1, h2⟩ | ⟨-, -, h1, h2⟩
  · rw [h1, h2]; exact ⟨a, b⟩
  · rw [h1, h2]; exact ⟨⟨by decide, by decide⟩, d⟩
theorem j_spelling {c : Int} {u : qU} {m : qM} (y : qM) (hA : iA c u m) : qPair YX11_spelling YX12_spelling 9 5 [qR 0] [qR 77] c u m y := by
  have hT := hA.1.2.1.2.2
  have r4 := hT.1.1
  have e79 : m 79 0 = m 1 4 := hT.1.2
  have r12 := hA.1.2.2.1
  have hB : sB (m 78) (m 1 4) = sB (m 21) (m 1 4) := sB_e fun j hj => (hT.2.1 j hj).1
  refine ⟨0, 0, _, by decide, by decide, x_spelling u m y hT, ?_⟩
  rintro r h ⟨m1, i, fa, fp, rfl, rfl, hO, hm1, hw⟩
  have f : ∀ i j, ¬ ((i = 1 ∧ 4 ≤ j ∧ j ≤ 6) ∨ (49 ≤ i ∧ i ≤ 52) ∨ (i = 0 ∧ 10 ≤ j ∧ j ≤ 14) ∨ (i = 15 ∧ j = 4) ∨ i = 19 ∨ i = 20) → m1 i j = m i j := fun i j hi => by
    rcases hw with ⟨-, hk⟩ | ⟨-, hk, -⟩
    · refine keep_at hk (kN_t.mpr fun z => ?_)
      unfold kSf at z
      rw [decide_eq_true_eq] at z
      omega
    · refine keep_at hk (kN_t.mpr fun z => ?_)
      unfold kSg at z
      rw [decide_eq_true_eq] at z
      omega
  have f78 : m1 78 = m 78 := funext fun j => f 78 j (by omega)
  have f79 : m1 79 0 = m 1 4 := (f 79 0 (by omega)).trans e79
  refine ⟨_, u, m1, y, rfl, rfl, _, m_spelling u m1 y (by rw [f79]; exact r4) (fun j hj => by rw [f79] at hj; have b := hT.2.1 j hj; rw [f78, b.1]; exact b.2), ?_⟩
  rintro r2 h2 ⟨m2, y2, i2, fa2, fp2, rfl, rfl, hO2, hm2, hw2⟩
  rw [f78, f79] at hO2
  obtain ⟨rfl, rfl, rfl⟩ := rOut_1 (rOut_e hB hO2) hO
  have g : ∀ a j, ¬ (a = 77 ∨ (a = 79 ∧ j = 0) ∨ (a = 80 ∧ j = 0) ∨ (a = 81 ∧ j = 0) ∨ a = 116 ∨ (a = 105 ∧ j = 0) ∨ (a = 106 ∧ j < 64)) → m2 a j = m1 a j := fun a j hi => by
    rcases hw2 with ⟨-, hk⟩ | ⟨-, hk, -⟩
    · refine keep_at hk (kN_t.mpr fun z => ?_)
      unfold kMf at z
      rw [decide_eq_true_eq] at z
      omega
    · refine keep_at hk (kN_t.mpr fun z => ?_)
      unfold kMg at z
      rw [decide_eq_true_eq] at z
      omega
  have gf : ∀ a j, ¬ (a = 77 ∨ (a = 79 ∧ j = 0) ∨ (a = 80 ∧ j = 0) ∨ (a = 81 ∧ j = 0) ∨ a = 116 ∨ (a = 105 ∧ j = 0) ∨ (a = 106 ∧ j < 64)) → ¬ ((a = 1 ∧ 4 ≤ j ∧ j ≤ 6) ∨ (49 ≤ a ∧ a ≤ 52) ∨ (a = 0 ∧ 10 ≤ j ∧ j ≤ 14) ∨ (a = 15 ∧ j = 4) ∨ a = 19 ∨ a = 20) → m2 a j = m a j := fun a j h1 h2 => (g a j h1).trans (f a j h2)
  have k : ∀ K : Nat → Nat → Bool, (∀ a j, K a j = true → ¬ (a = 77 ∨ (a = 79 ∧ j = 0) ∨ (a = 80 ∧ j = 0) ∨ (a = 81 ∧ j = 0) ∨ a = 116 ∨ (a = 105 ∧ j = 0) ∨ (a = 106 ∧ j < 64)) ∧ ¬ ((a = 1 ∧ 4 ≤ j ∧ j ≤ 6) ∨ (49 ≤ a ∧ a ≤ 52) ∨ (a = 0 ∧ 10 ≤ j ∧ j ≤ 14) ∨ (a = 15 ∧ j = 4) ∨ a = 19 ∨ a = 20)) → keep K m2 = keep K m := fun K hK => by
    funext a j
    unfold keep
    by_cases z : K a j = true
    · rw [if_pos z, if_pos z, gf a j (hK a j z).1 (hK a j z).2]
    · rw [if_neg z, if_neg z]
  have rf := rOut_f r4.1 hO
  have m21 : ∀ j, m2 1 j = m1 1 j := fun j => g 1 j (by omega)
  have hRT : rTp m2 := rTp_z (by rw [m21]; exact hm1.1) hm2.1 (by rw [m21, hm1.2.1]; exact hm2.2.1) (by rw [m21, hm1.2.2]; exact hm2.2.2) (by rw [m21, hm1.2.1]; exact rf.1) (by rw [m21, hm1.2.2]; omega)
  have kC := k kRC fun a j z => by unfold kRC at z; rw [decide_eq_true_eq] at z; omega
  have kL := k kRL fun a j z => by unfold kRL at z; rw [decide_eq_true_eq] at z; omega
  have kNn := k kRN fun a j z => by unfold kRN at z; rw [decide_eq_true_eq] at z; omega
  have kI := k kIm fun a j z => by
    unfold kIm at z
    rw [decide_eq_true_eq] at z
    have e1 : a = 79 ∨ a = 80 ∨ a = 81 ∨ a = 105 → nrS a = 1 := fun q => by rcases q with rfl | rfl | rfl | rfl <;> rfl
    have e2 : a = 106 → nrS a = 64 := fun q => by subst q; rfl
    omega
  have c12 : m2 12 1 ≤ c + 1 := by rw [gf 12 1 (by omega) (by omega)]; omega
  have c99 : n99 m2 := fun a a0 a1 => by rw [gf 99 a.toNat (by omega) (by omega)]; exact hA.1.2.2.2 a a0 a1
  refine ⟨rfl, m2, y2, rfl, ?_⟩
  rcases hw with ⟨hz, hk⟩ | ⟨hz, hk, h15, hfl, hrw⟩
  · have hk2 : keep (kN kMf) m2 = keep (kN kMf) m1 := by
      rcases hw2 with ⟨-, q⟩ | ⟨q, -⟩
      · exact q
      · exact absurd q hz
    have gx : ∀ a j, ¬ ((a = 1 ∧ 4 ≤ j ∧ j ≤ 6) ∨ (49 ≤ a ∧ a ≤ 52) ∨ a = 77 ∨ (a = 79 ∧ j = 0) ∨ (a = 80 ∧ j = 0) ∨ (a = 81 ∧ j = 0) ∨ a = 116) → m2 a j = m a j := fun a j hi => by
      refine (keep_at hk2 (kN_t.mpr fun z => ?_)).trans (keep_at hk (kN_t.mpr fun z => ?_))
      · unfold kMf at z; rw [decide_eq_true_eq] at z; omega
      · unfold kSf at z; rw [decide_eq_true_eq] at z; omega
    have kx : ∀ K : Nat → Nat → Bool, (∀ a j, K a j = true → ¬ ((a = 1 ∧ 4 ≤ j ∧ j ≤ 6) ∨ (49 ≤ a ∧ a ≤ 52) ∨ a = 77 ∨ (a = 79 ∧ j = 0) ∨ (a = 80 ∧ j = 0) ∨ (a = 81 ∧ j = 0) ∨ a = 116)) → keep K m2 = keep K m := fun K hK => by
      funext a j
      unfold keep
      by_cases z : K a j = true
      · rw [if_pos z, if_pos z, gx a j (hK a j z)]
      · rw [if_neg z, if_neg z]
    have kX := kx kRX fun a j z => by unfold kRX at z; rw [decide_eq_true_eq] at z; omega
    have kq := kx kQ fun a j z => by unfold kQ at z; rw [decide_eq_true_eq] at z; omega
    exact ⟨⟨⟨rC_k kC hA.1.1.1, rL_k kL hA.1.1.2⟩, ⟨rXn_k kNn hA.1.2.1.1, rXl_k kX hA.1.2.1.2.1, hRT⟩, c12, c99⟩, iK_k kq hA.2.1, iI_k kI (by omega) hA.2.2⟩
  · subst hz
    have hw3 : m2 105 0 = (i2 : Int) ∧ mLn (m1 78) (m1 79 0) m2 i2 := by
      rcases hw2 with ⟨q, -⟩ | ⟨-, -, q1, q2⟩
      · exact absurd rfl q
      · exact ⟨q1, q2⟩
    rw [f78, f79] at hw3
    have mz : mu9 (m 21) (m 1 4) i2 = 0 := by
      rcases hO.2 with ⟨-, q, -⟩ | ⟨-, -, q, -⟩
      · exact q.symm
      · exact absurd q (by decide)
    have hXl : rXl m2 := rXl_of (t := m 21) (L := m 1 4) (i := i2) r4.1 ⟨(mu_0 i2 mz).2, hO.1, mz, ⟨by rw [g 15 4 (by omega)]; exact h15, hw3.1⟩, mLn_e hB hw3.2, rF (m 50), rF (m 51), fun j hj => if_pos hj, fun j hj => by rw [g 19 j (by omega), g 20 j (by omega)]; exact hrw j hj⟩
    exact ⟨⟨⟨rC_k kC hA.1.1.1, rL_k kL hA.1.1.2⟩, ⟨rXn_k kNn hA.1.2.1.1, hXl, hRT⟩, c12, c99⟩, iK_1 (by rw [g 0 10 (by omega), g 0 11 (by omega), g 0 12 (by omega), g 0 13 (by omega), g 0 14 (by omega)]; exact hfl), iI_k kI (by omega) hA.2.2⟩

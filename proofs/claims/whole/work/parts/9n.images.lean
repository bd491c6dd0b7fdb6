/-! printed by p111.py: image and again: both sides alike -/
/-- the model's told, the same -/
def sTp (m m2 : qM) : Prop := agN 400 (m 78) (m2 78) ∧ (m2 79 0 = m 79 0 ∧ m2 80 0 = m 80 0 ∧ m2 81 0 = m 81 0 ∧ m2 82 0 = m 82 0 ∧ m2 83 0 = m 83 0 ∧ m2 84 0 = m 84 0 ∧ m2 85 0 = m 85 0 ∧ m2 86 0 = m 86 0) ∧ (agN 300 (m 87) (m2 87) ∧ agN 60 (m 88) (m2 88) ∧ agN 60 (m 89) (m2 89) ∧ agN 60 (m 90) (m2 90) ∧ agN 60 (m 91) (m2 91)) ∧ (m2 92 0 = m 92 0 ∧ agN 150 (m 93) (m2 93) ∧ agN 150 (m 94) (m2 94) ∧ agN 150 (m 95) (m2 95)) ∧ (m2 96 0 = m 96 0 ∧ agN 10 (m 97) (m2 97) ∧ agN 300 (m 98) (m2 98) ∧ agN 10 (m 99) (m2 99) ∧ ∀ a : Int, 0 ≤ a → a < 10 → ∀ j : Int, 0 ≤ j → j < 5 * m 99 a.toNat → m2 100 (5000 * a + j).toNat = m 100 (5000 * a + j).toNat) ∧ (m2 101 0 = m 101 0 ∧ agN 5 (m 102) (m2 102) ∧ agN 5 (m 103) (m2 103) ∧ agN 50 (m 104) (m2 104) ∧ m2 105 0 = m 105 0 ∧ agN 64 (m 106) (m2 106))
theorem sU_rC {m m2 : qM} (hc : sTc m m2) (hm : sTp m m2) (h : rC m) : rC m2 := by
  obtain ⟨⟨-, -, -, c7, c8, c9⟩, ⟨c20, c21, c22⟩, ⟨c3, c4, c5, c6, r7, r8⟩, ⟨r9, r10, r11⟩, -, -, -⟩ := hc
  obtain ⟨-, ⟨-, -, -, d82, d83, d84, d85, d86⟩, ⟨d87, d88, d89, d90, d91⟩, ⟨d92, d93, d94, d95⟩, -, -⟩ := hm
  obtain ⟨hA, hW, hRW, hT, hRT, hS⟩ := h
  have a20 := hA.1.1
  have a22 := hA.1.2.2
  have cn : ∀ t : Nat, (t : Int) ≤ m 2 2 → q_cnt (fun j => m2 10 j = -1) t = q_cnt (fun j => m 10 j = -1) t := fun t ht => q_cnt_c t fun k hk => by rw [r10 k (by omega)]
  refine ⟨?_, fun w w0 w1 => ?_, fun w w0 w1 => ?_, fun t t0 t1 => ?_, fun t t0 t1 => ?_, ?_⟩
  · unfold rA
    rw [c20, c21, c22, c7, c8, c9, d82, d83, d84, d85, d86, d92]
    exact hA
  · rw [c20] at w1
    have a := hW w w0 w1
    rw [c4.i w0 w1, c5.i w0 w1]
    refine ⟨a.1, a.2.1, fun i i0 i1 => ?_⟩
    rw [c3.i (w := w * 5 + i) (by omega) (by omega)]
    exact a.2.2 i i0 i1
  · rw [c20] at w1
    have a := hRW w w0 w1
    have b := (hW w w0 w1).1
    rw [c8, c4.i w0 w1, c6.i w0 w1, r7.i w0 w1, r8.i w0 w1, d88.i w0 (by omega), d89.i w0 (by omega), d90.i w0 (by omega), d91.i w0 (by omega)]
    refine ⟨a.1, a.2.1, fun i i0 i1 => ?_⟩
    rw [c3.i (w := w * 5 + i) (by omega) (by omega), d87.i (w := 5 * w + i) (by omega) (by omega)]
    exact a.2.2 i i0 i1
  · rw [c22] at t1
    have a := hT t t0 t1
    rw [c20, r9.i t0 t1, r10.i t0 t1, cn t.toNat (by omega)]
    exact a
  · rw [c22] at t1
    have a := hRT t t0 t1
    have b := (hT t t0 t1).2.1
    rw [c8, r9.i t0 t1, r10.i t0 t1, r11.i t0 t1, d93.i t0 (by omega), d94.i t0 (by omega), d95.i t0 (by omega), r7.i b.1 b.2]
    exact a
  · obtain ⟨s1, s2, s3, s4⟩ := hS
    refine ⟨fun j k jk kn => ?_, fun j k jk kn => ?_, ?_, ?_⟩
    · rw [c20] at kn
      rw [r7 j (by omega), r7 k (by omega)]; exact s1 j k jk kn
    · rw [c22] at kn
      rw [r11 j (by omega), r11 k (by omega)]; exact s2 j k jk kn
    · unfold fN at s3 ⊢
      rw [c22, c20, cn _ (by omega)]; exact s3
    · rw [c20, c21, q_sum_c (g := m 8) _ (fun k hk => r8 k (by omega))]; exact s4
theorem sU_rTp {m m2 : qM} (hc : sTc m m2) (hm : sTp m m2) (h : rTp m) : rTp m2 := by
  obtain ⟨⟨c4, c5, c6, -, -, -⟩, -, -, -, -, -, c21⟩ := hc
  obtain ⟨d78, ⟨d79, d80, d81, -, -, -, -, -⟩, -, -, -, -⟩ := hm
  obtain ⟨h1, h2, h3, h4, h5⟩ := h
  refine ⟨by rw [c4, d79]; exact h1, fun j hj => ?_, by rw [d80, d81, c5, c6]; exact h3, by rw [c5]; exact h4, by rw [c6]; exact h5⟩
  rw [c4] at hj
  have a := h2 j hj
  rw [d78 j (by omega), c21 j hj]
  exact a
theorem sU_rXn {m m2 : qM} (hc : sTc m m2) (hm : sTp m m2) (h : rXn m) : rXn m2 := by
  obtain ⟨⟨-, -, -, -, c8, -⟩, -, -, -, -, ⟨c15, -, c16, c17, c18, -, -⟩, -⟩ := hc
  obtain ⟨-, -, -, -, -, ⟨d101, d102, d103, d104, -, -⟩⟩ := hm
  obtain ⟨h1, h2, h3⟩ := h
  refine ⟨by rw [c15, d101]; exact h1, fun a a0 a1 => ?_, fun j k jk kn => ?_⟩
  · rw [c15] at a1
    have b := h2 a a0 a1
    rw [c8, c17.i a0 a1, c18.i a0 a1, d102.i a0 (by omega), d103.i a0 (by omega)]
    refine ⟨b.1, b.2.1, b.2.2.1, fun i i0 i1 => ?_⟩
    rw [c16.i (w := a * 10 + i) (by omega) (by omega), d104.i (w := 10 * a + i) (by omega) (by omega)]
    exact b.2.2.2 i i0 i1
  · rw [c15] at kn
    rw [c18 j (by omega), c18 k (by omega)]
    exact h3 j k jk kn
theorem sU_rXl {m m2 : qM} (hc : sTc m m2) (hm : sTp m m2) (h : rXl m) : rXl m2 := by
  obtain ⟨-, -, -, -, -, ⟨-, c4, -, -, -, c19, c20⟩, -⟩ := hc
  obtain ⟨-, -, -, -, -, ⟨-, -, -, -, d105, d106⟩⟩ := hm
  obtain ⟨h1, h2, h3⟩ := h
  have e6 : ∀ x : Int, 0 ≤ x → x < 64 → m2 106 x.toNat = m 106 x.toNat := fun x x0 x1 => d106.i x0 x1
  refine ⟨by rw [c4, d105]; exact h1, fun l l0 l1 => ?_, fun c s a1 a2 a3 a4 => ?_⟩
  · rw [c4] at l1
    rw [e6 (4 * l) (by omega) (by omega), e6 (4 * l + 1) (by omega) (by omega), e6 (4 * l + 2) (by omega) (by omega), e6 (4 * l + 3) (by omega) (by omega)]
    exact h2 l l0 l1
  · have k : q_fst (fun l => m2 106 (4 * (l : Int)).toNat = c ∧ m2 106 (4 * (l : Int) + 1).toNat = s) (m2 15 4).toNat = q_fst (fun l => m 106 (4 * (l : Int)).toNat = c ∧ m 106 (4 * (l : Int) + 1).toNat = s) (m 15 4).toNat := by
      rw [c4]
      exact q_fst_c _ fun l hl => by rw [e6 (4 * (l : Int)) (by omega) (by omega), e6 (4 * (l : Int) + 1) (by omega) (by omega)]
    have fr := q_fst_r (fun l => m 106 (4 * (l : Int)).toNat = c ∧ m 106 (4 * (l : Int) + 1).toNat = s) (m 15 4).toNat
    rw [k, c19.i (w := (c - 1) * 3 + s) (by omega) (by omega), c20.i (w := (c - 1) * 3 + s) (by omega) (by omega)]
    have a := h3 c s a1 a2 a3 a4
    refine ⟨a.1, fun z => ?_⟩
    have f0 : 0 ≤ q_fst (fun l => m 106 (4 * (l : Int)).toNat = c ∧ m 106 (4 * (l : Int) + 1).toNat = s) (m 15 4).toNat := by omega
    rw [e6 (4 * q_fst (fun l => m 106 (4 * (l : Int)).toNat = c ∧ m 106 (4 * (l : Int) + 1).toNat = s) (m 15 4).toNat + 2) (by omega) (by omega), e6 (4 * q_fst (fun l => m 106 (4 * (l : Int)).toNat = c ∧ m 106 (4 * (l : Int) + 1).toNat = s) (m 15 4).toNat + 3) (by omega) (by omega)]
    exact a.2 z
theorem sU_rL {m m2 : qM} (hc : sTc m m2) (hm : sTp m m2) (h18 : 0 ≤ m 1 8 ∧ m 1 8 ≤ 999) (h : rL m) : rL m2 := by
  obtain ⟨⟨-, -, -, -, c8, -⟩, -, -, -, ⟨c0, c1, c13, c14⟩, -, -⟩ := hc
  obtain ⟨-, -, -, -, ⟨d96, d97, d98, d99, d100⟩, -⟩ := hm
  obtain ⟨⟨⟨x0, x1, x2⟩, y1, y2, y3⟩, hr⟩ := h
  have nd : ∀ D, nD m2 D = nD m D := fun D => by
    unfold nD
    rw [c1]
    exact q_pfx_c _ fun k hk => by rw [c13 k (by omega)]
  have nle : ∀ D, nD m D ≤ (m 12 1).toNat := fun D => q_pfx_le _ _ _
  refine ⟨⟨⟨by rw [c0]; exact x0, by rw [c1]; exact x1, by rw [d96, c0]; exact x2⟩, fun k k0 k1 => ?_, fun j k jk kn => ?_, fun a a0 a1 => ?_⟩, fun a a0 a1 => ?_⟩
  · rw [c1] at k1
    rw [c13.i k0 k1, c0, c8]
    exact y1 k k0 k1
  · rw [c1] at kn
    rw [c13 j (by omega), c13 k (by omega)]; exact y2 j k jk kn
  · rw [c0] at a0
    rw [c14.i (by omega) a1]; exact y3 a a0 a1
  · rw [c0] at a1
    obtain ⟨⟨⟨p1, p2⟩, p3, p4, p5⟩, q1⟩ := hr a a0 a1
    have e97 : m2 97 a.toNat = m 97 a.toNat := d97.i a0 (by omega)
    have e99 : m2 99 a.toNat = m 99 a.toNat := d99.i a0 (by omega)
    have e98 : ∀ j : Int, 0 ≤ j → j < m 97 a.toNat → ∀ i : Int, 0 ≤ i → i ≤ 4 → m2 98 (5 * (6 * a + j) + i).toNat = m 98 (5 * (6 * a + j) + i).toNat := fun j j0 j1 i i0 i1 => d98.i (by omega) (by omega)
    have e100 : ∀ t : Int, 0 ≤ t → t < m 99 a.toNat → ∀ i : Int, 0 ≤ i → i ≤ 4 → m2 100 (5000 * a + 5 * t + i).toNat = m 100 (5000 * a + 5 * t + i).toNat := fun t t0 t1 i i0 i1 => by
      have := d100 a a0 (by omega) (5 * t + i) (by omega) (by omega)
      have b := p5 t t0 t1
      have rg : 0 ≤ m 100 (5000 * a + 5 * t + i).toNat ∧ m 100 (5000 * a + 5 * t + i).toNat ≤ 999 := by
        by_cases e : i = 4
        · rw [e]; have := b.2.1; omega
        · have := b.1 i i0 (by omega); omega
      rw [show 5000 * a + 5 * t + i = 5000 * a + (5 * t + i) by omega] at rg ⊢
      rw [this]
    refine ⟨⟨⟨by rw [e97, c14.i a0 (by omega)]; exact p1, by rw [c14.i a0 (by omega)]; exact p2⟩, fun j j0 j1 => ?_, by rw [e99]; exact p4, fun t t0 t1 => ?_⟩, fun D => ?_⟩
    · rw [e97] at j1
      have b := p3 j j0 j1
      rw [e98 j j0 j1 4 (by decide) (by decide), c8]
      exact ⟨fun i i0 i1 => by rw [e98 j j0 j1 i i0 (by omega)]; exact b.1 i i0 i1, b.2⟩
    · rw [e99] at t1
      have b := p5 t t0 t1
      rw [e100 t t0 t1 4 (by decide) (by decide), c8, e99]
      refine ⟨fun i i0 i1 => by rw [e100 t t0 t1 i i0 (by omega)]; exact b.1 i i0 i1, b.2.1, fun z => ?_⟩
      rw [e100 (t + 1) (by omega) z 4 (by decide) (by decide)]
      exact b.2.2 z
    · have q := q1 D
      have n1 := nle D
      have ip : ∀ k, k < nD m D → (isP m2 a k ↔ isP m a k) := fun k hk => by unfold isP; rw [c13 k (by omega)]
      have it : ∀ k, k < nD m D → (isT m2 a k ↔ isT m a k) := fun k hk => by unfold isT; rw [c13 k (by omega)]
      have s1 : ∀ i : Nat, sP m2 (nD m D) a i = sP m (nD m D) a i := fun i => q_sum_c _ fun k hk => by
        have z := ip k hk
        by_cases c : isP m a k
        · rw [if_pos c, if_pos (z.mpr c), c13 k (by omega)]
        · rw [if_neg c, if_neg (fun y => c (z.mp y))]
      have s2 : nP m2 (nD m D) a = nP m (nD m D) a := q_cnt_c _ ip
      have s3 : tL m2 (nD m D) a = tL m (nD m D) a := q_lst_c _ it
      have t1 : ∀ i : Nat, i < 4 → mS m2 a i D = mS m a i D := fun i hi => by
        unfold mS
        rw [e97]
        exact q_sum_c _ fun j hj => by rw [e98 (j : Int) (by omega) (by omega) 4 (by decide) (by decide), e98 (j : Int) (by omega) (by omega) (i : Int) (by omega) (by omega)]
      have t2 : mN m2 a D = mN m a D := by
        unfold mN
        rw [e97]
        exact q_cnt_c _ fun j hj => by rw [e98 (j : Int) (by omega) (by omega) 4 (by decide) (by decide)]
      have t3 : mT m2 a D = mT m a D := by
        unfold mT
        rw [e99]
        exact q_lst_c _ fun t ht => by rw [e100 (t : Int) (by omega) (by omega) 4 (by decide) (by decide)]
      rw [nd D, s2, s3, t2, t3]
      refine ⟨fun i hi => by rw [s1 i, t1 i hi]; exact q.1 i hi, q.2.1, q.2.2.1, fun z i hi => ?_⟩
      have lr := q_lst_r (isT m a) (nD m D)
      have mr := q_lst_r (fun t => m 100 (5000 * a + 5 * (t : Int) + 4).toNat ≤ D) (m 99 a.toNat).toNat
      have zt : 0 ≤ tL m (nD m D) a := by unfold tL at z ⊢; omega
      have zl : tL m (nD m D) a < (nD m D : Int) := lr.2
      have mt0 : ¬ mT m a D = -1 := fun y => z (q.2.2.1.mpr y)
      have mt1 : 0 ≤ mT m a D := by unfold mT at mt0 ⊢; omega
      have mt2 : mT m a D < m 99 a.toNat := by have := mr.2; unfold mT; omega
      rw [c13 (tL m (nD m D) a).toNat (by omega), e100 (mT m a D) mt1 mt2 (i : Int) (by omega) (by omega)]
      exact q.2.2.2 z i hi

theorem cp_out {f t : Int} {m M : qM} (A1 : cpA f t m M) (A2 : cpC f t m M) (A3 : cpT f t m M) (A4 : cpE f t m M) (i j : Nat) (hi : 78 ≤ i ∧ i ≤ 106) (hj : ¬ ((nrS i : Int) * t ≤ (j : Int) ∧ (j : Int) < (nrS i : Int) * t + nrS i)) : M i j = m i j := by
  have : i = 78 ∨ i = 79 ∨ i = 80 ∨ i = 81 ∨ i = 82 ∨ i = 83 ∨ i = 84 ∨ i = 85 ∨ i = 86 ∨ i = 87 ∨ i = 88 ∨ i = 89 ∨ i = 90 ∨ i = 91 ∨ i = 92 ∨ i = 93 ∨ i = 94 ∨ i = 95 ∨ i = 96 ∨ i = 97 ∨ i = 98 ∨ i = 99 ∨ i = 100 ∨ i = 101 ∨ i = 102 ∨ i = 103 ∨ i = 104 ∨ i = 105 ∨ i = 106 := by omega
  rcases this with rfl | rfl | rfl | rfl | rfl | rfl | rfl | rfl | rfl | rfl | rfl | rfl | rfl | rfl | rfl | rfl | rfl | rfl | rfl | rfl | rfl | rfl | rfl | rfl | rfl | rfl | rfl | rfl | rfl
  · have e : nrS 78 = 400 := rfl
    rw [e] at hj
    exact A1.1.2 j (by omega)
  · have e : nrS 79 = 1 := rfl
    rw [e] at hj
    exact A1.2.1.2 j (by omega)
  · have e : nrS 80 = 1 := rfl
    rw [e] at hj
    exact A1.2.2.1.2 j (by omega)
  · have e : nrS 81 = 1 := rfl
    rw [e] at hj
    exact A1.2.2.2.1.2 j (by omega)
  · have e : nrS 82 = 1 := rfl
    rw [e] at hj
    exact A1.2.2.2.2.1.2 j (by omega)
  · have e : nrS 83 = 1 := rfl
    rw [e] at hj
    exact A1.2.2.2.2.2.1.2 j (by omega)
  · have e : nrS 84 = 1 := rfl
    rw [e] at hj
    exact A1.2.2.2.2.2.2.1.2 j (by omega)
  · have e : nrS 85 = 1 := rfl
    rw [e] at hj
    exact A1.2.2.2.2.2.2.2.1.2 j (by omega)
  · have e : nrS 86 = 1 := rfl
    rw [e] at hj
    exact A1.2.2.2.2.2.2.2.2.1.2 j (by omega)
  · have e : nrS 87 = 300 := rfl
    rw [e] at hj
    exact A1.2.2.2.2.2.2.2.2.2.1.2 j (by omega)
  · have e : nrS 88 = 60 := rfl
    rw [e] at hj
    exact A1.2.2.2.2.2.2.2.2.2.2.1.2 j (by omega)
  · have e : nrS 89 = 60 := rfl
    rw [e] at hj
    exact A1.2.2.2.2.2.2.2.2.2.2.2.1.2 j (by omega)
  · have e : nrS 90 = 60 := rfl
    rw [e] at hj
    exact A1.2.2.2.2.2.2.2.2.2.2.2.2.2 j (by omega)
  · have e : nrS 91 = 60 := rfl
    rw [e] at hj
    exact A2.1.2 j (by omega)
  · have e : nrS 92 = 1 := rfl
    rw [e] at hj
    exact A2.2.1.2 j (by omega)
  · have e : nrS 93 = 150 := rfl
    rw [e] at hj
    exact A2.2.2.1.2 j (by omega)
  · have e : nrS 94 = 150 := rfl
    rw [e] at hj
    exact A2.2.2.2.1.2 j (by omega)
  · have e : nrS 95 = 150 := rfl
    rw [e] at hj
    exact A2.2.2.2.2.1.2 j (by omega)
  · have e : nrS 96 = 1 := rfl
    rw [e] at hj
    exact A2.2.2.2.2.2.1.2 j (by omega)
  · have e : nrS 97 = 10 := rfl
    rw [e] at hj
    exact A2.2.2.2.2.2.2.1.2 j (by omega)
  · have e : nrS 98 = 300 := rfl
    rw [e] at hj
    exact A2.2.2.2.2.2.2.2.1.2 j (by omega)
  · have e : nrS 99 = 10 := rfl
    rw [e] at hj
    exact A2.2.2.2.2.2.2.2.2.2 j (by omega)
  · have e : nrS 100 = 50000 := rfl
    rw [e] at hj
    exact A3.2 j (by omega)
  · have e : nrS 101 = 1 := rfl
    rw [e] at hj
    exact A4.1.2 j (by omega)
  · have e : nrS 102 = 5 := rfl
    rw [e] at hj
    exact A4.2.1.2 j (by omega)
  · have e : nrS 103 = 5 := rfl
    rw [e] at hj
    exact A4.2.2.1.2 j (by omega)
  · have e : nrS 104 = 50 := rfl
    rw [e] at hj
    exact A4.2.2.2.1.2 j (by omega)
  · have e : nrS 105 = 1 := rfl
    rw [e] at hj
    exact A4.2.2.2.2.1.2 j (by omega)
  · have e : nrS 106 = 64 := rfl
    rw [e] at hj
    exact A4.2.2.2.2.2.2 j (by omega)

set_option maxHeartbeats 4000000 in
theorem cp_w {m M : qM} {b s : Nat} (h99 : n99 m) (A1 : cpA 0 (s : Int) m M) (A2 : cpC 0 (s : Int) m M) (A3 : cpT 0 (s : Int) m M) (A4 : cpE 0 (s : Int) m M) : sTm m (prj b s M) := ⟨(fun j hj => by
      rw [prj_m (by decide) (show j < 400 by omega)]
      have z := A1.1.1 (j : Int) (by omega) (by omega)
      rw [show (400 * (s : Int) + (j : Int)).toNat = 400 * s + j by omega, show (400 * (0 : Int) + (j : Int)).toNat = j by omega] at z
      exact z), ⟨(by
      rw [prj_m (by decide) (by decide)]
      have z := A1.2.1.1 0 (by decide) (by decide)
      rw [show (1 * (s : Int) + 0).toNat = 1 * s + 0 by omega, show (1 * (0 : Int) + 0).toNat = 0 by omega] at z
      exact z), (by
      rw [prj_m (by decide) (by decide)]
      have z := A1.2.2.1.1 0 (by decide) (by decide)
      rw [show (1 * (s : Int) + 0).toNat = 1 * s + 0 by omega, show (1 * (0 : Int) + 0).toNat = 0 by omega] at z
      exact z), (by
      rw [prj_m (by decide) (by decide)]
      have z := A1.2.2.2.1.1 0 (by decide) (by decide)
      rw [show (1 * (s : Int) + 0).toNat = 1 * s + 0 by omega, show (1 * (0 : Int) + 0).toNat = 0 by omega] at z
      exact z), (by
      rw [prj_m (by decide) (by decide)]
      have z := A1.2.2.2.2.1.1 0 (by decide) (by decide)
      rw [show (1 * (s : Int) + 0).toNat = 1 * s + 0 by omega, show (1 * (0 : Int) + 0).toNat = 0 by omega] at z
      exact z), (by
      rw [prj_m (by decide) (by decide)]
      have z := A1.2.2.2.2.2.1.1 0 (by decide) (by decide)
      rw [show (1 * (s : Int) + 0).toNat = 1 * s + 0 by omega, show (1 * (0 : Int) + 0).toNat = 0 by omega] at z
      exact z), (by
      rw [prj_m (by decide) (by decide)]
      have z := A1.2.2.2.2.2.2.1.1 0 (by decide) (by decide)
      rw [show (1 * (s : Int) + 0).toNat = 1 * s + 0 by omega, show (1 * (0 : Int) + 0).toNat = 0 by omega] at z
      exact z), (by
      rw [prj_m (by decide) (by decide)]
      have z := A1.2.2.2.2.2.2.2.1.1 0 (by decide) (by decide)
      rw [show (1 * (s : Int) + 0).toNat = 1 * s + 0 by omega, show (1 * (0 : Int) + 0).toNat = 0 by omega] at z
      exact z), (by
      rw [prj_m (by decide) (by decide)]
      have z := A1.2.2.2.2.2.2.2.2.1.1 0 (by decide) (by decide)
      rw [show (1 * (s : Int) + 0).toNat = 1 * s + 0 by omega, show (1 * (0 : Int) + 0).toNat = 0 by omega] at z
      exact z)⟩, ⟨(fun j hj => by
      rw [prj_m (by decide) (show j < 300 by omega)]
      have z := A1.2.2.2.2.2.2.2.2.2.1.1 (j : Int) (by omega) (by omega)
      rw [show (300 * (s : Int) + (j : Int)).toNat = 300 * s + j by omega, show (300 * (0 : Int) + (j : Int)).toNat = j by omega] at z
      exact z), (fun j hj => by
      rw [prj_m (by decide) (show j < 60 by omega)]
      have z := A1.2.2.2.2.2.2.2.2.2.2.1.1 (j : Int) (by omega) (by omega)
      rw [show (60 * (s : Int) + (j : Int)).toNat = 60 * s + j by omega, show (60 * (0 : Int) + (j : Int)).toNat = j by omega] at z
      exact z), (fun j hj => by
      rw [prj_m (by decide) (show j < 60 by omega)]
      have z := A1.2.2.2.2.2.2.2.2.2.2.2.1.1 (j : Int) (by omega) (by omega)
      rw [show (60 * (s : Int) + (j : Int)).toNat = 60 * s + j by omega, show (60 * (0 : Int) + (j : Int)).toNat = j by omega] at z
      exact z), (fun j hj => by
      rw [prj_m (by decide) (show j < 60 by omega)]
      have z := A1.2.2.2.2.2.2.2.2.2.2.2.2.1 (j : Int) (by omega) (by omega)
      rw [show (60 * (s : Int) + (j : Int)).toNat = 60 * s + j by omega, show (60 * (0 : Int) + (j : Int)).toNat = j by omega] at z
      exact z), (fun j hj => by
      rw [prj_m (by decide) (show j < 60 by omega)]
      have z := A2.1.1 (j : Int) (by omega) (by omega)
      rw [show (60 * (s : Int) + (j : Int)).toNat = 60 * s + j by omega, show (60 * (0 : Int) + (j : Int)).toNat = j by omega] at z
      exact z)⟩, ⟨(by
      rw [prj_m (by decide) (by decide)]
      have z := A2.2.1.1 0 (by decide) (by decide)
      rw [show (1 * (s : Int) + 0).toNat = 1 * s + 0 by omega, show (1 * (0 : Int) + 0).toNat = 0 by omega] at z
      exact z), (fun j hj => by
      rw [prj_m (by decide) (show j < 150 by omega)]
      have z := A2.2.2.1.1 (j : Int) (by omega) (by omega)
      rw [show (150 * (s : Int) + (j : Int)).toNat = 150 * s + j by omega, show (150 * (0 : Int) + (j : Int)).toNat = j by omega] at z
      exact z), (fun j hj => by
      rw [prj_m (by decide) (show j < 150 by omega)]
      have z := A2.2.2.2.1.1 (j : Int) (by omega) (by omega)
      rw [show (150 * (s : Int) + (j : Int)).toNat = 150 * s + j by omega, show (150 * (0 : Int) + (j : Int)).toNat = j by omega] at z
      exact z), (fun j hj => by
      rw [prj_m (by decide) (show j < 150 by omega)]
      have z := A2.2.2.2.2.1.1 (j : Int) (by omega) (by omega)
      rw [show (150 * (s : Int) + (j : Int)).toNat = 150 * s + j by omega, show (150 * (0 : Int) + (j : Int)).toNat = j by omega] at z
      exact z)⟩, ⟨(by
      rw [prj_m (by decide) (by decide)]
      have z := A2.2.2.2.2.2.1.1 0 (by decide) (by decide)
      rw [show (1 * (s : Int) + 0).toNat = 1 * s + 0 by omega, show (1 * (0 : Int) + 0).toNat = 0 by omega] at z
      exact z), (fun j hj => by
      rw [prj_m (by decide) (show j < 10 by omega)]
      have z := A2.2.2.2.2.2.2.1.1 (j : Int) (by omega) (by omega)
      rw [show (10 * (s : Int) + (j : Int)).toNat = 10 * s + j by omega, show (10 * (0 : Int) + (j : Int)).toNat = j by omega] at z
      exact z), (fun j hj => by
      rw [prj_m (by decide) (show j < 300 by omega)]
      have z := A2.2.2.2.2.2.2.2.1.1 (j : Int) (by omega) (by omega)
      rw [show (300 * (s : Int) + (j : Int)).toNat = 300 * s + j by omega, show (300 * (0 : Int) + (j : Int)).toNat = j by omega] at z
      exact z), (fun j hj => by
      rw [prj_m (by decide) (show j < 10 by omega)]
      have z := A2.2.2.2.2.2.2.2.2.1 (j : Int) (by omega) (by omega)
      rw [show (10 * (s : Int) + (j : Int)).toNat = 10 * s + j by omega, show (10 * (0 : Int) + (j : Int)).toNat = j by omega] at z
      exact z), (fun a a0 a1 j j0 j1 => by
      have q := h99 a a0 a1
      rw [prj_m (by decide) (show (5000 * a + j).toNat < 50000 by omega)]
      have z := A3.1 a a0 a1 j j0 (by rw [show 10 * (0 : Int) + a = a by omega]; exact j1)
      rw [show (5000 * (10 * (s : Int) + a) + j).toNat = 50000 * s + (5000 * a + j).toNat by omega, show 5000 * (10 * (0 : Int) + a) + j = 5000 * a + j by omega] at z
      exact z)⟩, ⟨(by
      rw [prj_m (by decide) (by decide)]
      have z := A4.1.1 0 (by decide) (by decide)
      rw [show (1 * (s : Int) + 0).toNat = 1 * s + 0 by omega, show (1 * (0 : Int) + 0).toNat = 0 by omega] at z
      exact z), (fun j hj => by
      rw [prj_m (by decide) (show j < 5 by omega)]
      have z := A4.2.1.1 (j : Int) (by omega) (by omega)
      rw [show (5 * (s : Int) + (j : Int)).toNat = 5 * s + j by omega, show (5 * (0 : Int) + (j : Int)).toNat = j by omega] at z
      exact z), (fun j hj => by
      rw [prj_m (by decide) (show j < 5 by omega)]
      have z := A4.2.2.1.1 (j : Int) (by omega) (by omega)
      rw [show (5 * (s : Int) + (j : Int)).toNat = 5 * s + j by omega, show (5 * (0 : Int) + (j : Int)).toNat = j by omega] at z
      exact z), (fun j hj => by
      rw [prj_m (by decide) (show j < 50 by omega)]
      have z := A4.2.2.2.1.1 (j : Int) (by omega) (by omega)
      rw [show (50 * (s : Int) + (j : Int)).toNat = 50 * s + j by omega, show (50 * (0 : Int) + (j : Int)).toNat = j by omega] at z
      exact z), (by
      rw [prj_m (by decide) (by decide)]
      have z := A4.2.2.2.2.1.1 0 (by decide) (by decide)
      rw [show (1 * (s : Int) + 0).toNat = 1 * s + 0 by omega, show (1 * (0 : Int) + 0).toNat = 0 by omega] at z
      exact z), (fun j hj => by
      rw [prj_m (by decide) (show j < 64 by omega)]
      have z := A4.2.2.2.2.2.1 (j : Int) (by omega) (by omega)
      rw [show (64 * (s : Int) + (j : Int)).toNat = 64 * s + j by omega, show (64 * (0 : Int) + (j : Int)).toNat = j by omega] at z
      exact z)⟩⟩

set_option maxHeartbeats 4000000 in
theorem cp_r {m M : qM} {b s : Nat} (h99 : n99 (prj b s m)) (A1 : cpA (s : Int) 0 m M) (A2 : cpC (s : Int) 0 m M) (A3 : cpT (s : Int) 0 m M) (A4 : cpE (s : Int) 0 m M) : sTm (prj b s m) M := ⟨(fun j hj => by
      rw [prj_m (by decide) (show j < 400 by omega)]
      have z := A1.1.1 (j : Int) (by omega) (by omega)
      rw [show (400 * (s : Int) + (j : Int)).toNat = 400 * s + j by omega, show (400 * (0 : Int) + (j : Int)).toNat = j by omega] at z
      exact z), ⟨(by
      rw [prj_m (by decide) (by decide)]
      have z := A1.2.1.1 0 (by decide) (by decide)
      rw [show (1 * (s : Int) + 0).toNat = 1 * s + 0 by omega, show (1 * (0 : Int) + 0).toNat = 0 by omega] at z
      exact z), (by
      rw [prj_m (by decide) (by decide)]
      have z := A1.2.2.1.1 0 (by decide) (by decide)
      rw [show (1 * (s : Int) + 0).toNat = 1 * s + 0 by omega, show (1 * (0 : Int) + 0).toNat = 0 by omega] at z
      exact z), (by
      rw [prj_m (by decide) (by decide)]
      have z := A1.2.2.2.1.1 0 (by decide) (by decide)
      rw [show (1 * (s : Int) + 0).toNat = 1 * s + 0 by omega, show (1 * (0 : Int) + 0).toNat = 0 by omega] at z
      exact z), (by
      rw [prj_m (by decide) (by decide)]
      have z := A1.2.2.2.2.1.1 0 (by decide) (by decide)
      rw [show (1 * (s : Int) + 0).toNat = 1 * s + 0 by omega, show (1 * (0 : Int) + 0).toNat = 0 by omega] at z
      exact z), (by
      rw [prj_m (by decide) (by decide)]
      have z := A1.2.2.2.2.2.1.1 0 (by decide) (by decide)
      rw [show (1 * (s : Int) + 0).toNat = 1 * s + 0 by omega, show (1 * (0 : Int) + 0).toNat = 0 by omega] at z
      exact z), (by
      rw [prj_m (by decide) (by decide)]
      have z := A1.2.2.2.2.2.2.1.1 0 (by decide) (by decide)
      rw [show (1 * (s : Int) + 0).toNat = 1 * s + 0 by omega, show (1 * (0 : Int) + 0).toNat = 0 by omega] at z
      exact z), (by
      rw [prj_m (by decide) (by decide)]
      have z := A1.2.2.2.2.2.2.2.1.1 0 (by decide) (by decide)
      rw [show (1 * (s : Int) + 0).toNat = 1 * s + 0 by omega, show (1 * (0 : Int) + 0).toNat = 0 by omega] at z
      exact z), (by
      rw [prj_m (by decide) (by decide)]
      have z := A1.2.2.2.2.2.2.2.2.1.1 0 (by decide) (by decide)
      rw [show (1 * (s : Int) + 0).toNat = 1 * s + 0 by omega, show (1 * (0 : Int) + 0).toNat = 0 by omega] at z
      exact z)⟩, ⟨(fun j hj => by
      rw [prj_m (by decide) (show j < 300 by omega)]
      have z := A1.2.2.2.2.2.2.2.2.2.1.1 (j : Int) (by omega) (by omega)
      rw [show (300 * (s : Int) + (j : Int)).toNat = 300 * s + j by omega, show (300 * (0 : Int) + (j : Int)).toNat = j by omega] at z
      exact z), (fun j hj => by
      rw [prj_m (by decide) (show j < 60 by omega)]
      have z := A1.2.2.2.2.2.2.2.2.2.2.1.1 (j : Int) (by omega) (by omega)
      rw [show (60 * (s : Int) + (j : Int)).toNat = 60 * s + j by omega, show (60 * (0 : Int) + (j : Int)).toNat = j by omega] at z
      exact z), (fun j hj => by
      rw [prj_m (by decide) (show j < 60 by omega)]
      have z := A1.2.2.2.2.2.2.2.2.2.2.2.1.1 (j : Int) (by omega) (by omega)
      rw [show (60 * (s : Int) + (j : Int)).toNat = 60 * s + j by omega, show (60 * (0 : Int) + (j : Int)).toNat = j by omega] at z
      exact z), (fun j hj => by
      rw [prj_m (by decide) (show j < 60 by omega)]
      have z := A1.2.2.2.2.2.2.2.2.2.2.2.2.1 (j : Int) (by omega) (by omega)
      rw [show (60 * (s : Int) + (j : Int)).toNat = 60 * s + j by omega, show (60 * (0 : Int) + (j : Int)).toNat = j by omega] at z
      exact z), (fun j hj => by
      rw [prj_m (by decide) (show j < 60 by omega)]
      have z := A2.1.1 (j : Int) (by omega) (by omega)
      rw [show (60 * (s : Int) + (j : Int)).toNat = 60 * s + j by omega, show (60 * (0 : Int) + (j : Int)).toNat = j by omega] at z
      exact z)⟩, ⟨(by
      rw [prj_m (by decide) (by decide)]
      have z := A2.2.1.1 0 (by decide) (by decide)
      rw [show (1 * (s : Int) + 0).toNat = 1 * s + 0 by omega, show (1 * (0 : Int) + 0).toNat = 0 by omega] at z
      exact z), (fun j hj => by
      rw [prj_m (by decide) (show j < 150 by omega)]
      have z := A2.2.2.1.1 (j : Int) (by omega) (by omega)
      rw [show (150 * (s : Int) + (j : Int)).toNat = 150 * s + j by omega, show (150 * (0 : Int) + (j : Int)).toNat = j by omega] at z
      exact z), (fun j hj => by
      rw [prj_m (by decide) (show j < 150 by omega)]
      have z := A2.2.2.2.1.1 (j : Int) (by omega) (by omega)
      rw [show (150 * (s : Int) + (j : Int)).toNat = 150 * s + j by omega, show (150 * (0 : Int) + (j : Int)).toNat = j by omega] at z
      exact z), (fun j hj => by
      rw [prj_m (by decide) (show j < 150 by omega)]
      have z := A2.2.2.2.2.1.1 (j : Int) (by omega) (by omega)
      rw [show (150 * (s : Int) + (j : Int)).toNat = 150 * s + j by omega, show (150 * (0 : Int) + (j : Int)).toNat = j by omega] at z
      exact z)⟩, ⟨(by
      rw [prj_m (by decide) (by decide)]
      have z := A2.2.2.2.2.2.1.1 0 (by decide) (by decide)
      rw [show (1 * (s : Int) + 0).toNat = 1 * s + 0 by omega, show (1 * (0 : Int) + 0).toNat = 0 by omega] at z
      exact z), (fun j hj => by
      rw [prj_m (by decide) (show j < 10 by omega)]
      have z := A2.2.2.2.2.2.2.1.1 (j : Int) (by omega) (by omega)
      rw [show (10 * (s : Int) + (j : Int)).toNat = 10 * s + j by omega, show (10 * (0 : Int) + (j : Int)).toNat = j by omega] at z
      exact z), (fun j hj => by
      rw [prj_m (by decide) (show j < 300 by omega)]
      have z := A2.2.2.2.2.2.2.2.1.1 (j : Int) (by omega) (by omega)
      rw [show (300 * (s : Int) + (j : Int)).toNat = 300 * s + j by omega, show (300 * (0 : Int) + (j : Int)).toNat = j by omega] at z
      exact z), (fun j hj => by
      rw [prj_m (by decide) (show j < 10 by omega)]
      have z := A2.2.2.2.2.2.2.2.2.1 (j : Int) (by omega) (by omega)
      rw [show (10 * (s : Int) + (j : Int)).toNat = 10 * s + j by omega, show (10 * (0 : Int) + (j : Int)).toNat = j by omega] at z
      exact z), (fun a a0 a1 j j0 j1 => by
      have q := h99 a a0 a1
      have e9 : prj b s m 99 a.toNat = m 99 (10 * s + a.toNat) := prj_m (by decide) (show a.toNat < 10 by omega)
      rw [prj_m (by decide) (show (5000 * a + j).toNat < 50000 by omega)]
      have z := A3.1 a a0 a1 j j0 (by rw [show (10 * (s : Int) + a).toNat = 10 * s + a.toNat by omega, ← e9]; exact j1)
      rw [show (5000 * (10 * (s : Int) + a) + j).toNat = 50000 * s + (5000 * a + j).toNat by omega, show 5000 * (10 * (0 : Int) + a) + j = 5000 * a + j by omega] at z
      exact z)⟩, ⟨(by
      rw [prj_m (by decide) (by decide)]
      have z := A4.1.1 0 (by decide) (by decide)
      rw [show (1 * (s : Int) + 0).toNat = 1 * s + 0 by omega, show (1 * (0 : Int) + 0).toNat = 0 by omega] at z
      exact z), (fun j hj => by
      rw [prj_m (by decide) (show j < 5 by omega)]
      have z := A4.2.1.1 (j : Int) (by omega) (by omega)
      rw [show (5 * (s : Int) + (j : Int)).toNat = 5 * s + j by omega, show (5 * (0 : Int) + (j : Int)).toNat = j by omega] at z
      exact z), (fun j hj => by
      rw [prj_m (by decide) (show j < 5 by omega)]
      have z := A4.2.2.1.1 (j : Int) (by omega) (by omega)
      rw [show (5 * (s : Int) + (j : Int)).toNat = 5 * s + j by omega, show (5 * (0 : Int) + (j : Int)).toNat = j by omega] at z
      exact z), (fun j hj => by
      rw [prj_m (by decide) (show j < 50 by omega)]
      have z := A4.2.2.2.1.1 (j : Int) (by omega) (by omega)
      rw [show (50 * (s : Int) + (j : Int)).toNat = 50 * s + j by omega, show (50 * (0 : Int) + (j : Int)).toNat = j by omega] at z
      exact z), (by
      rw [prj_m (by decide) (by decide)]
      have z := A4.2.2.2.2.1.1 0 (by decide) (by decide)
      rw [show (1 * (s : Int) + 0).toNat = 1 * s + 0 by omega, show (1 * (0 : Int) + 0).toNat = 0 by omega] at z
      exact z), (fun j hj => by
      rw [prj_m (by decide) (show j < 64 by omega)]
      have z := A4.2.2.2.2.2.1 (j : Int) (by omega) (by omega)
      rw [show (64 * (s : Int) + (j : Int)).toNat = 64 * s + j by omega, show (64 * (0 : Int) + (j : Int)).toNat = j by omega] at z
      exact z)⟩⟩

theorem low_p {m M : qM} (h99 : n99 m) (hm : ∀ i j, 78 ≤ i ∧ i ≤ 106 → j < nrS i → M i j = m i j) : sTp m M := ⟨(fun j hj => hm 78 j (by decide) (show j < 400 by omega)), ⟨(hm 79 0 (by decide) (by decide)), (hm 80 0 (by decide) (by decide)), (hm 81 0 (by decide) (by decide)), (hm 82 0 (by decide) (by decide)), (hm 83 0 (by decide) (by decide)), (hm 84 0 (by decide) (by decide)), (hm 85 0 (by decide) (by decide)), (hm 86 0 (by decide) (by decide))⟩, ⟨(fun j hj => hm 87 j (by decide) (show j < 300 by omega)), (fun j hj => hm 88 j (by decide) (show j < 60 by omega)), (fun j hj => hm 89 j (by decide) (show j < 60 by omega)), (fun j hj => hm 90 j (by decide) (show j < 60 by omega)), (fun j hj => hm 91 j (by decide) (show j < 60 by omega))⟩, ⟨(hm 92 0 (by decide) (by decide)), (fun j hj => hm 93 j (by decide) (show j < 150 by omega)), (fun j hj => hm 94 j (by decide) (show j < 150 by omega)), (fun j hj => hm 95 j (by decide) (show j < 150 by omega))⟩, ⟨(hm 96 0 (by decide) (by decide)), (fun j hj => hm 97 j (by decide) (show j < 10 by omega)), (fun j hj => hm 98 j (by decide) (show j < 300 by omega)), (fun j hj => hm 99 j (by decide) (show j < 10 by omega)), (fun a a0 a1 j j0 j1 => hm 100 _ (by decide) (show (5000 * a + j).toNat < 50000 by have q := h99 a a0 a1; omega))⟩, ⟨(hm 101 0 (by decide) (by decide)), (fun j hj => hm 102 j (by decide) (show j < 5 by omega)), (fun j hj => hm 103 j (by decide) (show j < 5 by omega)), (fun j hj => hm 104 j (by decide) (show j < 50 by omega)), (hm 105 0 (by decide) (by decide)), (fun j hj => hm 106 j (by decide) (show j < 64 by omega))⟩⟩
theorem sTc_0 {m M : qM} (h : ∀ i, 1 ≤ i → i ≤ 21 → M i = m i) : sTc m M := by
  refine sTc_r (M := m) (fun i h1 h2 => (h i h1 h2).symm) ?_
  exact ⟨⟨rfl, rfl, rfl, rfl, rfl, rfl⟩, ⟨rfl, rfl, rfl⟩, ⟨fun _ _ => rfl, fun _ _ => rfl, fun _ _ => rfl, fun _ _ => rfl, fun _ _ => rfl, fun _ _ => rfl⟩, ⟨fun _ _ => rfl, fun _ _ => rfl, fun _ _ => rfl⟩, ⟨rfl, rfl, fun _ _ => rfl, fun _ _ => rfl⟩, ⟨rfl, rfl, fun _ _ => rfl, fun _ _ => rfl, fun _ _ => rfl, fun _ _ => rfl, fun _ _ => rfl⟩, fun _ _ => rfl⟩
theorem iT_low {c : Int} {m M : qM} (hc : ∀ i, 1 ≤ i → i ≤ 21 → M i = m i) (hm : ∀ i j, 78 ≤ i ∧ i ≤ 106 → j < nrS i → M i j = m i j) (h : iT c m) : iT c M := by
  obtain ⟨⟨h1, h2⟩, ⟨h3, h4, h5⟩, h6, h7⟩ := h
  have sc := sTc_0 hc
  have sm := low_p h7 hm
  refine ⟨⟨sU_rC sc sm h1, sU_rL sc sm h1.1.2.1.1 h2⟩, ⟨sU_rXn sc sm h3, sU_rXl sc sm h4, sU_rTp sc sm h5⟩, ?_, fun a a0 a1 => ?_⟩
  · rw [hc 12 (by decide) (by decide)]; exact h6
  · rw [hm 99 a.toNat (by decide) (show a.toNat < 10 by omega)]; exact h7 a a0 a1
def kIB (b : Nat) : Nat → Nat → Bool := fun i _ => decide (b ≤ i ∧ i ≤ b + 20)
theorem mem_oL {o : qO} {b : Nat} (h : some b ∈ oL o) : ∃ k : Nat, k < 3 ∧ (oL o).getD k none = some b := by
  obtain ⟨a1, a2, a3⟩ := o
  simp only [List.mem_cons, List.not_mem_nil, or_false] at h
  rcases h with h | h | h
  · exact ⟨0, by decide, h.symm⟩
  · exact ⟨1, by decide, h.symm⟩
  · exact ⟨2, by decide, h.symm⟩

/-- an image is made, or made over -/
theorem img_A {c : Int} {m m1 m' : qM} {o o' : qO} {n n' b : Nat} {k : Int} (hA : iA c (o, tlN n) m) (hI : ∀ k : Nat, k < 3 → iO c m k ((oL o).getD k none)) (hk : 0 ≤ k ∧ k ≤ 2) (hO' : oOk n' o') (hb : 125 ≤ b) (hkb : (oL o').getD k.toNat none = some b) (hoth : ∀ k' : Nat, k' < 3 → ¬ k' = k.toNat → (oL o').getD k' none = (oL o).getD k' none ∧ ∀ b', (oL o).getD k' none = some b' → 125 ≤ b' ∧ (b' + 20 < b ∨ b + 20 < b')) (K1 : keep (kN (kIB b)) m1 = keep (kN (kIB b)) m) (S : ∀ s, sTc m (prj b s m1))
    (K2 : keep (kN kCp) m' = keep (kN kCp) (q_up m1 77 0 0)) (A1 : cpA 0 (k + 1) (q_up m1 77 0 0) m') (A2 : cpC 0 (k + 1) (q_up m1 77 0 0) m') (A3 : cpT 0 (k + 1) (q_up m1 77 0 0) m') (A4 : cpE 0 (k + 1) (q_up m1 77 0 0) m') : iA (c + 1) (o', tlN n') (q_up m' 124 k.toNat 1) := by
  have f1 : ∀ i, i < b ∨ b + 20 < i → m1 i = m i := fun i hi => rK K1 (fun j => by unfold kIB; rw [decide_eq_false]; omega)
  have f2 : ∀ i, ¬ (78 ≤ i ∧ i ≤ 106) → ¬ i = 77 → m' i = m1 i := fun i h1 h2 => (rK K2 (fun j => by unfold kCp; rw [decide_eq_false]; omega)).trans (q_up_rw h2)
  have f3 : ∀ i, ¬ i = 124 → q_up m' 124 k.toNat 1 i = m' i := fun i h => q_up_rw h
  have g : ∀ i, i < b ∨ b + 20 < i → ¬ (78 ≤ i ∧ i ≤ 106) → ¬ i = 77 → ¬ i = 124 → q_up m' 124 k.toNat 1 i = m i := fun i h1 h2 h3 h4 => (f3 i h4).trans ((f2 i h2 h3).trans (f1 i h1))
  have zr : ∀ i, 78 ≤ i ∧ i ≤ 106 → q_up m1 77 0 0 i = m i := fun i hi => (q_up_rw (by omega)).trans (f1 i (by omega))
  have out : ∀ i j : Nat, 78 ≤ i ∧ i ≤ 106 → ¬ ((nrS i : Int) * (k + 1) ≤ (j : Int) ∧ (j : Int) < (nrS i : Int) * (k + 1) + nrS i) → q_up m' 124 k.toNat 1 i j = m i j := fun i j hi hj => by
    rw [f3 i (by omega), cp_out A1 A2 A3 A4 i j hi hj, zr i hi]
  have hT2 : iT c (q_up m' 124 k.toNat 1) := by
    refine iT_low (fun i h1 h2 => g i (by omega) (by omega) (by omega) (by omega)) (fun i j hi hj => out i j hi ?_) hA.1
    intro z
    have : (nrS i : Int) * 1 ≤ (nrS i : Int) * (k + 1) := Int.mul_le_mul_of_nonneg_left (by omega) (by omega)
    omega
  have hK2 : iK (q_up m' 124 k.toNat 1) := by
    refine iK_q ⟨?_, ?_, ?_, ?_, ?_⟩ (g 0 (by omega) (by omega) (by omega) (by omega)) (fun i hi => g i (by omega) (by omega) (by omega) (by omega)) hA.2.1
    · funext i j
      unfold keep
      by_cases z : kKern i j = true
      · rw [if_pos z, if_pos z]
        unfold kKern at z
        rw [decide_eq_true_eq] at z
        rw [g i (by omega) (by omega) (by omega) (by omega)]
      · rw [if_neg z, if_neg z]
    · unfold nW gHz
      rw [g 1 (by omega) (by omega) (by omega) (by omega), g 2 (by omega) (by omega) (by omega) (by omega), g 7 (by omega) (by omega) (by omega) (by omega)]
    · unfold nT gHz
      rw [g 1 (by omega) (by omega) (by omega) (by omega), g 2 (by omega) (by omega) (by omega) (by omega), g 11 (by omega) (by omega) (by omega) (by omega)]
    · unfold nR nD gHz
      rw [g 1 (by omega) (by omega) (by omega) (by omega), g 12 (by omega) (by omega) (by omega) (by omega), g 13 (by omega) (by omega) (by omega) (by omega)]
    · unfold nN gHz
      rw [g 1 (by omega) (by omega) (by omega) (by omega), g 15 (by omega) (by omega) (by omega) (by omega), g 18 (by omega) (by omega) (by omega) (by omega)]
  refine ⟨iT_le hT2 (by omega), hK2, o', n', rfl, hO', fun k' hk' => ?_⟩
  by_cases e : k' = k.toNat
  · subst e
    refine Or.inr ⟨b, hkb, q_up_eq, iT_le (iT_sT (m := m) ?_ ?_ hA.1) (by omega)⟩
    · refine sTc_r (fun i h1 h2 => ?_) (S (k.toNat + 1))
      rw [prj_c ⟨h1, h2⟩, prj_c ⟨h1, h2⟩, f3 _ (by omega), f2 _ (by omega) (by omega)]
    · have ks : k + 1 = ((k.toNat + 1 : Nat) : Int) := by omega
      rw [ks] at A1 A2 A3 A4
      have n9 : n99 (q_up m1 77 0 0) := fun a a0 a1 => by rw [zr 99 (by decide)]; exact hA.1.2.2.2 a a0 a1
      refine sTm_l (fun i h1 h2 => zr i ⟨h1, h2⟩) ?_
      have := cp_w (b := b) n9 A1 A2 A3 A4
      rwa [show prj b (k.toNat + 1) (q_up m' 124 k.toNat 1) = prj b (k.toNat + 1) m' from prj_eq (fun i h1 h2 => f3 _ (by omega)) (fun i j h1 h2 _ => by rw [f3 i (by omega)])]
  · obtain ⟨e1, e2⟩ := hoth k' hk' e
    rw [e1]
    have m4 : q_up m' 124 k.toNat 1 124 k' = m 124 k' := by
      rw [q_up_ne2 e, f2 124 (by omega) (by omega), f1 124 (by omega)]
    rcases hI k' hk' with ⟨z1, z2⟩ | ⟨b', z1, z2, z3⟩
    · exact Or.inl ⟨z1, m4.trans z2⟩
    · refine Or.inr ⟨b', z1, m4.trans z2, ?_⟩
      obtain ⟨l1, l2⟩ := e2 b' z1
      rw [show prj b' (k' + 1) (q_up m' 124 k.toNat 1) = prj b' (k' + 1) m from prj_eq (fun i h1 h2 => g _ (by omega) (by omega) (by omega) (by omega)) (fun i j h1 h2 hj => out i _ ⟨h1, h2⟩ ?_)]
      · exact iT_le z3 (by omega)
      · intro z
        have kk : k = 0 ∨ k = 1 ∨ k = 2 := by omega
        have kk' : k' = 0 ∨ k' = 1 ∨ k' = 2 := by omega
        rcases kk with rfl | rfl | rfl <;> rcases kk' with rfl | rfl | rfl <;> first | (exact absurd rfl e) | (revert z; omega)

theorem tl_1 {n : Nat} (h : 1 ≤ n ∧ n ≤ 3) : ∃ t, tlN n = im125 ++ t := by
  have : n = 1 ∨ n = 2 ∨ n = 3 := by omega
  rcases this with rfl | rfl | rfl <;> exact ⟨_, rfl⟩
theorem tl_2 {n : Nat} (h : 2 ≤ n ∧ n ≤ 3) : ∃ t, tlN n = im125 ++ (im146 ++ t) := by
  have : n = 2 ∨ n = 3 := by omega
  rcases this with rfl | rfl <;> exact ⟨_, rfl⟩
theorem tl_3 {n : Nat} (h : n = 3) : ∃ t, tlN n = im125 ++ (im146 ++ (im167 ++ t)) := by
  subst h
  exact ⟨_, rfl⟩
theorem oS_k {o : qO} {k : Int} {b : Nat} (hk : 0 ≤ k ∧ k ≤ 2) : (oL (oS o k b)).getD k.toNat none = some b := by
  have : k = 0 ∨ k = 1 ∨ k = 2 := by omega
  rcases this with rfl | rfl | rfl <;> rfl
theorem oS_o {o : qO} {k : Int} {b k' : Nat} (hk : 0 ≤ k ∧ k ≤ 2) (hk' : k' < 3) (e : ¬ k' = k.toNat) : (oL (oS o k b)).getD k' none = (oL o).getD k' none := by
  have : k = 0 ∨ k = 1 ∨ k = 2 := by omega
  have h2 : k' = 0 ∨ k' = 1 ∨ k' = 2 := by omega
  rcases this with rfl | rfl | rfl <;> rcases h2 with rfl | rfl | rfl <;> first | exact absurd rfl e | rfl
theorem oOk.S {o : qO} {n : Nat} {k : Int} (h : oOk n o) (hk : 0 ≤ k ∧ k ≤ 2) (hn : (oL o).getD k.toNat none = none) : oOk (n + 1) (oS o k (125 + 21 * n)) := by
  have kl : k.toNat < 3 := by omega
  have at_ : ∀ k', k' < 3 → (oL (oS o k (125 + 21 * n))).getD k' none = if k' = k.toNat then some (125 + 21 * n) else (oL o).getD k' none := fun k' hk' => by
    by_cases e : k' = k.toNat
    · rw [if_pos e, e]; exact oS_k hk
    · rw [if_neg e]; exact oS_o hk hk' e
  have old : ∀ k', k' < 3 → ¬ (oL o).getD k' none = some (125 + 21 * n) := fun k' hk' z => by
    obtain ⟨-, i, hi, e⟩ := h.b hk' z
    omega
  refine ⟨fun k' hk' => ?_, fun a b ha hb hab => ?_, ?_⟩
  · rw [at_ k' hk']
    by_cases e : k' = k.toNat
    · rw [if_pos e]; exact Or.inr ⟨n, by omega, rfl⟩
    · rw [if_neg e]
      rcases h.1 k' hk' with z | ⟨i, hi, z⟩
      · exact Or.inl z
      · exact Or.inr ⟨i, by omega, z⟩
  · rw [at_ a ha, at_ b hb]
    by_cases e : a = k.toNat
    · rw [if_pos e, if_neg (by omega)]
      exact Or.inr fun z => old b hb z.symm
    · rw [if_neg e]
      by_cases e2 : b = k.toNat
      · rw [if_pos e2]
        exact Or.inr fun z => old a ha z
      · rw [if_neg e2]
        exact h.2.1 a b ha hb hab
  · have c1 := h.2.2
    have q : q_cnt (fun k => (oL o).getD k none = none) 3 = q_cnt (fun k' => (oL (oS o k (125 + 21 * n))).getD k' none = none) 3 + 1 := by
      clear at_ old c1 h
      obtain ⟨a1, a2, a3⟩ := o
      have : k = 0 ∨ k = 1 ∨ k = 2 := by omega
      rcases this with rfl | rfl | rfl
      · have hn : a1 = none := hn
        subst hn
        cases a2 <;> cases a3 <;> rfl
      · have hn : a2 = none := hn
        subst hn
        cases a1 <;> cases a3 <;> rfl
      · have hn : a3 = none := hn
        subst hn
        cases a1 <;> cases a2 <;> rfl
    omega

set_option maxHeartbeats 4000000 in
theorem j_image {c : Int} {u : qU} {m : qM} (y : qM) (k : Int) (hA : iA c u m) (q0 : qr k) : qPair YX11_image YX12_image 5 3 [qR 0, qI k] [qR 77, qI k] c u m y := by
  by_cases hk : 0 ≤ k ∧ k ≤ 2
  · have hA0 := hA
    obtain ⟨o, n, rfl, hO, hI⟩ := hA0.2.2
    have kl : k.toNat < 3 := by omega
    rcases hI k.toNat kl with ⟨z1, -⟩ | ⟨b, z1, -, -⟩
    · have n2 : n ≤ 2 := by
        have h3 := hO.2.2
        have := q_cnt_y (p := fun k => (oL o).getD k none = none) kl z1
        omega
      have hlt : ∀ b, some b ∈ oL o → b < 125 + 21 * n := fun b hb => by
        obtain ⟨k', l1, l2⟩ := mem_oL hb
        obtain ⟨-, i, hi, rfl⟩ := hO.b l1 l2
        omega
      have hS := hO.S hk z1
      have dis : ∀ k' : Nat, k' < 3 → ∀ b', (oL o).getD k' none = some b' → 125 ≤ b' ∧ (b' + 20 < 125 + 21 * n ∨ 125 + 21 * n + 20 < b') := fun k' hk' b' hb' => by
        obtain ⟨-, i, hi, rfl⟩ := hO.b hk' hb'
        omega
      have : n = 0 ∨ n = 1 ∨ n = 2 := by omega
      rcases this with rfl | rfl | rfl
      · refine ⟨21, 2101, _, by decide, by decide, x_imN125 o m y k hk z1 hlt (by have := hA.1.1.1.1.1.1; exact this) (by have := hA.1.1.1.1.1.2.2; exact this) hA.1.1.2.1.1.2.1 hA.1.2.1.1.1.1 hA.1.2.1.2.2.1.1 (fun j hj => (hA.1.2.1.2.2.2.1 j hj).2), ?_⟩
        rintro r h ⟨rfl, m1, y1, rfl, K1, S⟩
        refine ⟨_, (oS o k 125, tlN 1), m1, y1, rfl, rfl, _, m_image _ m1 _ k q0 (fun a a0 a1 => by rw [show m1 99 = m 99 from congrFun K1 99]; exact hA.1.2.2.2 a a0 a1), ?_⟩
        rintro r2 h2 (⟨hn, -, -⟩ | ⟨-, rfl, m', rfl, K2, A1, A2, A3, A4⟩)
        · exact absurd hk hn
        · exact ⟨rfl, _, _, rfl, img_A (b := 125) hA hI hk hS (by decide) (oS_k hk) (fun k' hk' e => ⟨oS_o hk hk' e, dis k' hk'⟩) K1 S K2 A1 A2 A3 A4⟩
      · refine ⟨21, 2101, _, by decide, by decide, x_imN146 o m y k hk z1 hlt (by have := hA.1.1.1.1.1.1; exact this) (by have := hA.1.1.1.1.1.2.2; exact this) hA.1.1.2.1.1.2.1 hA.1.2.1.1.1.1 hA.1.2.1.2.2.1.1 (fun j hj => (hA.1.2.1.2.2.2.1 j hj).2), ?_⟩
        rintro r h ⟨rfl, m1, y1, rfl, K1, S⟩
        refine ⟨_, (oS o k 146, tlN 2), m1, y1, rfl, rfl, _, m_image _ m1 _ k q0 (fun a a0 a1 => by rw [show m1 99 = m 99 from congrFun K1 99]; exact hA.1.2.2.2 a a0 a1), ?_⟩
        rintro r2 h2 (⟨hn, -, -⟩ | ⟨-, rfl, m', rfl, K2, A1, A2, A3, A4⟩)
        · exact absurd hk hn
        · exact ⟨rfl, _, _, rfl, img_A (b := 146) hA hI hk hS (by decide) (oS_k hk) (fun k' hk' e => ⟨oS_o hk hk' e, dis k' hk'⟩) K1 S K2 A1 A2 A3 A4⟩
      · refine ⟨21, 2101, _, by decide, by decide, x_imN167 o m y k hk z1 hlt (by have := hA.1.1.1.1.1.1; exact this) (by have := hA.1.1.1.1.1.2.2; exact this) hA.1.1.2.1.1.2.1 hA.1.2.1.1.1.1 hA.1.2.1.2.2.1.1 (fun j hj => (hA.1.2.1.2.2.2.1 j hj).2), ?_⟩
        rintro r h ⟨rfl, m1, y1, rfl, K1, S⟩
        refine ⟨_, (oS o k 167, tlN 3), m1, y1, rfl, rfl, _, m_image _ m1 _ k q0 (fun a a0 a1 => by rw [show m1 99 = m 99 from congrFun K1 99]; exact hA.1.2.2.2 a a0 a1), ?_⟩
        rintro r2 h2 (⟨hn, -, -⟩ | ⟨-, rfl, m', rfl, K2, A1, A2, A3, A4⟩)
        · exact absurd hk hn
        · exact ⟨rfl, _, _, rfl, img_A (b := 167) hA hI hk hS (by decide) (oS_k hk) (fun k' hk' e => ⟨oS_o hk hk' e, dis k' hk'⟩) K1 S K2 A1 A2 A3 A4⟩
    · obtain ⟨n3, i, hi, rfl⟩ := hO.b kl z1
      have dis : ∀ k' : Nat, k' < 3 → ¬ k' = k.toNat → ∀ b', (oL o).getD k' none = some b' → 125 ≤ b' ∧ (b' + 20 < 125 + 21 * i ∨ 125 + 21 * i + 20 < b') := fun k' hk' e b' hb' => by
        obtain ⟨-, i', hi', rfl⟩ := hO.b hk' hb'
        rcases hO.2.1 k' k.toNat hk' kl e with z | z
        · rw [hb'] at z; cases z
        · rw [hb', z1] at z
          have : ¬ i' = i := fun q => z (by rw [q])
          omega
      have : i = 0 ∨ i = 1 ∨ i = 2 := by omega
      rcases this with rfl | rfl | rfl
      · obtain ⟨t, et⟩ := tl_1 (n := n) (by omega)
        refine ⟨0, 0, _, by decide, by decide, by rw [et]; exact x_imO125 o t m y k hk z1 (by have := hA.1.1.1.1.1.1; exact this) (by have := hA.1.1.1.1.1.2.2; exact this) hA.1.1.2.1.1.2.1 hA.1.2.1.1.1.1 hA.1.2.1.2.2.1.1 (fun j hj => (hA.1.2.1.2.2.2.1 j hj).2), ?_⟩
        rintro r h ⟨rfl, m1, rfl, K1, S⟩
        refine ⟨_, (o, tlN n), m1, y, rfl, by rw [et], _, m_image _ m1 _ k q0 (fun a a0 a1 => by rw [show m1 99 = m 99 from congrFun K1 99]; exact hA.1.2.2.2 a a0 a1), ?_⟩
        rintro r2 h2 (⟨hn, -, -⟩ | ⟨-, rfl, m', rfl, K2, A1, A2, A3, A4⟩)
        · exact absurd hk hn
        · exact ⟨rfl, _, _, rfl, img_A (b := 125) hA hI hk hO (by decide) z1 (fun k' hk' e => ⟨rfl, dis k' hk' e⟩) K1 S K2 A1 A2 A3 A4⟩
      · obtain ⟨t, et⟩ := tl_2 (n := n) (by omega)
        refine ⟨0, 0, _, by decide, by decide, by rw [et]; exact x_imO146 o t m y k hk z1 (by have := hA.1.1.1.1.1.1; exact this) (by have := hA.1.1.1.1.1.2.2; exact this) hA.1.1.2.1.1.2.1 hA.1.2.1.1.1.1 hA.1.2.1.2.2.1.1 (fun j hj => (hA.1.2.1.2.2.2.1 j hj).2), ?_⟩
        rintro r h ⟨rfl, m1, rfl, K1, S⟩
        refine ⟨_, (o, tlN n), m1, y, rfl, by rw [et], _, m_image _ m1 _ k q0 (fun a a0 a1 => by rw [show m1 99 = m 99 from congrFun K1 99]; exact hA.1.2.2.2 a a0 a1), ?_⟩
        rintro r2 h2 (⟨hn, -, -⟩ | ⟨-, rfl, m', rfl, K2, A1, A2, A3, A4⟩)
        · exact absurd hk hn
        · exact ⟨rfl, _, _, rfl, img_A (b := 146) hA hI hk hO (by decide) z1 (fun k' hk' e => ⟨rfl, dis k' hk' e⟩) K1 S K2 A1 A2 A3 A4⟩
      · obtain ⟨t, et⟩ := tl_3 (n := n) (by omega)
        refine ⟨0, 0, _, by decide, by decide, by rw [et]; exact x_imO167 o t m y k hk z1 (by have := hA.1.1.1.1.1.1; exact this) (by have := hA.1.1.1.1.1.2.2; exact this) hA.1.1.2.1.1.2.1 hA.1.2.1.1.1.1 hA.1.2.1.2.2.1.1 (fun j hj => (hA.1.2.1.2.2.2.1 j hj).2), ?_⟩
        rintro r h ⟨rfl, m1, rfl, K1, S⟩
        refine ⟨_, (o, tlN n), m1, y, rfl, by rw [et], _, m_image _ m1 _ k q0 (fun a a0 a1 => by rw [show m1 99 = m 99 from congrFun K1 99]; exact hA.1.2.2.2 a a0 a1), ?_⟩
        rintro r2 h2 (⟨hn, -, -⟩ | ⟨-, rfl, m', rfl, K2, A1, A2, A3, A4⟩)
        · exact absurd hk hn
        · exact ⟨rfl, _, _, rfl, img_A (b := 167) hA hI hk hO (by decide) z1 (fun k' hk' e => ⟨rfl, dis k' hk' e⟩) K1 S K2 A1 A2 A3 A4⟩
  · refine ⟨0, 0, _, by decide, by decide, x_imF u m y k q0 hk, ?_⟩
    rintro r h ⟨rfl, rfl⟩
    refine ⟨_, u, m, y, rfl, rfl, _, m_image u m y k q0 hA.1.2.2.2, ?_⟩
    rintro r2 h2 (⟨-, rfl, rfl⟩ | ⟨hn, -⟩)
    · exact ⟨rfl, _, y, rfl, iA_o (keep_up rfl) hA⟩
    · exact absurd hn hk

/-- back to an image -/
theorem ag_A {c : Int} {m m1 m2 : qM} {o : qO} {n b : Nat} {k : Int} (hA : iA c (o, tlN n) m) (hO : oOk n o) (hI : ∀ k : Nat, k < 3 → iO c m k ((oL o).getD k none)) (hk : 0 ≤ k ∧ k ≤ 2) (hT : iT c (prj b (k.toNat + 1) m)) (K1 : keep (kN (kIB 1)) m1 = keep (kN (kIB 1)) (fgM m)) (S : ∀ s, sTc (prj b s m) m1)
    (K2 : keep (kN kCp) m2 = keep (kN kCp) (q_up m1 77 0 0)) (A1 : cpA (k + 1) 0 (q_up m1 77 0 0) m2) (A2 : cpC (k + 1) 0 (q_up m1 77 0 0) m2) (A3 : cpT (k + 1) 0 (q_up m1 77 0 0) m2) (A4 : cpE (k + 1) 0 (q_up m1 77 0 0) m2) : iA (c + 1) (o, tlN n) m2 := by
  have f1 : ∀ i, 22 ≤ i → m1 i = m i := fun i hi => (rK K1 (fun j => by unfold kIB; rw [decide_eq_false]; omega)).trans (by unfold fgM; rw [q_up_rw (by omega), q_up_rw (by omega), q_up_rw (by omega), q_up_rw (by omega), q_up_rw (by omega)])
  have f0 : m1 0 = fgM m 0 := rK K1 (fun j => by unfold kIB; rw [decide_eq_false]; omega)
  have f2 : ∀ i, ¬ (78 ≤ i ∧ i ≤ 106) → ¬ i = 77 → m2 i = m1 i := fun i h1 h2 => (rK K2 (fun j => by unfold kCp; rw [decide_eq_false]; omega)).trans (q_up_rw h2)
  have zr : ∀ i, 78 ≤ i ∧ i ≤ 106 → q_up m1 77 0 0 i = m i := fun i hi => (q_up_rw (by omega)).trans (f1 i (by omega))
  have zp : prj b (k.toNat + 1) (q_up m1 77 0 0) = fun i j => if 1 ≤ i ∧ i ≤ 21 then q_up m1 77 0 0 (b - 1 + i) j else prj b (k.toNat + 1) m i j := by
    funext i j
    by_cases h : 1 ≤ i ∧ i ≤ 21
    · rw [if_pos h, prj_c h]
    · rw [if_neg h]
      unfold prj
      rw [if_neg h, if_neg h]
      by_cases g : (78 ≤ i ∧ i ≤ 106) ∧ j < nrS i
      · rw [if_pos g, if_pos g, zr i g.1]
      · rw [if_neg g, if_neg g]
  have zm : ∀ i, 78 ≤ i → i ≤ 106 → prj b (k.toNat + 1) (q_up m1 77 0 0) i = prj b (k.toNat + 1) m i := fun i h1 h2 => by
    rw [zp]
    funext j
    show (if 1 ≤ i ∧ i ≤ 21 then _ else _) = _
    rw [if_neg (by omega)]
  have kI : keep kIm m2 = keep kIm m := by
    funext i j
    unfold keep
    by_cases z : kIm i j = true
    · rw [if_pos z, if_pos z]
      by_cases e : 78 ≤ i ∧ i ≤ 106
      · have q := kIm_j z (by omega)
        rw [cp_out A1 A2 A3 A4 i j e (by rw [Int.mul_zero]; omega), zr i e]
      · unfold kIm at z
        rw [decide_eq_true_eq] at z
        rw [f2 i e (by omega), f1 i (by omega)]
    · rw [if_neg z, if_neg z]
  refine ⟨iT_le (iT_sT (m := prj b (k.toNat + 1) m) ?_ ?_ hT) (by omega), iK_1 ?_, iI_k kI (by omega) hA.2.2⟩
  · exact sTc_r (fun i h1 h2 => (f2 i (by omega) (by omega)).symm) (S _)
  · have ks : k + 1 = ((k.toNat + 1 : Nat) : Int) := by omega
    rw [ks] at A1 A2 A3 A4
    have n9 : n99 (prj b (k.toNat + 1) (q_up m1 77 0 0)) := fun a a0 a1 => by rw [zm 99 (by decide) (by decide)]; exact hT.2.2.2 a a0 a1
    exact sTm_l zm (cp_r n9 A1 A2 A3 A4)
  · rw [f2 0 (by omega) (by omega), f0]
    exact ⟨rfl, rfl, rfl, rfl, rfl⟩

set_option maxHeartbeats 4000000 in
theorem j_again {c : Int} {u : qU} {m : qM} (y : qM) (k : Int) (hA : iA c u m) (q0 : qr k) : qPair YX11_again YX12_again 5 3 [qR 0, qI k] [qR 77, qI k] c u m y := by
  have hA0 := hA
  obtain ⟨o, n, rfl, hO, hI⟩ := hA0.2.2
  have h124 : (0 ≤ k ∧ k ≤ 2) → m 124 k.toNat = 0 ∨ m 124 k.toNat = 1 := fun hk => by
    rcases hI k.toNat (by omega) with ⟨-, z⟩ | ⟨b, -, z, -⟩
    · exact Or.inl z
    · exact Or.inr z
  by_cases hz : (0 ≤ k ∧ k ≤ 2) ∧ m 124 k.toNat = 1
  · obtain ⟨hk, h1⟩ := hz
    have kl : k.toNat < 3 := by omega
    rcases hI k.toNat kl with ⟨-, z⟩ | ⟨b, z1, -, hT⟩
    · rw [z] at h1; exact absurd h1 (by decide)
    · obtain ⟨n3, i, hi, rfl⟩ := hO.b kl z1
      have h99 : ∀ m1 : qM, (∀ i, 22 ≤ i → m1 i = m i) → ((0 ≤ k ∧ k ≤ 2) ∧ m1 124 k.toNat = 1) → ∀ a : Int, 0 ≤ a → a < 10 → 0 ≤ m1 99 (10 * (k + 1) + a).toNat ∧ m1 99 (10 * (k + 1) + a).toNat ≤ 1000 := fun m1 hm _ a a0 a1 => by
        have q := hT.2.2.2 a a0 a1
        rw [show prj (125 + 21 * i) (k.toNat + 1) m 99 a.toNat = m 99 (10 * (k.toNat + 1) + a.toNat) from prj_m (by decide) (show a.toNat < 10 by omega)] at q
        rw [hm 99 (by decide), show (10 * (k + 1) + a).toNat = 10 * (k.toNat + 1) + a.toNat by omega]
        exact q
      have : i = 0 ∨ i = 1 ∨ i = 2 := by omega
      rcases this with rfl | rfl | rfl
      · obtain ⟨t, et⟩ := tl_1 (n := n) (by omega)
        refine ⟨0, 0, _, by decide, by decide, by rw [et]; exact x_agO125 o t m y k hk z1 (show 0 ≤ m 126 0 ∧ m 126 0 ≤ 60 from hT.1.1.1.1.1) (show 0 ≤ m 126 2 ∧ m 126 2 ≤ 150 from hT.1.1.1.1.2.2) (show 0 ≤ m 136 1 ∧ m 136 1 ≤ 512 from hT.1.2.1.1.2.1) (show 0 ≤ m 139 0 ∧ m 139 0 ≤ 5 from hT.2.1.1.1.1) (show 0 ≤ m 125 4 ∧ m 125 4 ≤ 400 from hT.2.1.2.2.1.1) (fun j hj => (hT.2.1.2.2.2.1 j hj).2), ?_⟩
        rintro r h ⟨rfl, m1, rfl, K1, S⟩
        have f1 : ∀ i, 22 ≤ i → m1 i = m i := fun i hi => (rK (K := kIB 1) K1 (fun j => by unfold kIB; rw [decide_eq_false]; omega)).trans (by unfold fgM; rw [q_up_rw (by omega), q_up_rw (by omega), q_up_rw (by omega), q_up_rw (by omega), q_up_rw (by omega)])
        refine ⟨_, (o, tlN n), m1, y, rfl, by rw [et], _, m_again _ m1 _ k q0 (by rw [f1 124 (by decide)]; exact h124) (h99 m1 f1), ?_⟩
        rintro r2 h2 (⟨hn, -, -⟩ | ⟨-, rfl, m', rfl, K2, A1, A2, A3, A4⟩)
        · exact absurd ⟨hk, by rw [f1 124 (by decide)]; exact h1⟩ hn
        · exact ⟨rfl, _, _, rfl, ag_A (b := 125) hA hO hI hk hT K1 S K2 A1 A2 A3 A4⟩
      · obtain ⟨t, et⟩ := tl_2 (n := n) (by omega)
        refine ⟨0, 0, _, by decide, by decide, by rw [et]; exact x_agO146 o t m y k hk z1 (show 0 ≤ m 147 0 ∧ m 147 0 ≤ 60 from hT.1.1.1.1.1) (show 0 ≤ m 147 2 ∧ m 147 2 ≤ 150 from hT.1.1.1.1.2.2) (show 0 ≤ m 157 1 ∧ m 157 1 ≤ 512 from hT.1.2.1.1.2.1) (show 0 ≤ m 160 0 ∧ m 160 0 ≤ 5 from hT.2.1.1.1.1) (show 0 ≤ m 146 4 ∧ m 146 4 ≤ 400 from hT.2.1.2.2.1.1) (fun j hj => (hT.2.1.2.2.2.1 j hj).2), ?_⟩
        rintro r h ⟨rfl, m1, rfl, K1, S⟩
        have f1 : ∀ i, 22 ≤ i → m1 i = m i := fun i hi => (rK (K := kIB 1) K1 (fun j => by unfold kIB; rw [decide_eq_false]; omega)).trans (by unfold fgM; rw [q_up_rw (by omega), q_up_rw (by omega), q_up_rw (by omega), q_up_rw (by omega), q_up_rw (by omega)])
        refine ⟨_, (o, tlN n), m1, y, rfl, by rw [et], _, m_again _ m1 _ k q0 (by rw [f1 124 (by decide)]; exact h124) (h99 m1 f1), ?_⟩
        rintro r2 h2 (⟨hn, -, -⟩ | ⟨-, rfl, m', rfl, K2, A1, A2, A3, A4⟩)
        · exact absurd ⟨hk, by rw [f1 124 (by decide)]; exact h1⟩ hn
        · exact ⟨rfl, _, _, rfl, ag_A (b := 146) hA hO hI hk hT K1 S K2 A1 A2 A3 A4⟩
      · obtain ⟨t, et⟩ := tl_3 (n := n) (by omega)
        refine ⟨0, 0, _, by decide, by decide, by rw [et]; exact x_agO167 o t m y k hk z1 (show 0 ≤ m 168 0 ∧ m 168 0 ≤ 60 from hT.1.1.1.1.1) (show 0 ≤ m 168 2 ∧ m 168 2 ≤ 150 from hT.1.1.1.1.2.2) (show 0 ≤ m 178 1 ∧ m 178 1 ≤ 512 from hT.1.2.1.1.2.1) (show 0 ≤ m 181 0 ∧ m 181 0 ≤ 5 from hT.2.1.1.1.1) (show 0 ≤ m 167 4 ∧ m 167 4 ≤ 400 from hT.2.1.2.2.1.1) (fun j hj => (hT.2.1.2.2.2.1 j hj).2), ?_⟩
        rintro r h ⟨rfl, m1, rfl, K1, S⟩
        have f1 : ∀ i, 22 ≤ i → m1 i = m i := fun i hi => (rK (K := kIB 1) K1 (fun j => by unfold kIB; rw [decide_eq_false]; omega)).trans (by unfold fgM; rw [q_up_rw (by omega), q_up_rw (by omega), q_up_rw (by omega), q_up_rw (by omega), q_up_rw (by omega)])
        refine ⟨_, (o, tlN n), m1, y, rfl, by rw [et], _, m_again _ m1 _ k q0 (by rw [f1 124 (by decide)]; exact h124) (h99 m1 f1), ?_⟩
        rintro r2 h2 (⟨hn, -, -⟩ | ⟨-, rfl, m', rfl, K2, A1, A2, A3, A4⟩)
        · exact absurd ⟨hk, by rw [f1 124 (by decide)]; exact h1⟩ hn
        · exact ⟨rfl, _, _, rfl, ag_A (b := 167) hA hO hI hk hT K1 S K2 A1 A2 A3 A4⟩
  · have hn : (0 ≤ k ∧ k ≤ 2) → (oL o).getD k.toNat none = none := fun hk => by
      rcases hI k.toNat (by omega) with ⟨z, -⟩ | ⟨b, -, z, -⟩
      · exact z
      · exact absurd ⟨hk, z⟩ hz
    refine ⟨0, 0, _, by decide, by decide, x_agF _ m y k q0 hn, ?_⟩
    rintro r h ⟨rfl, rfl⟩
    refine ⟨_, _, m, y, rfl, rfl, _, m_again _ m y k q0 h124 (fun q => absurd q hz), ?_⟩
    rintro r2 h2 (⟨-, rfl, rfl⟩ | ⟨hn, -⟩)
    · exact ⟨rfl, _, y, rfl, iA_o (keep_up rfl) hA⟩
    · exact absurd hn hz

/-! printed by p101.py: two memories that hold the same told -/
def agN (n : Int) (f g : Nat → Int) : Prop := ∀ j : Nat, (j : Int) < n → g j = f j
theorem agN.i {n : Int} {f g : Nat → Int} (h : agN n f g) {w : Int} (h0 : 0 ≤ w) (h1 : w < n) : g w.toNat = f w.toNat := h w.toNat (by omega)
/-- the same, narrowed on the way -/
def agQ (q : Nat) (n : Int) (f g : Nat → Int) : Prop := ∀ j : Nat, (j : Int) < n → g j = q_nar q (f j)
theorem agQ.i {q : Nat} {n : Int} {f g : Nat → Int} (h : agQ q n f g) {w : Int} (h0 : 0 ≤ w) (h1 : w < n) : g w.toNat = q_nar q (f w.toNat) := h w.toNat (by omega)
/-- the class's told -/
def sTc (m m2 : qM) : Prop := (m2 1 4 = m 1 4 ∧ m2 1 5 = m 1 5 ∧ m2 1 6 = m 1 6 ∧ m2 1 7 = m 1 7 ∧ m2 1 8 = m 1 8 ∧ m2 1 9 = m 1 9) ∧ (m2 2 0 = m 2 0 ∧ m2 2 1 = m 2 1 ∧ m2 2 2 = m 2 2) ∧ (agN (m 2 0 * 5) (m 3) (m2 3) ∧ agN (m 2 0) (m 4) (m2 4) ∧ agN (m 2 0) (m 5) (m2 5) ∧ agN (m 2 0) (m 6) (m2 6) ∧ agN (m 2 0) (m 7) (m2 7) ∧ agN (m 2 0) (m 8) (m2 8)) ∧ (agN (m 2 2) (m 9) (m2 9) ∧ agN (m 2 2) (m 10) (m2 10) ∧ agN (m 2 2) (m 11) (m2 11)) ∧ (m2 12 0 = m 12 0 ∧ m2 12 1 = m 12 1 ∧ agN (m 12 1) (m 13) (m2 13) ∧ agN 10 (m 14) (m2 14)) ∧ (m2 15 0 = m 15 0 ∧ m2 15 4 = m 15 4 ∧ agN (m 15 0 * 10) (m 16) (m2 16) ∧ agN (m 15 0) (m 17) (m2 17) ∧ agN (m 15 0) (m 18) (m2 18) ∧ agN 18 (m 19) (m2 19) ∧ agN 18 (m 20) (m2 20)) ∧ agN (m 1 4) (m 21) (m2 21)
/-- the model's told -/
def sTm (m m2 : qM) : Prop := agQ 1 400 (m 78) (m2 78) ∧ (m2 79 0 = m 79 0 ∧ m2 80 0 = m 80 0 ∧ m2 81 0 = m 81 0 ∧ m2 82 0 = m 82 0 ∧ m2 83 0 = m 83 0 ∧ m2 84 0 = m 84 0 ∧ m2 85 0 = m 85 0 ∧ m2 86 0 = m 86 0) ∧ (agN 300 (m 87) (m2 87) ∧ agN 60 (m 88) (m2 88) ∧ agN 60 (m 89) (m2 89) ∧ agN 60 (m 90) (m2 90) ∧ agQ 2 60 (m 91) (m2 91)) ∧ (m2 92 0 = m 92 0 ∧ agN 150 (m 93) (m2 93) ∧ agN 150 (m 94) (m2 94) ∧ agN 150 (m 95) (m2 95)) ∧ (m2 96 0 = m 96 0 ∧ agN 10 (m 97) (m2 97) ∧ agN 300 (m 98) (m2 98) ∧ agN 10 (m 99) (m2 99) ∧ ∀ a : Int, 0 ≤ a → a < 10 → ∀ j : Int, 0 ≤ j → j < 5 * m 99 a.toNat → m2 100 (5000 * a + j).toNat = q_nar 3 (m 100 (5000 * a + j).toNat)) ∧ (m2 101 0 = m 101 0 ∧ agN 5 (m 102) (m2 102) ∧ agN 5 (m 103) (m2 103) ∧ agQ 1 50 (m 104) (m2 104) ∧ m2 105 0 = m 105 0 ∧ agN 64 (m 106) (m2 106))
theorem sT_rC {m m2 : qM} (hc : sTc m m2) (hm : sTm m m2) (h : rC m) : rC m2 := by
  obtain ⟨⟨-, -, -, c7, c8, c9⟩, ⟨c20, c21, c22⟩, ⟨c3, c4, c5, c6, r7, r8⟩, ⟨r9, r10, r11⟩, -, -, -⟩ := hc
  obtain ⟨-, ⟨-, -, -, d82, d83, d84, d85, d86⟩, ⟨d87, d88, d89, d90, d91⟩, ⟨d92, d93, d94, d95⟩, -, -⟩ := hm
  obtain ⟨hA, hW, hRW, hT, hRT, hS⟩ := h
  have a20 := hA.1.1
  have a22 := hA.1.2.2
  have cn : ∀ t : Nat, (t : Int) ≤ m 2 2 → q_cnt (fun j => m2 10 j = -1) t = q_cnt (fun j => m 10 j = -1) t := fun t ht => q_cnt_c t fun k hk => by rw [r10 k (by omega)]
  refine ⟨?_, fun w w0 w1 => ?_, fun w w0 w1 => ?_, fun t t0 t1 => ?_, fun t t0 t1 => ?_, ?_⟩
  · unfold rA
    rw [c20, c21, c22, c7, c8, c9, d82, d83, d84, d85, d86, d92]
    exact hA
  · rw [c20] at w1
    have a := hW w w0 w1
    rw [c4.i w0 w1, c5.i w0 w1]
    refine ⟨a.1, a.2.1, fun i i0 i1 => ?_⟩
    rw [c3.i (w := w * 5 + i) (by omega) (by omega)]
    exact a.2.2 i i0 i1
  · rw [c20] at w1
    have a := hRW w w0 w1
    have b := (hW w w0 w1).1
    rw [c8, c4.i w0 w1, c6.i w0 w1, r7.i w0 w1, r8.i w0 w1, d88.i w0 (by omega), d89.i w0 (by omega), d90.i w0 (by omega), d91.i w0 (by omega), q_n2 (by rw [a.1.2.2.2]; exact a.2.1.2.2)]
    refine ⟨a.1, a.2.1, fun i i0 i1 => ?_⟩
    rw [c3.i (w := w * 5 + i) (by omega) (by omega), d87.i (w := 5 * w + i) (by omega) (by omega)]
    exact a.2.2 i i0 i1
  · rw [c22] at t1
    have a := hT t t0 t1
    rw [c20, r9.i t0 t1, r10.i t0 t1, cn t.toNat (by omega)]
    exact a
  · rw [c22] at t1
    have a := hRT t t0 t1
    have b := (hT t t0 t1).2.1
    rw [c8, r9.i t0 t1, r10.i t0 t1, r11.i t0 t1, d93.i t0 (by omega), d94.i t0 (by omega), d95.i t0 (by omega), r7.i b.1 b.2]
    exact a
  · obtain ⟨s1, s2, s3, s4⟩ := hS
    refine ⟨fun j k jk kn => ?_, fun j k jk kn => ?_, ?_, ?_⟩
    · rw [c20] at kn
      rw [r7 j (by omega), r7 k (by omega)]; exact s1 j k jk kn
    · rw [c22] at kn
      rw [r11 j (by omega), r11 k (by omega)]; exact s2 j k jk kn
    · unfold fN at s3 ⊢
      rw [c22, c20, cn _ (by omega)]; exact s3
    · rw [c20, c21, q_sum_c (g := m 8) _ (fun k hk => r8 k (by omega))]; exact s4
theorem sT_rTp {m m2 : qM} (hc : sTc m m2) (hm : sTm m m2) (h : rTp m) : rTp m2 := by
  obtain ⟨⟨c4, c5, c6, -, -, -⟩, -, -, -, -, -, c21⟩ := hc
  obtain ⟨d78, ⟨d79, d80, d81, -, -, -, -, -⟩, -, -, -, -⟩ := hm
  obtain ⟨h1, h2, h3, h4, h5⟩ := h
  refine ⟨by rw [c4, d79]; exact h1, fun j hj => ?_, by rw [d80, d81, c5, c6]; exact h3, by rw [c5]; exact h4, by rw [c6]; exact h5⟩
  rw [c4] at hj
  have a := h2 j hj
  rw [d78 j (by omega), c21 j hj, n_by (by rw [a.1]; exact a.2)]
  exact a
theorem sT_rXn {m m2 : qM} (hc : sTc m m2) (hm : sTm m m2) (h : rXn m) : rXn m2 := by
  obtain ⟨⟨-, -, -, -, c8, -⟩, -, -, -, -, ⟨c15, -, c16, c17, c18, -, -⟩, -⟩ := hc
  obtain ⟨-, -, -, -, -, ⟨d101, d102, d103, d104, -, -⟩⟩ := hm
  obtain ⟨h1, h2, h3⟩ := h
  refine ⟨by rw [c15, d101]; exact h1, fun a a0 a1 => ?_, fun j k jk kn => ?_⟩
  · rw [c15] at a1
    have b := h2 a a0 a1
    rw [c8, c17.i a0 a1, c18.i a0 a1, d102.i a0 (by omega), d103.i a0 (by omega)]
    refine ⟨b.1, b.2.1, b.2.2.1, fun i i0 i1 => ?_⟩
    rw [c16.i (w := a * 10 + i) (by omega) (by omega), d104.i (w := 10 * a + i) (by omega) (by omega), n_by (b.2.2.2 i i0 i1).2.2]
    exact b.2.2.2 i i0 i1
  · rw [c15] at kn
    rw [c18 j (by omega), c18 k (by omega)]
    exact h3 j k jk kn
theorem sT_rXl {m m2 : qM} (hc : sTc m m2) (hm : sTm m m2) (h : rXl m) : rXl m2 := by
  obtain ⟨-, -, -, -, -, ⟨-, c4, -, -, -, c19, c20⟩, -⟩ := hc
  obtain ⟨-, -, -, -, -, ⟨-, -, -, -, d105, d106⟩⟩ := hm
  obtain ⟨h1, h2, h3⟩ := h
  have e6 : ∀ x : Int, 0 ≤ x → x < 64 → m2 106 x.toNat = m 106 x.toNat := fun x x0 x1 => d106.i x0 x1
  refine ⟨by rw [c4, d105]; exact h1, fun l l0 l1 => ?_, fun c s a1 a2 a3 a4 => ?_⟩
  · rw [c4] at l1
    rw [e6 (4 * l) (by omega) (by omega), e6 (4 * l + 1) (by omega) (by omega), e6 (4 * l + 2) (by omega) (by omega), e6 (4 * l + 3) (by omega) (by omega)]
    exact h2 l l0 l1
  · have k : q_fst (fun l => m2 106 (4 * (l : Int)).toNat = c ∧ m2 106 (4 * (l : Int) + 1).toNat = s) (m2 15 4).toNat = q_fst (fun l => m 106 (4 * (l : Int)).toNat = c ∧ m 106 (4 * (l : Int) + 1).toNat = s) (m 15 4).toNat := by
      rw [c4]
      exact q_fst_c _ fun l hl => by rw [e6 (4 * (l : Int)) (by omega) (by omega), e6 (4 * (l : Int) + 1) (by omega) (by omega)]
    have fr := q_fst_r (fun l => m 106 (4 * (l : Int)).toNat = c ∧ m 106 (4 * (l : Int) + 1).toNat = s) (m 15 4).toNat
    rw [k, c19.i (w := (c - 1) * 3 + s) (by omega) (by omega), c20.i (w := (c - 1) * 3 + s) (by omega) (by omega)]
    have a := h3 c s a1 a2 a3 a4
    refine ⟨a.1, fun z => ?_⟩
    have f0 : 0 ≤ q_fst (fun l => m 106 (4 * (l : Int)).toNat = c ∧ m 106 (4 * (l : Int) + 1).toNat = s) (m 15 4).toNat := by omega
    rw [e6 (4 * q_fst (fun l => m 106 (4 * (l : Int)).toNat = c ∧ m 106 (4 * (l : Int) + 1).toNat = s) (m 15 4).toNat + 2) (by omega) (by omega), e6 (4 * q_fst (fun l => m 106 (4 * (l : Int)).toNat = c ∧ m 106 (4 * (l : Int) + 1).toNat = s) (m 15 4).toNat + 3) (by omega) (by omega)]
    exact a.2 z
theorem nar3F : ∀ x : Fin 1000, q_nar 3 (x.val : Int) = (x.val : Int) := by decide +kernel
theorem nar3 {v : Int} (h : 0 ≤ v ∧ v ≤ 999) : q_nar 3 v = v := by
  have := nar3F ⟨v.toNat, by omega⟩
  rw [show (((⟨v.toNat, by omega⟩ : Fin 1000).val : Nat) : Int) = v by show ((v.toNat : Nat) : Int) = v; omega] at this
  exact this
theorem sT_rL {m m2 : qM} (hc : sTc m m2) (hm : sTm m m2) (h18 : 0 ≤ m 1 8 ∧ m 1 8 ≤ 999) (h : rL m) : rL m2 := by
  obtain ⟨⟨-, -, -, -, c8, -⟩, -, -, -, ⟨c0, c1, c13, c14⟩, -, -⟩ := hc
  obtain ⟨-, -, -, -, ⟨d96, d97, d98, d99, d100⟩, -⟩ := hm
  obtain ⟨⟨⟨x0, x1, x2⟩, y1, y2, y3⟩, hr⟩ := h
  have nd : ∀ D, nD m2 D = nD m D := fun D => by
    unfold nD
    rw [c1]
    exact q_pfx_c _ fun k hk => by rw [c13 k (by omega)]
  have nle : ∀ D, nD m D ≤ (m 12 1).toNat := fun D => q_pfx_le _ _ _
  refine ⟨⟨⟨by rw [c0]; exact x0, by rw [c1]; exact x1, by rw [d96, c0]; exact x2⟩, fun k k0 k1 => ?_, fun j k jk kn => ?_, fun a a0 a1 => ?_⟩, fun a a0 a1 => ?_⟩
  · rw [c1] at k1
    rw [c13.i k0 k1, c0, c8]
    exact y1 k k0 k1
  · rw [c1] at kn
    rw [c13 j (by omega), c13 k (by omega)]; exact y2 j k jk kn
  · rw [c0] at a0
    rw [c14.i (by omega) a1]; exact y3 a a0 a1
  · rw [c0] at a1
    obtain ⟨⟨⟨p1, p2⟩, p3, p4, p5⟩, q1⟩ := hr a a0 a1
    have e97 : m2 97 a.toNat = m 97 a.toNat := d97.i a0 (by omega)
    have e99 : m2 99 a.toNat = m 99 a.toNat := d99.i a0 (by omega)
    have e98 : ∀ j : Int, 0 ≤ j → j < m 97 a.toNat → ∀ i : Int, 0 ≤ i → i ≤ 4 → m2 98 (5 * (6 * a + j) + i).toNat = m 98 (5 * (6 * a + j) + i).toNat := fun j j0 j1 i i0 i1 => d98.i (by omega) (by omega)
    have e100 : ∀ t : Int, 0 ≤ t → t < m 99 a.toNat → ∀ i : Int, 0 ≤ i → i ≤ 4 → m2 100 (5000 * a + 5 * t + i).toNat = m 100 (5000 * a + 5 * t + i).toNat := fun t t0 t1 i i0 i1 => by
      have := d100 a a0 (by omega) (5 * t + i) (by omega) (by omega)
      have b := p5 t t0 t1
      have rg : 0 ≤ m 100 (5000 * a + 5 * t + i).toNat ∧ m 100 (5000 * a + 5 * t + i).toNat ≤ 999 := by
        by_cases e : i = 4
        · rw [e]; have := b.2.1; omega
        · have := b.1 i i0 (by omega); omega
      rw [show 5000 * a + 5 * t + i = 5000 * a + (5 * t + i) by omega] at rg ⊢
      rw [this, nar3 rg]
    refine ⟨⟨⟨by rw [e97, c14.i a0 (by omega)]; exact p1, by rw [c14.i a0 (by omega)]; exact p2⟩, fun j j0 j1 => ?_, by rw [e99]; exact p4, fun t t0 t1 => ?_⟩, fun D => ?_⟩
    · rw [e97] at j1
      have b := p3 j j0 j1
      rw [e98 j j0 j1 4 (by decide) (by decide), c8]
      exact ⟨fun i i0 i1 => by rw [e98 j j0 j1 i i0 (by omega)]; exact b.1 i i0 i1, b.2⟩
    · rw [e99] at t1
      have b := p5 t t0 t1
      rw [e100 t t0 t1 4 (by decide) (by decide), c8, e99]
      refine ⟨fun i i0 i1 => by rw [e100 t t0 t1 i i0 (by omega)]; exact b.1 i i0 i1, b.2.1, fun z => ?_⟩
      rw [e100 (t + 1) (by omega) z 4 (by decide) (by decide)]
      exact b.2.2 z
    · have q := q1 D
      have n1 := nle D
      have ip : ∀ k, k < nD m D → (isP m2 a k ↔ isP m a k) := fun k hk => by unfold isP; rw [c13 k (by omega)]
      have it : ∀ k, k < nD m D → (isT m2 a k ↔ isT m a k) := fun k hk => by unfold isT; rw [c13 k (by omega)]
      have s1 : ∀ i : Nat, sP m2 (nD m D) a i = sP m (nD m D) a i := fun i => q_sum_c _ fun k hk => by
        have z := ip k hk
        by_cases c : isP m a k
        · rw [if_pos c, if_pos (z.mpr c), c13 k (by omega)]
        · rw [if_neg c, if_neg (fun y => c (z.mp y))]
      have s2 : nP m2 (nD m D) a = nP m (nD m D) a := q_cnt_c _ ip
      have s3 : tL m2 (nD m D) a = tL m (nD m D) a := q_lst_c _ it
      have t1 : ∀ i : Nat, i < 4 → mS m2 a i D = mS m a i D := fun i hi => by
        unfold mS
        rw [e97]
        exact q_sum_c _ fun j hj => by rw [e98 (j : Int) (by omega) (by omega) 4 (by decide) (by decide), e98 (j : Int) (by omega) (by omega) (i : Int) (by omega) (by omega)]
      have t2 : mN m2 a D = mN m a D := by
        unfold mN
        rw [e97]
        exact q_cnt_c _ fun j hj => by rw [e98 (j : Int) (by omega) (by omega) 4 (by decide) (by decide)]
      have t3 : mT m2 a D = mT m a D := by
        unfold mT
        rw [e99]
        exact q_lst_c _ fun t ht => by rw [e100 (t : Int) (by omega) (by omega) 4 (by decide) (by decide)]
      rw [nd D, s2, s3, t2, t3]
      refine ⟨fun i hi => by rw [s1 i, t1 i hi]; exact q.1 i hi, q.2.1, q.2.2.1, fun z i hi => ?_⟩
      have lr := q_lst_r (isT m a) (nD m D)
      have mr := q_lst_r (fun t => m 100 (5000 * a + 5 * (t : Int) + 4).toNat ≤ D) (m 99 a.toNat).toNat
      have zt : 0 ≤ tL m (nD m D) a := by unfold tL at z ⊢; omega
      have zl : tL m (nD m D) a < (nD m D : Int) := lr.2
      have mt0 : ¬ mT m a D = -1 := fun y => z (q.2.2.1.mpr y)
      have mt1 : 0 ≤ mT m a D := by unfold mT at mt0 ⊢; omega
      have mt2 : mT m a D < m 99 a.toNat := by have := mr.2; unfold mT; omega
      rw [c13 (tL m (nD m D) a).toNat (by omega), e100 (mT m a D) mt1 mt2 (i : Int) (by omega) (by omega)]
      exact q.2.2.2 z i hi

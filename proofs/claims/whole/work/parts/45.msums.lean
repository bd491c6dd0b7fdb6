/-! printed by p45.py: sums of the model -/
theorem rtF : ∀ t : Fin 1331, q_div (t.val : Int) 121 = ((t.val / 121 : Nat) : Int) ∧ q_rem (q_div (t.val : Int) 11) 11 = ((t.val / 11 % 11 : Nat) : Int) ∧ q_rem (t.val : Int) 11 = ((t.val % 11 : Nat) : Int) := by decide +kernel
theorem rt_q {t : Int} (h : 0 ≤ t ∧ t < 1331) : q_div t 121 = ((t.toNat / 121 : Nat) : Int) ∧ q_rem (q_div t 11) 11 = ((t.toNat / 11 % 11 : Nat) : Int) ∧ q_rem t 11 = ((t.toNat % 11 : Nat) : Int) := by
  have := rtF ⟨t.toNat, by omega⟩
  simp only [] at this
  rw [q_tn h.1] at this
  exact this
/-- an account's plain counts among the first k rows -/
def mSk (m : qM) (a : Int) (i : Nat) (D : Int) (k : Nat) : Int := q_sum (fun j => if m 98 (5 * (6 * a + (j : Int)) + 4).toNat ≤ D then m 98 (5 * (6 * a + (j : Int)) + (i : Int)).toNat else 0) k
theorem mSk_s {m : qM} {a : Int} {i : Nat} {D k : Int} (h : 0 ≤ k) : mSk m a i D (k + 1).toNat = mSk m a i D k.toNat + if m 98 (5 * (6 * a + k) + 4).toNat ≤ D then m 98 (5 * (6 * a + k) + (i : Int)).toNat else 0 := by
  unfold mSk
  rw [q_sum_s h, q_tn h]
theorem mSk_r {m : qM} {a : Int} {i : Nat} {D : Int} (h : rLm m a) (hi : i < 4) : ∀ k : Nat, (k : Int) ≤ m 97 a.toNat → 0 ≤ mSk m a i D k ∧ mSk m a i D k ≤ 9 * k
  | 0, _ => by
    show 0 ≤ (0 : Int) ∧ (0 : Int) ≤ 9 * ((0 : Nat) : Int)
    omega
  | k + 1, hk => by
    have ih := mSk_r (D := D) h hi k (by omega)
    have r := (h.2.1 (k : Int) (by omega) (by omega)).1 (i : Int) (by omega) (by omega)
    have e : mSk m a i D (k + 1) = mSk m a i D k + (if m 98 (5 * (6 * a + (k : Int)) + 4).toNat ≤ D then m 98 (5 * (6 * a + (k : Int)) + (i : Int)).toNat else 0) := rfl
    rw [e]
    split <;> omega
/-- what the model has worked out of an account -/
def LAb (m : qM) (f g : Nat → Int) (b : Nat) : Prop := (g b = if cA m (nR m) b then 1 else 0) ∧ (cA m (nR m) b → ∀ i : Nat, i < 4 → f (4 * b + i) = - xE m (nR m) b i) ∧ ∀ i : Nat, i < 4 → -9 ≤ f (4 * b + i) ∧ f (4 * b + i) ≤ 54
def PA (m : qM) (f g : Nat → Int) (a : Int) : Prop := ∀ b : Nat, (b : Int) < a → LAb m f g b
theorem PA_c {m : qM} {f g f' g' : Nat → Int} {a : Int} (h : PA m f g a) (hf : ∀ j : Nat, (j : Int) < 4 * a → f' j = f j) (hg : ∀ j : Nat, (j : Int) < a → g' j = g j) : PA m f' g' a := by
  intro b hb
  obtain ⟨h1, h2, h3⟩ := h b hb
  refine ⟨by rw [hg b hb]; exact h1, fun hc i hi => by rw [hf _ (by omega)]; exact h2 hc i hi, fun i hi => by rw [hf _ (by omega)]; exact h3 i hi⟩
theorem PA_s {m : qM} {f g : Nat → Int} {a t c : Int} (hL : rL m) (hh : hHz m = gHz m) (ha : 0 ≤ a ∧ a < m 12 0) (h : PA m f g a) (ht : t = mT m a (hHz m)) (hc : c = (mN m a (hHz m) : Nat)) (hg : g a.toNat = if 0 < c ∧ 0 ≤ t then 1 else 0) (hf : ∀ j : Nat, j < 4 → f (4 * a + (j : Int)).toNat = mS m a j (hHz m) - if 0 ≤ t then m 100 (5000 * a + 5 * t + (j : Int)).toNat else 0) : PA m f g (a + 1) := by
  intro b hb
  by_cases e : (b : Int) = a
  · have hA := hL.2 a ha.1 ha.2
    obtain ⟨p1, p2, p3, p4⟩ := hA.2 (gHz m)
    have en : nD m (gHz m) = nR m := rfl
    rw [en] at p1 p2 p3 p4
    have ea : a.toNat = b := by omega
    have eb : (b : Int) = a := e
    rw [hh] at ht hc hf
    have tr : -1 ≤ mT m a (gHz m) ∧ mT m a (gHz m) < ((m 99 a.toNat).toNat : Int) := q_lst_r _ _
    have ca : cA m (nR m) b ↔ (0 < c ∧ 0 ≤ t) := by
      unfold cA
      rw [eb, p2]
      constructor
      · rintro ⟨z1, z2⟩
        have : ¬ mT m a (gHz m) = -1 := fun q => z2 (p3.mpr q)
        omega
      · rintro ⟨z1, z2⟩
        exact ⟨by omega, fun q => by have := p3.mp q; omega⟩
    refine ⟨?_, fun hcc i hi => ?_, fun i hi => ?_⟩
    · rw [← ea, hg]
      rw [ea]
      by_cases z : 0 < c ∧ 0 ≤ t
      · rw [if_pos z, if_pos (ca.mpr z)]
      · rw [if_neg z, if_neg (fun q => z (ca.mp q))]
    · have z := ca.mp hcc
      have hf1 := hf i hi
      rw [show (4 * a + (i : Int)).toNat = 4 * b + i by omega, if_pos z.2] at hf1
      rw [hf1, ← p1 i hi, ht, ← p4 (fun q => by have := p3.mp q; omega) i hi]
      unfold xE
      rw [eb]; omega
    · have hf1 := hf i hi
      rw [show (4 * a + (i : Int)).toNat = 4 * b + i by omega] at hf1
      have s1 := mSk_r (D := gHz m) (i := i) hA.1 hi (m 97 a.toNat).toNat (by have := hA.1.1; omega)
      have s2 : mS m a i (gHz m) = mSk m a i (gHz m) (m 97 a.toNat).toNat := rfl
      have s3 := hA.1.1
      rw [hf1, s2]
      split
      · rename_i z
        have q := (hA.1.2.2.2 t z (by omega)).1 (i : Int) (by omega) (by omega)
        omega
      · omega
  · exact h b (by omega)
theorem cA_no {m : qM} {b n : Nat} (h : rLr m) (hb : m 12 0 ≤ (b : Int)) (hn : n ≤ (m 12 1).toNat) : ¬ cA m n b := by
  rintro ⟨h1, -⟩
  refine h1 ((q_cnt_no _).mpr fun j hj q => ?_)
  have := (h.2.1 (j : Int) (by omega) (by omega)).2.1
  rw [show ((j : Int)).toNat = j by omega] at this
  have := q.1
  omega
theorem q_cnt_ext {p : Nat → Prop} [DecidablePred p] {a b : Nat} (h : a ≤ b) (hz : ∀ k, a ≤ k → k < b → ¬ p k) : q_cnt p b = q_cnt p a := by
  induction b with
  | zero => have : a = 0 := by omega
            subst this; rfl
  | succ b ih =>
    by_cases e : a = b + 1
    · subst e; rfl
    · have e2 : q_cnt p (b + 1) = q_cnt p b + (if p b then 1 else 0) := rfl
      rw [e2, if_neg (hz b (by omega) (by omega)), ih (by omega) (fun k h1 h2 => hz k h1 (by omega)), Nat.add_zero]
abbrev dBut (m : qM) (but : Int) (t b : Nat) : Prop := ¬ (b : Int) = but ∧ dis m (nR m) t b
abbrev oBut (m : qM) (but : Int) (t : Nat) : Prop := q_cnt (dBut m but t) (m 12 0).toNat = 0
theorem oBut_1 {m : qM} {t : Nat} (h : rL m) : oBut m (-1) t ↔ sOK m (nR m) t := by
  have h10 := h.1.1.1
  have e : q_cnt (dis m (nR m) t) 10 = q_cnt (dis m (nR m) t) (m 12 0).toNat := q_cnt_ext (by omega) (fun k h1 h2 q => cA_no h.1 (by omega) (nD_le m _) q.1)
  have e2 : q_cnt (dBut m (-1) t) (m 12 0).toNat = q_cnt (dis m (nR m) t) (m 12 0).toNat := q_cnt_c _ fun k _ => ⟨fun q => q.2, fun q => ⟨by omega, q⟩⟩
  unfold oBut sOK
  rw [e, e2]
theorem odd_iff {m : qM} {a : Nat} (h : rL m) (ha : (a : Int) < m 12 0) (hz : q_cnt (sOK m (nR m)) 1331 = 0) : (cA m (nR m) a ∧ 0 < q_cnt (oBut m (a : Int)) 1331) ↔ spo m (nR m) a 1331 := by
  have h10 := h.1.1.1
  have ns := (q_cnt_no (p := sOK m (nR m)) 1331).mp hz
  have key : ∀ t : Nat, t < 1331 → ((cA m (nR m) a ∧ oBut m (a : Int) t) ↔ (q_cnt (dis m (nR m) t) 10 = 1 ∧ dis m (nR m) t a)) := fun t ht => by
    have n0 : ¬ q_cnt (dis m (nR m) t) 10 = 0 := ns t ht
    constructor
    · rintro ⟨c1, c2⟩
      have c3 := (q_cnt_no (p := dBut m (a : Int) t) _).mp c2
      have u : ∀ b : Nat, b < 10 → dis m (nR m) t b → b = a := fun b hb hd => by
        by_cases e : b = a
        · exact e
        · exfalso
          by_cases q : (b : Int) < m 12 0
          · exact c3 b (by omega) ⟨by omega, hd⟩
          · exact cA_no h.1 (by omega) (nD_le m _) hd.1
      have da : dis m (nR m) t a := by
        by_cases q : dis m (nR m) t a
        · exact q
        · exfalso
          refine n0 ((q_cnt_no _).mpr fun j hj hd => ?_)
          have := u j hj hd
          subst this
          exact q hd
      have := q_cnt_one (p := dis m (nR m) t) (c := a) 10 (by omega) u
      rw [if_pos da] at this
      exact ⟨this, da⟩
    · rintro ⟨c1, c2⟩
      refine ⟨c2.1, (q_cnt_no _).mpr fun b hb hd => ?_⟩
      obtain ⟨c, d1, d2, d3, d4⟩ := q_cnt_u (p := dis m (nR m) t) 10 c1
      have k1 := d3 a (by omega) c2
      have k2 := d3 b (by omega) hd.2
      exact hd.1 (by omega)
  have k2 : q_cnt (fun t => q_cnt (dis m (nR m) t) 10 = 1 ∧ dis m (nR m) t a) 1331 = q_cnt (fun t => cA m (nR m) a ∧ oBut m (a : Int) t) 1331 := q_cnt_c _ fun t ht => (key t ht).symm
  show _ ↔ ¬ q_cnt (fun t => q_cnt (dis m (nR m) t) 10 = 1 ∧ dis m (nR m) t a) 1331 = 0
  rw [k2]
  by_cases c : cA m (nR m) a
  · have : q_cnt (fun t => cA m (nR m) a ∧ oBut m (a : Int) t) 1331 = q_cnt (oBut m (a : Int)) 1331 := q_cnt_c _ fun t _ => ⟨fun q => q.2, fun q => ⟨c, q⟩⟩
    rw [this]
    exact ⟨fun q => by have := q.2; omega, fun q => ⟨c, by omega⟩⟩
  · have : q_cnt (fun t => cA m (nR m) a ∧ oBut m (a : Int) t) 1331 = 0 := (q_cnt_no _).mpr fun j _ q => c q.1
    rw [this]
    exact ⟨fun q => absurd q.1 c, fun q => absurd rfl q⟩
/-- the sure ratio, as the model finds it -/
def sur (m : qM) (nn w : Nat) : Nat → Int
  | 0 => 0
  | t + 1 => if sOK m nn t then (if sur m nn w t = 0 ∨ sur m nn w t = rt t w then rt t w else -1) else sur m nn w t
theorem sur_e {m : qM} {nn w : Nat} : ∀ t, t ≤ 1331 → sur m nn w t = (if q_cnt (sOK m nn) t = 0 then 0 else if rmin m nn w t = rmax m nn w t then rmin m nn w t else -1) ∧ (q_cnt (sOK m nn) t = 0 → rmin m nn w t = 12 ∧ rmax m nn w t = 2) ∧ (¬ q_cnt (sOK m nn) t = 0 → rmin m nn w t ≤ rmax m nn w t)
  | 0, _ => ⟨rfl, fun _ => ⟨rfl, rfl⟩, fun h => absurd rfl h⟩
  | t + 1, h => by
    obtain ⟨i1, i2, i3⟩ := sur_e (m := m) (nn := nn) (w := w) t (by omega)
    have r := rt_r (t := t) (w := w) (by omega)
    have mm := rmm_r (m := m) (n := nn) (w := w) t (by omega)
    have e : q_cnt (sOK m nn) (t + 1) = q_cnt (sOK m nn) t + (if sOK m nn t then 1 else 0) := rfl
    unfold sur rmin rmax
    rw [e]
    by_cases z : sOK m nn t
    · rw [if_pos z, if_pos z, if_pos z, if_pos z, if_neg (show ¬ q_cnt (sOK m nn) t + 1 = 0 by omega)]
      refine ⟨?_, fun q => by omega, fun _ => by omega⟩
      by_cases c0 : q_cnt (sOK m nn) t = 0
      · rw [if_pos c0] at i1
        have j := i2 c0
        rw [if_pos (Or.inl i1), j.1, j.2, if_pos (by omega)]; omega
      · rw [if_neg c0] at i1
        have j := i3 c0
        by_cases c1 : rmin m nn w t = rmax m nn w t
        · rw [if_pos c1] at i1
          rw [i1]
          by_cases c2 : rmin m nn w t = rt t w
          · rw [if_pos (Or.inr c2), if_pos (by omega)]; omega
          · rw [if_neg (by omega), if_neg (by omega)]
        · rw [if_neg c1] at i1
          rw [i1, if_neg (by omega), if_neg (by omega)]
    · rw [if_neg z, if_neg z, if_neg z, if_neg z, Nat.add_zero]
      exact ⟨i1, i2, i3⟩

set_option maxRecDepth 100000 in
theorem m_ratioOf (u : qU) (m y : qM) (t w : Int) (ht : 0 ≤ t ∧ t < 1331) (hw : 0 ≤ w ∧ w ≤ 2) : qCt YX12_ratioOf 1 0 0 [qI t, qI w] (qLy u, m, y) (fun r h => r = some (qI (rt t.toNat w.toNat)) ∧ h = (qLy u, m, y)) := by
  refine qCt.intro okX12_ratioOf (Nat.le_of_ble_eq_true rfl) (fun κ hκ => ?_)
  have rq := rt_q ht
  have w3 : w = 0 ∨ w = 1 ∨ w = 2 := by omega
  show qJ YX12_ratioOf κ _ (qLy u, m, y) 0 0 0 [some (qI t), some (qI w)] []
  refine qJ.run hκ 2 (pc' := 2) (ls' := [some (qI t), some (qI w)]) (st' := [qI w, qI 2]) rfl ?_
  refine qJ.if_ne hκ (tgt := 12) rfl rfl (by omega) (fun c2 => ?_) (fun c2 => ?_)
  · show qJ YX12_ratioOf κ _ (qLy u, m, y) 0 0 12 [some (qI t), some (qI w)] [qI 2]
    refine qJ.run hκ 2 (pc' := 14) (ls' := [some (qI t), some (qI w)]) (st' := [qI 1, qI w, qI 2]) rfl ?_
    refine qJ.icmp_ne hκ (tgt := 27) rfl rfl (by omega) (by omega) (fun c14 => ?_) (fun c14 => ?_)
    · show qJ YX12_ratioOf κ _ (qLy u, m, y) 0 0 27 [some (qI t), some (qI w)] [qI 2]
      refine qJ.run hκ 4 (pc' := 32) (ls' := [some (qI t), some (qI w)]) (st' := [qI (2 + (q_rem t 11))]) rfl ?_
      exact qJ.iret hκ rfl rfl (by decide) (by decide) (by
      refine ⟨?_, rfl⟩
      rcases w3 with rfl | rfl | rfl
      · first | (exfalso; omega) | (rw [rq.1]; rfl)
      · first | (exfalso; omega) | (rw [rq.2.1]; rfl)
      · first | (exfalso; omega) | (rw [rq.2.2]; rfl))
    · show qJ YX12_ratioOf κ _ (qLy u, m, y) 0 0 17 [some (qI t), some (qI w)] [qI 2]
      refine qJ.run hκ 7 (pc' := 32) (ls' := [some (qI t), some (qI w)]) (st' := [qI (2 + (q_rem (q_div t 11) 11))]) rfl ?_
      exact qJ.iret hκ rfl rfl (by decide) (by decide) (by
      refine ⟨?_, rfl⟩
      rcases w3 with rfl | rfl | rfl
      · first | (exfalso; omega) | (rw [rq.1]; rfl)
      · first | (exfalso; omega) | (rw [rq.2.1]; rfl)
      · first | (exfalso; omega) | (rw [rq.2.2]; rfl))
  · show qJ YX12_ratioOf κ _ (qLy u, m, y) 0 0 5 [some (qI t), some (qI w)] [qI 2]
    refine qJ.run hκ 5 (pc' := 32) (ls' := [some (qI t), some (qI w)]) (st' := [qI (2 + (q_div t 121))]) rfl ?_
    exact qJ.iret hκ rfl rfl (by decide) (by decide) (by
      refine ⟨?_, rfl⟩
      rcases w3 with rfl | rfl | rfl
      · first | (exfalso; omega) | (rw [rq.1]; rfl)
      · first | (exfalso; omega) | (rw [rq.2.1]; rfl)
      · first | (exfalso; omega) | (rw [rq.2.2]; rfl))

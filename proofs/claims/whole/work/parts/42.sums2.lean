/-! printed by p42.py: Sums, the sets -/
theorem fst_at {J : Nat → Prop} [DecidablePred J] : ∀ n, ¬ q_fst J n = -1 → 0 ≤ q_fst J n ∧ (q_fst J n).toNat < n ∧ J (q_fst J n).toNat ∧ q_cnt J (q_fst J n).toNat = 0
  | 0, h => absurd rfl h
  | n + 1, h => by
    have e : q_fst J (n + 1) = if q_fst J n = -1 ∧ J n then (n : Int) else q_fst J n := rfl
    by_cases z : q_fst J n = -1 ∧ J n
    · rw [if_pos z] at e
      rw [e, show ((n : Int)).toNat = n by omega]
      exact ⟨by omega, by omega, z.2, (q_fst_0 J n).mp z.1⟩
    · rw [if_neg z] at e
      rw [e] at h ⊢
      obtain ⟨a, b, c, d⟩ := fst_at n h
      exact ⟨a, by omega, c, d⟩
theorem cnt_from {J : Nat → Prop} [DecidablePred J] {a : Int} : ∀ n : Nat, a ≤ (n : Int) → 0 ≤ a → q_cnt (fun i => a ≤ (i : Int) ∧ J i) n + q_cnt J a.toNat = q_cnt J n
  | 0, h, h0 => by
    have : a = 0 := by omega
    subst this; rfl
  | n + 1, h, h0 => by
    have e : q_cnt J (n + 1) = q_cnt J n + (if J n then 1 else 0) := rfl
    have e2 : q_cnt (fun i => a ≤ (i : Int) ∧ J i) (n + 1) = q_cnt (fun i => a ≤ (i : Int) ∧ J i) n + (if (a ≤ (n : Int) ∧ J n) then 1 else 0) := rfl
    by_cases z : a ≤ (n : Int)
    · have ih := cnt_from (J := J) (a := a) n z h0
      rw [e, e2]
      by_cases q : J n
      · rw [if_pos q, if_pos ⟨z, q⟩]; omega
      · rw [if_neg q, if_neg (fun w => q w.2)]; omega
    · have ha : a.toNat = n + 1 := by omega
      rw [ha]
      have : q_cnt (fun i => a ≤ (i : Int) ∧ J i) (n + 1) = 0 := (q_cnt_no _).mpr fun j hj w => by have := w.1; omega
      omega
theorem cnt_map {A P : Nat → Prop} [DecidablePred A] [DecidablePred P] {c : Nat → Nat} : ∀ a, (∀ b, b < a → A b → c (q_cnt A b) = b) → q_cnt (fun i => P (c i)) (q_cnt A a) = q_cnt (fun b => A b ∧ P b) a
  | 0, _ => rfl
  | a + 1, h => by
    have ih := cnt_map (P := P) a (fun b hb => h b (by omega))
    have e : q_cnt A (a + 1) = q_cnt A a + (if A a then 1 else 0) := rfl
    have e2 : q_cnt (fun b => A b ∧ P b) (a + 1) = q_cnt (fun b => A b ∧ P b) a + (if (A a ∧ P a) then 1 else 0) := rfl
    rw [e, e2]
    by_cases z : A a
    · rw [if_pos z]
      show q_cnt (fun i => P (c i)) (q_cnt A a) + (if P (c (q_cnt A a)) then 1 else 0) = _
      rw [ih, h a (by omega) z]
      by_cases q : P a
      · rw [if_pos q, if_pos ⟨z, q⟩]
      · rw [if_neg q, if_neg (fun w => q w.2)]
    · rw [if_neg z, if_neg (fun w => z w.1)]
      exact ih
/-- the accounts that count, one behind the other -/
def CI (m M : qM) (n a : Nat) : Prop := M 39 6 = (q_cnt (cA m n) a : Nat) ∧ (∀ b : Nat, b < a → cA m n b → M 44 (q_cnt (cA m n) b) = (b : Int) ∧ ∀ i : Nat, i < 4 → M 40 (4 * b + i) = xE m n b i) ∧ ∀ b : Nat, a ≤ b → b < 10 → (M 42 b = if tL m n b = -1 then 0 else 1) ∧ (M 43 b = if nP m n b = 0 then 0 else 1) ∧ ∀ i : Nat, i < 4 → M 40 (4 * b + i) = - sP m n b i ∧ (¬ tL m n b = -1 → M 41 (4 * b + i) = lC (m 13 (tL m n b).toNat) i)
theorem CI_0 {m M : qM} {n : Nat} (h : SI m M n) (h6 : M 39 6 = 0) : CI m M n 0 := ⟨h6, fun b hb => by omega, fun b _ hb => h b hb⟩
theorem CI_no {m M : qM} {n a : Nat} (h : CI m M n a) (hz : ¬ cA m n a) : CI m M n (a + 1) := by
  obtain ⟨h1, h2, h3⟩ := h
  refine ⟨?_, fun b hb hc => ?_, fun b hb => h3 b (by omega)⟩
  · show _ = ((q_cnt (cA m n) a + (if cA m n a then 1 else 0) : Nat) : Int)
    rw [if_neg hz]; exact h1
  · by_cases e : b = a
    · subst e; exact absurd hc hz
    · exact h2 b (by omega) hc
theorem CI_yes {m M M' : qM} {n a : Nat} (h : CI m M n a) (hz : cA m n a) (ha : a < 10) (h6 : M' 39 6 = M 39 6 + 1) (h44 : M' 44 = q_fu (M 44) (M 39 6).toNat (a : Int)) (h40 : ∀ j : Nat, M' 40 j = if 4 * a ≤ j ∧ j < 4 * a + 4 then M 40 j + M 41 j else M 40 j) (h41 : M' 41 = M 41) (h42 : M' 42 = M 42) (h43 : M' 43 = M 43) : CI m M' n (a + 1) := by
  obtain ⟨h1, h2, h3⟩ := h
  refine ⟨?_, fun b hb hc => ?_, fun b hb hb2 => ?_⟩
  · show _ = ((q_cnt (cA m n) a + (if cA m n a then 1 else 0) : Nat) : Int)
    rw [if_pos hz, h6, h1]; omega
  · have hs : (M 39 6).toNat = q_cnt (cA m n) a := by rw [h1]; omega
    by_cases e : b = a
    · subst e
      refine ⟨by rw [h44, hs, q_fu_eq], fun i hi => ?_⟩
      obtain ⟨-, -, q⟩ := h3 b (Nat.le_refl _) ha
      rw [h40, if_pos (by omega), (q i hi).1, (q i hi).2 hz.2]
      unfold xE; omega
    · have hb3 : b < a := by omega
      obtain ⟨q1, q2⟩ := h2 b hb3 hc
      have lt : q_cnt (cA m n) b < q_cnt (cA m n) a := by
        have := q_cnt_mono (cA m n) (a := b + 1) a (by omega)
        have e2 : q_cnt (cA m n) (b + 1) = q_cnt (cA m n) b + (if cA m n b then 1 else 0) := rfl
        rw [if_pos hc] at e2
        omega
      refine ⟨by rw [h44, hs, q_fu_ne (by omega)]; exact q1, fun i hi => ?_⟩
      rw [h40, if_neg (by omega)]
      exact q2 i hi
  · obtain ⟨p1, p2, p3⟩ := h3 b (by omega) hb2
    refine ⟨by rw [h42]; exact p1, by rw [h43]; exact p2, fun i hi => ?_⟩
    rw [h40, if_neg (by omega), h41]
    exact p3 i hi
/-- numbers of the sums are small -/
theorem sP_r {m : qM} {n : Nat} {a : Int} {i : Nat} (h : rLr m) (hn : (n : Int) ≤ m 12 1) (hi : i < 4) : ∀ k : Nat, k ≤ n → 0 ≤ sP m k a i ∧ sP m k a i ≤ 9 * (nP m k a : Int)
  | 0, _ => by
    show 0 ≤ (0 : Int) ∧ (0 : Int) ≤ 9 * ((0 : Nat) : Int)
    omega
  | k + 1, hk => by
    have ih := sP_r (a := a) h hn hi k (by omega)
    have r := (h.2.1 (k : Int) (by omega) (by omega)).2.2.1 i hi
    rw [show ((k : Int)).toNat = k by omega] at r
    have r0 := lC_r (m 13 k) i
    have e1 : sP m (k + 1) a i = sP m k a i + (if isP m a k then lC (m 13 k) i else 0) := rfl
    have e2 : nP m (k + 1) a = nP m k a + (if isP m a k then 1 else 0) := rfl
    rw [e1, e2]
    by_cases z : isP m a k
    · rw [if_pos z, if_pos z]; omega
    · rw [if_neg z, if_neg z]; omega
theorem nP_mono {m : qM} {n k : Nat} {a : Int} (h : n ≤ k) : nP m n a ≤ nP m k a := q_cnt_mono _ _ h
def xR (m : qM) (n : Nat) : Prop := ∀ a i : Nat, a < 10 → i < 4 → cA m n a → -54 ≤ xE m n a i ∧ xE m n a i ≤ 9
theorem q_mulb {x y B R : Int} (h1 : -B ≤ x ∧ x ≤ B) (h2 : 0 ≤ y ∧ y ≤ R) (hB : 0 ≤ B) : -(B * R) ≤ x * y ∧ x * y ≤ B * R := by
  have a1 : x * y ≤ B * y := Int.mul_le_mul_of_nonneg_right h1.2 h2.1
  have a2 : -B * y ≤ x * y := Int.mul_le_mul_of_nonneg_right h1.1 h2.1
  have a3 : B * y ≤ B * R := Int.mul_le_mul_of_nonneg_left h2.2 hB
  rw [Int.neg_mul] at a2
  omega
theorem rt_m {r s : Int} {A B : Int} (h1 : 0 ≤ r ∧ r ≤ A) (h2 : 0 ≤ s ∧ s ≤ B) : 0 ≤ r * s ∧ r * s ≤ A * B := by
  refine ⟨Int.mul_nonneg h1.1 h2.1, ?_⟩
  have a1 : r * s ≤ A * s := Int.mul_le_mul_of_nonneg_right h1.2 h2.1
  have a3 : A * s ≤ A * B := Int.mul_le_mul_of_nonneg_left h2.2 (by omega)
  omega
theorem wo_b {x0 x1 x2 x3 r s t : Int} (h0 : -63 ≤ x0 ∧ x0 ≤ 63) (h1 : -63 ≤ x1 ∧ x1 ≤ 63) (h2 : -63 ≤ x2 ∧ x2 ≤ 63) (h3 : -63 ≤ x3 ∧ x3 ≤ 63) (hr : 2 ≤ r ∧ r ≤ 12) (hs : 2 ≤ s ∧ s ≤ 12) (ht : 2 ≤ t ∧ t ≤ 12) : qr (x0 + x1 * r + x2 * (r * s) + x3 * (r * s * t)) := by
  have a := rt_m (A := 12) (B := 12) (r := r) (s := s) (by omega) (by omega)
  have b := rt_m (A := 144) (B := 12) (r := r * s) (s := t) (by omega) (by omega)
  have c1 := q_mulb (B := 63) (R := 12) h1 (y := r) (by omega) (by decide)
  have c2 := q_mulb (B := 63) (R := 144) h2 (y := r * s) (by omega) (by decide)
  have c3 := q_mulb (B := 63) (R := 1728) h3 (y := r * s * t) (by omega) (by decide)
  constructor <;> omega
def setR (M : qM) (t : Nat) : Prop := M 48 0 = rt t 0 ∧ M 48 1 = rt t 1 ∧ M 48 2 = rt t 2
abbrev dJ (m M : qM) (n t i : Nat) : Prop := ¬ wo m n (M 44 i).toNat (rt t 0) (rt t 1) (rt t 2) = 0
theorem CI_at {m M : qM} {n i : Nat} (h : CI m M n 10) (hi : i < q_cnt (cA m n) 10) : ∃ b : Nat, b < 10 ∧ cA m n b ∧ q_cnt (cA m n) b = i ∧ M 44 i = (b : Int) := by
  obtain ⟨b, b1, b2, b3⟩ := q_cnt_find 10 i hi
  exact ⟨b, b1, b2, b3, by rw [← b3]; exact (h.2.1 b b1 b2).1⟩
theorem dJ_cnt {m M : qM} {n t : Nat} (h : CI m M n 10) : q_cnt (dJ m M n t) (q_cnt (cA m n) 10) = q_cnt (dis m n t) 10 :=
  cnt_map (P := fun b => ¬ wo m n b (rt t 0) (rt t 1) (rt t 2) = 0) (c := fun i => (M 44 i).toNat) 10 (fun b hb hc => by show (M 44 (q_cnt (cA m n) b)).toNat = b; rw [(h.2.1 b hb hc).1]; omega)
def rmin (m : qM) (n w : Nat) : Nat → Int
  | 0 => 12
  | t + 1 => if sOK m n t then min (rmin m n w t) (rt t w) else rmin m n w t
def rmax (m : qM) (n w : Nat) : Nat → Int
  | 0 => 2
  | t + 1 => if sOK m n t then max (rmax m n w t) (rt t w) else rmax m n w t
theorem rmm_r {m : qM} {n w : Nat} : ∀ t, t ≤ 1331 → (2 ≤ rmin m n w t ∧ rmin m n w t ≤ 12) ∧ 2 ≤ rmax m n w t ∧ rmax m n w t ≤ 12
  | 0, _ => by
    show (2 ≤ (12 : Int) ∧ (12 : Int) ≤ 12) ∧ 2 ≤ (2 : Int) ∧ (2 : Int) ≤ 12
    omega
  | t + 1, h => by
    have ih := rmm_r (m := m) (n := n) (w := w) t (by omega)
    have r := rt_r (t := t) (w := w) (by omega)
    unfold rmin rmax
    by_cases z : sOK m n t
    · rw [if_pos z, if_pos z]; omega
    · rw [if_neg z, if_neg z]; exact ih
abbrev spo (m : qM) (n a t : Nat) : Prop := ¬ q_cnt (fun s => q_cnt (dis m n s) 10 = 1 ∧ dis m n s a) t = 0
def SV (m M : qM) (n t : Nat) : Prop := M 39 0 = (q_cnt (sOK m n) t : Nat) ∧ (∀ w : Nat, w < 3 → M 46 w = rmin m n w t ∧ M 47 w = rmax m n w t) ∧ ∀ a : Nat, a < 10 → M 45 a = if spo m n a t then 1 else 0
theorem SV_0 {m M : qM} {n : Nat} (h : SZ M) : SV m M n 0 := ⟨h.1.1, fun w hw => h.2.2 w hw, fun a ha => by rw [h.2.1 a ha, if_neg (fun z => z rfl)]⟩
theorem spo_s {m : qM} {n a t : Nat} : spo m n a (t + 1) ↔ spo m n a t ∨ (q_cnt (dis m n t) 10 = 1 ∧ dis m n t a) := by
  show ¬ (q_cnt _ t + (if (q_cnt (dis m n t) 10 = 1 ∧ dis m n t a) then 1 else 0)) = 0 ↔ _
  by_cases z : q_cnt (dis m n t) 10 = 1 ∧ dis m n t a
  · rw [if_pos z]; exact ⟨fun _ => Or.inr z, fun _ => by omega⟩
  · rw [if_neg z]; exact ⟨fun q => Or.inl q, fun q => q.elim id (fun w => absurd w z)⟩
theorem SV_keep {m M M' : qM} {n t : Nat} (h : SV m M n t) (hz : sOK m n t) (h0 : M' 39 0 = M 39 0 + 1) (h4 : ∀ w : Nat, w < 3 → M' 46 w = min (M 46 w) (rt t w) ∧ M' 47 w = max (M 47 w) (rt t w)) (h5 : M' 45 = M 45) : SV m M' n (t + 1) := by
  obtain ⟨p1, p2, p3⟩ := h
  refine ⟨?_, fun w hw => ?_, fun a ha => ?_⟩
  · show _ = ((q_cnt (sOK m n) t + (if sOK m n t then 1 else 0) : Nat) : Int)
    rw [if_pos hz, h0, p1]; omega
  · unfold rmin rmax
    rw [if_pos hz, if_pos hz, (h4 w hw).1, (h4 w hw).2, (p2 w hw).1, (p2 w hw).2]; exact ⟨rfl, rfl⟩
  · rw [h5, p3 a ha]
    have hz2 : q_cnt (dis m n t) 10 = 0 := hz
    by_cases q : spo m n a t
    · rw [if_pos q, if_pos (spo_s.mpr (Or.inl q))]
    · rw [if_neg q, if_neg (fun w => (spo_s.mp w).elim q (fun v => by omega))]
theorem SV_same {m M M' : qM} {n t : Nat} (h : SV m M n t) (hz : ¬ sOK m n t) (hb : ¬ q_cnt (dis m n t) 10 = 1) (h0 : M' 39 0 = M 39 0) (h4 : M' 46 = M 46 ∧ M' 47 = M 47) (h5 : M' 45 = M 45) : SV m M' n (t + 1) := by
  obtain ⟨p1, p2, p3⟩ := h
  refine ⟨?_, fun w hw => ?_, fun a ha => ?_⟩
  · show _ = ((q_cnt (sOK m n) t + (if sOK m n t then 1 else 0) : Nat) : Int)
    rw [if_neg hz, h0, p1]; rfl
  · unfold rmin rmax
    rw [if_neg hz, if_neg hz, h4.1, h4.2]; exact p2 w hw
  · rw [h5, p3 a ha]
    by_cases q : spo m n a t
    · rw [if_pos q, if_pos (spo_s.mpr (Or.inl q))]
    · rw [if_neg q, if_neg (fun w => (spo_s.mp w).elim q (fun v => hb v.1))]
theorem SV_one {m M M' : qM} {n t : Nat} {b0 : Nat} (h : SV m M n t) (hb : q_cnt (dis m n t) 10 = 1) (hd : ∀ a : Nat, a < 10 → (dis m n t a ↔ a = b0)) (h0 : M' 39 0 = M 39 0) (h4 : M' 46 = M 46 ∧ M' 47 = M 47) (h5 : M' 45 = q_fu (M 45) b0 1) : SV m M' n (t + 1) := by
  obtain ⟨p1, p2, p3⟩ := h
  have hz : ¬ sOK m n t := fun z => by have z2 : q_cnt (dis m n t) 10 = 0 := z; omega
  refine ⟨?_, fun w hw => ?_, fun a ha => ?_⟩
  · show _ = ((q_cnt (sOK m n) t + (if sOK m n t then 1 else 0) : Nat) : Int)
    rw [if_neg hz, h0, p1]; rfl
  · unfold rmin rmax
    rw [if_neg hz, if_neg hz, h4.1, h4.2]; exact p2 w hw
  · rw [h5]
    by_cases e : a = b0
    · subst e
      rw [q_fu_eq, if_pos (spo_s.mpr (Or.inr ⟨hb, (hd a ha).mpr rfl⟩))]
    · rw [q_fu_ne e, p3 a ha]
      by_cases q : spo m n a t
      · rw [if_pos q, if_pos (spo_s.mpr (Or.inl q))]
      · rw [if_neg q, if_neg (fun w => (spo_s.mp w).elim q (fun v => e ((hd a ha).mp v.2)))]
/-- one disagrees: the first one found does -/
theorem dJ_one {m M : qM} {n t : Nat} {F : Int} (h : CI m M n 10) (hF : F = q_fst (dJ m M n t) (q_cnt (cA m n) 10)) (hn : ¬ F = -1) (h1 : q_cnt (dis m n t) 10 = 1) : ∃ b0 : Nat, b0 < 10 ∧ M 44 F.toNat = (b0 : Int) ∧ ∀ a : Nat, a < 10 → (dis m n t a ↔ a = b0) := by
  obtain ⟨f1, f2, f3, f4⟩ := fst_at (J := dJ m M n t) (q_cnt (cA m n) 10) (by rw [← hF]; exact hn)
  rw [← hF] at f1 f2 f3 f4
  obtain ⟨b0, b1, b2, b3, b4⟩ := CI_at h f2
  refine ⟨b0, b1, b4, fun a ha => ⟨fun hd => ?_, fun e => ?_⟩⟩
  · have hc := (h.2.1 a ha hd.1).1
    have hi : q_cnt (cA m n) a < q_cnt (cA m n) 10 := by
      have := q_cnt_mono (cA m n) (a := a + 1) 10 (by omega)
      have e2 : q_cnt (cA m n) (a + 1) = q_cnt (cA m n) a + (if cA m n a then 1 else 0) := rfl
      rw [if_pos hd.1] at e2
      omega
    have hj : dJ m M n t (q_cnt (cA m n) a) := by
      unfold dJ
      rw [hc, show ((a : Int)).toNat = a by omega]
      exact hd.2
    obtain ⟨c, c1, c2, c3, c4⟩ := q_cnt_u (p := dJ m M n t) _ (by rw [dJ_cnt h]; exact h1)
    have k1 := c3 _ hi hj
    have k2 := c3 _ f2 f3
    rw [show q_cnt (cA m n) a = F.toNat by omega] at hc
    rw [b4] at hc
    omega
  · subst e
    refine ⟨b2, ?_⟩
    have := f3
    unfold dJ at this
    rw [b4, show ((a : Int)).toNat = a by omega] at this
    exact this

set_option maxRecDepth 100000 in
theorem c_sAdd (u : qU) (M y : qM) (a : Nat) (ha : a < 10) : qCt YX8_addTotal 1 0 0 [qR 39, qI (a : Int)] (qLy u, M, y) (fun r h => r = none ∧ h = (qLy u, q_row M 40 (fun j => if 4 * a ≤ j ∧ j < 4 * a + 4 then M 40 j + M 41 j else M 40 j), y)) := by
  refine qCt.intro okX8_addTotal (Nat.le_of_ble_eq_true rfl) (fun κ hκ => ?_)
  have L4 : ∀ (n : Nat) (e : Nat → Int) (i : Int), ((a : Int) * 4 ≤ i) → (i ≤ (a : Int) * 4 + 4) → (∀ j : Nat, e j = if 4 * a ≤ j ∧ (j : Int) < i then M 40 j + M 41 j else M 40 j) → (((a : Int) * 4 + 4 - i).toNat) < n → qJ YX8_addTotal κ (qFin (fun r h => r = none ∧ h = (qLy u, q_row M 40 (fun j => if 4 * a ≤ j ∧ j < 4 * a + 4 then M 40 j + M 41 j else M 40 j), y)) 0 0 κ) (qLy u, (q_row M 40 e), y) 0 0 4 [some (qR 39), some (qI (a : Int)), some (qI i)] [] := by
    intro n
    induction n with
    | zero => intro e i _ _ _ hz0; omega
    | succ n ih4 =>
      intro e i v4_0 v4_1 v4_2 v4_m
      refine qJ.run hκ 6 (pc' := 10) (ls' := [some (qR 39), some (qI (a : Int)), some (qI i)]) (st' := [qI (((a : Int) + 1) * 4), qI i]) rfl ?_
      refine qJ.icmp_ge hκ (tgt := 34) rfl rfl (by omega) (by omega) (fun c10 => ?_) (fun c10 => ?_)
      · show qJ YX8_addTotal κ _ (qLy u, (q_row M 40 e), y) 0 0 34 [some (qR 39), some (qI (a : Int)), some (qI i)] []
        exact qJ.vret hκ rfl rfl (by decide) (by decide) (⟨rfl, by rw [q_row_c (g := fun j => if 4 * a ≤ j ∧ j < 4 * a + 4 then M 40 j + M 41 j else M 40 j) (fun j => by rw [v4_2 j]; by_cases g : 4 * a ≤ j ∧ j < 4 * a + 4; rw [if_pos (by omega), if_pos g]; rw [if_neg (by omega), if_neg g])]⟩)
      · show qJ YX8_addTotal κ _ (qLy u, (q_row M 40 e), y) 0 0 13 [some (qR 39), some (qI (a : Int)), some (qI i)] []
        refine qJ.run hκ 4 (pc' := 19) (ls' := [some (qR 39), some (qI (a : Int)), some (qI i)]) (st' := [qI i, qR 40, qI i, qR 40]) rfl ?_
        refine qJ.ald hκ rfl rfl rfl (by decide) (by omega) ?_
        show qJ YX8_addTotal κ _ (qLy u, (q_row M 40 e), y) 0 0 20 [some (qR 39), some (qI (a : Int)), some (qI i)] [qI (e i.toNat), qI i, qR 40]
        refine qJ.run hκ 3 (pc' := 25) (ls' := [some (qR 39), some (qI (a : Int)), some (qI i)]) (st' := [qI i, qR 41, qI (e i.toNat), qI i, qR 40]) rfl ?_
        refine qJ.ald hκ rfl rfl rfl (by decide) (by omega) ?_
        show qJ YX8_addTotal κ _ (qLy u, (q_row M 40 e), y) 0 0 26 [some (qR 39), some (qI (a : Int)), some (qI i)] [qI (M 41 i.toNat), qI (e i.toNat), qI i, qR 40]
        refine qJ.run hκ 1 (pc' := 27) (ls' := [some (qR 39), some (qI (a : Int)), some (qI i)]) (st' := [qI ((e i.toNat) + (M 41 i.toNat)), qI i, qR 40]) rfl ?_
        refine qJ.ast hκ rfl rfl rfl (by decide) (by omega) ?_
        refine qJ.mc (m1 := (q_up (q_row M 40 e) 40 i.toNat ((e i.toNat) + (M 41 i.toNat)))) (m2 := (q_row M 40 (q_fu e i.toNat ((e i.toNat) + (M 41 i.toNat))))) (by rw [q_up_row_eq]) ?_
        show qJ YX8_addTotal κ _ (qLy u, (q_row M 40 (q_fu e i.toNat ((e i.toNat) + (M 41 i.toNat)))), y) 0 0 28 [some (qR 39), some (qI (a : Int)), some (qI i)] []
        refine qJ.run hκ 2 (pc' := 4) (ls' := [some (qR 39), some (qI (a : Int)), some (qI (i + 1))]) (st' := []) rfl ?_
        exact qJ.cast (ih4  (q_fu e i.toNat ((e i.toNat) + (M 41 i.toNat))) (i + 1) (by omega) (by omega) (fun j => by by_cases g : j = i.toNat; (subst g; rw [q_fu_eq, if_pos (by omega), v4_2, if_neg (by omega)]); rw [q_fu_ne g, v4_2 j]; by_cases g2 : 4 * a ≤ j ∧ (j : Int) < i; rw [if_pos g2, if_pos (by omega)]; rw [if_neg g2, if_neg (by omega)]) (by omega)) (rfl) rfl rfl
  show qJ YX8_addTotal κ _ (qLy u, M, y) 0 0 0 [some (qR 39), some (qI (a : Int)), none] []
  refine qJ.run hκ 4 (pc' := 4) (ls' := [some (qR 39), some (qI (a : Int)), some (qI ((a : Int) * 4))]) (st' := []) rfl ?_
  exact qJ.cast (L4 5 (M 40) ((a : Int) * 4) (by omega) (by omega) (fun j => by rw [if_neg (by omega)]) (by omega)) (by rw [q_row_self]) rfl rfl

set_option maxRecDepth 100000 in
theorem c_startSets (u : qU) (M y : qM)  : qCt YX8_startSets 2 0 0 [qR 39] (qLy u, M, y) (fun r h => r = none ∧ h = (qLy u, q_row M 48 (fun k => if k < 3 then 2 else M 48 k), y)) := by
  refine qCt.intro okX8_startSets (Nat.le_of_ble_eq_true rfl) (fun κ hκ => ?_)
  show qJ YX8_startSets κ _ (qLy u, M, y) 0 0 0 [some (qR 39)] []
  refine qJ.run hκ 3 (pc' := 5) (ls' := [some (qR 39)]) (st' := [qI 2, qR 48]) rfl ?_
  refine qJ.callS (As := [qR 48, qI 2]) (rest := []) hκ rfl kX8_67 (c_fill48 u M y 2) (by decide) rfl rfl (Nat.le_of_ble_eq_true rfl) (Nat.le_of_ble_eq_true rfl) (Nat.le_of_ble_eq_true rfl) (Or.inl (fun r h' e => by obtain ⟨rfl, rfl⟩ := e; rfl)) (fun r h' e => ?_)
  obtain ⟨rfl, rfl⟩ := e
  show qJ YX8_startSets κ _ (qLy u, (q_row M 48 (fun k => if k < 3 then 2 else M 48 k)), y) 0 0 8 [some (qR 39)] []
  exact qJ.vret hκ rfl rfl (by decide) (by decide) (by first | exact ⟨rfl, rfl⟩ | (refine ⟨?_, rfl⟩; first | rfl | omega))

theorem setR_0 (M : qM) : setR (q_row M 48 (fun k => if k < 3 then 2 else M 48 k)) 0 := ⟨rfl, rfl, rfl⟩
theorem rt_0 (t : Nat) : rt t 0 = 2 + ((t / 121 : Nat) : Int) := rfl
theorem rt_1 (t : Nat) : rt t 1 = 2 + ((t / 11 % 11 : Nat) : Int) := rfl
theorem rt_2 (t : Nat) : rt t 2 = 2 + ((t % 11 : Nat) : Int) := rfl
theorem keep_48 {M M' : qM} (h : keep (fun i _ => decide (¬ i = 48)) M' = keep (fun i _ => decide (¬ i = 48)) M) : keep (kN kS) M' = keep (kN kS) M := keep_of (fun i j hh => by
  have h2 := kN_t.mp hh
  unfold kS at h2
  rw [decide_eq_true_eq] at h2 ⊢
  omega) h
theorem CI_c {m M M' : qM} {n a : Nat} (h39 : M' 39 6 = M 39 6) (h40 : M' 40 = M 40) (h41 : M' 41 = M 41) (h42 : M' 42 = M 42) (h43 : M' 43 = M 43) (h44 : M' 44 = M 44) (h : CI m M n a) : CI m M' n a := by
  unfold CI at *
  rw [h39, h40, h41, h42, h43, h44]
  exact h

set_option maxRecDepth 100000 in
theorem c_stepSet (u : qU) (M y : qM) (t : Nat) (ht : t < 1331) (hs : setR M t) : qCt YX8_stepSet 1 0 0 [qR 39] (qLy u, M, y) (fun r h => ∃ M', h = (qLy u, M', y) ∧ keep (fun i _ => decide (¬ i = 48)) M' = keep (fun i _ => decide (¬ i = 48)) M ∧ ((r = some (qI 1) ∧ t + 1 < 1331 ∧ setR M' (t + 1)) ∨ (r = some (qI 0) ∧ t + 1 = 1331))) := by
  refine qCt.intro okX8_stepSet (Nat.le_of_ble_eq_true rfl) (fun κ hκ => ?_)
  obtain ⟨s0, s1, s2⟩ := hs
  rw [rt_0] at s0
  rw [rt_1] at s1
  rw [rt_2] at s2
  show qJ YX8_stepSet κ _ (qLy u, M, y) 0 0 0 [some (qR 39), none] []
  refine qJ.run hκ 3 (pc' := 3) (ls' := [some (qR 39), some (qI 2)]) (st' := [qI 2]) rfl ?_
  refine qJ.if_lt hκ (tgt := 42) rfl rfl (by omega) (fun c3 => ?_) (fun c3 => ?_)
  · exact absurd c3 (by decide)
  · show qJ YX8_stepSet κ _ (qLy u, M, y) 0 0 6 [some (qR 39), some (qI 2)] []
    refine qJ.run hκ 3 (pc' := 11) (ls' := [some (qR 39), some (qI 2)]) (st' := [qI 2, qR 48]) rfl ?_
    refine qJ.ald hκ rfl rfl rfl (by decide) (by omega) ?_
    show qJ YX8_stepSet κ _ (qLy u, M, y) 0 0 12 [some (qR 39), some (qI 2)] [qI (M 48 2)]
    refine qJ.run hκ 1 (pc' := 14) (ls' := [some (qR 39), some (qI 2)]) (st' := [qI 12, qI (M 48 2)]) rfl ?_
    refine qJ.icmp_ge hκ (tgt := 29) rfl rfl (by omega) (by omega) (fun c14 => ?_) (fun c14 => ?_)
    · show qJ YX8_stepSet κ _ (qLy u, M, y) 0 0 29 [some (qR 39), some (qI 2)] []
      refine qJ.run hκ 4 (pc' := 35) (ls' := [some (qR 39), some (qI 2)]) (st' := [qI 2, qI 2, qR 48]) rfl ?_
      refine qJ.ast hκ rfl rfl rfl (by decide) (by omega) ?_
      show qJ YX8_stepSet κ _ (qLy u, (q_up M 48 2 2), y) 0 0 36 [some (qR 39), some (qI 2)] []
      refine qJ.run hκ 3 (pc' := 3) (ls' := [some (qR 39), some (qI 1)]) (st' := [qI 1]) rfl ?_
      refine qJ.if_lt hκ (tgt := 42) rfl rfl (by omega) (fun c3 => ?_) (fun c3 => ?_)
      · exact absurd c3 (by decide)
      · show qJ YX8_stepSet κ _ (qLy u, (q_up M 48 2 2), y) 0 0 6 [some (qR 39), some (qI 1)] []
        refine qJ.run hκ 3 (pc' := 11) (ls' := [some (qR 39), some (qI 1)]) (st' := [qI 1, qR 48]) rfl ?_
        refine qJ.ald hκ rfl rfl rfl (by decide) (by omega) ?_
        show qJ YX8_stepSet κ _ (qLy u, (q_up M 48 2 2), y) 0 0 12 [some (qR 39), some (qI 1)] [qI (M 48 1)]
        refine qJ.run hκ 1 (pc' := 14) (ls' := [some (qR 39), some (qI 1)]) (st' := [qI 12, qI (M 48 1)]) rfl ?_
        refine qJ.icmp_ge hκ (tgt := 29) rfl rfl (by omega) (by omega) (fun c14 => ?_) (fun c14 => ?_)
        · show qJ YX8_stepSet κ _ (qLy u, (q_up M 48 2 2), y) 0 0 29 [some (qR 39), some (qI 1)] []
          refine qJ.run hκ 4 (pc' := 35) (ls' := [some (qR 39), some (qI 1)]) (st' := [qI 2, qI 1, qR 48]) rfl ?_
          refine qJ.ast hκ rfl rfl rfl (by decide) (by omega) ?_
          show qJ YX8_stepSet κ _ (qLy u, (q_up (q_up M 48 2 2) 48 1 2), y) 0 0 36 [some (qR 39), some (qI 1)] []
          refine qJ.run hκ 3 (pc' := 3) (ls' := [some (qR 39), some (qI 0)]) (st' := [qI 0]) rfl ?_
          refine qJ.if_lt hκ (tgt := 42) rfl rfl (by omega) (fun c3 => ?_) (fun c3 => ?_)
          · exact absurd c3 (by decide)
          · show qJ YX8_stepSet κ _ (qLy u, (q_up (q_up M 48 2 2) 48 1 2), y) 0 0 6 [some (qR 39), some (qI 0)] []
            refine qJ.run hκ 3 (pc' := 11) (ls' := [some (qR 39), some (qI 0)]) (st' := [qI 0, qR 48]) rfl ?_
            refine qJ.ald hκ rfl rfl rfl (by decide) (by omega) ?_
            show qJ YX8_stepSet κ _ (qLy u, (q_up (q_up M 48 2 2) 48 1 2), y) 0 0 12 [some (qR 39), some (qI 0)] [qI (M 48 0)]
            refine qJ.run hκ 1 (pc' := 14) (ls' := [some (qR 39), some (qI 0)]) (st' := [qI 12, qI (M 48 0)]) rfl ?_
            refine qJ.icmp_ge hκ (tgt := 29) rfl rfl (by omega) (by omega) (fun c14 => ?_) (fun c14 => ?_)
            · show qJ YX8_stepSet κ _ (qLy u, (q_up (q_up M 48 2 2) 48 1 2), y) 0 0 29 [some (qR 39), some (qI 0)] []
              refine qJ.run hκ 4 (pc' := 35) (ls' := [some (qR 39), some (qI 0)]) (st' := [qI 2, qI 0, qR 48]) rfl ?_
              refine qJ.ast hκ rfl rfl rfl (by decide) (by omega) ?_
              show qJ YX8_stepSet κ _ (qLy u, (q_up (q_up (q_up M 48 2 2) 48 1 2) 48 0 2), y) 0 0 36 [some (qR 39), some (qI 0)] []
              refine qJ.run hκ 3 (pc' := 3) (ls' := [some (qR 39), some (qI (-1))]) (st' := [qI (-1)]) rfl ?_
              refine qJ.if_lt hκ (tgt := 42) rfl rfl (by omega) (fun c3 => ?_) (fun c3 => ?_)
              · show qJ YX8_stepSet κ _ (qLy u, (q_up (q_up (q_up M 48 2 2) 48 1 2) 48 0 2), y) 0 0 42 [some (qR 39), some (qI (-1))] []
                refine qJ.run hκ 1 (pc' := 43) (ls' := [some (qR 39), some (qI (-1))]) (st' := [qI 0]) rfl ?_
                exact qJ.bret hκ rfl rfl (by omega) (by decide) (by decide) (⟨_, rfl, (Eq.trans (keep_up (by rfl)) (Eq.trans (keep_up (by rfl)) (Eq.trans (keep_up (by rfl)) rfl))), Or.inr ⟨rfl, by omega⟩⟩)
              · exact absurd c3 (by decide)
            · show qJ YX8_stepSet κ _ (qLy u, (q_up (q_up M 48 2 2) 48 1 2), y) 0 0 17 [some (qR 39), some (qI 0)] []
              refine qJ.run hκ 4 (pc' := 23) (ls' := [some (qR 39), some (qI 0)]) (st' := [qI 0, qR 48, qI 0, qR 48]) rfl ?_
              refine qJ.ald hκ rfl rfl rfl (by decide) (by omega) ?_
              show qJ YX8_stepSet κ _ (qLy u, (q_up (q_up M 48 2 2) 48 1 2), y) 0 0 24 [some (qR 39), some (qI 0)] [qI (M 48 0), qI 0, qR 48]
              refine qJ.run hκ 2 (pc' := 26) (ls' := [some (qR 39), some (qI 0)]) (st' := [qI ((M 48 0) + 1), qI 0, qR 48]) rfl ?_
              refine qJ.ast hκ rfl rfl rfl (by decide) (by omega) ?_
              show qJ YX8_stepSet κ _ (qLy u, (q_up (q_up (q_up M 48 2 2) 48 1 2) 48 0 ((M 48 0) + 1)), y) 0 0 27 [some (qR 39), some (qI 0)] []
              refine qJ.run hκ 1 (pc' := 28) (ls' := [some (qR 39), some (qI 0)]) (st' := [qI 1]) rfl ?_
              exact qJ.bret hκ rfl rfl (by omega) (by decide) (by decide) (⟨_, rfl, (Eq.trans (keep_up (by rfl)) (Eq.trans (keep_up (by rfl)) (Eq.trans (keep_up (by rfl)) rfl))), Or.inl ⟨rfl, by omega, by show ((M 48 0) + 1) = rt (t + 1) 0; rw [rt_0]; omega, by show 2 = rt (t + 1) 1; rw [rt_1]; omega, by show 2 = rt (t + 1) 2; rw [rt_2]; omega⟩⟩)
        · show qJ YX8_stepSet κ _ (qLy u, (q_up M 48 2 2), y) 0 0 17 [some (qR 39), some (qI 1)] []
          refine qJ.run hκ 4 (pc' := 23) (ls' := [some (qR 39), some (qI 1)]) (st' := [qI 1, qR 48, qI 1, qR 48]) rfl ?_
          refine qJ.ald hκ rfl rfl rfl (by decide) (by omega) ?_
          show qJ YX8_stepSet κ _ (qLy u, (q_up M 48 2 2), y) 0 0 24 [some (qR 39), some (qI 1)] [qI (M 48 1), qI 1, qR 48]
          refine qJ.run hκ 2 (pc' := 26) (ls' := [some (qR 39), some (qI 1)]) (st' := [qI ((M 48 1) + 1), qI 1, qR 48]) rfl ?_
          refine qJ.ast hκ rfl rfl rfl (by decide) (by omega) ?_
          show qJ YX8_stepSet κ _ (qLy u, (q_up (q_up M 48 2 2) 48 1 ((M 48 1) + 1)), y) 0 0 27 [some (qR 39), some (qI 1)] []
          refine qJ.run hκ 1 (pc' := 28) (ls' := [some (qR 39), some (qI 1)]) (st' := [qI 1]) rfl ?_
          exact qJ.bret hκ rfl rfl (by omega) (by decide) (by decide) (⟨_, rfl, (Eq.trans (keep_up (by rfl)) (Eq.trans (keep_up (by rfl)) rfl)), Or.inl ⟨rfl, by omega, by show M 48 0 = rt (t + 1) 0; rw [rt_0]; omega, by show ((M 48 1) + 1) = rt (t + 1) 1; rw [rt_1]; omega, by show 2 = rt (t + 1) 2; rw [rt_2]; omega⟩⟩)
    · show qJ YX8_stepSet κ _ (qLy u, M, y) 0 0 17 [some (qR 39), some (qI 2)] []
      refine qJ.run hκ 4 (pc' := 23) (ls' := [some (qR 39), some (qI 2)]) (st' := [qI 2, qR 48, qI 2, qR 48]) rfl ?_
      refine qJ.ald hκ rfl rfl rfl (by decide) (by omega) ?_
      show qJ YX8_stepSet κ _ (qLy u, M, y) 0 0 24 [some (qR 39), some (qI 2)] [qI (M 48 2), qI 2, qR 48]
      refine qJ.run hκ 2 (pc' := 26) (ls' := [some (qR 39), some (qI 2)]) (st' := [qI ((M 48 2) + 1), qI 2, qR 48]) rfl ?_
      refine qJ.ast hκ rfl rfl rfl (by decide) (by omega) ?_
      show qJ YX8_stepSet κ _ (qLy u, (q_up M 48 2 ((M 48 2) + 1)), y) 0 0 27 [some (qR 39), some (qI 2)] []
      refine qJ.run hκ 1 (pc' := 28) (ls' := [some (qR 39), some (qI 2)]) (st' := [qI 1]) rfl ?_
      exact qJ.bret hκ rfl rfl (by omega) (by decide) (by decide) (⟨_, rfl, (Eq.trans (keep_up (by rfl)) rfl), Or.inl ⟨rfl, by omega, by show M 48 0 = rt (t + 1) 0; rw [rt_0]; omega, by show M 48 1 = rt (t + 1) 1; rw [rt_1]; omega, by show ((M 48 2) + 1) = rt (t + 1) 2; rw [rt_2]; omega⟩⟩)

set_option maxRecDepth 100000 in
theorem c_disag (u : qU) (m M y : qM) (nn t : Nat) (fr : Int) (hc : CI m M nn 10) (hx : xR m nn) (ht : t < 1331) (hs : setR M t) (hf : 0 ≤ fr ∧ fr ≤ (q_cnt (cA m nn) 10 : Nat)) : qCt YX8_disagreeing 1 0 0 [qR 39, qI fr] (qLy u, M, y) (fun r h => r = some (qI (q_fst (fun i => fr ≤ (i : Int) ∧ dJ m M nn t i) (q_cnt (cA m nn) 10))) ∧ h = (qLy u, M, y)) := by
  refine qCt.intro okX8_disagreeing (Nat.le_of_ble_eq_true rfl) (fun κ hκ => ?_)
  obtain ⟨s0, s1, s2⟩ := hs
  have r0 := rt_r (w := 0) ht
  have r1 := rt_r (w := 1) ht
  have r2 := rt_r (w := 2) ht
  have z6 := hc.1
  have cl := q_cnt_le (cA m nn) 10
  have L29 : ∀ (n : Nat) (i : Int), (0 ≤ i) → (fr ≤ i) → (i ≤ (q_cnt (cA m nn) 10 : Nat)) → (q_fst (fun i => fr ≤ (i : Int) ∧ dJ m M nn t i) i.toNat = -1) → (((q_cnt (cA m nn) 10 : Int) - i).toNat) < n → qJ YX8_disagreeing κ (qFin (fun r h => r = some (qI (q_fst (fun i => fr ≤ (i : Int) ∧ dJ m M nn t i) (q_cnt (cA m nn) 10))) ∧ h = (qLy u, M, y)) 0 0 κ) (qLy u, M, y) 0 0 29 [some (qR 39), some (qI fr), some (qI (M 48 0)), some (qI (M 48 0 * M 48 1)), some (qI (M 48 0 * M 48 1 * M 48 2)), some (qI i), none, none] [] := by
    intro n
    induction n with
    | zero => intro i _ _ _ _ hz0; omega
    | succ n ih29 =>
      intro i v29_0 v29_1 v29_2 v29_3 v29_m
      refine qJ.run hκ 3 (pc' := 35) (ls' := [some (qR 39), some (qI fr), some (qI (M 48 0)), some (qI (M 48 0 * M 48 1)), some (qI (M 48 0 * M 48 1 * M 48 2)), some (qI i), none, none]) (st' := [qI (M 39 6), qI i]) rfl ?_
      refine qJ.icmp_ge hκ (tgt := 109) rfl rfl (by omega) (by omega) (fun c35 => ?_) (fun c35 => ?_)
      · show qJ YX8_disagreeing κ _ (qLy u, M, y) 0 0 109 [some (qR 39), some (qI fr), some (qI (M 48 0)), some (qI (M 48 0 * M 48 1)), some (qI (M 48 0 * M 48 1 * M 48 2)), some (qI i), none, none] []
        refine qJ.run hκ 1 (pc' := 110) (ls' := [some (qR 39), some (qI fr), some (qI (M 48 0)), some (qI (M 48 0 * M 48 1)), some (qI (M 48 0 * M 48 1 * M 48 2)), some (qI i), none, none]) (st' := [qI (-1)]) rfl ?_
        exact qJ.iret hκ rfl rfl (by decide) (by decide) (⟨by congr 2; rw [show q_cnt (cA m nn) 10 = i.toNat by omega]; exact v29_3.symm, rfl⟩)
      · show qJ YX8_disagreeing κ _ (qLy u, M, y) 0 0 38 [some (qR 39), some (qI fr), some (qI (M 48 0)), some (qI (M 48 0 * M 48 1)), some (qI (M 48 0 * M 48 1 * M 48 2)), some (qI i), none, none] []
        obtain ⟨b, b1, b2, b3, b4⟩ := CI_at hc (i := i.toNat) (by omega)
        have q0 := (hc.2.1 b b1 b2).2 0 (by decide)
        have q1 := (hc.2.1 b b1 b2).2 1 (by decide)
        have q2 := (hc.2.1 b b1 b2).2 2 (by decide)
        have q3 := (hc.2.1 b b1 b2).2 3 (by decide)
        have x0 := hx b 0 b1 (by decide) b2
        have x1 := hx b 1 b1 (by decide) b2
        have x2 := hx b 2 b1 (by decide) b2
        have x3 := hx b 3 b1 (by decide) b2
        have wb := wo_b (x0 := xE m nn b 0) (x1 := xE m nn b 1) (x2 := xE m nn b 2) (x3 := xE m nn b 3) (by omega) (by omega) (by omega) (by omega) r0 r1 r2
        have bn : (M 44 i.toNat).toNat = b := by rw [b4]; omega
        have w0 : M 40 (M 44 i.toNat * 4).toNat = xE m nn b 0 := by rw [← q0, b4]; congr 1; omega
        have w1 : M 40 (M 44 i.toNat * 4 + 1).toNat = xE m nn b 1 := by rw [← q1, b4]; congr 1; omega
        have w2 : M 40 (M 44 i.toNat * 4 + 2).toNat = xE m nn b 2 := by rw [← q2, b4]; congr 1; omega
        have w3 : M 40 (M 44 i.toNat * 4 + 3).toNat = xE m nn b 3 := by rw [← q3, b4]; congr 1; omega
        have wE : M 40 (M 44 i.toNat * 4).toNat + M 40 (M 44 i.toNat * 4 + 1).toNat * M 48 0 + M 40 (M 44 i.toNat * 4 + 2).toNat * (M 48 0 * M 48 1) + M 40 (M 44 i.toNat * 4 + 3).toNat * (M 48 0 * M 48 1 * M 48 2) = wo m nn b (rt t 0) (rt t 1) (rt t 2) := by rw [w0, w1, w2, w3, s0, s1, s2]; rfl
        have wq : qr (wo m nn b (rt t 0) (rt t 1) (rt t 2)) := wb
        have dj : dJ m M nn t i.toNat ↔ ¬ wo m nn b (rt t 0) (rt t 1) (rt t 2) = 0 := by unfold dJ; rw [bn]
        refine qJ.run hκ 3 (pc' := 44) (ls' := [some (qR 39), some (qI fr), some (qI (M 48 0)), some (qI (M 48 0 * M 48 1)), some (qI (M 48 0 * M 48 1 * M 48 2)), some (qI i), none, none]) (st' := [qI i, qR 44]) rfl ?_
        refine qJ.ald hκ rfl rfl rfl (by decide) (by omega) ?_
        show qJ YX8_disagreeing κ _ (qLy u, M, y) 0 0 45 [some (qR 39), some (qI fr), some (qI (M 48 0)), some (qI (M 48 0 * M 48 1)), some (qI (M 48 0 * M 48 1 * M 48 2)), some (qI i), none, none] [qI (M 44 i.toNat)]
        refine qJ.run hκ 6 (pc' := 55) (ls' := [some (qR 39), some (qI fr), some (qI (M 48 0)), some (qI (M 48 0 * M 48 1)), some (qI (M 48 0 * M 48 1 * M 48 2)), some (qI i), some (qI ((M 44 i.toNat) * 4)), none]) (st' := [qI ((M 44 i.toNat) * 4), qR 40]) rfl ?_
        refine qJ.ald hκ rfl rfl rfl (by decide) (by omega) ?_
        show qJ YX8_disagreeing κ _ (qLy u, M, y) 0 0 56 [some (qR 39), some (qI fr), some (qI (M 48 0)), some (qI (M 48 0 * M 48 1)), some (qI (M 48 0 * M 48 1 * M 48 2)), some (qI i), some (qI ((M 44 i.toNat) * 4)), none] [qI (M 40 (((M 44 i.toNat) * 4).toNat))]
        refine qJ.run hκ 5 (pc' := 64) (ls' := [some (qR 39), some (qI fr), some (qI (M 48 0)), some (qI (M 48 0 * M 48 1)), some (qI (M 48 0 * M 48 1 * M 48 2)), some (qI i), some (qI ((M 44 i.toNat) * 4)), none]) (st' := [qI (((M 44 i.toNat) * 4) + 1), qR 40, qI (M 40 (((M 44 i.toNat) * 4).toNat))]) rfl ?_
        refine qJ.ald hκ rfl rfl rfl (by decide) (by omega) ?_
        show qJ YX8_disagreeing κ _ (qLy u, M, y) 0 0 65 [some (qR 39), some (qI fr), some (qI (M 48 0)), some (qI (M 48 0 * M 48 1)), some (qI (M 48 0 * M 48 1 * M 48 2)), some (qI i), some (qI ((M 44 i.toNat) * 4)), none] [qI (M 40 ((((M 44 i.toNat) * 4) + 1).toNat)), qI (M 40 (((M 44 i.toNat) * 4).toNat))]
        refine qJ.run hκ 8 (pc' := 76) (ls' := [some (qR 39), some (qI fr), some (qI (M 48 0)), some (qI (M 48 0 * M 48 1)), some (qI (M 48 0 * M 48 1 * M 48 2)), some (qI i), some (qI ((M 44 i.toNat) * 4)), none]) (st' := [qI (((M 44 i.toNat) * 4) + 2), qR 40, qI ((M 40 (((M 44 i.toNat) * 4).toNat)) + ((M 40 ((((M 44 i.toNat) * 4) + 1).toNat)) * (M 48 0)))]) rfl ?_
        refine qJ.ald hκ rfl rfl rfl (by decide) (by omega) ?_
        show qJ YX8_disagreeing κ _ (qLy u, M, y) 0 0 77 [some (qR 39), some (qI fr), some (qI (M 48 0)), some (qI (M 48 0 * M 48 1)), some (qI (M 48 0 * M 48 1 * M 48 2)), some (qI i), some (qI ((M 44 i.toNat) * 4)), none] [qI (M 40 ((((M 44 i.toNat) * 4) + 2).toNat)), qI ((M 40 (((M 44 i.toNat) * 4).toNat)) + ((M 40 ((((M 44 i.toNat) * 4) + 1).toNat)) * (M 48 0)))]
        refine qJ.run hκ 8 (pc' := 88) (ls' := [some (qR 39), some (qI fr), some (qI (M 48 0)), some (qI (M 48 0 * M 48 1)), some (qI (M 48 0 * M 48 1 * M 48 2)), some (qI i), some (qI ((M 44 i.toNat) * 4)), none]) (st' := [qI (((M 44 i.toNat) * 4) + 3), qR 40, qI (((M 40 (((M 44 i.toNat) * 4).toNat)) + ((M 40 ((((M 44 i.toNat) * 4) + 1).toNat)) * (M 48 0))) + ((M 40 ((((M 44 i.toNat) * 4) + 2).toNat)) * (M 48 0 * M 48 1)))]) rfl ?_
        refine qJ.ald hκ rfl rfl rfl (by decide) (by omega) ?_
        show qJ YX8_disagreeing κ _ (qLy u, M, y) 0 0 89 [some (qR 39), some (qI fr), some (qI (M 48 0)), some (qI (M 48 0 * M 48 1)), some (qI (M 48 0 * M 48 1 * M 48 2)), some (qI i), some (qI ((M 44 i.toNat) * 4)), none] [qI (M 40 ((((M 44 i.toNat) * 4) + 3).toNat)), qI (((M 40 (((M 44 i.toNat) * 4).toNat)) + ((M 40 ((((M 44 i.toNat) * 4) + 1).toNat)) * (M 48 0))) + ((M 40 ((((M 44 i.toNat) * 4) + 2).toNat)) * (M 48 0 * M 48 1)))]
        refine qJ.run hκ 5 (pc' := 97) (ls' := [some (qR 39), some (qI fr), some (qI (M 48 0)), some (qI (M 48 0 * M 48 1)), some (qI (M 48 0 * M 48 1 * M 48 2)), some (qI i), some (qI ((M 44 i.toNat) * 4)), some (qI ((((M 40 (((M 44 i.toNat) * 4).toNat)) + ((M 40 ((((M 44 i.toNat) * 4) + 1).toNat)) * (M 48 0))) + ((M 40 ((((M 44 i.toNat) * 4) + 2).toNat)) * (M 48 0 * M 48 1))) + ((M 40 ((((M 44 i.toNat) * 4) + 3).toNat)) * (M 48 0 * M 48 1 * M 48 2))))]) (st' := [qI ((((M 40 (((M 44 i.toNat) * 4).toNat)) + ((M 40 ((((M 44 i.toNat) * 4) + 1).toNat)) * (M 48 0))) + ((M 40 ((((M 44 i.toNat) * 4) + 2).toNat)) * (M 48 0 * M 48 1))) + ((M 40 ((((M 44 i.toNat) * 4) + 3).toNat)) * (M 48 0 * M 48 1 * M 48 2)))]) rfl ?_
        have wq2 : qr (M 40 (M 44 i.toNat * 4).toNat + M 40 (M 44 i.toNat * 4 + 1).toNat * M 48 0 + M 40 (M 44 i.toNat * 4 + 2).toNat * (M 48 0 * M 48 1) + M 40 (M 44 i.toNat * 4 + 3).toNat * (M 48 0 * M 48 1 * M 48 2)) := by rw [wE]; exact wq
        refine qJ.if_eq hκ (tgt := 103) rfl rfl (by omega) (fun c97 => ?_) (fun c97 => ?_)
        · show qJ YX8_disagreeing κ _ (qLy u, M, y) 0 0 103 [some (qR 39), some (qI fr), some (qI (M 48 0)), some (qI (M 48 0 * M 48 1)), some (qI (M 48 0 * M 48 1 * M 48 2)), some (qI i), some (qI ((M 44 i.toNat) * 4)), some (qI ((((M 40 (((M 44 i.toNat) * 4).toNat)) + ((M 40 ((((M 44 i.toNat) * 4) + 1).toNat)) * (M 48 0))) + ((M 40 ((((M 44 i.toNat) * 4) + 2).toNat)) * (M 48 0 * M 48 1))) + ((M 40 ((((M 44 i.toNat) * 4) + 3).toNat)) * (M 48 0 * M 48 1 * M 48 2))))] []
          refine qJ.run hκ 2 (pc' := 29) (ls' := [some (qR 39), some (qI fr), some (qI (M 48 0)), some (qI (M 48 0 * M 48 1)), some (qI (M 48 0 * M 48 1 * M 48 2)), some (qI (i + 1)), some (qI ((M 44 i.toNat) * 4)), some (qI ((((M 40 (((M 44 i.toNat) * 4).toNat)) + ((M 40 ((((M 44 i.toNat) * 4) + 1).toNat)) * (M 48 0))) + ((M 40 ((((M 44 i.toNat) * 4) + 2).toNat)) * (M 48 0 * M 48 1))) + ((M 40 ((((M 44 i.toNat) * 4) + 3).toNat)) * (M 48 0 * M 48 1 * M 48 2))))]) (st' := []) rfl ?_
          refine qJ.dl [true, true, true, true, true, true, false, false] ?_
          show qJ YX8_disagreeing κ _ (qLy u, M, y) 0 0 29 [some (qR 39), some (qI fr), some (qI (M 48 0)), some (qI (M 48 0 * M 48 1)), some (qI (M 48 0 * M 48 1 * M 48 2)), some (qI (i + 1)), none, none] []
          exact ih29  (i + 1) (by omega) (by omega) (by omega) (q_fst_no v29_0 v29_3 (fun q => dj.mp q.2 (by rw [← wE]; exact c97))) (by omega)
        · show qJ YX8_disagreeing κ _ (qLy u, M, y) 0 0 100 [some (qR 39), some (qI fr), some (qI (M 48 0)), some (qI (M 48 0 * M 48 1)), some (qI (M 48 0 * M 48 1 * M 48 2)), some (qI i), some (qI ((M 44 i.toNat) * 4)), some (qI ((((M 40 (((M 44 i.toNat) * 4).toNat)) + ((M 40 ((((M 44 i.toNat) * 4) + 1).toNat)) * (M 48 0))) + ((M 40 ((((M 44 i.toNat) * 4) + 2).toNat)) * (M 48 0 * M 48 1))) + ((M 40 ((((M 44 i.toNat) * 4) + 3).toNat)) * (M 48 0 * M 48 1 * M 48 2))))] []
          refine qJ.run hκ 1 (pc' := 102) (ls' := [some (qR 39), some (qI fr), some (qI (M 48 0)), some (qI (M 48 0 * M 48 1)), some (qI (M 48 0 * M 48 1 * M 48 2)), some (qI i), some (qI ((M 44 i.toNat) * 4)), some (qI ((((M 40 (((M 44 i.toNat) * 4).toNat)) + ((M 40 ((((M 44 i.toNat) * 4) + 1).toNat)) * (M 48 0))) + ((M 40 ((((M 44 i.toNat) * 4) + 2).toNat)) * (M 48 0 * M 48 1))) + ((M 40 ((((M 44 i.toNat) * 4) + 3).toNat)) * (M 48 0 * M 48 1 * M 48 2))))]) (st' := [qI i]) rfl ?_
          exact qJ.iret hκ rfl rfl (by decide) (by decide) (⟨by congr 2; rw [q_fst_hit (p := fun i => fr ≤ (i : Int) ∧ dJ m M nn t i) v29_0 v29_3 ⟨by omega, dj.mpr (fun z => c97 (by rw [wE]; exact z))⟩ _ (by omega)], rfl⟩)
  show qJ YX8_disagreeing κ _ (qLy u, M, y) 0 0 0 [some (qR 39), some (qI fr), none, none, none, none, none, none] []
  refine qJ.run hκ 3 (pc' := 5) (ls' := [some (qR 39), some (qI fr), none, none, none, none, none, none]) (st' := [qI 0, qR 48]) rfl ?_
  refine qJ.ald hκ rfl rfl rfl (by decide) (by omega) ?_
  show qJ YX8_disagreeing κ _ (qLy u, M, y) 0 0 6 [some (qR 39), some (qI fr), none, none, none, none, none, none] [qI (M 48 0)]
  refine qJ.run hκ 5 (pc' := 13) (ls' := [some (qR 39), some (qI fr), some (qI (M 48 0)), none, none, none, none, none]) (st' := [qI 1, qR 48, qI (M 48 0)]) rfl ?_
  refine qJ.ald hκ rfl rfl rfl (by decide) (by omega) ?_
  show qJ YX8_disagreeing κ _ (qLy u, M, y) 0 0 14 [some (qR 39), some (qI fr), some (qI (M 48 0)), none, none, none, none, none] [qI (M 48 1), qI (M 48 0)]
  refine qJ.run hκ 6 (pc' := 22) (ls' := [some (qR 39), some (qI fr), some (qI (M 48 0)), some (qI ((M 48 0) * (M 48 1))), none, none, none, none]) (st' := [qI 2, qR 48, qI ((M 48 0) * (M 48 1))]) rfl ?_
  refine qJ.ald hκ rfl rfl rfl (by decide) (by omega) ?_
  show qJ YX8_disagreeing κ _ (qLy u, M, y) 0 0 23 [some (qR 39), some (qI fr), some (qI (M 48 0)), some (qI ((M 48 0) * (M 48 1))), none, none, none, none] [qI (M 48 2), qI ((M 48 0) * (M 48 1))]
  refine qJ.run hκ 4 (pc' := 29) (ls' := [some (qR 39), some (qI fr), some (qI (M 48 0)), some (qI ((M 48 0) * (M 48 1))), some (qI (((M 48 0) * (M 48 1)) * (M 48 2))), some (qI fr), none, none]) (st' := []) rfl ?_
  exact L29 11 fr (by omega) (by omega) (by omega) ((q_fst_0 _ _).mpr ((q_cnt_no _).mpr fun j hj q => by have := q.1; omega)) (by omega)

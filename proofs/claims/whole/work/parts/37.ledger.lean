/-! printed by p37.py: accounts -/
theorem q_shl_n {a k : Nat} (hk : k < 32) (h : a * 2 ^ k < 2147483648) : q_shl (a : Int) (k : Int) = ((a * 2 ^ k : Nat) : Int) := by
  unfold q_shl
  refine q_tb h ?_
  rw [Int32.toBitVec_shiftLeft]
  show (Int32.ofInt (a : Int)).toBitVec <<< ((Int32.ofInt (k : Int) &&& 31).toBitVec.smod 32).toNat = _
  rw [q_sl k hk, q_bv]
  have ha : a ≤ a * 2 ^ k := Nat.le_mul_of_pos_right a (Nat.two_pow_pos k)
  apply BitVec.eq_of_toNat_eq
  rw [BitVec.toNat_shiftLeft, BitVec.toNat_ofNat, BitVec.toNat_ofNat, Nat.shiftLeft_eq, Nat.mod_eq_of_lt (show a < 2 ^ 32 by omega)]
theorem q_pk {x y k : Nat} (hx : x < 2 ^ k) (hk : k < 31) (h : y * 2 ^ k + x < 2147483648) : q_or (x : Int) (q_shl (y : Int) (k : Int)) = ((x + y * 2 ^ k : Nat) : Int) := by
  rw [q_shl_n (by omega) (by omega), q_or_n (by omega) (by omega)]
  congr 1
  have := Nat.two_pow_add_eq_or_of_lt hx y
  rw [Nat.mul_comm (2 ^ k) y] at this
  rw [Nat.or_comm, ← this, Nat.add_comm]
/-- a row's day, account, kind, counts -/
def lD (x : Int) : Int := ((x.toNat / 2097152 : Nat) : Int)
def lA (x : Int) : Int := ((x.toNat / 65536 % 16 : Nat) : Int)
def lK (x : Int) : Int := ((x.toNat / 1048576 % 2 : Nat) : Int)
def lC (x : Int) (i : Nat) : Int := ((x.toNat / 16 ^ i % 16 : Nat) : Int)
theorem row_s {x : Int} (h : 0 ≤ x ∧ x < 2147483648) {k : Nat} (hk : k < 32) : q_shr x (k : Int) = ((x.toNat / 2 ^ k : Nat) : Int) := by
  have := q_shr_n (a := x.toNat) (k := k) (by omega) hk
  rw [q_tn h.1] at this
  exact this
theorem row_D {x : Int} (h : 0 ≤ x ∧ x < 2147483648) : q_shr x 21 = lD x := row_s (k := 21) h (by decide)
theorem row_A {x : Int} (h : 0 ≤ x ∧ x < 2147483648) : q_and (q_shr x 16) 15 = lA x := by
  rw [show q_shr x 16 = ((x.toNat / 2 ^ 16 : Nat) : Int) from row_s (k := 16) h (by decide), show q_and ((x.toNat / 2 ^ 16 : Nat) : Int) 15 = ((x.toNat / 2 ^ 16 &&& 15 : Nat) : Int) from q_and_n (b := 15) (by decide)]
  rw [show x.toNat / 2 ^ 16 &&& 15 = x.toNat / 2 ^ 16 % 16 from Nat.and_two_pow_sub_one_eq_mod _ 4]
  rfl
theorem row_K {x : Int} (h : 0 ≤ x ∧ x < 2147483648) : q_and (q_shr x 20) 1 = lK x := by
  rw [show q_shr x 20 = ((x.toNat / 2 ^ 20 : Nat) : Int) from row_s (k := 20) h (by decide), show q_and ((x.toNat / 2 ^ 20 : Nat) : Int) 1 = ((x.toNat / 2 ^ 20 &&& 1 : Nat) : Int) from q_and_n (b := 1) (by decide)]
  rw [show x.toNat / 2 ^ 20 &&& 1 = x.toNat / 2 ^ 20 % 2 from Nat.and_two_pow_sub_one_eq_mod _ 1]
  rfl
theorem row_C {x : Int} (h : 0 ≤ x ∧ x < 2147483648) {i : Int} (hi : 0 ≤ i ∧ i < 4) : q_and (q_shr x (4 * i)) 15 = lC x i.toNat := by
  have hk : (4 * i) = ((4 * i.toNat : Nat) : Int) := by omega
  rw [hk, row_s h (k := 4 * i.toNat) (by omega), show q_and ((x.toNat / 2 ^ (4 * i.toNat) : Nat) : Int) 15 = ((x.toNat / 2 ^ (4 * i.toNat) &&& 15 : Nat) : Int) from q_and_n (b := 15) (by decide)]
  rw [show x.toNat / 2 ^ (4 * i.toNat) &&& 15 = x.toNat / 2 ^ (4 * i.toNat) % 16 from Nat.and_two_pow_sub_one_eq_mod _ 4]
  unfold lC
  rw [show (16 : Nat) = 2 ^ 4 from rfl, ← Nat.pow_mul]
theorem lK_r (x : Int) : lK x = 0 ∨ lK x = 1 := by unfold lK; omega
theorem lC_r (x : Int) (i : Nat) : 0 ≤ lC x i ∧ lC x i ≤ 15 := by
  unfold lC
  have := Nat.mod_lt (x.toNat / 16 ^ i) (show 16 > 0 by decide)
  omega
/-- four counts, account, kind and day as one number -/
def pkN (a b c d ac k dy : Nat) : Nat := a + b * 16 + c * 256 + d * 4096 + ac * 65536 + k * 1048576 + dy * 2097152
theorem pk_4 {a b c d : Nat} (ha : a < 10) (hb : b < 10) (hc : c < 10) (hd : d < 10) : q_or (q_or (q_or (a : Int) (q_shl (b : Int) 4)) (q_shl (c : Int) 8)) (q_shl (d : Int) 12) = ((a + b * 16 + c * 256 + d * 4096 : Nat) : Int) := by
  rw [show q_or (a : Int) (q_shl (b : Int) 4) = ((a + b * 2 ^ 4 : Nat) : Int) from q_pk (k := 4) (by omega) (by decide) (by omega), show q_or ((a + b * 2 ^ 4 : Nat) : Int) (q_shl (c : Int) 8) = ((a + b * 2 ^ 4 + c * 2 ^ 8 : Nat) : Int) from q_pk (k := 8) (by omega) (by decide) (by omega)]
  exact q_pk (k := 12) (by omega) (by decide) (by omega)
theorem pk_7 {x ac k dy : Nat} (hx : x < 65536) (ha : ac < 10) (hk : k < 2) (hd : dy < 1000) : q_or (q_or (q_or (x : Int) (q_shl (ac : Int) 16)) (q_shl (k : Int) 20)) (q_shl (dy : Int) 21) = ((x + ac * 65536 + k * 1048576 + dy * 2097152 : Nat) : Int) := by
  rw [show q_or (x : Int) (q_shl (ac : Int) 16) = ((x + ac * 2 ^ 16 : Nat) : Int) from q_pk (k := 16) (by omega) (by decide) (by omega), show q_or ((x + ac * 2 ^ 16 : Nat) : Int) (q_shl (k : Int) 20) = ((x + ac * 2 ^ 16 + k * 2 ^ 20 : Nat) : Int) from q_pk (k := 20) (by omega) (by decide) (by omega)]
  exact q_pk (k := 21) (by omega) (by decide) (by omega)
theorem pk_dec {a b c d ac k dy X : Nat} (ha : a < 16) (hb : b < 16) (hc : c < 16) (hd : d < 16) (hac : ac < 16) (hk : k < 2) (hdy : dy < 1000) (hX : X = a + b * 16 + c * 256 + d * 4096 + ac * 65536 + k * 1048576 + dy * 2097152) : X < 2147483648 ∧ X / 65536 % 16 = ac ∧ X / 1048576 % 2 = k ∧ X / 2097152 = dy ∧ X / 16 ^ 0 % 16 = a ∧ X / 16 ^ 1 % 16 = b ∧ X / 16 ^ 2 % 16 = c ∧ X / 16 ^ 3 % 16 = d := by
  obtain ⟨Y5, h5⟩ : ∃ Y, Y = k + 2 * dy := ⟨_, rfl⟩
  obtain ⟨Y4, h4⟩ : ∃ Y, Y = ac + 16 * Y5 := ⟨_, rfl⟩
  obtain ⟨Y3, h3⟩ : ∃ Y, Y = d + 16 * Y4 := ⟨_, rfl⟩
  obtain ⟨Y2, h2⟩ : ∃ Y, Y = c + 16 * Y3 := ⟨_, rfl⟩
  obtain ⟨Y1, h1⟩ : ∃ Y, Y = b + 16 * Y2 := ⟨_, rfl⟩
  have h0 : X = a + 16 * Y1 := by omega
  have b0 : X < 2147483648 := by omega
  clear hX
  have d1 : X / 16 = Y1 := by clear h1 h2 h3 h4 h5; omega
  have r0 : X % 16 = a := by clear h1 h2 h3 h4 h5; omega
  have d2 : Y1 / 16 = Y2 := by clear h0 h2 h3 h4 h5 d1 r0; omega
  have r1 : Y1 % 16 = b := by clear h0 h2 h3 h4 h5 d1 r0; omega
  have d3 : Y2 / 16 = Y3 := by clear h0 h1 h3 h4 h5 d1 r0 d2 r1; omega
  have r2 : Y2 % 16 = c := by clear h0 h1 h3 h4 h5 d1 r0 d2 r1; omega
  have d4 : Y3 / 16 = Y4 := by clear h0 h1 h2 h4 h5 d1 r0 d2 r1 d3 r2; omega
  have r3 : Y3 % 16 = d := by clear h0 h1 h2 h4 h5 d1 r0 d2 r1 d3 r2; omega
  have d5 : Y4 / 16 = Y5 := by clear h0 h1 h2 h3 h5 d1 r0 d2 r1 d3 r2 d4 r3; omega
  have r4 : Y4 % 16 = ac := by clear h0 h1 h2 h3 h5 d1 r0 d2 r1 d3 r2 d4 r3; omega
  have d6 : Y5 / 2 = dy := by clear h0 h1 h2 h3 h4 d1 r0 d2 r1 d3 r2 d4 r3 d5 r4; omega
  have r5 : Y5 % 2 = k := by clear h0 h1 h2 h3 h4 d1 r0 d2 r1 d3 r2 d4 r3 d5 r4; omega
  have q2 : X / 256 = Y2 := by rw [show 256 = 16 * 16 from rfl, ← Nat.div_div_eq_div_mul, d1, d2]
  have q3 : X / 4096 = Y3 := by rw [show 4096 = 256 * 16 from rfl, ← Nat.div_div_eq_div_mul, q2, d3]
  have q4 : X / 65536 = Y4 := by rw [show 65536 = 4096 * 16 from rfl, ← Nat.div_div_eq_div_mul, q3, d4]
  have q5 : X / 1048576 = Y5 := by rw [show 1048576 = 65536 * 16 from rfl, ← Nat.div_div_eq_div_mul, q4, d5]
  have q6 : X / 2097152 = dy := by rw [show 2097152 = 1048576 * 2 from rfl, ← Nat.div_div_eq_div_mul, q5, d6]
  refine ⟨b0, by rw [q4, r4], by rw [q5, r5], q6, by rw [show 16 ^ 0 = 1 from rfl, Nat.div_one, r0], by rw [show 16 ^ 1 = 16 from rfl, d1, r1], by rw [show 16 ^ 2 = 256 from rfl, q2, r2], by rw [show 16 ^ 3 = 4096 from rfl, q3, r3]⟩
/-- what a packed row says -/
def isRow (x a b c d ac k dy : Int) : Prop := (0 ≤ x ∧ x < 2147483648) ∧ lA x = ac ∧ lK x = k ∧ lD x = dy ∧ lC x 0 = a ∧ lC x 1 = b ∧ lC x 2 = c ∧ lC x 3 = d
theorem pk_row {a b c d ac k dy : Int} (ha : 0 ≤ a ∧ a ≤ 9) (hb : 0 ≤ b ∧ b ≤ 9) (hc : 0 ≤ c ∧ c ≤ 9) (hd : 0 ≤ d ∧ d ≤ 9) (hac : 0 ≤ ac ∧ ac < 10) (hk : 0 ≤ k ∧ k ≤ 1) (hdy : 0 ≤ dy ∧ dy ≤ 999) : isRow (q_or (q_or (q_or (q_or (q_or (q_or a (q_shl b 4)) (q_shl c 8)) (q_shl d 12)) (q_shl ac 16)) (q_shl k 20)) (q_shl dy 21)) a b c d ac k dy := by
  have e1 := pk_4 (a := a.toNat) (b := b.toNat) (c := c.toNat) (d := d.toNat) (by omega) (by omega) (by omega) (by omega)
  rw [q_tn ha.1, q_tn hb.1, q_tn hc.1, q_tn hd.1] at e1
  have e2 := pk_7 (x := a.toNat + b.toNat * 16 + c.toNat * 256 + d.toNat * 4096) (ac := ac.toNat) (k := k.toNat) (dy := dy.toNat) (by omega) (by omega) (by omega) (by omega)
  rw [q_tn hac.1, q_tn hk.1, q_tn hdy.1] at e2
  rw [e1, e2]
  have h := pk_dec (a := a.toNat) (b := b.toNat) (c := c.toNat) (d := d.toNat) (ac := ac.toNat) (k := k.toNat) (dy := dy.toNat) (by omega) (by omega) (by omega) (by omega) (by omega) (by omega) (by omega) rfl
  generalize a.toNat + b.toNat * 16 + c.toNat * 256 + d.toNat * 4096 + ac.toNat * 65536 + k.toNat * 1048576 + dy.toNat * 2097152 = X at h ⊢
  obtain ⟨h0, h1, h2, h3, h4, h5, h6, h7⟩ := h
  have ex : ((X : Int)).toNat = X := by omega
  unfold isRow lA lK lD lC
  rw [ex, h1, h2, h3, h4, h5, h6, h7]
  exact ⟨by omega, by omega, by omega, by omega, by omega, by omega, by omega, by omega⟩
theorem q_pfx_c {f g : Nat → Int} {z : Int} : ∀ n, (∀ k, k < n → f k = g k) → q_pfx f z n = q_pfx g z n
  | 0, _ => rfl
  | n + 1, h => by
    unfold q_pfx
    rw [q_pfx_c n (fun k hk => h k (by omega)), h n (by omega)]
theorem q_pfx_full {f : Nat → Int} {z : Int} : ∀ n, (∀ k, k < n → f k ≤ z) → q_pfx f z n = n
  | 0, _ => rfl
  | n + 1, h => by
    unfold q_pfx
    rw [if_pos ⟨q_pfx_full n (fun k hk => h k (by omega)), h n (by omega)⟩]
theorem q_pfx_app {f g : Nat → Int} {z : Int} {n : Nat} (hg : ∀ k, k < n → g k = f k) (hm : ∀ k, k < n → f k ≤ g n) : q_pfx g z (n + 1) = if g n ≤ z then n + 1 else q_pfx f z n := by
  have e : q_pfx g z n = q_pfx f z n := q_pfx_c n hg
  show (if q_pfx g z n = n ∧ g n ≤ z then n + 1 else q_pfx g z n) = _
  rw [e]
  by_cases h : g n ≤ z
  · rw [if_pos h, if_pos ⟨q_pfx_full n (fun k hk => Int.le_trans (hm k hk) h), h⟩]
  · rw [if_neg h, if_neg (fun q => h q.2)]
/-- rows that are seen by a day -/
def nD (m : qM) (D : Int) : Nat := q_pfx (fun k => lD (m 13 k)) D (m 12 1).toNat
/-- of the first n rows: an account's plain rows, their counts, its last total -/
abbrev isP (m : qM) (a : Int) (k : Nat) : Prop := lA (m 13 k) = a ∧ lK (m 13 k) = 0
abbrev isT (m : qM) (a : Int) (k : Nat) : Prop := lA (m 13 k) = a ∧ lK (m 13 k) = 1
def sP (m : qM) (n : Nat) (a : Int) (i : Nat) : Int := q_sum (fun k => if isP m a k then lC (m 13 k) i else 0) n
def nP (m : qM) (n : Nat) (a : Int) : Nat := q_cnt (isP m a) n
def tL (m : qM) (n : Nat) (a : Int) : Int := q_lst (isT m a) n
def mS (m : qM) (a : Int) (i : Nat) (D : Int) : Int := q_sum (fun j => if m 98 (5 * (6 * a + (j : Int)) + 4).toNat ≤ D then m 98 (5 * (6 * a + (j : Int)) + (i : Int)).toNat else 0) (m 97 a.toNat).toNat
def mN (m : qM) (a D : Int) : Nat := q_cnt (fun j => m 98 (5 * (6 * a + (j : Int)) + 4).toNat ≤ D) (m 97 a.toNat).toNat
def mT (m : qM) (a D : Int) : Int := q_lst (fun t => m 100 (5000 * a + 5 * (t : Int) + 4).toNat ≤ D) (m 99 a.toNat).toNat
/-- rows of the class -/
def rLr (m : qM) : Prop := ((0 ≤ m 12 0 ∧ m 12 0 ≤ 10) ∧ (0 ≤ m 12 1 ∧ m 12 1 ≤ 512) ∧ m 96 0 = m 12 0) ∧ (∀ k : Int, 0 ≤ k → k < m 12 1 → (0 ≤ m 13 k.toNat ∧ m 13 k.toNat < 2147483648) ∧ (0 ≤ lA (m 13 k.toNat) ∧ lA (m 13 k.toNat) < m 12 0) ∧ (∀ i : Nat, i < 4 → lC (m 13 k.toNat) i ≤ 9) ∧ (0 ≤ lD (m 13 k.toNat) ∧ lD (m 13 k.toNat) ≤ m 1 8)) ∧ (∀ j k : Nat, j ≤ k → k < (m 12 1).toNat → lD (m 13 j) ≤ lD (m 13 k)) ∧ ∀ a : Int, m 12 0 ≤ a → a < 10 → m 14 a.toNat = 0
/-- an account of the model, and of both -/
def rLm (m : qM) (a : Int) : Prop := (m 97 a.toNat = m 14 a.toNat ∧ (0 ≤ m 14 a.toNat ∧ m 14 a.toNat ≤ 6)) ∧ (∀ j : Int, 0 ≤ j → j < m 97 a.toNat → (∀ i : Int, 0 ≤ i → i < 4 → 0 ≤ m 98 (5 * (6 * a + j) + i).toNat ∧ m 98 (5 * (6 * a + j) + i).toNat ≤ 9) ∧ 0 ≤ m 98 (5 * (6 * a + j) + 4).toNat ∧ m 98 (5 * (6 * a + j) + 4).toNat ≤ m 1 8) ∧
  ((0 ≤ m 99 a.toNat ∧ m 99 a.toNat ≤ 1000) ∧ ∀ t : Int, 0 ≤ t → t < m 99 a.toNat → (∀ i : Int, 0 ≤ i → i < 4 → 0 ≤ m 100 (5000 * a + 5 * t + i).toNat ∧ m 100 (5000 * a + 5 * t + i).toNat ≤ 9) ∧ (t ≤ m 100 (5000 * a + 5 * t + 4).toNat ∧ m 100 (5000 * a + 5 * t + 4).toNat ≤ m 1 8) ∧ (t + 1 < m 99 a.toNat → m 100 (5000 * a + 5 * t + 4).toNat < m 100 (5000 * a + 5 * (t + 1) + 4).toNat))
def rLe (m : qM) (a : Int) : Prop := (∀ D : Int, (∀ i : Nat, i < 4 → sP m (nD m D) a i = mS m a i D) ∧ nP m (nD m D) a = mN m a D ∧ (tL m (nD m D) a = -1 ↔ mT m a D = -1) ∧ (¬ tL m (nD m D) a = -1 → ∀ i : Nat, i < 4 → lC (m 13 (tL m (nD m D) a).toNat) i = m 100 (5000 * a + 5 * mT m a D + (i : Int)).toNat))
def rL (m : qM) : Prop := rLr m ∧ ∀ a : Int, 0 ≤ a → a < m 12 0 → rLm m a ∧ rLe m a

/-! printed by p14.py: the shapes of all cells behind the two constructors -/
abbrev qU : Type := (Option Nat × Option Nat × Option Nat) × List qS
def qLy (u : qU) : List qS := [
  .inl (11, [.inr (some 1), .inr (some 22), .inr (some 23), .inr (some 24), .inr (some 29), .inr (some 34), .inr (some 39), .inr (some 49), .inr (some 53), .inr (some 56), .inl 2, .inl 2, .inl 2, .inl 2, .inl 2]),
  .inl (9, [.inr (some 2), .inr (some 12), .inr (some 15), .inr (some 21), .inl 0, .inl 0, .inl 0, .inl 0, .inl 0, .inl 0]),
  .inl (1, [.inl 0, .inl 0, .inl 0, .inr (some 3), .inr (some 4), .inr (some 5), .inr (some 6), .inr (some 7), .inr (some 8), .inr (some 9), .inr (some 10), .inr (some 11)]),
  .inr (.inl (0, 300)),
  .inr (.inl (0, 60)),
  .inr (.inl (0, 60)),
  .inr (.inl (0, 60)),
  .inr (.inl (0, 60)),
  .inr (.inl (0, 60)),
  .inr (.inl (0, 150)),
  .inr (.inl (0, 150)),
  .inr (.inl (0, 150)),
  .inl (3, [.inl 0, .inl 0, .inr (some 13), .inr (some 14)]),
  .inr (.inl (0, 512)),
  .inr (.inl (0, 10)),
  .inl (4, [.inl 0, .inr (some 16), .inr (some 17), .inr (some 18), .inl 0, .inr (some 19), .inr (some 20)]),
  .inr (.inl (0, 50)),
  .inr (.inl (0, 5)),
  .inr (.inl (0, 5)),
  .inr (.inl (0, 18)),
  .inr (.inl (0, 18)),
  .inr (.inl (1, 400)),
  .inr (.inr (4, [u.1.1, u.1.2.1, u.1.2.2])),
  .inr (.inl (0, 5)),
  .inl (10, [.inr (some 25), .inr (some 26), .inr (some 27), .inr (some 28)]),
  .inr (.inl (0, 20)),
  .inr (.inl (0, 20)),
  .inr (.inl (0, 20)),
  .inr (.inl (0, 20)),
  .inl (2, [.inr (some 30), .inr (some 31), .inl 2, .inr (some 32), .inr (some 33), .inl 0, .inl 0, .inl 0]),
  .inr (.inl (0, 20)),
  .inr (.inl (0, 20)),
  .inr (.inl (0, 60)),
  .inr (.inl (0, 4)),
  .inl (2, [.inr (some 35), .inr (some 36), .inl 2, .inr (some 37), .inr (some 38), .inl 0, .inl 0, .inl 0]),
  .inr (.inl (0, 20)),
  .inr (.inl (0, 20)),
  .inr (.inl (0, 60)),
  .inr (.inl (0, 4)),
  .inl (8, [.inl 0, .inr (some 40), .inr (some 41), .inr (some 42), .inr (some 43), .inr (some 44), .inl 0, .inr (some 45), .inr (some 46), .inr (some 47), .inr (some 48)]),
  .inr (.inl (0, 40)),
  .inr (.inl (0, 40)),
  .inr (.inl (2, 10)),
  .inr (.inl (2, 10)),
  .inr (.inl (0, 10)),
  .inr (.inl (2, 10)),
  .inr (.inl (0, 3)),
  .inr (.inl (0, 3)),
  .inr (.inl (0, 3)),
  .inl (5, [.inl 0, .inr (some 50), .inr (some 51), .inr (some 52), .inl 0, .inl 0, .inl 0, .inl 0, .inl 0, .inl 0, .inl 0]),
  .inr (.inl (0, 18)),
  .inr (.inl (0, 18)),
  .inr (.inl (1, 400)),
  .inl (7, [.inr (some 54), .inr (some 55), .inl 0]),
  .inr (.inl (0, 50)),
  .inr (.inl (0, 5)),
  .inl (6, [.inl 0, .inl 0, .inl 0, .inr (some 57), .inr (some 58), .inl 0, .inr (some 59), .inr (some 68), .inr (some 69), .inr (some 70), .inl 0, .inr (some 71), .inr (some 72), .inr (some 73), .inl 0, .inl 0, .inr (some 74), .inr (some 75), .inr (some 76), .inl 0]),
  .inr (.inl (0, 5)),
  .inr (.inl (0, 20)),
  .inl (0, [.inr (some 60), .inr (some 61), .inr (some 62), .inr (some 63), .inr (some 64), .inr (some 65), .inr (some 66), .inr (some 67)]),
  .inr (.inl (0, 20)),
  .inr (.inl (0, 28)),
  .inr (.inl (0, 20)),
  .inr (.inl (0, 20)),
  .inr (.inl (0, 20)),
  .inr (.inl (0, 20)),
  .inr (.inl (0, 20)),
  .inr (.inl (0, 20)),
  .inr (.inl (0, 12)),
  .inr (.inl (0, 60)),
  .inr (.inl (0, 12)),
  .inr (.inl (0, 5)),
  .inr (.inl (0, 25)),
  .inr (.inl (0, 5)),
  .inr (.inl (0, 60)),
  .inr (.inl (0, 20)),
  .inr (.inl (0, 20)),
  .inl (12, [.inl 0, .inr (some 78), .inr (some 79), .inr (some 80), .inr (some 81), .inr (some 82), .inr (some 83), .inr (some 84), .inr (some 85), .inr (some 86), .inr (some 87), .inr (some 88), .inr (some 89), .inr (some 90), .inr (some 91), .inr (some 92), .inr (some 93), .inr (some 94), .inr (some 95), .inr (some 96), .inr (some 97), .inr (some 98), .inr (some 99), .inr (some 100), .inr (some 101), .inr (some 102), .inr (some 103), .inr (some 104), .inr (some 105), .inr (some 106), .inr (some 107), .inr (some 108), .inr (some 109), .inr (some 110), .inr (some 111), .inl 0, .inl 0, .inr (some 112), .inr (some 113), .inr (some 114), .inr (some 115), .inl 0, .inl 0, .inl 0, .inl 0, .inl 0, .inl 1, .inl 0, .inl 0, .inl 0, .inl 0, .inr (some 116), .inr (some 117), .inr (some 118), .inl 0, .inr (some 119), .inl 0, .inr (some 120), .inr (some 121), .inr (some 122), .inl 2, .inl 0, .inr (some 123), .inr (some 124)]),
  .inr (.inl (1, 1600)),
  .inr (.inl (0, 4)),
  .inr (.inl (0, 4)),
  .inr (.inl (0, 4)),
  .inr (.inl (0, 4)),
  .inr (.inl (0, 4)),
  .inr (.inl (0, 4)),
  .inr (.inl (0, 4)),
  .inr (.inl (0, 4)),
  .inr (.inl (0, 1200)),
  .inr (.inl (0, 240)),
  .inr (.inl (0, 240)),
  .inr (.inl (0, 240)),
  .inr (.inl (2, 240)),
  .inr (.inl (0, 4)),
  .inr (.inl (0, 600)),
  .inr (.inl (0, 600)),
  .inr (.inl (0, 600)),
  .inr (.inl (0, 4)),
  .inr (.inl (0, 40)),
  .inr (.inl (0, 1200)),
  .inr (.inl (0, 40)),
  .inr (.inl (3, 200000)),
  .inr (.inl (0, 4)),
  .inr (.inl (0, 20)),
  .inr (.inl (0, 20)),
  .inr (.inl (1, 200)),
  .inr (.inl (0, 4)),
  .inr (.inl (0, 256)),
  .inr (.inl (0, 5)),
  .inr (.inl (0, 60)),
  .inr (.inl (2, 60)),
  .inr (.inl (0, 20)),
  .inr (.inl (0, 20)),
  .inr (.inl (0, 20)),
  .inr (.inl (0, 20)),
  .inr (.inl (0, 40)),
  .inr (.inl (2, 10)),
  .inr (.inl (0, 68)),
  .inr (.inl (0, 50)),
  .inr (.inl (0, 5)),
  .inr (.inl (0, 5)),
  .inr (.inl (0, 12)),
  .inr (.inl (0, 5)),
  .inr (.inl (0, 20)),
  .inr (.inl (0, 72)),
  .inr (.inl (2, 3))] ++ u.2
abbrev qr (x : Int) : Prop := -2147483648 ≤ x ∧ x ≤ 2147483647
/-- how long the row is whose entries are at most z, from 0 on, among the first n -/
def q_pfx (f : Nat → Int) (z : Int) : Nat → Nat
  | 0 => 0
  | n + 1 => if q_pfx f z n = n ∧ f n ≤ z then n + 1 else q_pfx f z n
theorem q_pfx_le (f : Nat → Int) (z : Int) : ∀ n, q_pfx f z n ≤ n
  | 0 => Nat.le_refl 0
  | n + 1 => by
    have := q_pfx_le f z n
    unfold q_pfx
    split <;> omega
theorem q_pfx_stop {f : Nat → Int} {z : Int} {i : Nat} (h : q_pfx f z i = i) (hz : ¬ f i ≤ z) : ∀ n, i ≤ n → q_pfx f z n = i
  | 0, hn => by have : i = 0 := by omega
                subst this; rfl
  | n + 1, hn => by
    by_cases e : i = n + 1
    · subst e; exact h
    · have ih := q_pfx_stop h hz n (by omega)
      unfold q_pfx
      rw [if_neg ?_, ih]
      rintro ⟨g1, g2⟩
      rw [ih] at g1
      subst g1
      exact hz g2
theorem q_pfx_go {f : Nat → Int} {z : Int} {i : Nat} (h : q_pfx f z i = i) (hz : f i ≤ z) : q_pfx f z (i + 1) = i + 1 := by
  unfold q_pfx; rw [if_pos ⟨h, hz⟩]
/-- how many k below n have p -/
def q_cnt (p : Nat → Prop) [DecidablePred p] : Nat → Nat
  | 0 => 0
  | n + 1 => q_cnt p n + if p n then 1 else 0
/-- the least k below n that has p; -1 if there is none -/
def q_fst (p : Nat → Prop) [DecidablePred p] : Nat → Int
  | 0 => -1
  | n + 1 => if q_fst p n = -1 ∧ p n then (n : Int) else q_fst p n
/-- the last k below n that has p; -1 if there is none -/
def q_lst (p : Nat → Prop) [DecidablePred p] : Nat → Int
  | 0 => -1
  | n + 1 => if p n then (n : Int) else q_lst p n
def q_sum (f : Nat → Int) : Nat → Int
  | 0 => 0
  | n + 1 => q_sum f n + f n
theorem q_cnt_le (p : Nat → Prop) [DecidablePred p] : ∀ n, q_cnt p n ≤ n
  | 0 => Nat.le_refl 0
  | n + 1 => by have := q_cnt_le p n; unfold q_cnt; split <;> omega
theorem q_cnt_mono (p : Nat → Prop) [DecidablePred p] {a : Nat} : ∀ b, a ≤ b → q_cnt p a ≤ q_cnt p b
  | 0, h => by have : a = 0 := by omega
               subst this; exact Nat.le_refl _
  | b + 1, h => by
    by_cases e : a = b + 1
    · subst e; exact Nat.le_refl _
    · have := q_cnt_mono p (a := a) b (by omega)
      show _ ≤ q_cnt p b + _
      omega
theorem q_fst_r (p : Nat → Prop) [DecidablePred p] : ∀ n, -1 ≤ q_fst p n ∧ q_fst p n < n
  | 0 => by constructor <;> simp [q_fst]
  | n + 1 => by
    have := q_fst_r p n
    unfold q_fst
    split <;> constructor <;> omega
theorem q_fst_0 (p : Nat → Prop) [DecidablePred p] : ∀ n, q_fst p n = -1 ↔ q_cnt p n = 0
  | 0 => by simp [q_fst, q_cnt]
  | n + 1 => by
    have ih := q_fst_0 p n
    have hr := q_fst_r p n
    unfold q_fst q_cnt
    by_cases hp : p n
    · by_cases h1 : q_fst p n = -1
      · rw [if_pos ⟨h1, hp⟩, if_pos hp]; constructor <;> intro g <;> omega
      · rw [if_neg (fun z => h1 z.1), if_pos hp]; constructor <;> intro g <;> omega
    · rw [if_neg (fun z => hp z.2), if_neg hp]; simpa using ih
theorem q_cnt_c {p q : Nat → Prop} [DecidablePred p] [DecidablePred q] : ∀ n, (∀ k, k < n → (p k ↔ q k)) → q_cnt p n = q_cnt q n
  | 0, _ => rfl
  | n + 1, h => by
    have ih := q_cnt_c n (fun k hk => h k (by omega))
    have := h n (by omega)
    unfold q_cnt
    rw [ih]
    by_cases hp : p n
    · rw [if_pos hp, if_pos (this.mp hp)]
    · rw [if_neg hp, if_neg (fun z => hp (this.mpr z))]
theorem q_cnt_s {p : Nat → Prop} [DecidablePred p] {i : Int} (h : 0 ≤ i) : q_cnt p (i + 1).toNat = q_cnt p i.toNat + if p i.toNat then 1 else 0 := by
  rw [show (i + 1).toNat = i.toNat + 1 by omega]; rfl
theorem q_fst_s {p : Nat → Prop} [DecidablePred p] {i : Int} (h : 0 ≤ i) : q_fst p (i + 1).toNat = if q_fst p i.toNat = -1 ∧ p i.toNat then i else q_fst p i.toNat := by
  rw [show (i + 1).toNat = i.toNat + 1 by omega]
  show (if _ ∧ _ then ((i.toNat : Nat) : Int) else _) = _
  rw [show ((i.toNat : Nat) : Int) = i by omega]
theorem q_lst_s {p : Nat → Prop} [DecidablePred p] {i : Int} (h : 0 ≤ i) : q_lst p (i + 1).toNat = if p i.toNat then i else q_lst p i.toNat := by
  rw [show (i + 1).toNat = i.toNat + 1 by omega]
  show (if _ then ((i.toNat : Nat) : Int) else _) = _
  rw [show ((i.toNat : Nat) : Int) = i by omega]
theorem q_sum_s {f : Nat → Int} {i : Int} (h : 0 ≤ i) : q_sum f (i + 1).toNat = q_sum f i.toNat + f i.toNat := by
  rw [show (i + 1).toNat = i.toNat + 1 by omega]; rfl

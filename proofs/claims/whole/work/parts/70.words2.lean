/-! printed by p70.py: longs compared; a word of the model is a word of the class -/
theorem lcmp_r {x y : Int} (hx : 0 ≤ x ∧ x < 9223372036854775808) (hy : 0 ≤ y ∧ y < 9223372036854775808) : q_lcmp x y = if y < x then 1 else if x = y then 0 else -1 := by
  have ex : (Int64.ofInt x).toInt = x := Int64.toInt_ofInt_of_le (by omega) (by omega)
  have ey : (Int64.ofInt y).toInt = y := Int64.toInt_ofInt_of_le (by omega) (by omega)
  unfold q_lcmp lg_cmp
  by_cases q : y < x
  · rw [if_pos (Int64.lt_iff_toInt_lt.mpr (by rw [ex, ey]; exact q)), if_pos q]; rfl
  · rw [if_neg (fun z => q (by have := Int64.lt_iff_toInt_lt.mp z; rw [ex, ey] at this; exact this)), if_neg q]
    by_cases w : x = y
    · subst w
      rw [if_pos rfl, if_pos rfl]; rfl
    · rw [if_neg w]
      rw [if_neg (fun z => w (by have := congrArg Int64.toInt z; rw [ex, ey] at this; exact this))]
      rfl
/-- digits as a number -/
def df (a : Nat → Int) : Nat → Int
  | 0 => 0
  | k + 1 => df a k * 256 + a k
theorem df_0 {a : Nat → Int} : ∀ k, (∀ j, j < k → 1 ≤ a j ∧ a j ≤ 127) → 0 ≤ df a k ∧ (0 < k → 0 < df a k)
  | 0, _ => ⟨Int.le_refl 0, fun z => absurd z (Nat.not_lt_zero 0)⟩
  | k + 1, h => by
    have ih := df_0 k (fun j hj => h j (by omega))
    have := h k (by omega)
    show 0 ≤ df a k * 256 + a k ∧ (_ → 0 < df a k * 256 + a k)
    exact ⟨by omega, fun _ => by omega⟩
theorem df_inj {a b : Nat → Int} : ∀ k n, (∀ j, j < k → 1 ≤ a j ∧ a j ≤ 127) → (∀ j, j < n → 1 ≤ b j ∧ b j ≤ 127) → (df a k = df b n ↔ k = n ∧ ∀ j, j < k → a j = b j)
  | 0, 0, _, _ => ⟨fun _ => ⟨rfl, fun j hj => absurd hj (Nat.not_lt_zero j)⟩, fun _ => rfl⟩
  | 0, n + 1, _, hb => ⟨fun z => by
      have := (df_0 (n + 1) hb).2 (by omega)
      have z2 : (0 : Int) = df b (n + 1) := z
      omega, fun z => absurd z.1 (by omega)⟩
  | k + 1, 0, ha, _ => ⟨fun z => by
      have := (df_0 (k + 1) ha).2 (by omega)
      have z2 : df a (k + 1) = (0 : Int) := z
      omega, fun z => absurd z.1 (by omega)⟩
  | k + 1, n + 1, ha, hb => by
    have ih := df_inj (a := a) (b := b) k n (fun j hj => ha j (by omega)) (fun j hj => hb j (by omega))
    have h1 := ha k (by omega)
    have h2 := hb n (by omega)
    have d1 := (df_0 k (fun j hj => ha j (by omega))).1
    have d2 := (df_0 n (fun j hj => hb j (by omega))).1
    show df a k * 256 + a k = df b n * 256 + b n ↔ _
    constructor
    · intro z
      have e1 : df a k = df b n := by omega
      have e2 : a k = b n := by omega
      obtain ⟨i1, i2⟩ := ih.mp e1
      subst i1
      refine ⟨rfl, fun j hj => ?_⟩
      by_cases q : j = k
      · subst q; exact e2
      · exact i2 j (by omega)
    · rintro ⟨z1, z2⟩
      have z3 : k = n := by omega
      subst z3
      rw [ih.mpr ⟨rfl, fun j hj => z2 j (by omega)⟩, z2 k (by omega)]
/-- the greatest, by the number of digits -/
def dB : Nat → Int
  | 0 => 1
  | k + 1 => dB k * 256
theorem df_b {a : Nat → Int} : ∀ k, (∀ j, j < k → 1 ≤ a j ∧ a j ≤ 127) → 2 * df a k + 1 ≤ dB k
  | 0, _ => by show 2 * (0 : Int) + 1 ≤ 1; omega
  | k + 1, h => by
    have ih := df_b k (fun j hj => h j (by omega))
    have := h k (by omega)
    show 2 * (df a k * 256 + a k) + 1 ≤ dB k * 256
    omega
theorem dB_7 : ∀ k : Fin 8, dB k.val ≤ 72057594037927936 := by decide
theorem wf_df {t : Nat → Int} {L s : Int} : ∀ k, k ≤ 8 → (∀ j : Nat, j < k → 1 ≤ sB t L (s + (j : Int)) ∧ sB t L (s + (j : Int)) ≤ 127) → wf t L s k = df (fun j => sB t L (s + (j : Int))) k
  | 0, _, _ => rfl
  | k + 1, hk, h => by
    have ih := wf_df (t := t) (L := L) (s := s) k (by omega) (fun j hj => h j (by omega))
    have d0 := (df_0 (a := fun j => sB t L (s + (j : Int))) k (fun j hj => h j (by omega))).1
    have d1 := df_b (a := fun j => sB t L (s + (j : Int))) k (fun j hj => h j (by omega))
    have d2 := dB_7 ⟨k, by omega⟩
    have d3 : dB k ≤ 72057594037927936 := d2
    have hb := h k (by omega)
    rw [wf_s (by rw [ih]; omega) (by omega), ih]
    rfl

/-! printed by p95.py: the readings that are left; pure -/
theorem lvT_fu {D : qD} {G : (Nat → Int) → List (Nat → Int)} {l : Nat} {ch : Nat → Int} {c : Int} : ∀ n i, lvT D G l (q_fu ch l c) n i = lvT D G l ch n i
  | 0, _ => rfl
  | n + 1, i => by
    show ftI D G l (q_fu (q_fu ch l c) l (i : Int)) ++ lvT D G l (q_fu ch l c) n (i + 1) = ftI D G l (q_fu ch l (i : Int)) ++ lvT D G l ch n (i + 1)
    rw [fu_fu, lvT_fu n (i + 1)]
/-- what is left at a level behind its word -/
noncomputable def lvA (D : qD) (N : Nat) (ch : Nat → Int) (p : Nat) : List (Nat → Int) := lvT D (LV D (N - p - 1) (p + 1)) p ch ((dK D).toNat - (ch p + 1).toNat) (ch p + 1).toNat
noncomputable def rem (D : qD) (N : Nat) : (Nat → Int) → Nat → List (Nat → Int)
  | ch, 0 => lvA D N ch 0
  | ch, p + 1 => lvA D N ch (p + 1) ++ rem D N (q_fu ch (p + 1) (-1)) p
/-- the rest below a level -/
noncomputable def rlw (D : qD) (N : Nat) (ch : Nat → Int) : Nat → List (Nat → Int)
  | 0 => []
  | p + 1 => rem D N (q_fu ch (p + 1) (-1)) p
theorem rem_e {D : qD} {N : Nat} {ch : Nat → Int} : ∀ p, rem D N ch p = lvA D N ch p ++ rlw D N ch p
  | 0 => by unfold rem rlw; rw [List.append_nil]
  | p + 1 => rfl
theorem rlw_fu {D : qD} {N : Nat} {ch : Nat → Int} {c : Int} : ∀ p, rlw D N (q_fu ch p c) p = rlw D N ch p
  | 0 => rfl
  | p + 1 => by
    show rem D N (q_fu (q_fu ch (p + 1) c) (p + 1) (-1)) p = rem D N (q_fu ch (p + 1) (-1)) p
    rw [fu_fu]
theorem lvA_end {D : qD} {N : Nat} {ch : Nat → Int} {p : Nat} (h : ch p + 1 = dK D) : lvA D N ch p = [] := by
  unfold lvA
  rw [show (dK D).toNat - (ch p + 1).toNat = 0 by omega]
  rfl
theorem lvA_s {D : qD} {N : Nat} {ch : Nat → Int} {p : Nat} (h0 : -1 ≤ ch p) (h : ch p + 1 < dK D) : lvA D N ch p = ftI D (LV D (N - p - 1) (p + 1)) p (q_fu ch p (ch p + 1)) ++ lvA D N (q_fu ch p (ch p + 1)) p := by
  have e : lvA D N ch p = lvT D (LV D (N - p - 1) (p + 1)) p ch (((dK D).toNat - ((ch p + 1).toNat + 1)) + 1) (ch p + 1).toNat := by
    unfold lvA
    rw [show (dK D).toNat - (ch p + 1).toNat = ((dK D).toNat - ((ch p + 1).toNat + 1)) + 1 by omega]
  rw [e]
  show ftI D _ p (q_fu ch p (((ch p + 1).toNat : Nat) : Int)) ++ lvT D _ p ch _ _ = _
  rw [q_tn (show 0 ≤ ch p + 1 by omega)]
  unfold lvA
  rw [lvT_fu, q_fu_eq, show (ch p + 1 + 1).toNat = (ch p + 1).toNat + 1 by omega]
/-- all words are tried -/
theorem rem_end {D : qD} {N : Nat} {ch : Nat → Int} {p : Nat} (h : ch p + 1 = dK D) : rem D N ch p = rlw D N ch p := by
  rw [rem_e, lvA_end h]; rfl
theorem rem_no {D : qD} {N : Nat} {ch : Nat → Int} {p : Nat} (h0 : -1 ≤ ch p) (h : ch p + 1 < dK D) (hn : ¬ ftL D (q_fu ch p (ch p + 1)) p) : rem D N ch p = rem D N (q_fu ch p (ch p + 1)) p := by
  rw [rem_e, rem_e, lvA_s h0 h, ftI_n hn, rlw_fu]; rfl
theorem rem_in {D : qD} {N : Nat} {ch : Nat → Int} {p : Nat} (h0 : -1 ≤ ch p) (h : ch p + 1 < dK D) (hf : ftL D (q_fu ch p (ch p + 1)) p) (hN : p + 1 < N) (hc : ch (p + 1) = -1) : rem D N ch p = rem D N (q_fu ch p (ch p + 1)) (p + 1) := by
  have e1 : lvA D N (q_fu ch p (ch p + 1)) (p + 1) = LV D (N - p - 1) (p + 1) (q_fu ch p (ch p + 1)) := by
    have z : q_fu ch p (ch p + 1) (p + 1) = -1 := (q_fu_ne (by omega)).trans hc
    unfold lvA
    rw [z, show N - p - 1 = (N - (p + 1) - 1) + 1 by omega]
    show lvT D _ (p + 1) _ ((dK D).toNat - (-1 + 1 : Int).toNat) (-1 + 1 : Int).toNat = lvF D _ (p + 1) _ (dK D).toNat
    rw [show (-1 + 1 : Int).toNat = 0 from rfl, Nat.sub_zero]
    have := lvFT (D := D) (G := LV D (N - (p + 1) - 1) (p + 1 + 1)) (l := p + 1) (ch := q_fu ch p (ch p + 1)) (dK D).toNat 0
    rw [Nat.zero_add] at this
    rw [this]
    rfl
  rw [rem_e, lvA_s h0 h, ftI_y hf, ← rlw_fu (c := ch p + 1), List.append_assoc, ← rem_e]
  show _ = lvA D N _ (p + 1) ++ rem D N (q_fu (q_fu ch p (ch p + 1)) (p + 1) (-1)) p
  rw [e1, fu_self ((q_fu_ne (by omega)).trans hc)]
theorem rem_hit {D : qD} {N : Nat} {ch : Nat → Int} {p : Nat} (h0 : -1 ≤ ch p) (h : ch p + 1 < dK D) (hf : ftL D (q_fu ch p (ch p + 1)) p) (hN : p + 1 = N) : rem D N ch p = q_fu ch p (ch p + 1) :: rem D N (q_fu ch p (ch p + 1)) p := by
  rw [rem_e, lvA_s h0 h, ftI_y hf, ← rlw_fu (c := ch p + 1), List.append_assoc, ← rem_e, show N - p - 1 = 0 by omega]
  rfl
theorem rem_0 {D : qD} {N : Nat} (hN : 1 ≤ N) : rem D N (fun _ => -1) 0 = LV D N 0 (fun _ => -1) := by
  obtain ⟨k, rfl⟩ : ∃ k, N = k + 1 := ⟨N - 1, by omega⟩
  show lvT D (LV D (k + 1 - 0 - 1) (0 + 1)) 0 (fun _ => -1) ((dK D).toNat - (-1 + 1 : Int).toNat) (-1 + 1 : Int).toNat = lvF D (LV D k (0 + 1)) 0 (fun _ => -1) (dK D).toNat
  rw [show k + 1 - 0 - 1 = k by omega, show (-1 + 1 : Int).toNat = 0 from rfl, Nat.sub_zero]
  have := lvFT (D := D) (G := LV D k (0 + 1)) (l := 0) (ch := fun _ => -1) (dK D).toNat 0
  rw [show 0 + (dK D).toNat = (dK D).toNat by omega] at this
  exact Eq.symm this
/-- how long the walk may still be -/
def wz (p : Nat) : Nat := 14 ^ (5 - p)
def mz (K : Int) (ch : Nat → Int) : Nat → Nat
  | 0 => (K - ch 0).toNat * wz 0
  | p + 1 => (K - ch (p + 1)).toNat * wz (p + 1) + mz K ch p
def mlw (K : Int) (ch : Nat → Int) : Nat → Nat
  | 0 => 0
  | p + 1 => mz K ch p
theorem mz_e {K : Int} {ch : Nat → Int} : ∀ p, mz K ch p = (K - ch p).toNat * wz p + mlw K ch p
  | 0 => by
    show (K - ch 0).toNat * wz 0 = (K - ch 0).toNat * wz 0 + 0
    rw [Nat.add_zero]
  | p + 1 => rfl
theorem mz_c {K : Int} {ch ch' : Nat → Int} : ∀ p, (∀ i, i ≤ p → ch i = ch' i) → mz K ch p = mz K ch' p
  | 0, h => by unfold mz; rw [h 0 (Nat.le_refl 0)]
  | p + 1, h => by unfold mz; rw [h (p + 1) (Nat.le_refl _), mz_c p (fun i hi => h i (by omega))]
theorem mlw_c {K : Int} {ch ch' : Nat → Int} : ∀ p, (∀ i, i < p → ch i = ch' i) → mlw K ch p = mlw K ch' p
  | 0, _ => rfl
  | p + 1, h => mz_c p (fun i hi => h i (by omega))
theorem wz_p (p : Nat) : 0 < wz p := Nat.pow_pos (by decide)
theorem wz_s {p : Nat} (h : p < 5) : wz p = 14 * wz (p + 1) := by
  unfold wz
  rw [show 5 - p = (5 - (p + 1)) + 1 by omega, Nat.pow_succ, Nat.mul_comm]
theorem mz_end {K : Int} {ch : Nat → Int} {p : Nat} (h : ch p < K) : mlw K (q_fu ch p (-1)) p < mz K ch p := by
  rw [mz_e, mlw_c (ch' := ch) p (fun i hi => q_fu_ne (by omega))]
  have a := wz_p p
  have b : 1 * wz p ≤ (K - ch p).toNat * wz p := Nat.mul_le_mul_right _ (by omega)
  omega
theorem mz_st {K : Int} {ch : Nat → Int} {p : Nat} (h : ch p < K) : mz K (q_fu ch p (ch p + 1)) p + wz p = mz K ch p := by
  rw [mz_e, mz_e, mlw_c (ch := q_fu ch p (ch p + 1)) (ch' := ch) p (fun i hi => q_fu_ne (by omega)), q_fu_eq]
  have e : (K - ch p).toNat = (K - (ch p + 1)).toNat + 1 := by omega
  rw [e, Nat.add_mul, Nat.one_mul]
  omega
theorem mz_in {K : Int} {ch : Nat → Int} {p : Nat} (h : ch p < K) (hK : 0 ≤ K ∧ K ≤ 12) (hp : p < 5) (hc : ch (p + 1) = -1) : mz K (q_fu ch p (ch p + 1)) (p + 1) < mz K ch p := by
  have s := mz_st h
  have w := wz_s hp
  have q := wz_p (p + 1)
  show (K - q_fu ch p (ch p + 1) (p + 1)).toNat * wz (p + 1) + mz K (q_fu ch p (ch p + 1)) p < _
  rw [q_fu_ne (by omega), hc]
  have b : (K - -1).toNat * wz (p + 1) ≤ 13 * wz (p + 1) := Nat.mul_le_mul_right _ (by omega)
  omega

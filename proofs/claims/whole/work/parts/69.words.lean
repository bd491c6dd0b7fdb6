/-! printed by p69.py: a word of the model as a number -/
theorem bv_shl {x : Int} (hx : 0 ≤ x ∧ x < 36028797018963968) : (BitVec.ofInt 64 x <<< (8#64)).toNat = x.toNat * 256 := by
  rw [BitVec.shiftLeft_eq', BitVec.toNat_shiftLeft, BitVec.toNat_ofInt, Nat.shiftLeft_eq]
  have e : (8#64).toNat = 8 := rfl
  rw [e]
  omega
theorem lshl8 {x : Int} (hx : 0 ≤ x ∧ x < 36028797018963968) : q_lshl x 8 = x * 256 := by
  unfold q_lshl
  rw [show ((Int32.ofInt 8).toInt64 &&& 63) = (8 : Int64) from by decide]
  show ((Int64.ofInt x <<< (8 : Int64)).toBitVec).toInt = _
  rw [Int64.toBitVec_shiftLeft, show ((8 : Int64).toBitVec.smod 64) = 8#64 from by decide]
  have e := bv_shl hx
  have e2 : (Int64.ofInt x).toBitVec = BitVec.ofInt 64 x := rfl
  rw [e2, BitVec.toInt_eq_toNat_of_lt (by rw [e]; omega), e]
  omega
theorem lor8 {x b : Int} (hx : 0 ≤ x ∧ x < 36028797018963968) (hb : 0 ≤ b ∧ b < 256) : q_lor (x * 256) b = x * 256 + b := by
  unfold q_lor
  show ((Int64.ofInt (x * 256) ||| Int64.ofInt b).toBitVec).toInt = _
  rw [Int64.toBitVec_or]
  have e1 : (Int64.ofInt (x * 256)).toBitVec = BitVec.ofInt 64 (x * 256) := rfl
  have e2 : (Int64.ofInt b).toBitVec = BitVec.ofInt 64 b := rfl
  have n1 : (BitVec.ofInt 64 (x * 256)).toNat = x.toNat <<< 8 := by rw [BitVec.toNat_ofInt, Nat.shiftLeft_eq]; omega
  have n2 : (BitVec.ofInt 64 b).toNat = b.toNat := by rw [BitVec.toNat_ofInt]; omega
  have n3 : ((Int64.ofInt (x * 256)).toBitVec ||| (Int64.ofInt b).toBitVec).toNat = x.toNat * 256 + b.toNat := by
    rw [e1, e2, BitVec.toNat_or, n1, n2, ← Nat.shiftLeft_add_eq_or_of_lt (by omega), Nat.shiftLeft_eq]
  rw [BitVec.toInt_eq_toNat_of_lt (by rw [n3]; omega), n3]
  omega
theorem i2lF : ∀ x : Fin 256, q_i2l (x.val : Int) = (x.val : Int) := by decide +kernel
theorem i2l_b {b : Int} (hb : 0 ≤ b ∧ b < 256) : q_i2l b = b := by
  have := i2lF ⟨b.toNat, by omega⟩
  have e : ((b.toNat : Nat) : Int) = b := by omega
  rw [show (((⟨b.toNat, by omega⟩ : Fin 256).val : Int)) = b from e] at this
  exact this
theorem wf_s {t : Nat → Int} {L s : Int} {k : Nat} (hx : 0 ≤ wf t L s k ∧ wf t L s k < 36028797018963968) (hb : 0 ≤ sB t L (s + (k : Int)) ∧ sB t L (s + (k : Int)) < 256) : wf t L s (k + 1) = wf t L s k * 256 + sB t L (s + (k : Int)) := by
  show q_lor (q_lshl (wf t L s k) 8) (q_i2l (sB t L (s + (k : Int)))) = _
  rw [lshl8 hx, i2l_b hb, lor8 hx hb]

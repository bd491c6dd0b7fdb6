/-! printed by p48.py: the tape -/
theorem i8_eq {A B : Int32} (h : ∀ i, i < 8 → A.toBitVec.getLsbD i = B.toBitVec.getLsbD i) : A.toInt8 = B.toInt8 := by
  apply Int8.toBitVec_inj.mp
  show A.toBitVec.signExtend 8 = B.toBitVec.signExtend 8
  apply BitVec.eq_of_getLsbD_eq
  intro i hi
  rw [BitVec.getLsbD_signExtend, BitVec.getLsbD_signExtend, if_pos (by omega), if_pos (by omega), h i hi]
theorem sh_lo {x : Int32} {n : Nat} (hn : n ≤ 24) : ∀ i, i < 8 → ((x.toUInt32 >>> ((Int32.ofInt (n : Int)).toUInt32 &&& Int32.toUInt32 31)).toInt32).toBitVec.getLsbD i = (x >>> (Int32.ofInt (n : Int) &&& 31)).toBitVec.getLsbD i := by
  intro i hi
  have e1 : ((x.toUInt32 >>> ((Int32.ofInt (n : Int)).toUInt32 &&& Int32.toUInt32 31)).toInt32).toBitVec.getLsbD i = x.toBitVec.getLsbD (n + i) := by
    show (x.toUInt32 >>> ((Int32.ofInt (n : Int)).toUInt32 &&& Int32.toUInt32 31)).toBitVec.getLsbD i = x.toUInt32.toBitVec.getLsbD (n + i)
    rw [UInt32.toBitVec_shiftRight]
    show (x.toUInt32.toBitVec >>> (((Int32.ofInt (n : Int)).toUInt32 &&& Int32.toUInt32 31).toBitVec % 32).toNat).getLsbD i = _
    rw [q_su n (by omega), BitVec.getLsbD_ushiftRight]
  have e2 : (x >>> (Int32.ofInt (n : Int) &&& 31)).toBitVec.getLsbD i = x.toBitVec.getLsbD (n + i) := by
    rw [Int32.toBitVec_shiftRight]
    show (x.toBitVec.sshiftRight ((Int32.ofInt (n : Int) &&& 31).toBitVec.smod 32).toNat).getLsbD i = _
    rw [q_sl n (by omega), BitVec.getLsbD_sshiftRight]
    simp [show i < 32 by omega, show n + i < 32 by omega]
  rw [e1, e2]
theorem by_eq {v : Int} {n : Nat} (hn : n ≤ 24) : q_i2b (q_ushr v (n : Int)) = q_i2b (q_shr v (n : Int)) := by
  unfold q_i2b q_ushr q_shr
  rw [q_i32, q_i32, i8_eq (sh_lo hn)]
/-- a byte of a number, as both sides put it on the tape -/
def byB (v : Int) (n : Nat) : Int := q_nar 1 (q_i2b (q_shr v (n : Int)))
theorem by_24 (v : Int) : q_nar 1 (q_i2b (q_ushr v 24)) = byB v 24 := by unfold byB; rw [← by_eq (n := 24) (by omega)]; rfl
theorem by_16 (v : Int) : q_nar 1 (q_i2b (q_ushr v 16)) = byB v 16 := by unfold byB; rw [← by_eq (n := 16) (by omega)]; rfl
theorem by_8 (v : Int) : q_nar 1 (q_i2b (q_ushr v 8)) = byB v 8 := by unfold byB; rw [← by_eq (n := 8) (by omega)]; rfl
theorem by_0 (v : Int) : q_nar 1 (q_i2b (q_ushr v 0)) = byB v 0 := by unfold byB; rw [← by_eq (n := 0) (by omega)]; rfl
theorem nar1_r (x : Int) : -128 ≤ q_nar 1 x ∧ q_nar 1 x ≤ 127 := by
  show -128 ≤ (vp_nar .byte (Int32.ofInt x)).toInt ∧ (vp_nar .byte (Int32.ofInt x)).toInt ≤ 127
  have e : (vp_nar .byte (Int32.ofInt x)).toInt = (Int32.ofInt x).toInt8.toInt := by
    show ((Int32.ofInt x).toInt8.toInt32).toInt = _
    simp
  rw [e]
  have h1 := Int8.le_toInt (Int32.ofInt x).toInt8
  have h2 := Int8.toInt_lt (Int32.ofInt x).toInt8
  omega
def fu4 (f : Nat → Int) (L v : Int) : Nat → Int := q_fu (q_fu (q_fu (q_fu f L.toNat (byB v 24)) (L + 1).toNat (byB v 16)) (L + 1 + 1).toNat (byB v 8)) (L + 1 + 1 + 1).toNat (byB v 0)
theorem fu4_out {f : Nat → Int} {L v : Int} {j : Nat} (h0 : 0 ≤ L) (hj : (j : Int) < L ∨ L + 4 ≤ (j : Int)) : fu4 f L v j = f j := by
  unfold fu4
  rw [q_fu_ne (by omega), q_fu_ne (by omega), q_fu_ne (by omega), q_fu_ne (by omega)]
/-- the tape behind four more bytes says the same for two rows that said the same -/
theorem fu4_eq {f g : Nat → Int} {L v : Int} (h0 : 0 ≤ L) (h : ∀ j : Nat, (j : Int) < L → f j = g j) : ∀ j : Nat, (j : Int) < L + 4 → fu4 f L v j = fu4 g L v j := by
  intro j hj
  by_cases e : (j : Int) < L
  · rw [fu4_out h0 (Or.inl e), fu4_out h0 (Or.inl e)]; exact h j e
  · have : j = L.toNat ∨ j = (L + 1).toNat ∨ j = (L + 1 + 1).toNat ∨ j = (L + 1 + 1 + 1).toNat := by omega
    unfold fu4
    rcases this with rfl | rfl | rfl | rfl
    · rw [q_fu_ne (by omega), q_fu_ne (by omega), q_fu_ne (by omega), q_fu_eq, q_fu_ne (by omega), q_fu_ne (by omega), q_fu_ne (by omega), q_fu_eq]
    · rw [q_fu_ne (by omega), q_fu_ne (by omega), q_fu_eq, q_fu_ne (by omega), q_fu_ne (by omega), q_fu_eq]
    · rw [q_fu_ne (by omega), q_fu_eq, q_fu_ne (by omega), q_fu_eq]
    · rw [q_fu_eq, q_fu_eq]
theorem fu4_r {f : Nat → Int} {L v : Int} (h0 : 0 ≤ L) (h : ∀ j : Nat, (j : Int) < L → -128 ≤ f j ∧ f j ≤ 127) : ∀ j : Nat, (j : Int) < L + 4 → -128 ≤ fu4 f L v j ∧ fu4 f L v j ≤ 127 := by
  intro j hj
  by_cases e : (j : Int) < L
  · rw [fu4_out h0 (Or.inl e)]; exact h j e
  · have : j = L.toNat ∨ j = (L + 1).toNat ∨ j = (L + 1 + 1).toNat ∨ j = (L + 1 + 1 + 1).toNat := by omega
    unfold fu4
    rcases this with rfl | rfl | rfl | rfl
    · rw [q_fu_ne (by omega), q_fu_ne (by omega), q_fu_ne (by omega), q_fu_eq]; exact nar1_r _
    · rw [q_fu_ne (by omega), q_fu_ne (by omega), q_fu_eq]; exact nar1_r _
    · rw [q_fu_ne (by omega), q_fu_eq]; exact nar1_r _
    · rw [q_fu_eq]; exact nar1_r _
def fu20 (f : Nat → Int) (L a b c d e : Int) : Nat → Int := fu4 (fu4 (fu4 (fu4 (fu4 f L a) (L + 4) b) (L + 4 + 4) c) (L + 4 + 4 + 4) d) (L + 4 + 4 + 4 + 4) e
theorem q_up_id {m : qM} {a k : Nat} {v : Int} (h : m a k = v) : q_up m a k v = m := by
  funext i j
  unfold q_up
  by_cases e : i = a ∧ j = k
  · obtain ⟨rfl, rfl⟩ := e; rw [if_pos ⟨rfl, rfl⟩, h]
  · rw [if_neg e]
/-- tape and faults -/
def rTp (m : qM) : Prop := ((0 ≤ m 1 4 ∧ m 1 4 ≤ 400) ∧ m 79 0 = m 1 4) ∧ (∀ j : Nat, (j : Int) < m 1 4 → m 78 j = m 21 j ∧ (-128 ≤ m 21 j ∧ m 21 j ≤ 127)) ∧ (m 80 0 = m 1 5 ∧ m 81 0 = m 1 6) ∧ (0 ≤ m 1 5 ∧ m 1 5 ≤ 3) ∧ (-1 ≤ m 1 6 ∧ m 1 6 ≤ 400)

set_option maxRecDepth 100000 in
theorem c_app (u : qU) (m y : qM) (f : Nat → Int) (L v : Int) (h0 : 0 ≤ L ∧ L + 4 ≤ 400) : qCt YX9_append 1 0 0 [qR 1, qI v] (qLy u, (q_up (q_row m 21 f) 1 4 L), y) (fun r h => r = none ∧ h = (qLy u, q_up (q_row m 21 (fu4 f L v)) 1 4 (L + 4), y)) := by
  refine qCt.intro okX9_append (Nat.le_of_ble_eq_true rfl) (fun κ hκ => ?_)
  show qJ YX9_append κ _ (qLy u, (q_up (q_row m 21 f) 1 4 L), y) 0 0 0 [some (qR 1), some (qI v), none] []
  refine qJ.run hκ 3 (pc' := 4) (ls' := [some (qR 1), some (qI v), some (qI 24)]) (st' := [qI 24]) rfl ?_
  refine qJ.if_lt hκ (tgt := 48) rfl rfl (by omega) (fun c4 => ?_) (fun c4 => ?_)
  · exact absurd c4 (by decide)
  · show qJ YX9_append κ _ (qLy u, (q_up (q_row m 21 f) 1 4 L), y) 0 0 7 [some (qR 1), some (qI v), some (qI 24)] []
    refine qJ.run hκ 5 (pc' := 16) (ls' := [some (qR 1), some (qI v), some (qI 24)]) (st' := [qI 400, qI L]) rfl ?_
    refine qJ.icmp_ge hκ (tgt := 48) rfl rfl (by omega) (by omega) (fun c16 => ?_) (fun c16 => ?_)
    · show qJ YX9_append κ _ (qLy u, (q_up (q_row m 21 f) 1 4 L), y) 0 0 48 [some (qR 1), some (qI v), some (qI 24)] []
      exfalso; omega
    · show qJ YX9_append κ _ (qLy u, (q_up (q_row m 21 f) 1 4 L), y) 0 0 19 [some (qR 1), some (qI v), some (qI 24)] []
      refine qJ.run hκ 8 (pc' := 31) (ls' := [some (qR 1), some (qI v), some (qI 24)]) (st' := [qI (q_i2b (q_ushr v 24)), qI L, qR 21]) rfl ?_
      refine qJ.ast hκ rfl rfl rfl (by decide) (by omega) ?_
      refine qJ.mc (m1 := (q_up (q_up (q_row m 21 f) 1 4 L) 21 L.toNat (q_nar 1 (q_i2b (q_ushr v 24))))) (m2 := (q_up (q_up (q_row m 21 f) 1 4 L) 21 L.toNat (byB v 24))) (by rw [by_24]) ?_
      refine qJ.mc (m1 := (q_up (q_up (q_row m 21 f) 1 4 L) 21 L.toNat (byB v 24))) (m2 := (q_up (q_row m 21 (q_fu f L.toNat (byB v 24))) 1 4 L)) (by rw [q_up_comm (a := 21) (c := 1) (by decide), q_up_row_eq]) ?_
      show qJ YX9_append κ _ (qLy u, (q_up (q_row m 21 (q_fu f L.toNat (byB v 24))) 1 4 L), y) 0 0 32 [some (qR 1), some (qI v), some (qI 24)] []
      refine qJ.run hκ 5 (pc' := 39) (ls' := [some (qR 1), some (qI v), some (qI 24)]) (st' := [qI (L + 1), qR 1]) rfl ?_
      refine qJ.putI hκ rfl rfl rfl rfl (Or.inl rfl) ?_
      show qJ YX9_append κ _ (qLy u, (q_up (q_up (q_row m 21 (q_fu f L.toNat (byB v 24))) 1 4 L) 1 4 (L + 1)), y) 0 0 42 [some (qR 1), some (qI v), some (qI 24)] []
      refine qJ.run hκ 3 (pc' := 4) (ls' := [some (qR 1), some (qI v), some (qI 16)]) (st' := [qI 16]) rfl ?_
      refine qJ.if_lt hκ (tgt := 48) rfl rfl (by omega) (fun c4 => ?_) (fun c4 => ?_)
      · exact absurd c4 (by decide)
      · show qJ YX9_append κ _ (qLy u, (q_up (q_up (q_row m 21 (q_fu f L.toNat (byB v 24))) 1 4 L) 1 4 (L + 1)), y) 0 0 7 [some (qR 1), some (qI v), some (qI 16)] []
        refine qJ.run hκ 5 (pc' := 16) (ls' := [some (qR 1), some (qI v), some (qI 16)]) (st' := [qI 400, qI (L + 1)]) rfl ?_
        refine qJ.icmp_ge hκ (tgt := 48) rfl rfl (by omega) (by omega) (fun c16 => ?_) (fun c16 => ?_)
        · show qJ YX9_append κ _ (qLy u, (q_up (q_up (q_row m 21 (q_fu f L.toNat (byB v 24))) 1 4 L) 1 4 (L + 1)), y) 0 0 48 [some (qR 1), some (qI v), some (qI 16)] []
          exfalso; omega
        · show qJ YX9_append κ _ (qLy u, (q_up (q_up (q_row m 21 (q_fu f L.toNat (byB v 24))) 1 4 L) 1 4 (L + 1)), y) 0 0 19 [some (qR 1), some (qI v), some (qI 16)] []
          refine qJ.run hκ 8 (pc' := 31) (ls' := [some (qR 1), some (qI v), some (qI 16)]) (st' := [qI (q_i2b (q_ushr v 16)), qI (L + 1), qR 21]) rfl ?_
          refine qJ.ast hκ rfl rfl rfl (by decide) (by omega) ?_
          refine qJ.mc (m1 := (q_up (q_up (q_up (q_row m 21 (q_fu f L.toNat (byB v 24))) 1 4 L) 1 4 (L + 1)) 21 ((L + 1).toNat) (q_nar 1 (q_i2b (q_ushr v 16))))) (m2 := (q_up (q_up (q_up (q_row m 21 (q_fu f L.toNat (byB v 24))) 1 4 L) 1 4 (L + 1)) 21 ((L + 1).toNat) (byB v 16))) (by rw [by_16]) ?_
          refine qJ.mc (m1 := (q_up (q_up (q_up (q_row m 21 (q_fu f L.toNat (byB v 24))) 1 4 L) 1 4 (L + 1)) 21 ((L + 1).toNat) (byB v 16))) (m2 := (q_up (q_up (q_row m 21 (q_fu (q_fu f L.toNat (byB v 24)) ((L + 1).toNat) (byB v 16))) 1 4 L) 1 4 (L + 1))) (by rw [q_up_comm (a := 21) (c := 1) (by decide), q_up_comm (a := 21) (c := 1) (by decide), q_up_row_eq]) ?_
          show qJ YX9_append κ _ (qLy u, (q_up (q_up (q_row m 21 (q_fu (q_fu f L.toNat (byB v 24)) ((L + 1).toNat) (byB v 16))) 1 4 L) 1 4 (L + 1)), y) 0 0 32 [some (qR 1), some (qI v), some (qI 16)] []
          refine qJ.run hκ 5 (pc' := 39) (ls' := [some (qR 1), some (qI v), some (qI 16)]) (st' := [qI ((L + 1) + 1), qR 1]) rfl ?_
          refine qJ.putI hκ rfl rfl rfl rfl (Or.inl rfl) ?_
          show qJ YX9_append κ _ (qLy u, (q_up (q_up (q_up (q_row m 21 (q_fu (q_fu f L.toNat (byB v 24)) ((L + 1).toNat) (byB v 16))) 1 4 L) 1 4 (L + 1)) 1 4 ((L + 1) + 1)), y) 0 0 42 [some (qR 1), some (qI v), some (qI 16)] []
          refine qJ.run hκ 3 (pc' := 4) (ls' := [some (qR 1), some (qI v), some (qI 8)]) (st' := [qI 8]) rfl ?_
          refine qJ.if_lt hκ (tgt := 48) rfl rfl (by omega) (fun c4 => ?_) (fun c4 => ?_)
          · exact absurd c4 (by decide)
          · show qJ YX9_append κ _ (qLy u, (q_up (q_up (q_up (q_row m 21 (q_fu (q_fu f L.toNat (byB v 24)) ((L + 1).toNat) (byB v 16))) 1 4 L) 1 4 (L + 1)) 1 4 ((L + 1) + 1)), y) 0 0 7 [some (qR 1), some (qI v), some (qI 8)] []
            refine qJ.run hκ 5 (pc' := 16) (ls' := [some (qR 1), some (qI v), some (qI 8)]) (st' := [qI 400, qI ((L + 1) + 1)]) rfl ?_
            refine qJ.icmp_ge hκ (tgt := 48) rfl rfl (by omega) (by omega) (fun c16 => ?_) (fun c16 => ?_)
            · show qJ YX9_append κ _ (qLy u, (q_up (q_up (q_up (q_row m 21 (q_fu (q_fu f L.toNat (byB v 24)) ((L + 1).toNat) (byB v 16))) 1 4 L) 1 4 (L + 1)) 1 4 ((L + 1) + 1)), y) 0 0 48 [some (qR 1), some (qI v), some (qI 8)] []
              exfalso; omega
            · show qJ YX9_append κ _ (qLy u, (q_up (q_up (q_up (q_row m 21 (q_fu (q_fu f L.toNat (byB v 24)) ((L + 1).toNat) (byB v 16))) 1 4 L) 1 4 (L + 1)) 1 4 ((L + 1) + 1)), y) 0 0 19 [some (qR 1), some (qI v), some (qI 8)] []
              refine qJ.run hκ 8 (pc' := 31) (ls' := [some (qR 1), some (qI v), some (qI 8)]) (st' := [qI (q_i2b (q_ushr v 8)), qI ((L + 1) + 1), qR 21]) rfl ?_
              refine qJ.ast hκ rfl rfl rfl (by decide) (by omega) ?_
              refine qJ.mc (m1 := (q_up (q_up (q_up (q_up (q_row m 21 (q_fu (q_fu f L.toNat (byB v 24)) ((L + 1).toNat) (byB v 16))) 1 4 L) 1 4 (L + 1)) 1 4 ((L + 1) + 1)) 21 (((L + 1) + 1).toNat) (q_nar 1 (q_i2b (q_ushr v 8))))) (m2 := (q_up (q_up (q_up (q_up (q_row m 21 (q_fu (q_fu f L.toNat (byB v 24)) ((L + 1).toNat) (byB v 16))) 1 4 L) 1 4 (L + 1)) 1 4 ((L + 1) + 1)) 21 (((L + 1) + 1).toNat) (byB v 8))) (by rw [by_8]) ?_
              refine qJ.mc (m1 := (q_up (q_up (q_up (q_up (q_row m 21 (q_fu (q_fu f L.toNat (byB v 24)) ((L + 1).toNat) (byB v 16))) 1 4 L) 1 4 (L + 1)) 1 4 ((L + 1) + 1)) 21 (((L + 1) + 1).toNat) (byB v 8))) (m2 := (q_up (q_up (q_up (q_row m 21 (q_fu (q_fu (q_fu f L.toNat (byB v 24)) ((L + 1).toNat) (byB v 16)) (((L + 1) + 1).toNat) (byB v 8))) 1 4 L) 1 4 (L + 1)) 1 4 ((L + 1) + 1))) (by rw [q_up_comm (a := 21) (c := 1) (by decide), q_up_comm (a := 21) (c := 1) (by decide), q_up_comm (a := 21) (c := 1) (by decide), q_up_row_eq]) ?_
              show qJ YX9_append κ _ (qLy u, (q_up (q_up (q_up (q_row m 21 (q_fu (q_fu (q_fu f L.toNat (byB v 24)) ((L + 1).toNat) (byB v 16)) (((L + 1) + 1).toNat) (byB v 8))) 1 4 L) 1 4 (L + 1)) 1 4 ((L + 1) + 1)), y) 0 0 32 [some (qR 1), some (qI v), some (qI 8)] []
              refine qJ.run hκ 5 (pc' := 39) (ls' := [some (qR 1), some (qI v), some (qI 8)]) (st' := [qI (((L + 1) + 1) + 1), qR 1]) rfl ?_
              refine qJ.putI hκ rfl rfl rfl rfl (Or.inl rfl) ?_
              show qJ YX9_append κ _ (qLy u, (q_up (q_up (q_up (q_up (q_row m 21 (q_fu (q_fu (q_fu f L.toNat (byB v 24)) ((L + 1).toNat) (byB v 16)) (((L + 1) + 1).toNat) (byB v 8))) 1 4 L) 1 4 (L + 1)) 1 4 ((L + 1) + 1)) 1 4 (((L + 1) + 1) + 1)), y) 0 0 42 [some (qR 1), some (qI v), some (qI 8)] []
              refine qJ.run hκ 3 (pc' := 4) (ls' := [some (qR 1), some (qI v), some (qI 0)]) (st' := [qI 0]) rfl ?_
              refine qJ.if_lt hκ (tgt := 48) rfl rfl (by omega) (fun c4 => ?_) (fun c4 => ?_)
              · exact absurd c4 (by decide)
              · show qJ YX9_append κ _ (qLy u, (q_up (q_up (q_up (q_up (q_row m 21 (q_fu (q_fu (q_fu f L.toNat (byB v 24)) ((L + 1).toNat) (byB v 16)) (((L + 1) + 1).toNat) (byB v 8))) 1 4 L) 1 4 (L + 1)) 1 4 ((L + 1) + 1)) 1 4 (((L + 1) + 1) + 1)), y) 0 0 7 [some (qR 1), some (qI v), some (qI 0)] []
                refine qJ.run hκ 5 (pc' := 16) (ls' := [some (qR 1), some (qI v), some (qI 0)]) (st' := [qI 400, qI (((L + 1) + 1) + 1)]) rfl ?_
                refine qJ.icmp_ge hκ (tgt := 48) rfl rfl (by omega) (by omega) (fun c16 => ?_) (fun c16 => ?_)
                · show qJ YX9_append κ _ (qLy u, (q_up (q_up (q_up (q_up (q_row m 21 (q_fu (q_fu (q_fu f L.toNat (byB v 24)) ((L + 1).toNat) (byB v 16)) (((L + 1) + 1).toNat) (byB v 8))) 1 4 L) 1 4 (L + 1)) 1 4 ((L + 1) + 1)) 1 4 (((L + 1) + 1) + 1)), y) 0 0 48 [some (qR 1), some (qI v), some (qI 0)] []
                  exfalso; omega
                · show qJ YX9_append κ _ (qLy u, (q_up (q_up (q_up (q_up (q_row m 21 (q_fu (q_fu (q_fu f L.toNat (byB v 24)) ((L + 1).toNat) (byB v 16)) (((L + 1) + 1).toNat) (byB v 8))) 1 4 L) 1 4 (L + 1)) 1 4 ((L + 1) + 1)) 1 4 (((L + 1) + 1) + 1)), y) 0 0 19 [some (qR 1), some (qI v), some (qI 0)] []
                  refine qJ.run hκ 8 (pc' := 31) (ls' := [some (qR 1), some (qI v), some (qI 0)]) (st' := [qI (q_i2b (q_ushr v 0)), qI (((L + 1) + 1) + 1), qR 21]) rfl ?_
                  refine qJ.ast hκ rfl rfl rfl (by decide) (by omega) ?_
                  refine qJ.mc (m1 := (q_up (q_up (q_up (q_up (q_up (q_row m 21 (q_fu (q_fu (q_fu f L.toNat (byB v 24)) ((L + 1).toNat) (byB v 16)) (((L + 1) + 1).toNat) (byB v 8))) 1 4 L) 1 4 (L + 1)) 1 4 ((L + 1) + 1)) 1 4 (((L + 1) + 1) + 1)) 21 ((((L + 1) + 1) + 1).toNat) (q_nar 1 (q_i2b (q_ushr v 0))))) (m2 := (q_up (q_up (q_up (q_up (q_up (q_row m 21 (q_fu (q_fu (q_fu f L.toNat (byB v 24)) ((L + 1).toNat) (byB v 16)) (((L + 1) + 1).toNat) (byB v 8))) 1 4 L) 1 4 (L + 1)) 1 4 ((L + 1) + 1)) 1 4 (((L + 1) + 1) + 1)) 21 ((((L + 1) + 1) + 1).toNat) (byB v 0))) (by rw [by_0]) ?_
                  refine qJ.mc (m1 := (q_up (q_up (q_up (q_up (q_up (q_row m 21 (q_fu (q_fu (q_fu f L.toNat (byB v 24)) ((L + 1).toNat) (byB v 16)) (((L + 1) + 1).toNat) (byB v 8))) 1 4 L) 1 4 (L + 1)) 1 4 ((L + 1) + 1)) 1 4 (((L + 1) + 1) + 1)) 21 ((((L + 1) + 1) + 1).toNat) (byB v 0))) (m2 := (q_up (q_up (q_up (q_up (q_row m 21 (q_fu (q_fu (q_fu (q_fu f L.toNat (byB v 24)) ((L + 1).toNat) (byB v 16)) (((L + 1) + 1).toNat) (byB v 8)) ((((L + 1) + 1) + 1).toNat) (byB v 0))) 1 4 L) 1 4 (L + 1)) 1 4 ((L + 1) + 1)) 1 4 (((L + 1) + 1) + 1))) (by rw [q_up_comm (a := 21) (c := 1) (by decide), q_up_comm (a := 21) (c := 1) (by decide), q_up_comm (a := 21) (c := 1) (by decide), q_up_comm (a := 21) (c := 1) (by decide), q_up_row_eq]) ?_
                  show qJ YX9_append κ _ (qLy u, (q_up (q_up (q_up (q_up (q_row m 21 (q_fu (q_fu (q_fu (q_fu f L.toNat (byB v 24)) ((L + 1).toNat) (byB v 16)) (((L + 1) + 1).toNat) (byB v 8)) ((((L + 1) + 1) + 1).toNat) (byB v 0))) 1 4 L) 1 4 (L + 1)) 1 4 ((L + 1) + 1)) 1 4 (((L + 1) + 1) + 1)), y) 0 0 32 [some (qR 1), some (qI v), some (qI 0)] []
                  refine qJ.run hκ 5 (pc' := 39) (ls' := [some (qR 1), some (qI v), some (qI 0)]) (st' := [qI ((((L + 1) + 1) + 1) + 1), qR 1]) rfl ?_
                  refine qJ.putI hκ rfl rfl rfl rfl (Or.inl rfl) ?_
                  show qJ YX9_append κ _ (qLy u, (q_up (q_up (q_up (q_up (q_up (q_row m 21 (q_fu (q_fu (q_fu (q_fu f L.toNat (byB v 24)) ((L + 1).toNat) (byB v 16)) (((L + 1) + 1).toNat) (byB v 8)) ((((L + 1) + 1) + 1).toNat) (byB v 0))) 1 4 L) 1 4 (L + 1)) 1 4 ((L + 1) + 1)) 1 4 (((L + 1) + 1) + 1)) 1 4 ((((L + 1) + 1) + 1) + 1)), y) 0 0 42 [some (qR 1), some (qI v), some (qI 0)] []
                  refine qJ.run hκ 3 (pc' := 4) (ls' := [some (qR 1), some (qI v), some (qI (-8))]) (st' := [qI (-8)]) rfl ?_
                  refine qJ.if_lt hκ (tgt := 48) rfl rfl (by omega) (fun c4 => ?_) (fun c4 => ?_)
                  · show qJ YX9_append κ _ (qLy u, (q_up (q_up (q_up (q_up (q_up (q_row m 21 (q_fu (q_fu (q_fu (q_fu f L.toNat (byB v 24)) ((L + 1).toNat) (byB v 16)) (((L + 1) + 1).toNat) (byB v 8)) ((((L + 1) + 1) + 1).toNat) (byB v 0))) 1 4 L) 1 4 (L + 1)) 1 4 ((L + 1) + 1)) 1 4 (((L + 1) + 1) + 1)) 1 4 ((((L + 1) + 1) + 1) + 1)), y) 0 0 48 [some (qR 1), some (qI v), some (qI (-8))] []
                    exact qJ.vret hκ rfl rfl (by decide) (by decide) (⟨rfl, by rw [q_up_same, q_up_same, q_up_same, q_up_same, show L + 1 + 1 + 1 + 1 = L + 4 by omega]; rfl⟩)
                  · exact absurd c4 (by decide)

set_option maxRecDepth 100000 in
theorem m_four (u : qU) (m y : qM) (f : Nat → Int) (L v : Int) (h0 : 0 ≤ L ∧ L + 4 ≤ 400) : qCt YX12_four 1 0 0 [qR 77, qI v] (qLy u, (q_up (q_row m 78 f) 79 0 L), y) (fun r h => r = none ∧ h = (qLy u, q_up (q_row m 78 (fu4 f L v)) 79 0 (L + 4), y)) := by
  refine qCt.intro okX12_four (Nat.le_of_ble_eq_true rfl) (fun κ hκ => ?_)
  show qJ YX12_four κ _ (qLy u, (q_up (q_row m 78 f) 79 0 L), y) 0 0 0 [some (qR 77), some (qI v), none] []
  refine qJ.run hκ 3 (pc' := 4) (ls' := [some (qR 77), some (qI v), some (qI 24)]) (st' := [qI 24]) rfl ?_
  refine qJ.if_lt hκ (tgt := 38) rfl rfl (by omega) (fun c4 => ?_) (fun c4 => ?_)
  · exact absurd c4 (by decide)
  · show qJ YX12_four κ _ (qLy u, (q_up (q_row m 78 f) 79 0 L), y) 0 0 7 [some (qR 77), some (qI v), some (qI 24)] []
    refine qJ.run hκ 5 (pc' := 16) (ls' := [some (qR 77), some (qI v), some (qI 24)]) (st' := [qI 0, qR 79, qR 78]) rfl ?_
    refine qJ.ald hκ rfl rfl rfl (by decide) (by omega) ?_
    show qJ YX12_four κ _ (qLy u, (q_up (q_row m 78 f) 79 0 L), y) 0 0 17 [some (qR 77), some (qI v), some (qI 24)] [qI L, qR 78]
    refine qJ.run hκ 4 (pc' := 21) (ls' := [some (qR 77), some (qI v), some (qI 24)]) (st' := [qI (q_i2b (q_shr v 24)), qI L, qR 78]) rfl ?_
    refine qJ.ast hκ rfl rfl rfl (by decide) (by omega) ?_
    refine qJ.mc (m1 := (q_up (q_up (q_row m 78 f) 79 0 L) 78 L.toNat (q_nar 1 (q_i2b (q_shr v 24))))) (m2 := (q_up (q_up (q_row m 78 f) 79 0 L) 78 L.toNat (byB v 24))) (rfl) ?_
    refine qJ.mc (m1 := (q_up (q_up (q_row m 78 f) 79 0 L) 78 L.toNat (byB v 24))) (m2 := (q_up (q_row m 78 (q_fu f L.toNat (byB v 24))) 79 0 L)) (by rw [q_up_comm (a := 78) (c := 79) (by decide), q_up_row_eq]) ?_
    show qJ YX12_four κ _ (qLy u, (q_up (q_row m 78 (q_fu f L.toNat (byB v 24))) 79 0 L), y) 0 0 22 [some (qR 77), some (qI v), some (qI 24)] []
    refine qJ.run hκ 4 (pc' := 28) (ls' := [some (qR 77), some (qI v), some (qI 24)]) (st' := [qI 0, qR 79, qI 0, qR 79]) rfl ?_
    refine qJ.ald hκ rfl rfl rfl (by decide) (by omega) ?_
    show qJ YX12_four κ _ (qLy u, (q_up (q_row m 78 (q_fu f L.toNat (byB v 24))) 79 0 L), y) 0 0 29 [some (qR 77), some (qI v), some (qI 24)] [qI L, qI 0, qR 79]
    refine qJ.run hκ 2 (pc' := 31) (ls' := [some (qR 77), some (qI v), some (qI 24)]) (st' := [qI (L + 1), qI 0, qR 79]) rfl ?_
    refine qJ.ast hκ rfl rfl rfl (by decide) (by omega) ?_
    show qJ YX12_four κ _ (qLy u, (q_up (q_up (q_row m 78 (q_fu f L.toNat (byB v 24))) 79 0 L) 79 0 (L + 1)), y) 0 0 32 [some (qR 77), some (qI v), some (qI 24)] []
    refine qJ.run hκ 3 (pc' := 4) (ls' := [some (qR 77), some (qI v), some (qI 16)]) (st' := [qI 16]) rfl ?_
    refine qJ.if_lt hκ (tgt := 38) rfl rfl (by omega) (fun c4 => ?_) (fun c4 => ?_)
    · exact absurd c4 (by decide)
    · show qJ YX12_four κ _ (qLy u, (q_up (q_up (q_row m 78 (q_fu f L.toNat (byB v 24))) 79 0 L) 79 0 (L + 1)), y) 0 0 7 [some (qR 77), some (qI v), some (qI 16)] []
      refine qJ.run hκ 5 (pc' := 16) (ls' := [some (qR 77), some (qI v), some (qI 16)]) (st' := [qI 0, qR 79, qR 78]) rfl ?_
      refine qJ.ald hκ rfl rfl rfl (by decide) (by omega) ?_
      show qJ YX12_four κ _ (qLy u, (q_up (q_up (q_row m 78 (q_fu f L.toNat (byB v 24))) 79 0 L) 79 0 (L + 1)), y) 0 0 17 [some (qR 77), some (qI v), some (qI 16)] [qI (L + 1), qR 78]
      refine qJ.run hκ 4 (pc' := 21) (ls' := [some (qR 77), some (qI v), some (qI 16)]) (st' := [qI (q_i2b (q_shr v 16)), qI (L + 1), qR 78]) rfl ?_
      refine qJ.ast hκ rfl rfl rfl (by decide) (by omega) ?_
      refine qJ.mc (m1 := (q_up (q_up (q_up (q_row m 78 (q_fu f L.toNat (byB v 24))) 79 0 L) 79 0 (L + 1)) 78 ((L + 1).toNat) (q_nar 1 (q_i2b (q_shr v 16))))) (m2 := (q_up (q_up (q_up (q_row m 78 (q_fu f L.toNat (byB v 24))) 79 0 L) 79 0 (L + 1)) 78 ((L + 1).toNat) (byB v 16))) (rfl) ?_
      refine qJ.mc (m1 := (q_up (q_up (q_up (q_row m 78 (q_fu f L.toNat (byB v 24))) 79 0 L) 79 0 (L + 1)) 78 ((L + 1).toNat) (byB v 16))) (m2 := (q_up (q_up (q_row m 78 (q_fu (q_fu f L.toNat (byB v 24)) ((L + 1).toNat) (byB v 16))) 79 0 L) 79 0 (L + 1))) (by rw [q_up_comm (a := 78) (c := 79) (by decide), q_up_comm (a := 78) (c := 79) (by decide), q_up_row_eq]) ?_
      show qJ YX12_four κ _ (qLy u, (q_up (q_up (q_row m 78 (q_fu (q_fu f L.toNat (byB v 24)) ((L + 1).toNat) (byB v 16))) 79 0 L) 79 0 (L + 1)), y) 0 0 22 [some (qR 77), some (qI v), some (qI 16)] []
      refine qJ.run hκ 4 (pc' := 28) (ls' := [some (qR 77), some (qI v), some (qI 16)]) (st' := [qI 0, qR 79, qI 0, qR 79]) rfl ?_
      refine qJ.ald hκ rfl rfl rfl (by decide) (by omega) ?_
      show qJ YX12_four κ _ (qLy u, (q_up (q_up (q_row m 78 (q_fu (q_fu f L.toNat (byB v 24)) ((L + 1).toNat) (byB v 16))) 79 0 L) 79 0 (L + 1)), y) 0 0 29 [some (qR 77), some (qI v), some (qI 16)] [qI (L + 1), qI 0, qR 79]
      refine qJ.run hκ 2 (pc' := 31) (ls' := [some (qR 77), some (qI v), some (qI 16)]) (st' := [qI ((L + 1) + 1), qI 0, qR 79]) rfl ?_
      refine qJ.ast hκ rfl rfl rfl (by decide) (by omega) ?_
      show qJ YX12_four κ _ (qLy u, (q_up (q_up (q_up (q_row m 78 (q_fu (q_fu f L.toNat (byB v 24)) ((L + 1).toNat) (byB v 16))) 79 0 L) 79 0 (L + 1)) 79 0 ((L + 1) + 1)), y) 0 0 32 [some (qR 77), some (qI v), some (qI 16)] []
      refine qJ.run hκ 3 (pc' := 4) (ls' := [some (qR 77), some (qI v), some (qI 8)]) (st' := [qI 8]) rfl ?_
      refine qJ.if_lt hκ (tgt := 38) rfl rfl (by omega) (fun c4 => ?_) (fun c4 => ?_)
      · exact absurd c4 (by decide)
      · show qJ YX12_four κ _ (qLy u, (q_up (q_up (q_up (q_row m 78 (q_fu (q_fu f L.toNat (byB v 24)) ((L + 1).toNat) (byB v 16))) 79 0 L) 79 0 (L + 1)) 79 0 ((L + 1) + 1)), y) 0 0 7 [some (qR 77), some (qI v), some (qI 8)] []
        refine qJ.run hκ 5 (pc' := 16) (ls' := [some (qR 77), some (qI v), some (qI 8)]) (st' := [qI 0, qR 79, qR 78]) rfl ?_
        refine qJ.ald hκ rfl rfl rfl (by decide) (by omega) ?_
        show qJ YX12_four κ _ (qLy u, (q_up (q_up (q_up (q_row m 78 (q_fu (q_fu f L.toNat (byB v 24)) ((L + 1).toNat) (byB v 16))) 79 0 L) 79 0 (L + 1)) 79 0 ((L + 1) + 1)), y) 0 0 17 [some (qR 77), some (qI v), some (qI 8)] [qI ((L + 1) + 1), qR 78]
        refine qJ.run hκ 4 (pc' := 21) (ls' := [some (qR 77), some (qI v), some (qI 8)]) (st' := [qI (q_i2b (q_shr v 8)), qI ((L + 1) + 1), qR 78]) rfl ?_
        refine qJ.ast hκ rfl rfl rfl (by decide) (by omega) ?_
        refine qJ.mc (m1 := (q_up (q_up (q_up (q_up (q_row m 78 (q_fu (q_fu f L.toNat (byB v 24)) ((L + 1).toNat) (byB v 16))) 79 0 L) 79 0 (L + 1)) 79 0 ((L + 1) + 1)) 78 (((L + 1) + 1).toNat) (q_nar 1 (q_i2b (q_shr v 8))))) (m2 := (q_up (q_up (q_up (q_up (q_row m 78 (q_fu (q_fu f L.toNat (byB v 24)) ((L + 1).toNat) (byB v 16))) 79 0 L) 79 0 (L + 1)) 79 0 ((L + 1) + 1)) 78 (((L + 1) + 1).toNat) (byB v 8))) (rfl) ?_
        refine qJ.mc (m1 := (q_up (q_up (q_up (q_up (q_row m 78 (q_fu (q_fu f L.toNat (byB v 24)) ((L + 1).toNat) (byB v 16))) 79 0 L) 79 0 (L + 1)) 79 0 ((L + 1) + 1)) 78 (((L + 1) + 1).toNat) (byB v 8))) (m2 := (q_up (q_up (q_up (q_row m 78 (q_fu (q_fu (q_fu f L.toNat (byB v 24)) ((L + 1).toNat) (byB v 16)) (((L + 1) + 1).toNat) (byB v 8))) 79 0 L) 79 0 (L + 1)) 79 0 ((L + 1) + 1))) (by rw [q_up_comm (a := 78) (c := 79) (by decide), q_up_comm (a := 78) (c := 79) (by decide), q_up_comm (a := 78) (c := 79) (by decide), q_up_row_eq]) ?_
        show qJ YX12_four κ _ (qLy u, (q_up (q_up (q_up (q_row m 78 (q_fu (q_fu (q_fu f L.toNat (byB v 24)) ((L + 1).toNat) (byB v 16)) (((L + 1) + 1).toNat) (byB v 8))) 79 0 L) 79 0 (L + 1)) 79 0 ((L + 1) + 1)), y) 0 0 22 [some (qR 77), some (qI v), some (qI 8)] []
        refine qJ.run hκ 4 (pc' := 28) (ls' := [some (qR 77), some (qI v), some (qI 8)]) (st' := [qI 0, qR 79, qI 0, qR 79]) rfl ?_
        refine qJ.ald hκ rfl rfl rfl (by decide) (by omega) ?_
        show qJ YX12_four κ _ (qLy u, (q_up (q_up (q_up (q_row m 78 (q_fu (q_fu (q_fu f L.toNat (byB v 24)) ((L + 1).toNat) (byB v 16)) (((L + 1) + 1).toNat) (byB v 8))) 79 0 L) 79 0 (L + 1)) 79 0 ((L + 1) + 1)), y) 0 0 29 [some (qR 77), some (qI v), some (qI 8)] [qI ((L + 1) + 1), qI 0, qR 79]
        refine qJ.run hκ 2 (pc' := 31) (ls' := [some (qR 77), some (qI v), some (qI 8)]) (st' := [qI (((L + 1) + 1) + 1), qI 0, qR 79]) rfl ?_
        refine qJ.ast hκ rfl rfl rfl (by decide) (by omega) ?_
        show qJ YX12_four κ _ (qLy u, (q_up (q_up (q_up (q_up (q_row m 78 (q_fu (q_fu (q_fu f L.toNat (byB v 24)) ((L + 1).toNat) (byB v 16)) (((L + 1) + 1).toNat) (byB v 8))) 79 0 L) 79 0 (L + 1)) 79 0 ((L + 1) + 1)) 79 0 (((L + 1) + 1) + 1)), y) 0 0 32 [some (qR 77), some (qI v), some (qI 8)] []
        refine qJ.run hκ 3 (pc' := 4) (ls' := [some (qR 77), some (qI v), some (qI 0)]) (st' := [qI 0]) rfl ?_
        refine qJ.if_lt hκ (tgt := 38) rfl rfl (by omega) (fun c4 => ?_) (fun c4 => ?_)
        · exact absurd c4 (by decide)
        · show qJ YX12_four κ _ (qLy u, (q_up (q_up (q_up (q_up (q_row m 78 (q_fu (q_fu (q_fu f L.toNat (byB v 24)) ((L + 1).toNat) (byB v 16)) (((L + 1) + 1).toNat) (byB v 8))) 79 0 L) 79 0 (L + 1)) 79 0 ((L + 1) + 1)) 79 0 (((L + 1) + 1) + 1)), y) 0 0 7 [some (qR 77), some (qI v), some (qI 0)] []
          refine qJ.run hκ 5 (pc' := 16) (ls' := [some (qR 77), some (qI v), some (qI 0)]) (st' := [qI 0, qR 79, qR 78]) rfl ?_
          refine qJ.ald hκ rfl rfl rfl (by decide) (by omega) ?_
          show qJ YX12_four κ _ (qLy u, (q_up (q_up (q_up (q_up (q_row m 78 (q_fu (q_fu (q_fu f L.toNat (byB v 24)) ((L + 1).toNat) (byB v 16)) (((L + 1) + 1).toNat) (byB v 8))) 79 0 L) 79 0 (L + 1)) 79 0 ((L + 1) + 1)) 79 0 (((L + 1) + 1) + 1)), y) 0 0 17 [some (qR 77), some (qI v), some (qI 0)] [qI (((L + 1) + 1) + 1), qR 78]
          refine qJ.run hκ 4 (pc' := 21) (ls' := [some (qR 77), some (qI v), some (qI 0)]) (st' := [qI (q_i2b (q_shr v 0)), qI (((L + 1) + 1) + 1), qR 78]) rfl ?_
          refine qJ.ast hκ rfl rfl rfl (by decide) (by omega) ?_
          refine qJ.mc (m1 := (q_up (q_up (q_up (q_up (q_up (q_row m 78 (q_fu (q_fu (q_fu f L.toNat (byB v 24)) ((L + 1).toNat) (byB v 16)) (((L + 1) + 1).toNat) (byB v 8))) 79 0 L) 79 0 (L + 1)) 79 0 ((L + 1) + 1)) 79 0 (((L + 1) + 1) + 1)) 78 ((((L + 1) + 1) + 1).toNat) (q_nar 1 (q_i2b (q_shr v 0))))) (m2 := (q_up (q_up (q_up (q_up (q_up (q_row m 78 (q_fu (q_fu (q_fu f L.toNat (byB v 24)) ((L + 1).toNat) (byB v 16)) (((L + 1) + 1).toNat) (byB v 8))) 79 0 L) 79 0 (L + 1)) 79 0 ((L + 1) + 1)) 79 0 (((L + 1) + 1) + 1)) 78 ((((L + 1) + 1) + 1).toNat) (byB v 0))) (rfl) ?_
          refine qJ.mc (m1 := (q_up (q_up (q_up (q_up (q_up (q_row m 78 (q_fu (q_fu (q_fu f L.toNat (byB v 24)) ((L + 1).toNat) (byB v 16)) (((L + 1) + 1).toNat) (byB v 8))) 79 0 L) 79 0 (L + 1)) 79 0 ((L + 1) + 1)) 79 0 (((L + 1) + 1) + 1)) 78 ((((L + 1) + 1) + 1).toNat) (byB v 0))) (m2 := (q_up (q_up (q_up (q_up (q_row m 78 (q_fu (q_fu (q_fu (q_fu f L.toNat (byB v 24)) ((L + 1).toNat) (byB v 16)) (((L + 1) + 1).toNat) (byB v 8)) ((((L + 1) + 1) + 1).toNat) (byB v 0))) 79 0 L) 79 0 (L + 1)) 79 0 ((L + 1) + 1)) 79 0 (((L + 1) + 1) + 1))) (by rw [q_up_comm (a := 78) (c := 79) (by decide), q_up_comm (a := 78) (c := 79) (by decide), q_up_comm (a := 78) (c := 79) (by decide), q_up_comm (a := 78) (c := 79) (by decide), q_up_row_eq]) ?_
          show qJ YX12_four κ _ (qLy u, (q_up (q_up (q_up (q_up (q_row m 78 (q_fu (q_fu (q_fu (q_fu f L.toNat (byB v 24)) ((L + 1).toNat) (byB v 16)) (((L + 1) + 1).toNat) (byB v 8)) ((((L + 1) + 1) + 1).toNat) (byB v 0))) 79 0 L) 79 0 (L + 1)) 79 0 ((L + 1) + 1)) 79 0 (((L + 1) + 1) + 1)), y) 0 0 22 [some (qR 77), some (qI v), some (qI 0)] []
          refine qJ.run hκ 4 (pc' := 28) (ls' := [some (qR 77), some (qI v), some (qI 0)]) (st' := [qI 0, qR 79, qI 0, qR 79]) rfl ?_
          refine qJ.ald hκ rfl rfl rfl (by decide) (by omega) ?_
          show qJ YX12_four κ _ (qLy u, (q_up (q_up (q_up (q_up (q_row m 78 (q_fu (q_fu (q_fu (q_fu f L.toNat (byB v 24)) ((L + 1).toNat) (byB v 16)) (((L + 1) + 1).toNat) (byB v 8)) ((((L + 1) + 1) + 1).toNat) (byB v 0))) 79 0 L) 79 0 (L + 1)) 79 0 ((L + 1) + 1)) 79 0 (((L + 1) + 1) + 1)), y) 0 0 29 [some (qR 77), some (qI v), some (qI 0)] [qI (((L + 1) + 1) + 1), qI 0, qR 79]
          refine qJ.run hκ 2 (pc' := 31) (ls' := [some (qR 77), some (qI v), some (qI 0)]) (st' := [qI ((((L + 1) + 1) + 1) + 1), qI 0, qR 79]) rfl ?_
          refine qJ.ast hκ rfl rfl rfl (by decide) (by omega) ?_
          show qJ YX12_four κ _ (qLy u, (q_up (q_up (q_up (q_up (q_up (q_row m 78 (q_fu (q_fu (q_fu (q_fu f L.toNat (byB v 24)) ((L + 1).toNat) (byB v 16)) (((L + 1) + 1).toNat) (byB v 8)) ((((L + 1) + 1) + 1).toNat) (byB v 0))) 79 0 L) 79 0 (L + 1)) 79 0 ((L + 1) + 1)) 79 0 (((L + 1) + 1) + 1)) 79 0 ((((L + 1) + 1) + 1) + 1)), y) 0 0 32 [some (qR 77), some (qI v), some (qI 0)] []
          refine qJ.run hκ 3 (pc' := 4) (ls' := [some (qR 77), some (qI v), some (qI (-8))]) (st' := [qI (-8)]) rfl ?_
          refine qJ.if_lt hκ (tgt := 38) rfl rfl (by omega) (fun c4 => ?_) (fun c4 => ?_)
          · show qJ YX12_four κ _ (qLy u, (q_up (q_up (q_up (q_up (q_up (q_row m 78 (q_fu (q_fu (q_fu (q_fu f L.toNat (byB v 24)) ((L + 1).toNat) (byB v 16)) (((L + 1) + 1).toNat) (byB v 8)) ((((L + 1) + 1) + 1).toNat) (byB v 0))) 79 0 L) 79 0 (L + 1)) 79 0 ((L + 1) + 1)) 79 0 (((L + 1) + 1) + 1)) 79 0 ((((L + 1) + 1) + 1) + 1)), y) 0 0 38 [some (qR 77), some (qI v), some (qI (-8))] []
            exact qJ.vret hκ rfl rfl (by decide) (by decide) (⟨rfl, by rw [q_up_same, q_up_same, q_up_same, q_up_same, show L + 1 + 1 + 1 + 1 = L + 4 by omega]; rfl⟩)
          · exact absurd c4 (by decide)

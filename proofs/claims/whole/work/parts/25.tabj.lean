/-! printed by gen_tabs_j.py: the JDK's text methods -/
def ftJ0 : List (Nat × Nat × Nat × Nat) := []
theorem ftJ0_ok : ∀ q ∈ ftJ0, qFok RJ0 q := fun _ h => absurd h List.not_mem_nil
def tbJ0_length_8abf5 : List (Nat × Instr × Nat) := [(0, .aload_n 0, 1), (1, .getfield 9, 3), (4, .arraylength, 1), (5, .aload_n 0, 1), (6, .invokevirtual 335, 3), (9, .ishr, 1), (10, .ireturn, 1)]
def YJ0_length_8abf5 : qY := (RJ0, yJ0_length_8abf5, cJ0_length_8abf5, 1, some .int, 0, tbJ0_length_8abf5, ftJ0)
set_option maxRecDepth 100000 in
theorem tbJ0_length_8abf5_ok : ∀ q ∈ tbJ0_length_8abf5, decode cJ0_length_8abf5 q.1 = .ok q.2 := by decide +kernel
theorem okJ0_length_8abf5 : qOK YJ0_length_8abf5 := ⟨rfl, by decide, ⟨by decide, by decide⟩, qT_t4 179 rfl rfl, qT_t1 17 rfl rfl, by decide +kernel, by decide, tbJ0_length_8abf5_ok, ftJ0_ok⟩
def tbJ0_charAt_5068e : List (Nat × Instr × Nat) := [(0, .aload_n 0, 1), (1, .invokevirtual 492, 3), (4, .ifCond .eq 12, 3), (7, .aload_n 0, 1), (8, .getfield 9, 3), (11, .iload_n 1, 1), (12, .invokestatic 495, 3), (15, .ireturn, 1)]
def YJ0_charAt_5068e : qY := (RJ0, yJ0_charAt_5068e, cJ0_charAt_5068e, 2, some .char, 1, tbJ0_charAt_5068e, ftJ0)
set_option maxRecDepth 100000 in
theorem tbJ0_charAt_5068e_ok : ∀ q ∈ tbJ0_charAt_5068e, decode cJ0_charAt_5068e q.1 = .ok q.2 := by decide +kernel
theorem okJ0_charAt_5068e : qOK YJ0_charAt_5068e := ⟨rfl, by decide, ⟨by decide, by decide⟩, qT_t5 64 rfl rfl, qT_t1 17 rfl rfl, by decide +kernel, by decide, tbJ0_charAt_5068e_ok, ftJ0_ok⟩
def tbJ0_indexOf_0f7a4 : List (Nat × Instr × Nat) := [(0, .aload_n 0, 1), (1, .iload_n 1, 1), (2, .iconst 0, 1), (3, .invokevirtual 633, 3), (6, .ireturn, 1)]
def YJ0_indexOf_0f7a4 : qY := (RJ0, yJ0_indexOf_0f7a4, cJ0_indexOf_0f7a4, 2, some .int, 1, tbJ0_indexOf_0f7a4, ftJ0)
set_option maxRecDepth 100000 in
theorem tbJ0_indexOf_0f7a4_ok : ∀ q ∈ tbJ0_indexOf_0f7a4, decode cJ0_indexOf_0f7a4 q.1 = .ok q.2 := by decide +kernel
theorem okJ0_indexOf_0f7a4 : qOK YJ0_indexOf_0f7a4 := ⟨rfl, by decide, ⟨by decide, by decide⟩, qT_t4 165 rfl rfl, qT_t1 17 rfl rfl, by decide +kernel, by decide, tbJ0_indexOf_0f7a4_ok, ftJ0_ok⟩
def tbJ0_indexOf_7cf53 : List (Nat × Instr × Nat) := [(0, .aload_n 0, 1), (1, .invokevirtual 492, 3), (4, .ifCond .eq 19, 3), (7, .aload_n 0, 1), (8, .getfield 9, 3), (11, .iload_n 1, 1), (12, .iload_n 2, 1), (13, .aload_n 0, 1), (14, .invokevirtual 505, 3), (17, .invokestatic 637, 3), (20, .goto 16, 3), (36, .ireturn, 1)]
def YJ0_indexOf_7cf53 : qY := (RJ0, yJ0_indexOf_7cf53, cJ0_indexOf_7cf53, 3, some .int, 2, tbJ0_indexOf_7cf53, ftJ0)
set_option maxRecDepth 100000 in
theorem tbJ0_indexOf_7cf53_ok : ∀ q ∈ tbJ0_indexOf_7cf53, decode cJ0_indexOf_7cf53 q.1 = .ok q.2 := by decide +kernel
theorem okJ0_indexOf_7cf53 : qOK YJ0_indexOf_7cf53 := ⟨rfl, by decide, ⟨by decide, by decide⟩, qT_t4 169 rfl rfl, qT_t1 17 rfl rfl, by decide +kernel, by decide, tbJ0_indexOf_7cf53_ok, ftJ0_ok⟩
def tbJ0_coder_7d493 : List (Nat × Instr × Nat) := [(0, .getstatic 38, 3), (3, .ifCond .eq 10, 3), (6, .aload_n 0, 1), (7, .getfield 15, 3), (10, .goto 4, 3), (13, .iconst 1, 1), (14, .ireturn, 1)]
def YJ0_coder_7d493 : qY := (RJ0, yJ0_coder_7d493, cJ0_coder_7d493, 1, some .byte, 0, tbJ0_coder_7d493, ftJ0)
set_option maxRecDepth 100000 in
theorem tbJ0_coder_7d493_ok : ∀ q ∈ tbJ0_coder_7d493, decode cJ0_coder_7d493 q.1 = .ok q.2 := by decide +kernel
theorem okJ0_coder_7d493 : qOK YJ0_coder_7d493 := ⟨rfl, by decide, ⟨by decide, by decide⟩, qT_t4 183 rfl rfl, qT_t1 17 rfl rfl, by decide +kernel, by decide, tbJ0_coder_7d493_ok, ftJ0_ok⟩
def tbJ0_isLatin1_aae02 : List (Nat × Instr × Nat) := [(0, .getstatic 38, 3), (3, .ifCond .eq 14, 3), (6, .aload_n 0, 1), (7, .getfield 15, 3), (10, .ifCond .ne 7, 3), (13, .iconst 1, 1), (14, .goto 4, 3), (17, .iconst 0, 1), (18, .ireturn, 1)]
def YJ0_isLatin1_aae02 : qY := (RJ0, yJ0_isLatin1_aae02, cJ0_isLatin1_aae02, 1, some .boolean, 0, tbJ0_isLatin1_aae02, ftJ0)
set_option maxRecDepth 100000 in
theorem tbJ0_isLatin1_aae02_ok : ∀ q ∈ tbJ0_isLatin1_aae02, decode cJ0_isLatin1_aae02 q.1 = .ok q.2 := by decide +kernel
theorem okJ0_isLatin1_aae02 : qOK YJ0_isLatin1_aae02 := ⟨rfl, by decide, ⟨by decide, by decide⟩, qT_t4 173 rfl rfl, qT_t1 17 rfl rfl, by decide +kernel, by decide, tbJ0_isLatin1_aae02_ok, ftJ0_ok⟩
def tbJ0_checkIndex_df160 : List (Nat × Instr × Nat) := [(0, .iload_n 0, 1), (1, .iload_n 1, 1), (2, .getstatic 1053, 3), (5, .invokestatic 1059, 3), (8, .pop, 1), (9, .return_, 1)]
def YJ0_checkIndex_df160 : qY := (RJ0, yJ0_checkIndex_df160, cJ0_checkIndex_df160, 2, none, 2, tbJ0_checkIndex_df160, ftJ0)
set_option maxRecDepth 100000 in
theorem tbJ0_checkIndex_df160_ok : ∀ q ∈ tbJ0_checkIndex_df160, decode cJ0_checkIndex_df160 q.1 = .ok q.2 := by decide +kernel
theorem okJ0_checkIndex_df160 : qOK YJ0_checkIndex_df160 := ⟨rfl, by decide, ⟨by decide, by decide⟩, qT_t5 70 rfl rfl, qT_t1 17 rfl rfl, by decide +kernel, by decide, tbJ0_checkIndex_df160_ok, ftJ0_ok⟩
def ftJ1 : List (Nat × Nat × Nat × Nat) := []
theorem ftJ1_ok : ∀ q ∈ ftJ1, qFok RJ1 q := fun _ h => absurd h List.not_mem_nil
def tbJ1_charAt_3b067 : List (Nat × Instr × Nat) := [(0, .iload_n 1, 1), (1, .aload_n 0, 1), (2, .arraylength, 1), (3, .invokestatic 9, 3), (6, .aload_n 0, 1), (7, .iload_n 1, 1), (8, .baload, 1), (9, .sipush 255, 3), (12, .iand, 1), (13, .i2c, 1), (14, .ireturn, 1)]
def YJ1_charAt_3b067 : qY := (RJ1, yJ1_charAt_3b067, cJ1_charAt_3b067, 2, some .char, 2, tbJ1_charAt_3b067, ftJ1)
set_option maxRecDepth 100000 in
theorem tbJ1_charAt_3b067_ok : ∀ q ∈ tbJ1_charAt_3b067, decode cJ1_charAt_3b067 q.1 = .ok q.2 := by decide +kernel
theorem okJ1_charAt_3b067 : qOK YJ1_charAt_3b067 := ⟨rfl, by decide, ⟨by decide, by decide⟩, qT_t5 67 rfl rfl, qT_t1 18 rfl rfl, by decide +kernel, by decide, tbJ1_charAt_3b067_ok, ftJ1_ok⟩
def tbJ1_canEncode_9a6ad : List (Nat × Instr × Nat) := [(0, .iload_n 0, 1), (1, .ifCond .lt 14, 3), (4, .iload_n 0, 1), (5, .sipush 255, 3), (8, .if_icmp .gt 7, 3), (11, .iconst 1, 1), (12, .goto 4, 3), (15, .iconst 0, 1), (16, .ireturn, 1)]
def YJ1_canEncode_9a6ad : qY := (RJ1, yJ1_canEncode_9a6ad, cJ1_canEncode_9a6ad, 1, some .boolean, 1, tbJ1_canEncode_9a6ad, ftJ1)
set_option maxRecDepth 100000 in
theorem tbJ1_canEncode_9a6ad_ok : ∀ q ∈ tbJ1_canEncode_9a6ad, decode cJ1_canEncode_9a6ad q.1 = .ok q.2 := by decide +kernel
theorem okJ1_canEncode_9a6ad : qOK YJ1_canEncode_9a6ad := ⟨rfl, by decide, ⟨by decide, by decide⟩, qT_t4 189 rfl rfl, qT_t1 18 rfl rfl, by decide +kernel, by decide, tbJ1_canEncode_9a6ad_ok, ftJ1_ok⟩
def tbJ1_indexOf_4cfef : List (Nat × Instr × Nat) := [(0, .iload_n 1, 1), (1, .invokestatic 88, 3), (4, .ifCond .ne 5, 3), (7, .iconst (-1), 1), (8, .ireturn, 1), (9, .iload_n 2, 1), (10, .iconst 0, 1), (11, .invokestatic 92, 3), (14, .istore_n 2, 1), (15, .iload_n 3, 1), (16, .aload_n 0, 1), (17, .arraylength, 1), (18, .invokestatic 38, 3), (21, .istore_n 3, 1), (22, .iload_n 2, 1), (23, .iload_n 3, 1), (24, .if_icmp .lt 5, 3), (27, .iconst (-1), 1), (28, .ireturn, 1), (29, .aload_n 0, 1), (30, .iload_n 1, 1), (31, .iload_n 2, 1), (32, .iload_n 3, 1), (33, .invokestatic 95, 3), (36, .ireturn, 1)]
def YJ1_indexOf_4cfef : qY := (RJ1, yJ1_indexOf_4cfef, cJ1_indexOf_4cfef, 4, some .int, 4, tbJ1_indexOf_4cfef, ftJ1)
set_option maxRecDepth 100000 in
theorem tbJ1_indexOf_4cfef_ok : ∀ q ∈ tbJ1_indexOf_4cfef, decode cJ1_indexOf_4cfef q.1 = .ok q.2 := by decide +kernel
theorem okJ1_indexOf_4cfef : qOK YJ1_indexOf_4cfef := ⟨rfl, by decide, ⟨by decide, by decide⟩, qT_t4 186 rfl rfl, qT_t1 18 rfl rfl, by decide +kernel, by decide, tbJ1_indexOf_4cfef_ok, ftJ1_ok⟩
def tbJ1_indexOfChar_4cfef : List (Nat × Instr × Nat) := [(0, .iload_n 1, 1), (1, .i2b, 1), (2, .istore 4, 2), (4, .iload_n 2, 1), (5, .istore 5, 2), (7, .iload 5, 2), (9, .iload_n 3, 1), (10, .if_icmp .ge 21, 3), (13, .aload_n 0, 1), (14, .iload 5, 2), (16, .baload, 1), (17, .iload 4, 2), (19, .if_icmp .ne 6, 3), (22, .iload 5, 2), (24, .ireturn, 1), (25, .iinc 5 1, 3), (28, .goto (-21), 3), (31, .iconst (-1), 1), (32, .ireturn, 1)]
def YJ1_indexOfChar_4cfef : qY := (RJ1, yJ1_indexOfChar_4cfef, cJ1_indexOfChar_4cfef, 6, some .int, 4, tbJ1_indexOfChar_4cfef, ftJ1)
set_option maxRecDepth 100000 in
theorem tbJ1_indexOfChar_4cfef_ok : ∀ q ∈ tbJ1_indexOfChar_4cfef, decode cJ1_indexOfChar_4cfef q.1 = .ok q.2 := by decide +kernel
theorem okJ1_indexOfChar_4cfef : qOK YJ1_indexOfChar_4cfef := ⟨rfl, by decide, ⟨by decide, by decide⟩, qT_t4 194 rfl rfl, qT_t1 18 rfl rfl, by decide +kernel, by decide, tbJ1_indexOfChar_4cfef_ok, ftJ1_ok⟩
def ftJ3 : List (Nat × Nat × Nat × Nat) := []
theorem ftJ3_ok : ∀ q ∈ ftJ3, qFok RJ3 q := fun _ h => absurd h List.not_mem_nil
def tbJ3_checkIndex_8e157 : List (Nat × Instr × Nat) := [(0, .iload_n 0, 1), (1, .ifCond .lt 8, 3), (4, .iload_n 0, 1), (5, .iload_n 1, 1), (6, .if_icmp .lt 10, 3), (9, .aload_n 2, 1), (10, .iload_n 0, 1), (11, .iload_n 1, 1), (16, .iload_n 0, 1), (17, .ireturn, 1)]
def YJ3_checkIndex_8e157 : qY := (RJ3, yJ3_checkIndex_8e157, cJ3_checkIndex_8e157, 3, some .int, 3, tbJ3_checkIndex_8e157, ftJ3)
set_option maxRecDepth 100000 in
theorem tbJ3_checkIndex_8e157_ok : ∀ q ∈ tbJ3_checkIndex_8e157, decode cJ3_checkIndex_8e157 q.1 = .ok q.2 := by decide +kernel
theorem okJ3_checkIndex_8e157 : qOK YJ3_checkIndex_8e157 := ⟨rfl, by decide, ⟨by decide, by decide⟩, qT_t5 73 rfl rfl, qT_t1 20 rfl rfl, by decide +kernel, by decide, tbJ3_checkIndex_8e157_ok, ftJ3_ok⟩

theorem kJ0_335 : qCV RJ0 335 YJ0_coder_7d493 := ⟨⟨okJ0_coder_7d493, qT_t4 180 rfl rfl⟩, qT_t4 181 rfl rfl, qT_t4 182 rfl rfl⟩
theorem kJ0_492 : qCV RJ0 492 YJ0_isLatin1_aae02 := ⟨⟨okJ0_isLatin1_aae02, qT_t4 170 rfl rfl⟩, qT_t4 171 rfl rfl, qT_t4 172 rfl rfl⟩
theorem kJ0_495 : qCS RJ0 495 YJ1_charAt_3b067 := ⟨⟨okJ1_charAt_3b067, qT_t5 65 rfl rfl⟩, qT_t5 66 rfl rfl⟩
theorem kJ0_633 : qCV RJ0 633 YJ0_indexOf_7cf53 := ⟨⟨okJ0_indexOf_7cf53, qT_t4 166 rfl rfl⟩, qT_t4 167 rfl rfl, qT_t4 168 rfl rfl⟩
theorem kJ0_505 : qCV RJ0 505 YJ0_length_8abf5 := ⟨⟨okJ0_length_8abf5, qT_t4 176 rfl rfl⟩, qT_t4 177 rfl rfl, qT_t4 178 rfl rfl⟩
theorem kJ0_637 : qCS RJ0 637 YJ1_indexOf_4cfef := ⟨⟨okJ1_indexOf_4cfef, qT_t4 184 rfl rfl⟩, qT_t4 185 rfl rfl⟩
theorem kJ0_1059 : qCS RJ0 1059 YJ3_checkIndex_8e157 := ⟨⟨okJ3_checkIndex_8e157, qT_t5 71 rfl rfl⟩, qT_t5 72 rfl rfl⟩
theorem kJ1_9 : qCS RJ1 9 YJ0_checkIndex_df160 := ⟨⟨okJ0_checkIndex_df160, qT_t5 68 rfl rfl⟩, qT_t5 69 rfl rfl⟩
theorem kJ1_88 : qCS RJ1 88 YJ1_canEncode_9a6ad := ⟨⟨okJ1_canEncode_9a6ad, qT_t4 187 rfl rfl⟩, qT_t4 188 rfl rfl⟩
theorem kJ1_92 : qMth RJ1 92 Lib.Math.max.name Lib.Math.max.code := ⟨qT_t4 190 rfl rfl, qT_t3 146 rfl rfl, qT_t1 15 rfl rfl, qT_t3 147 rfl rfl⟩
theorem kJ1_38 : qMth RJ1 38 Lib.Math.min.name Lib.Math.min.code := ⟨qT_t4 191 rfl rfl, qT_t3 143 rfl rfl, qT_t1 15 rfl rfl, qT_t3 144 rfl rfl⟩
theorem kJ1_95 : qCS RJ1 95 YJ1_indexOfChar_4cfef := ⟨⟨okJ1_indexOfChar_4cfef, qT_t4 192 rfl rfl⟩, qT_t4 193 rfl rfl⟩
theorem kX4_42 : qCV RX4 42 YJ0_indexOf_0f7a4 := ⟨⟨okJ0_indexOf_0f7a4, qT_t5 9 rfl rfl⟩, qT_t4 163 rfl rfl, qT_t4 164 rfl rfl⟩
theorem kX5_105 : qCV RX5 105 YJ0_length_8abf5 := ⟨⟨okJ0_length_8abf5, qT_t5 60 rfl rfl⟩, qT_t4 177 rfl rfl, qT_t4 178 rfl rfl⟩
theorem kX5_110 : qCV RX5 110 YJ0_charAt_5068e := ⟨⟨okJ0_charAt_5068e, qT_t5 61 rfl rfl⟩, qT_t5 62 rfl rfl, qT_t5 63 rfl rfl⟩
theorem kX5_116 : qCV RX5 116 YJ0_indexOf_0f7a4 := ⟨⟨okJ0_indexOf_0f7a4, qT_t5 46 rfl rfl⟩, qT_t4 163 rfl rfl, qT_t4 164 rfl rfl⟩
theorem kX9_57 : qCV RX9 57 YJ0_indexOf_0f7a4 := ⟨⟨okJ0_indexOf_0f7a4, qT_t4 162 rfl rfl⟩, qT_t4 163 rfl rfl, qT_t4 164 rfl rfl⟩

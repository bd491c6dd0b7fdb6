/-! printed by p114.py: the law from its entry to its loop, its loop -/
def qCL : List qS := [.inl (11, [.inr (some 1), .inr (some 22), .inr (some 23), .inr (some 24), .inr (some 29), .inr (some 34), .inr (some 39), .inr (some 49), .inr (some 53), .inr (some 56), .inl 2, .inl 2, .inl 2, .inl 2, .inl 2]), .inl (9, [.inr (some 2), .inr (some 12), .inr (some 15), .inr (some 21), .inl 0, .inl 0, .inl 0, .inl 0, .inl 0, .inl 0]), .inl (1, [.inl 0, .inl 0, .inl 0, .inr (some 3), .inr (some 4), .inr (some 5), .inr (some 6), .inr (some 7), .inr (some 8), .inr (some 9), .inr (some 10), .inr (some 11)]), .inr (.inl (0, 300)), .inr (.inl (0, 60)), .inr (.inl (0, 60)), .inr (.inl (0, 60)), .inr (.inl (0, 60)), .inr (.inl (0, 60)), .inr (.inl (0, 150)), .inr (.inl (0, 150)), .inr (.inl (0, 150)), .inl (3, [.inl 0, .inl 0, .inr (some 13), .inr (some 14)]), .inr (.inl (0, 512)), .inr (.inl (0, 10)), .inl (4, [.inl 0, .inr (some 16), .inr (some 17), .inr (some 18), .inl 0, .inr (some 19), .inr (some 20)]), .inr (.inl (0, 50)), .inr (.inl (0, 5)), .inr (.inl (0, 5)), .inr (.inl (0, 18)), .inr (.inl (0, 18)), .inr (.inl (1, 400)), .inr (.inr (4, [none, none, none])), .inr (.inl (0, 5)), .inl (10, [.inr (some 25), .inr (some 26), .inr (some 27), .inr (some 28)]), .inr (.inl (0, 20)), .inr (.inl (0, 20)), .inr (.inl (0, 20)), .inr (.inl (0, 20)), .inl (2, [.inr (some 30), .inr (some 31), .inl 2, .inr (some 32), .inr (some 33), .inl 0, .inl 0, .inl 0]), .inr (.inl (0, 20)), .inr (.inl (0, 20)), .inr (.inl (0, 60)), .inr (.inl (0, 4)), .inl (2, [.inr (some 35), .inr (some 36), .inl 2, .inr (some 37), .inr (some 38), .inl 0, .inl 0, .inl 0]), .inr (.inl (0, 20)), .inr (.inl (0, 20)), .inr (.inl (0, 60)), .inr (.inl (0, 4)), .inl (8, [.inl 0, .inr (some 40), .inr (some 41), .inr (some 42), .inr (some 43), .inr (some 44), .inl 0, .inr (some 45), .inr (some 46), .inr (some 47), .inr (some 48)]), .inr (.inl (0, 40)), .inr (.inl (0, 40)), .inr (.inl (2, 10)), .inr (.inl (2, 10)), .inr (.inl (0, 10)), .inr (.inl (2, 10)), .inr (.inl (0, 3)), .inr (.inl (0, 3)), .inr (.inl (0, 3)), .inl (5, [.inl 0, .inr (some 50), .inr (some 51), .inr (some 52), .inl 0, .inl 0, .inl 0, .inl 0, .inl 0, .inl 0, .inl 0]), .inr (.inl (0, 18)), .inr (.inl (0, 18)), .inr (.inl (1, 400)), .inl (7, [.inr (some 54), .inr (some 55), .inl 0]), .inr (.inl (0, 50)), .inr (.inl (0, 5)), .inl (6, [.inl 0, .inl 0, .inl 0, .inr (some 57), .inr (some 58), .inl 0, .inr (some 59), .inr (some 68), .inr (some 69), .inr (some 70), .inl 0, .inr (some 71), .inr (some 72), .inr (some 73), .inl 0, .inl 0, .inr (some 74), .inr (some 75), .inr (some 76), .inl 0]), .inr (.inl (0, 5)), .inr (.inl (0, 20)), .inl (0, [.inr (some 60), .inr (some 61), .inr (some 62), .inr (some 63), .inr (some 64), .inr (some 65), .inr (some 66), .inr (some 67)]), .inr (.inl (0, 20)), .inr (.inl (0, 28)), .inr (.inl (0, 20)), .inr (.inl (0, 20)), .inr (.inl (0, 20)), .inr (.inl (0, 20)), .inr (.inl (0, 20)), .inr (.inl (0, 20)), .inr (.inl (0, 12)), .inr (.inl (0, 60)), .inr (.inl (0, 12)), .inr (.inl (0, 5)), .inr (.inl (0, 25)), .inr (.inl (0, 5)), .inr (.inl (0, 60)), .inr (.inl (0, 20)), .inr (.inl (0, 20))]
def mC (m : qM) : qM := (q_up (q_up (q_up (q_up (q_up (q_up (q_clr (q_clr (q_clr (q_up (q_up (q_clr (q_clr (q_clr (q_up (q_clr (q_clr (q_clr (q_clr (q_clr (q_clr (q_clr (q_clr (q_clr (q_clr (q_clr (q_clr (q_up (q_clr (q_clr (q_up (q_up (q_up (q_clr (q_up (q_clr (q_clr (q_clr (q_up (q_up (q_up (q_up (q_up (q_up (q_up (q_clr (q_clr (q_clr (q_up (q_clr (q_clr (q_clr (q_clr (q_clr (q_up (q_clr (q_clr (q_clr (q_clr (q_clr (q_up (q_clr (q_up (q_up (q_up (q_clr (q_clr (q_up (q_clr (q_clr (q_clr (q_up (q_up (q_up (q_clr (q_clr (q_up (q_clr (q_clr (q_clr (q_clr (q_clr (q_clr (q_clr (q_clr (q_clr (q_clr (q_up (q_up (q_up (q_up (q_up (q_up (q_clr (q_row (q_clr (q_clr (q_up (q_clr (q_clr (q_clr (q_up (q_clr (q_clr (q_clr (q_up (q_up (q_clr (q_clr (q_clr (q_clr (q_clr (q_clr (q_clr (q_clr (q_clr (q_clr (q_up (q_up (q_up (q_clr (q_clr m 1) 2) 2 0 0) 2 1 0) 2 2 0) 3) 4) 5) 6) 7) 8) 9) 10) 11) 12) 12 0 0) 12 1 0) 13) 14) 15) 15 0 0) 16) 17) 18) 15 4 0) 19) 20) 19 (fun k => if k < 18 then (-1) else (q_clr (q_clr (q_up (q_clr (q_clr (q_clr (q_up m 15 0 0) 16) 17) 18) 15 4 0) 19) 20) 19 k)) 21) 1 4 0) 1 5 0) 1 6 (-1)) 1 7 0) 1 8 0) 1 9 (-1)) 22) 23) 24) 25) 26) 27) 28) 29) 30) 31) 29 2 0) 32) 33) 29 5 0) 29 6 (-1)) 29 7 (-1)) 34) 35) 36) 34 2 0) 37) 38) 34 5 0) 34 6 (-1)) 34 7 (-1)) 39) 39 0 0) 40) 41) 42) 43) 44) 39 6 0) 45) 46) 47) 48) 49) 49 0 0) 50) 51) 52) 49 4 0) 49 5 0) 49 6 0) 49 7 0) 49 8 (-1)) 49 9 0) 49 10 (-1)) 53) 54) 55) 53 2 0) 56) 56 0 0) 56 1 (-1)) 56 2 (-1)) 57) 58) 56 5 (-1)) 59) 60) 61) 62) 63) 64) 65) 66) 67) 68) 69) 70) 56 10 0) 71) 72) 73) 56 14 0) 56 15 0) 74) 75) 76) 56 19 0) 0 10 1) 0 11 1) 0 12 1) 0 13 1) 0 14 1)
def yC1 (y : qM) : qM := (q_clr (q_clr (q_clr (q_clr (q_clr (q_clr (q_clr (q_clr (q_clr (q_clr (q_clr (q_clr (q_clr (q_clr (q_clr (q_clr (q_clr (q_clr (q_clr (q_clr (q_clr (q_clr (q_clr (q_clr (q_clr (q_clr (q_clr (q_clr (q_clr (q_clr (q_clr (q_clr (q_clr (q_clr (q_clr (q_clr (q_clr (q_clr (q_clr (q_clr (q_clr (q_clr (q_clr (q_clr (q_clr (q_clr (q_clr (q_clr (q_clr (q_clr (q_clr (q_clr (q_clr (q_clr (q_clr (q_clr (q_clr (q_clr (q_clr (q_clr (q_clr (q_clr (q_clr (q_clr (q_clr (q_clr (q_clr (q_clr (q_clr (q_clr (q_clr (q_clr (q_clr (q_clr (q_clr (q_clr y 1) 2) 3) 4) 5) 6) 7) 8) 9) 10) 11) 12) 13) 14) 15) 16) 17) 18) 19) 20) 21) 22) 23) 24) 25) 26) 27) 28) 29) 30) 31) 32) 33) 34) 35) 36) 37) 38) 39) 40) 41) 42) 43) 44) 45) 46) 47) 48) 49) 50) 51) 52) 53) 54) 55) 56) 57) 58) 59) 60) 61) 62) 63) 64) 65) 66) 67) 68) 69) 70) 71) 72) 73) 74) 75) 76)
def mM (m : qM) : qM := (q_up (q_up (q_clr (q_clr (q_clr (q_clr (q_clr (q_clr (q_clr (q_clr (q_clr (q_clr (q_clr (q_clr (q_clr (q_clr (q_clr (q_clr (q_clr (q_clr (q_clr (q_clr (q_clr (q_clr (q_clr (q_clr (q_clr (q_clr (q_clr (q_clr (q_clr (q_clr (q_clr (q_clr (q_clr (q_clr (q_clr (q_clr (q_clr (q_clr (q_clr (q_clr (q_clr (q_clr (q_clr (q_clr (q_clr (q_clr (q_clr m 78) 79) 80) 81) 82) 83) 84) 85) 86) 87) 88) 89) 90) 91) 92) 93) 94) 95) 96) 97) 98) 99) 100) 101) 102) 103) 104) 105) 106) 107) 108) 109) 110) 111) 112) 113) 114) 115) 116) 117) 118) 119) 120) 121) 122) 123) 124) 81 0 (-1)) 83 0 (-1))
def yM1 (y : qM) : qM := (q_clr (q_clr (q_clr (q_clr (q_clr (q_clr (q_clr (q_clr (q_clr (q_clr (q_clr (q_clr (q_clr (q_clr (q_clr (q_clr (q_clr (q_clr (q_clr (q_clr (q_clr (q_clr (q_clr (q_clr (q_clr (q_clr (q_clr (q_clr (q_clr (q_clr (q_clr (q_clr (q_clr (q_clr (q_clr (q_clr (q_clr (q_clr (q_clr (q_clr (q_clr (q_clr (q_clr (q_clr (q_clr (q_clr (q_clr y 78) 79) 80) 81) 82) 83) 84) 85) 86) 87) 88) 89) 90) 91) 92) 93) 94) 95) 96) 97) 98) 99) 100) 101) 102) 103) 104) 105) 106) 107) 108) 109) 110) 111) 112) 113) 114) 115) 116) 117) 118) 119) 120) 121) 122) 123) 124)
theorem iA_0 {M : qM} (f0 : M 0 10 = 1 ∧ M 0 11 = 1 ∧ M 0 12 = 1 ∧ M 0 13 = 1 ∧ M 0 14 = 1) (f1 : M 1 4 = 0 ∧ M 1 5 = 0 ∧ M 1 6 = -1 ∧ M 1 7 = 0 ∧ M 1 8 = 0 ∧ M 1 9 = -1) (f2 : M 2 0 = 0 ∧ M 2 1 = 0 ∧ M 2 2 = 0) (f12 : M 12 0 = 0 ∧ M 12 1 = 0) (f14 : ∀ j, M 14 j = 0) (f15 : M 15 0 = 0 ∧ M 15 4 = 0) (f19 : ∀ j, j < 18 → M 19 j = -1) (g1 : M 79 0 = 0 ∧ M 80 0 = 0 ∧ M 81 0 = -1) (g2 : M 82 0 = 0 ∧ M 83 0 = -1 ∧ M 84 0 = 0) (g3 : M 85 0 = 0 ∧ M 86 0 = 0 ∧ M 92 0 = 0) (g4 : M 96 0 = 0 ∧ M 101 0 = 0 ∧ M 105 0 = 0) (f99 : ∀ j, M 99 j = 0) (f124 : ∀ j, M 124 j = 0) : iA 0 ((none, none, none), []) M := by
  obtain ⟨a4, a5, a6, a7, a8, a9⟩ := f1
  obtain ⟨b0, b1, b2⟩ := f2
  obtain ⟨c0, c1⟩ := f12
  obtain ⟨d0, d4⟩ := f15
  obtain ⟨h79, h80, h81⟩ := g1
  obtain ⟨h82, h83, h84⟩ := g2
  obtain ⟨h85, h86, h92⟩ := g3
  obtain ⟨h96, h101, h105⟩ := g4
  have rA0 : rA M := ⟨⟨by omega, by omega, by omega⟩, ⟨by omega, by omega, by omega⟩, ⟨by omega, by omega, by omega⟩, by omega, by omega, by omega⟩
  have hC : rC M := by
    refine ⟨rA0, fun w w0 w1 => absurd w1 (by omega), fun w w0 w1 => absurd w1 (by omega), fun w w0 w1 => absurd w1 (by omega), fun w w0 w1 => absurd w1 (by omega), fun j k jk kn => absurd kn (by omega), fun j k jk kn => absurd kn (by omega), ?_, ?_⟩
    · rw [b2, b0]; rfl
    · rw [b0, b1]; rfl
  have hL : rL M := by
    refine ⟨⟨⟨by omega, by omega, by omega⟩, fun k k0 k1 => absurd k1 (by omega), fun j k jk kn => absurd kn (by omega), fun a a0 a1 => f14 _⟩, fun a a0 a1 => absurd a1 (by omega)⟩
  have hX : rXn M := ⟨⟨by omega, by omega⟩, fun a a0 a1 => absurd a1 (by omega), fun j k jk kn => absurd kn (by omega)⟩
  have hXl : rXl M := by
    refine ⟨⟨by omega, by omega⟩, fun l l0 l1 => absurd l1 (by omega), fun c s h1 h2 h3 h4 => ?_⟩
    rw [d4]
    exact ⟨fun _ => f19 _ (by omega), fun z => absurd rfl z⟩
  have hT : rTp M := rTp_z a4 h79 (by omega) (by omega) (by omega) (by omega)
  refine ⟨⟨⟨hC, hL⟩, ⟨hX, hXl, hT⟩, by omega, fun a _ _ => by rw [f99]; exact ⟨by decide, by decide⟩⟩, iK_1 f0, (none, none, none), 0, rfl, ⟨fun k hk => Or.inl ?_, fun k k' hk hk' _ => Or.inl ?_, rfl⟩, fun k hk => Or.inl ⟨?_, f124 k⟩⟩
  all_goals
    have : k = 0 ∨ k = 1 ∨ k = 2 := by omega
    rcases this with rfl | rfl | rfl <;> rfl

set_option maxRecDepth 100000 in
theorem qCL_len : qCL.length = 77 := rfl
set_option maxRecDepth 100000 in
theorem qCL_w : qCL.all (q_shw 77) = true := by decide +kernel
set_option maxRecDepth 100000 in
theorem qCL_ly : qCL ++ (.inl (12, [.inl 0, .inr (some 78), .inr (some 79), .inr (some 80), .inr (some 81), .inr (some 82), .inr (some 83), .inr (some 84), .inr (some 85), .inr (some 86), .inr (some 87), .inr (some 88), .inr (some 89), .inr (some 90), .inr (some 91), .inr (some 92), .inr (some 93), .inr (some 94), .inr (some 95), .inr (some 96), .inr (some 97), .inr (some 98), .inr (some 99), .inr (some 100), .inr (some 101), .inr (some 102), .inr (some 103), .inr (some 104), .inr (some 105), .inr (some 106), .inr (some 107), .inr (some 108), .inr (some 109), .inr (some 110), .inr (some 111), .inl 0, .inl 0, .inr (some 112), .inr (some 113), .inr (some 114), .inr (some 115), .inl 0, .inl 0, .inl 0, .inl 0, .inl 0, .inl 1, .inl 0, .inl 0, .inl 0, .inl 0, .inr (some 116), .inr (some 117), .inr (some 118), .inl 0, .inr (some 119), .inl 0, .inr (some 120), .inr (some 121), .inr (some 122), .inl 2, .inl 0, .inr (some 123), .inr (some 124)]) :: .inr (.inl (1, 1600)) :: .inr (.inl (0, 4)) :: .inr (.inl (0, 4)) :: .inr (.inl (0, 4)) :: .inr (.inl (0, 4)) :: .inr (.inl (0, 4)) :: .inr (.inl (0, 4)) :: .inr (.inl (0, 4)) :: .inr (.inl (0, 4)) :: .inr (.inl (0, 1200)) :: .inr (.inl (0, 240)) :: .inr (.inl (0, 240)) :: .inr (.inl (0, 240)) :: .inr (.inl (2, 240)) :: .inr (.inl (0, 4)) :: .inr (.inl (0, 600)) :: .inr (.inl (0, 600)) :: .inr (.inl (0, 600)) :: .inr (.inl (0, 4)) :: .inr (.inl (0, 40)) :: .inr (.inl (0, 1200)) :: .inr (.inl (0, 40)) :: .inr (.inl (3, 200000)) :: .inr (.inl (0, 4)) :: .inr (.inl (0, 20)) :: .inr (.inl (0, 20)) :: .inr (.inl (1, 200)) :: .inr (.inl (0, 4)) :: .inr (.inl (0, 256)) :: .inr (.inl (0, 5)) :: .inr (.inl (0, 60)) :: .inr (.inl (2, 60)) :: .inr (.inl (0, 20)) :: .inr (.inl (0, 20)) :: .inr (.inl (0, 20)) :: .inr (.inl (0, 20)) :: .inr (.inl (0, 40)) :: .inr (.inl (2, 10)) :: .inr (.inl (0, 68)) :: .inr (.inl (0, 50)) :: .inr (.inl (0, 5)) :: .inr (.inl (0, 5)) :: .inr (.inl (0, 12)) :: .inr (.inl (0, 5)) :: .inr (.inl (0, 20)) :: .inr (.inl (0, 72)) :: .inr (.inl (2, 3)) :: []) = qLy ((none, none, none), []) := rfl
set_option maxRecDepth 100000 in
set_option maxHeartbeats 4000000 in
theorem law_start2 {nm : String} {κ : qK} {fin : State → Prop} (hκ : qCx (YL nm tbL) 13 600000 7302250 κ) {pre : List qS} (hl : pre.length = 77) (hw : pre.all (q_shw 77) = true) (m y : qM) (k : qJ (YL nm tbL) κ fin (pre ++ (.inl (12, [.inl 0, .inr (some 78), .inr (some 79), .inr (some 80), .inr (some 81), .inr (some 82), .inr (some 83), .inr (some 84), .inr (some 85), .inr (some 86), .inr (some 87), .inr (some 88), .inr (some 89), .inr (some 90), .inr (some 91), .inr (some 92), .inr (some 93), .inr (some 94), .inr (some 95), .inr (some 96), .inr (some 97), .inr (some 98), .inr (some 99), .inr (some 100), .inr (some 101), .inr (some 102), .inr (some 103), .inr (some 104), .inr (some 105), .inr (some 106), .inr (some 107), .inr (some 108), .inr (some 109), .inr (some 110), .inr (some 111), .inl 0, .inl 0, .inr (some 112), .inr (some 113), .inr (some 114), .inr (some 115), .inl 0, .inl 0, .inl 0, .inl 0, .inl 0, .inl 1, .inl 0, .inl 0, .inl 0, .inl 0, .inr (some 116), .inr (some 117), .inr (some 118), .inl 0, .inr (some 119), .inl 0, .inr (some 120), .inr (some 121), .inr (some 122), .inl 2, .inl 0, .inr (some 123), .inr (some 124)]) :: .inr (.inl (1, 1600)) :: .inr (.inl (0, 4)) :: .inr (.inl (0, 4)) :: .inr (.inl (0, 4)) :: .inr (.inl (0, 4)) :: .inr (.inl (0, 4)) :: .inr (.inl (0, 4)) :: .inr (.inl (0, 4)) :: .inr (.inl (0, 4)) :: .inr (.inl (0, 1200)) :: .inr (.inl (0, 240)) :: .inr (.inl (0, 240)) :: .inr (.inl (0, 240)) :: .inr (.inl (2, 240)) :: .inr (.inl (0, 4)) :: .inr (.inl (0, 600)) :: .inr (.inl (0, 600)) :: .inr (.inl (0, 600)) :: .inr (.inl (0, 4)) :: .inr (.inl (0, 40)) :: .inr (.inl (0, 1200)) :: .inr (.inl (0, 40)) :: .inr (.inl (3, 200000)) :: .inr (.inl (0, 4)) :: .inr (.inl (0, 20)) :: .inr (.inl (0, 20)) :: .inr (.inl (1, 200)) :: .inr (.inl (0, 4)) :: .inr (.inl (0, 256)) :: .inr (.inl (0, 5)) :: .inr (.inl (0, 60)) :: .inr (.inl (2, 60)) :: .inr (.inl (0, 20)) :: .inr (.inl (0, 20)) :: .inr (.inl (0, 20)) :: .inr (.inl (0, 20)) :: .inr (.inl (0, 40)) :: .inr (.inl (2, 10)) :: .inr (.inl (0, 68)) :: .inr (.inl (0, 50)) :: .inr (.inl (0, 5)) :: .inr (.inl (0, 5)) :: .inr (.inl (0, 12)) :: .inr (.inl (0, 5)) :: .inr (.inl (0, 20)) :: .inr (.inl (0, 72)) :: .inr (.inl (2, 3)) :: []), mM (q_clr m 77), yM1 (q_clr y 77)) 125 211460 18 [some (qR 1300), some (qR 0), some (qR 77), some (qI 0)] []) : qJ (YL nm tbL) κ fin (pre, m, y) 77 3517 8 [some (qR 1300), some (qR 0), none, none] [] := by
  refine qJ.newL (ci := 12) (fs := [.inl 0, .inr none, .inr none, .inr none, .inr none, .inr none, .inr none, .inr none, .inr none, .inr none, .inr none, .inr none, .inr none, .inr none, .inr none, .inr none, .inr none, .inr none, .inr none, .inr none, .inr none, .inr none, .inr none, .inr none, .inr none, .inr none, .inr none, .inr none, .inr none, .inr none, .inr none, .inr none, .inr none, .inr none, .inr none, .inl 0, .inl 0, .inr none, .inr none, .inr none, .inr none, .inl 0, .inl 0, .inl 0, .inl 0, .inl 0, .inl 1, .inl 0, .inl 0, .inl 0, .inl 0, .inr none, .inr none, .inr none, .inl 0, .inr none, .inl 0, .inr none, .inr none, .inr none, .inl 2, .inl 0, .inr none, .inr none]) (pre ++ (.inl (12, [.inl 0, .inr none, .inr none, .inr none, .inr none, .inr none, .inr none, .inr none, .inr none, .inr none, .inr none, .inr none, .inr none, .inr none, .inr none, .inr none, .inr none, .inr none, .inr none, .inr none, .inr none, .inr none, .inr none, .inr none, .inr none, .inr none, .inr none, .inr none, .inr none, .inr none, .inr none, .inr none, .inr none, .inr none, .inr none, .inl 0, .inl 0, .inr none, .inr none, .inr none, .inr none, .inl 0, .inl 0, .inl 0, .inl 0, .inl 0, .inl 1, .inl 0, .inl 0, .inl 0, .inl 0, .inr none, .inr none, .inr none, .inl 0, .inr none, .inl 0, .inr none, .inr none, .inr none, .inl 2, .inl 0, .inr none, .inr none]) :: [])) 77 hl rfl hκ rfl rfl kn_L_10 kd_12 hw (by rfl) (by rfl) (Nat.le_of_ble_eq_true rfl) (Nat.le_of_ble_eq_true rfl) (Nat.le_of_ble_eq_true rfl) ?_
  show qJ (YL nm tbL) κ fin (pre ++ (.inl (12, [.inl 0, .inr none, .inr none, .inr none, .inr none, .inr none, .inr none, .inr none, .inr none, .inr none, .inr none, .inr none, .inr none, .inr none, .inr none, .inr none, .inr none, .inr none, .inr none, .inr none, .inr none, .inr none, .inr none, .inr none, .inr none, .inr none, .inr none, .inr none, .inr none, .inr none, .inr none, .inr none, .inr none, .inr none, .inr none, .inl 0, .inl 0, .inr none, .inr none, .inr none, .inr none, .inl 0, .inl 0, .inl 0, .inl 0, .inl 0, .inl 1, .inl 0, .inl 0, .inl 0, .inl 0, .inr none, .inr none, .inr none, .inl 0, .inr none, .inl 0, .inr none, .inr none, .inr none, .inl 2, .inl 0, .inr none, .inr none]) :: []), q_clr m 77, q_clr y 77) 78 3581 11 [some (qR 1300), some (qR 0), none, none] [qR 77]
  refine qJ.run hκ 1 (pc' := 12) (ls' := [some (qR 1300), some (qR 0), none, none]) (st' := [qR 77, qR 77]) rfl ?_
  generalize q_clr m 77 = m1 at k ⊢
  generalize q_clr y 77 = y1 at k ⊢
  refine qJ.callI (b := 77) (As := []) (rest := [qR 77]) hκ rfl kL_12 (i_X12_77 pre hl (fun n hn => q_shw_all hn hw) m1 y1) (Nat.le_of_ble_eq_true rfl) rfl rfl (Nat.le_of_ble_eq_true rfl) (Nat.le_of_ble_eq_true rfl) (Nat.le_of_ble_eq_true rfl) (q_wfL 78 (pr_len hl rfl) (by rfl) (by rfl)) (fun r h' e => ?_)
  obtain ⟨rfl, rfl⟩ := e
  refine qJ.cast (h' := (pre ++ (.inl (12, [.inl 0, .inr (some 78), .inr (some 79), .inr (some 80), .inr (some 81), .inr (some 82), .inr (some 83), .inr (some 84), .inr (some 85), .inr (some 86), .inr (some 87), .inr (some 88), .inr (some 89), .inr (some 90), .inr (some 91), .inr (some 92), .inr (some 93), .inr (some 94), .inr (some 95), .inr (some 96), .inr (some 97), .inr (some 98), .inr (some 99), .inr (some 100), .inr (some 101), .inr (some 102), .inr (some 103), .inr (some 104), .inr (some 105), .inr (some 106), .inr (some 107), .inr (some 108), .inr (some 109), .inr (some 110), .inr (some 111), .inl 0, .inl 0, .inr (some 112), .inr (some 113), .inr (some 114), .inr (some 115), .inl 0, .inl 0, .inl 0, .inl 0, .inl 0, .inl 1, .inl 0, .inl 0, .inl 0, .inl 0, .inr (some 116), .inr (some 117), .inr (some 118), .inl 0, .inr (some 119), .inl 0, .inr (some 120), .inr (some 121), .inr (some 122), .inl 2, .inl 0, .inr (some 123), .inr (some 124)]) :: .inr (.inl (1, 1600)) :: .inr (.inl (0, 4)) :: .inr (.inl (0, 4)) :: .inr (.inl (0, 4)) :: .inr (.inl (0, 4)) :: .inr (.inl (0, 4)) :: .inr (.inl (0, 4)) :: .inr (.inl (0, 4)) :: .inr (.inl (0, 4)) :: .inr (.inl (0, 1200)) :: .inr (.inl (0, 240)) :: .inr (.inl (0, 240)) :: .inr (.inl (0, 240)) :: .inr (.inl (2, 240)) :: .inr (.inl (0, 4)) :: .inr (.inl (0, 600)) :: .inr (.inl (0, 600)) :: .inr (.inl (0, 600)) :: .inr (.inl (0, 4)) :: .inr (.inl (0, 40)) :: .inr (.inl (0, 1200)) :: .inr (.inl (0, 40)) :: .inr (.inl (3, 200000)) :: .inr (.inl (0, 4)) :: .inr (.inl (0, 20)) :: .inr (.inl (0, 20)) :: .inr (.inl (1, 200)) :: .inr (.inl (0, 4)) :: .inr (.inl (0, 256)) :: .inr (.inl (0, 5)) :: .inr (.inl (0, 60)) :: .inr (.inl (2, 60)) :: .inr (.inl (0, 20)) :: .inr (.inl (0, 20)) :: .inr (.inl (0, 20)) :: .inr (.inl (0, 20)) :: .inr (.inl (0, 40)) :: .inr (.inl (2, 10)) :: .inr (.inl (0, 68)) :: .inr (.inl (0, 50)) :: .inr (.inl (0, 5)) :: .inr (.inl (0, 5)) :: .inr (.inl (0, 12)) :: .inr (.inl (0, 5)) :: .inr (.inl (0, 20)) :: .inr (.inl (0, 72)) :: .inr (.inl (2, 3)) :: []), mM m1, yM1 y1)) (cs' := 125) (sl' := 211460) (pc' := 15) (ls' := [some (qR 1300), some (qR 0), none, none]) (st' := [qR 77]) ?_ rfl rfl rfl
  refine qJ.run hκ 3 (pc' := 18) (ls' := [some (qR 1300), some (qR 0), some (qR 77), some (qI 0)]) (st' := []) rfl ?_
  exact k
set_option maxRecDepth 100000 in
set_option maxHeartbeats 4000000 in
theorem law_start {nm : String} {κ : qK} {fin : State → Prop} (hκ : qCx (YL nm tbL) 13 600000 7302250 κ) (m y : qM) (k : ∀ m' y', iA 0 ((none, none, none), []) m' → qJ (YL nm tbL) κ fin (qLy ((none, none, none), []), m', y') 125 211460 18 [some (qR 1300), some (qR 0), some (qR 77), some (qI 0)] []) : qJ (YL nm tbL) κ fin ([], m, y) 0 0 0 [some (qR 1300), none, none, none] [] := by
  refine qJ.newL (ci := 11) (fs := [.inr none, .inr none, .inr none, .inr none, .inr none, .inr none, .inr none, .inr none, .inr none, .inr none, .inl 2, .inl 2, .inl 2, .inl 2, .inl 2]) (.inl (11, [.inr none, .inr none, .inr none, .inr none, .inr none, .inr none, .inr none, .inr none, .inr none, .inr none, .inl 2, .inl 2, .inl 2, .inl 2, .inl 2]) :: []) 0 rfl rfl hκ rfl rfl kn_L_7 kd_11 (by rfl) (by rfl) (by rfl) (Nat.le_of_ble_eq_true rfl) (Nat.le_of_ble_eq_true rfl) (Nat.le_of_ble_eq_true rfl) ?_
  show qJ (YL nm tbL) κ fin (.inl (11, [.inr none, .inr none, .inr none, .inr none, .inr none, .inr none, .inr none, .inr none, .inr none, .inr none, .inl 2, .inl 2, .inl 2, .inl 2, .inl 2]) :: [], q_clr m 0, q_clr y 0) 1 15 3 [some (qR 1300), none, none, none] [qR 0]
  refine qJ.run hκ 1 (pc' := 4) (ls' := [some (qR 1300), none, none, none]) (st' := [qR 0, qR 0]) rfl ?_
  refine qJ.callI (b := 0) (As := []) (rest := [qR 0]) hκ rfl kL_9 (i_X11_0 (q_clr m 0) (q_clr y 0)) (Nat.le_of_ble_eq_true rfl) rfl rfl (Nat.le_of_ble_eq_true rfl) (Nat.le_of_ble_eq_true rfl) (Nat.le_of_ble_eq_true rfl) (Or.inr ⟨by rfl, by rfl⟩) (fun r h' e => ?_)
  obtain ⟨rfl, rfl⟩ := e
  refine qJ.cast (h' := (qCL, mC (q_clr m 0), yC1 (q_clr y 0))) (cs' := 77) (sl' := 3517) (pc' := 7) (ls' := [some (qR 1300), none, none, none]) (st' := [qR 0]) ?_ rfl rfl rfl
  refine qJ.run hκ 1 (pc' := 8) (ls' := [some (qR 1300), some (qR 0), none, none]) (st' := []) rfl ?_
  refine law_start2 hκ qCL_len qCL_w (mC (q_clr m 0)) (yC1 (q_clr y 0)) ?_
  refine qJ.cast (h' := (qLy ((none, none, none), []), mM (q_clr (mC (q_clr m 0)) 77), yM1 (q_clr (yC1 (q_clr y 0)) 77))) (cs' := 125) (sl' := 211460) (pc' := 18) (ls' := [some (qR 1300), some (qR 0), some (qR 77), some (qI 0)]) (st' := []) ?_ (congrArg (fun L => (L, mM (q_clr (mC (q_clr m 0)) 77), yM1 (q_clr (yC1 (q_clr y 0)) 77))) qCL_ly) rfl rfl
  exact k _ _ (iA_0 ⟨rfl, rfl, rfl, rfl, rfl⟩ ⟨rfl, rfl, rfl, rfl, rfl, rfl⟩ ⟨rfl, rfl, rfl⟩ ⟨rfl, rfl⟩ (fun j => rfl) ⟨rfl, rfl⟩ (fun j hj => if_pos hj) ⟨rfl, rfl, rfl⟩ ⟨rfl, rfl, rfl⟩ ⟨rfl, rfl, rfl⟩ ⟨rfl, rfl, rfl⟩ (fun j => rfl) (fun j => rfl))

set_option maxRecDepth 100000 in
set_option maxHeartbeats 4000000 in
theorem law_loop {nm : String} {κ : qK} {fin : State → Prop} {L : Nat} {xs : Nat → Int32} (hκ : qCx (YL nm tbL) 13 600000 7302250 κ) (hX : qSc κ L xs) (hL : L ≤ 3584) (hend : ∀ (h : qH) (cs sl : Nat) (i : Int), cs ≤ 600000 → sl ≤ 7302250 → qJ (YL nm tbL) κ fin h cs sl 1253 [some (qR 1300), some (qR 0), some (qR 77), some (qI i)] [qI 1]) :
    ∀ (n : Nat) (c i : Int) (u : qU) (m y : qM) (cs sl : Nat), 0 ≤ c → i = 7 * c → iA c u m → (cs : Int) ≤ 125 + 21 * c → (sl : Int) ≤ 211460 + 2101 * c → i ≤ L + 6 → (L + 8 - i).toNat < n → qJ (YL nm tbL) κ fin (qLy u, m, y) cs sl 18 [some (qR 1300), some (qR 0), some (qR 77), some (qI i)] [] := by
  intro n
  induction n with
  | zero => intro c i u m y cs sl _ _ _ _ _ _ hz; omega
  | succ n ih =>
    intro c i u m y cs sl c0 hic hA hcs hsl hi6 hn
    refine qJ.run hκ 2 (pc' := 20) (ls' := [some (qR 1300), some (qR 0), some (qR 77), some (qI i)]) (st' := [qR 1300, qI i]) rfl ?_
    refine qJ.slen hκ hX rfl ?_
    show qJ (YL nm tbL) κ fin (qLy u, m, y) cs sl 21 [some (qR 1300), some (qR 0), some (qR 77), some (qI i)] [qI L, qI i]
    refine qJ.run hκ 2 (pc' := 24) (ls' := [some (qR 1300), some (qR 0), some (qR 77), some (qI i)]) (st' := [qI ((L : Int) - 7), qI i]) rfl ?_
    refine qJ.icmp_gt hκ (tgt := 1252) rfl rfl (by omega) (by omega) (fun c24 => ?_) (fun c24 => ?_)
    · refine qJ.run hκ 1 (pc' := 1253) (ls' := [some (qR 1300), some (qR 0), some (qR 77), some (qI i)]) (st' := [qI 1]) rfl ?_
      exact hend _ _ _ _ (by omega) (by omega)
    · show qJ (YL nm tbL) κ fin (qLy u, m, y) cs sl 27 [some (qR 1300), some (qR 0), some (qR 77), some (qI i)] []
      refine qJ.run hκ 2 (pc' := 29) (ls' := [some (qR 1300), some (qR 0), some (qR 77), some (qI i)]) (st' := [qI i, qR 1300]) rfl ?_
      refine qJ.sld hκ hX rfl (by omega) (by omega) ?_
      show qJ (YL nm tbL) κ fin (qLy u, m, y) cs sl 30 [some (qR 1300), some (qR 0), some (qR 77), some (qI i)] [qI (sc xs i)]
      refine qJ.run hκ 2 (pc' := 33) (ls' := [some (qR 1300), some (qR 0), some (qR 77), some (qI i)]) (st' := [qI (q_and (sc xs i) 63)]) rfl ?_
      have rA : -2147483648 ≤ q_and (sc xs i) 63 ∧ q_and (sc xs i) 63 ≤ 2147483647 := by
        unfold q_and
        have h1 := Int32.le_toInt (Int32.ofInt (sc xs i) &&& Int32.ofInt 63)
        have h2 := Int32.toInt_lt (Int32.ofInt (sc xs i) &&& Int32.ofInt 63)
        constructor <;> omega
      have nxt : ∀ (u' : qU) (m' y' : qM) (cs' sl' : Nat), iA (c + 1) u' m' → cs' ≤ cs + 21 → sl' ≤ sl + 2101 → qJ (YL nm tbL) κ fin (qLy u', m', y') cs' sl' 1246 [some (qR 1300), some (qR 0), some (qR 77), some (qI i)] [] := fun u' m' y' cs' sl' hA' h1 h2 => by
        refine qJ.run hκ 2 (pc' := 18) (ls' := [some (qR 1300), some (qR 0), some (qR 77), some (qI (i + 7))]) (st' := []) rfl ?_
        exact ih (c + 1) (i + 7) u' m' y' cs' sl' (by omega) (by omega) hA' (by omega) (by omega) (by omega) (by omega)
      by_cases e0 : q_and (sc xs i) 63 = 0
      · refine qJ.tswIn hκ (tgt := 192) rfl rA (by omega) (by omega) (by rw [e0]; rfl) rfl ?_
        exact law_0 hκ hX hL (by omega) (by omega) hA (by omega) (by omega) nxt
      by_cases e1 : q_and (sc xs i) 63 = 1
      · refine qJ.tswIn hκ (tgt := 215) rfl rA (by omega) (by omega) (by rw [e1]; rfl) rfl ?_
        exact law_1 hκ hX hL (by omega) (by omega) hA (by omega) (by omega) nxt
      by_cases e2 : q_and (sc xs i) 63 = 2
      · refine qJ.tswIn hκ (tgt := 306) rfl rA (by omega) (by omega) (by rw [e2]; rfl) rfl ?_
        exact law_2 hκ hX hL (by omega) (by omega) hA (by omega) (by omega) nxt
      by_cases e3 : q_and (sc xs i) 63 = 3
      · refine qJ.tswIn hκ (tgt := 339) rfl rA (by omega) (by omega) (by rw [e3]; rfl) rfl ?_
        exact law_3 hκ hX hL (by omega) (by omega) hA (by omega) (by omega) nxt
      by_cases e4 : q_and (sc xs i) 63 = 4
      · refine qJ.tswIn hκ (tgt := 372) rfl rA (by omega) (by omega) (by rw [e4]; rfl) rfl ?_
        exact law_4 hκ hX hL (by omega) (by omega) hA (by omega) (by omega) nxt
      by_cases e5 : q_and (sc xs i) 63 = 5
      · refine qJ.tswIn hκ (tgt := 405) rfl rA (by omega) (by omega) (by rw [e5]; rfl) rfl ?_
        exact law_5 hκ hX hL (by omega) (by omega) hA (by omega) (by omega) nxt
      by_cases e6 : q_and (sc xs i) 63 = 6
      · refine qJ.tswIn hκ (tgt := 428) rfl rA (by omega) (by omega) (by rw [e6]; rfl) rfl ?_
        exact law_6 hκ hX hL (by omega) (by omega) hA (by omega) (by omega) nxt
      by_cases e7 : q_and (sc xs i) 63 = 7
      · refine qJ.tswIn hκ (tgt := 451) rfl rA (by omega) (by omega) (by rw [e7]; rfl) rfl ?_
        exact law_7 hκ hX hL (by omega) (by omega) hA (by omega) (by omega) nxt
      by_cases e8 : q_and (sc xs i) 63 = 8
      · refine qJ.tswIn hκ (tgt := 474) rfl rA (by omega) (by omega) (by rw [e8]; rfl) rfl ?_
        exact law_8 hκ hX hL (by omega) (by omega) hA (by omega) (by omega) nxt
      by_cases e9 : q_and (sc xs i) 63 = 9
      · refine qJ.tswIn hκ (tgt := 497) rfl rA (by omega) (by omega) (by rw [e9]; rfl) rfl ?_
        exact law_9 hκ hX hL (by omega) (by omega) hA (by omega) (by omega) nxt
      by_cases e10 : q_and (sc xs i) 63 = 10
      · refine qJ.tswIn hκ (tgt := 510) rfl rA (by omega) (by omega) (by rw [e10]; rfl) rfl ?_
        exact law_10 hκ hX hL (by omega) (by omega) hA (by omega) (by omega) nxt
      by_cases e11 : q_and (sc xs i) 63 = 11
      · refine qJ.tswIn hκ (tgt := 543) rfl rA (by omega) (by omega) (by rw [e11]; rfl) rfl ?_
        exact law_11 hκ hX hL (by omega) (by omega) hA (by omega) (by omega) nxt
      by_cases e12 : q_and (sc xs i) 63 = 12
      · refine qJ.tswIn hκ (tgt := 566) rfl rA (by omega) (by omega) (by rw [e12]; rfl) rfl ?_
        exact law_12 hκ hX hL (by omega) (by omega) hA (by omega) (by omega) nxt
      by_cases e13 : q_and (sc xs i) 63 = 13
      · refine qJ.tswIn hκ (tgt := 599) rfl rA (by omega) (by omega) (by rw [e13]; rfl) rfl ?_
        exact law_13 hκ hX hL (by omega) (by omega) hA (by omega) (by omega) nxt
      by_cases e14 : q_and (sc xs i) 63 = 14
      · refine qJ.tswIn hκ (tgt := 632) rfl rA (by omega) (by omega) (by rw [e14]; rfl) rfl ?_
        exact law_14 hκ hX hL (by omega) (by omega) hA (by omega) (by omega) nxt
      by_cases e15 : q_and (sc xs i) 63 = 15
      · refine qJ.tswIn hκ (tgt := 655) rfl rA (by omega) (by omega) (by rw [e15]; rfl) rfl ?_
        exact law_15 hκ hX hL (by omega) (by omega) hA (by omega) (by omega) nxt
      by_cases e16 : q_and (sc xs i) 63 = 16
      · refine qJ.tswIn hκ (tgt := 688) rfl rA (by omega) (by omega) (by rw [e16]; rfl) rfl ?_
        exact law_16 hκ hX hL (by omega) (by omega) hA (by omega) (by omega) nxt
      by_cases e17 : q_and (sc xs i) 63 = 17
      · refine qJ.tswIn hκ (tgt := 701) rfl rA (by omega) (by omega) (by rw [e17]; rfl) rfl ?_
        exact law_17 hκ hX hL (by omega) (by omega) hA (by omega) (by omega) nxt
      by_cases e18 : q_and (sc xs i) 63 = 18
      · refine qJ.tswIn hκ (tgt := 792) rfl rA (by omega) (by omega) (by rw [e18]; rfl) rfl ?_
        exact law_18 hκ hX hL (by omega) (by omega) hA (by omega) (by omega) nxt
      by_cases e19 : q_and (sc xs i) 63 = 19
      · refine qJ.tswIn hκ (tgt := 805) rfl rA (by omega) (by omega) (by rw [e19]; rfl) rfl ?_
        exact law_19 hκ hX hL (by omega) (by omega) hA (by omega) (by omega) nxt
      by_cases e20 : q_and (sc xs i) 63 = 20
      · refine qJ.tswIn hκ (tgt := 838) rfl rA (by omega) (by omega) (by rw [e20]; rfl) rfl ?_
        exact law_20 hκ hX hL (by omega) (by omega) hA (by omega) (by omega) nxt
      by_cases e21 : q_and (sc xs i) 63 = 21
      · refine qJ.tswIn hκ (tgt := 861) rfl rA (by omega) (by omega) (by rw [e21]; rfl) rfl ?_
        exact law_21 hκ hX hL (by omega) (by omega) hA (by omega) (by omega) nxt
      by_cases e22 : q_and (sc xs i) 63 = 22
      · refine qJ.tswIn hκ (tgt := 884) rfl rA (by omega) (by omega) (by rw [e22]; rfl) rfl ?_
        exact law_22 hκ hX hL (by omega) (by omega) hA (by omega) (by omega) nxt
      by_cases e23 : q_and (sc xs i) 63 = 23
      · refine qJ.tswIn hκ (tgt := 947) rfl rA (by omega) (by omega) (by rw [e23]; rfl) rfl ?_
        exact law_23 hκ hX hL (by omega) (by omega) hA (by omega) (by omega) nxt
      by_cases e24 : q_and (sc xs i) 63 = 24
      · refine qJ.tswIn hκ (tgt := 970) rfl rA (by omega) (by omega) (by rw [e24]; rfl) rfl ?_
        exact law_24 hκ hX hL (by omega) (by omega) hA (by omega) (by omega) nxt
      by_cases e25 : q_and (sc xs i) 63 = 25
      · refine qJ.tswIn hκ (tgt := 983) rfl rA (by omega) (by omega) (by rw [e25]; rfl) rfl ?_
        exact law_25 hκ hX hL (by omega) (by omega) hA (by omega) (by omega) nxt
      by_cases e26 : q_and (sc xs i) 63 = 26
      · refine qJ.tswIn hκ (tgt := 996) rfl rA (by omega) (by omega) (by rw [e26]; rfl) rfl ?_
        exact law_26 hκ hX hL (by omega) (by omega) hA (by omega) (by omega) nxt
      by_cases e27 : q_and (sc xs i) 63 = 27
      · refine qJ.tswIn hκ (tgt := 1019) rfl rA (by omega) (by omega) (by rw [e27]; rfl) rfl ?_
        exact law_27 hκ hX hL (by omega) (by omega) hA (by omega) (by omega) nxt
      by_cases e28 : q_and (sc xs i) 63 = 28
      · refine qJ.tswIn hκ (tgt := 1052) rfl rA (by omega) (by omega) (by rw [e28]; rfl) rfl ?_
        exact law_28 hκ hX hL (by omega) (by omega) hA (by omega) (by omega) nxt
      by_cases e29 : q_and (sc xs i) 63 = 29
      · refine qJ.tswIn hκ (tgt := 1065) rfl rA (by omega) (by omega) (by rw [e29]; rfl) rfl ?_
        exact law_29 hκ hX hL (by omega) (by omega) hA (by omega) (by omega) nxt
      by_cases e30 : q_and (sc xs i) 63 = 30
      · refine qJ.tswIn hκ (tgt := 1098) rfl rA (by omega) (by omega) (by rw [e30]; rfl) rfl ?_
        exact law_30 hκ hX hL (by omega) (by omega) hA (by omega) (by omega) nxt
      by_cases e31 : q_and (sc xs i) 63 = 31
      · refine qJ.tswIn hκ (tgt := 1131) rfl rA (by omega) (by omega) (by rw [e31]; rfl) rfl ?_
        exact law_31 hκ hX hL (by omega) (by omega) hA (by omega) (by omega) nxt
      by_cases e32 : q_and (sc xs i) 63 = 32
      · refine qJ.tswIn hκ (tgt := 1154) rfl rA (by omega) (by omega) (by rw [e32]; rfl) rfl ?_
        exact law_32 hκ hX hL (by omega) (by omega) hA (by omega) (by omega) nxt
      by_cases e33 : q_and (sc xs i) 63 = 33
      · refine qJ.tswIn hκ (tgt := 1177) rfl rA (by omega) (by omega) (by rw [e33]; rfl) rfl ?_
        exact law_33 hκ hX hL (by omega) (by omega) hA (by omega) (by omega) nxt
      by_cases e34 : q_and (sc xs i) 63 = 34
      · refine qJ.tswIn hκ (tgt := 1200) rfl rA (by omega) (by omega) (by rw [e34]; rfl) rfl ?_
        exact law_34 hκ hX hL (by omega) (by omega) hA (by omega) (by omega) nxt
      by_cases e35 : q_and (sc xs i) 63 = 35
      · refine qJ.tswIn hκ (tgt := 1223) rfl rA (by omega) (by omega) (by rw [e35]; rfl) rfl ?_
        exact law_35 hκ hX hL (by omega) (by omega) hA (by omega) (by omega) nxt
      refine qJ.tswOut hκ (tgt := 1246) rfl rA (by omega) rfl ?_
      exact nxt u m y cs sl (iA_o rfl hA) (by omega) (by omega)

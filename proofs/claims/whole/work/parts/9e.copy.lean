/-! printed by p103.py: the class copies its told to an image and back -/
theorem q_cpy_rw {m : qM} {a0 sp a1 dp n i : Nat} (h : i ≠ a1) : q_cpy m a0 sp a1 dp n i = m i := by
  funext j
  unfold q_cpy
  rw [if_neg (fun z => h z.1)]
theorem cpy_ag {E m : qM} {a0 a1 n : Nat} {z : Int} (he : E a0 = m a0) (hn : z.toNat = n) : agN z (m a0) (q_cpy E a0 0 a1 0 n a1) := by
  intro j hj
  rw [q_cpy_at, if_pos ⟨Nat.zero_le j, by omega⟩, Nat.zero_add, Nat.sub_zero, he]

def im125 : List qS := .inl (9, [.inr (some 126), .inr (some 136), .inr (some 139), .inr (some 145), .inl 0, .inl 0, .inl 0, .inl 0, .inl 0, .inl 0]) :: .inl (1, [.inl 0, .inl 0, .inl 0, .inr (some 127), .inr (some 128), .inr (some 129), .inr (some 130), .inr (some 131), .inr (some 132), .inr (some 133), .inr (some 134), .inr (some 135)]) :: .inr (.inl (0, 300)) :: .inr (.inl (0, 60)) :: .inr (.inl (0, 60)) :: .inr (.inl (0, 60)) :: .inr (.inl (0, 60)) :: .inr (.inl (0, 60)) :: .inr (.inl (0, 150)) :: .inr (.inl (0, 150)) :: .inr (.inl (0, 150)) :: .inl (3, [.inl 0, .inl 0, .inr (some 137), .inr (some 138)]) :: .inr (.inl (0, 512)) :: .inr (.inl (0, 10)) :: .inl (4, [.inl 0, .inr (some 140), .inr (some 141), .inr (some 142), .inl 0, .inr (some 143), .inr (some 144)]) :: .inr (.inl (0, 50)) :: .inr (.inl (0, 5)) :: .inr (.inl (0, 5)) :: .inr (.inl (0, 18)) :: .inr (.inl (0, 18)) :: .inr (.inl (1, 400)) :: []

def im146 : List qS := .inl (9, [.inr (some 147), .inr (some 157), .inr (some 160), .inr (some 166), .inl 0, .inl 0, .inl 0, .inl 0, .inl 0, .inl 0]) :: .inl (1, [.inl 0, .inl 0, .inl 0, .inr (some 148), .inr (some 149), .inr (some 150), .inr (some 151), .inr (some 152), .inr (some 153), .inr (some 154), .inr (some 155), .inr (some 156)]) :: .inr (.inl (0, 300)) :: .inr (.inl (0, 60)) :: .inr (.inl (0, 60)) :: .inr (.inl (0, 60)) :: .inr (.inl (0, 60)) :: .inr (.inl (0, 60)) :: .inr (.inl (0, 150)) :: .inr (.inl (0, 150)) :: .inr (.inl (0, 150)) :: .inl (3, [.inl 0, .inl 0, .inr (some 158), .inr (some 159)]) :: .inr (.inl (0, 512)) :: .inr (.inl (0, 10)) :: .inl (4, [.inl 0, .inr (some 161), .inr (some 162), .inr (some 163), .inl 0, .inr (some 164), .inr (some 165)]) :: .inr (.inl (0, 50)) :: .inr (.inl (0, 5)) :: .inr (.inl (0, 5)) :: .inr (.inl (0, 18)) :: .inr (.inl (0, 18)) :: .inr (.inl (1, 400)) :: []

def im167 : List qS := .inl (9, [.inr (some 168), .inr (some 178), .inr (some 181), .inr (some 187), .inl 0, .inl 0, .inl 0, .inl 0, .inl 0, .inl 0]) :: .inl (1, [.inl 0, .inl 0, .inl 0, .inr (some 169), .inr (some 170), .inr (some 171), .inr (some 172), .inr (some 173), .inr (some 174), .inr (some 175), .inr (some 176), .inr (some 177)]) :: .inr (.inl (0, 300)) :: .inr (.inl (0, 60)) :: .inr (.inl (0, 60)) :: .inr (.inl (0, 60)) :: .inr (.inl (0, 60)) :: .inr (.inl (0, 60)) :: .inr (.inl (0, 150)) :: .inr (.inl (0, 150)) :: .inr (.inl (0, 150)) :: .inl (3, [.inl 0, .inl 0, .inr (some 179), .inr (some 180)]) :: .inr (.inl (0, 512)) :: .inr (.inl (0, 10)) :: .inl (4, [.inl 0, .inr (some 182), .inr (some 183), .inr (some 184), .inl 0, .inr (some 185), .inr (some 186)]) :: .inr (.inl (0, 50)) :: .inr (.inl (0, 5)) :: .inr (.inl (0, 5)) :: .inr (.inl (0, 18)) :: .inr (.inl (0, 18)) :: .inr (.inl (1, 400)) :: []

def kIw125 : Nat → Nat → Bool := fun i _ => decide (125 ≤ i ∧ i ≤ 145)

def kIcw125 : Nat → Nat → Bool := fun i _ => decide (126 ≤ i ∧ i ≤ 135)

def kIlw125 : Nat → Nat → Bool := fun i _ => decide (136 ≤ i ∧ i ≤ 138)

def kIxw125 : Nat → Nat → Bool := fun i _ => decide (139 ≤ i ∧ i ≤ 144)

theorem kIcw125x : ∀ i j, kN kIw125 i j = true → kN kIcw125 i j = true := by
  intro i j h
  refine kN_t.mpr fun z => kN_t.mp h ?_
  unfold kIcw125 at z
  unfold kIw125
  rw [decide_eq_true_eq] at z ⊢
  omega

theorem kIlw125x : ∀ i j, kN kIw125 i j = true → kN kIlw125 i j = true := by
  intro i j h
  refine kN_t.mpr fun z => kN_t.mp h ?_
  unfold kIlw125 at z
  unfold kIw125
  rw [decide_eq_true_eq] at z ⊢
  omega

theorem kIxw125x : ∀ i j, kN kIw125 i j = true → kN kIxw125 i j = true := by
  intro i j h
  refine kN_t.mpr fun z => kN_t.mp h ?_
  unfold kIxw125 at z
  unfold kIw125
  rw [decide_eq_true_eq] at z ⊢
  omega

set_option maxRecDepth 100000 in
theorem c_ccw125 (o : Option Nat × Option Nat × Option Nat) (t : List qS) (m y : qM) (h0 : 0 ≤ m 2 0 ∧ m 2 0 ≤ 60) (h2 : 0 ≤ m 2 2 ∧ m 2 2 ≤ 150) : qCt YX1_copyFrom 2 0 0 [qR 126, qR 2] (qLy (o, im125 ++ t), m, y) (fun r h => r = none ∧ ∃ m', h = (qLy (o, im125 ++ t), m', y) ∧ keep (kN kIcw125) m' = keep (kN kIcw125) m ∧ m' 126 0 = m 2 0 ∧ m' 126 1 = m 2 1 ∧ m' 126 2 = m 2 2 ∧ agN (m 2 0 * 5) (m 3) (m' 127) ∧ agN (m 2 0) (m 4) (m' 128) ∧ agN (m 2 0) (m 5) (m' 129) ∧ agN (m 2 0) (m 6) (m' 130) ∧ agN (m 2 0) (m 7) (m' 131) ∧ agN (m 2 0) (m 8) (m' 132) ∧ agN (m 2 2) (m 9) (m' 133) ∧ agN (m 2 2) (m 10) (m' 134) ∧ agN (m 2 2) (m 11) (m' 135)) := by
  refine qCt.intro okX1_copyFrom (Nat.le_of_ble_eq_true rfl) (fun κ hκ => ?_)
  show qJ YX1_copyFrom κ _ (qLy (o, im125 ++ t), m, y) 0 0 0 [some (qR 126), some (qR 2)] []
  refine qJ.run hκ 3 (pc' := 5) (ls' := [some (qR 126), some (qR 2)]) (st' := [qI (m 2 0), qR 126]) rfl ?_
  refine qJ.putI hκ rfl rfl rfl rfl (Or.inl rfl) ?_
  show qJ YX1_copyFrom κ _ (qLy (o, im125 ++ t), (q_up m 126 0 (m 2 0)), y) 0 0 8 [some (qR 126), some (qR 2)] []
  refine qJ.run hκ 3 (pc' := 13) (ls' := [some (qR 126), some (qR 2)]) (st' := [qI (m 2 1), qR 126]) rfl ?_
  refine qJ.putI hκ rfl rfl rfl rfl (Or.inl rfl) ?_
  show qJ YX1_copyFrom κ _ (qLy (o, im125 ++ t), (q_up (q_up m 126 0 (m 2 0)) 126 1 (m 2 1)), y) 0 0 16 [some (qR 126), some (qR 2)] []
  refine qJ.run hκ 3 (pc' := 21) (ls' := [some (qR 126), some (qR 2)]) (st' := [qI (m 2 2), qR 126]) rfl ?_
  refine qJ.putI hκ rfl rfl rfl rfl (Or.inl rfl) ?_
  show qJ YX1_copyFrom κ _ (qLy (o, im125 ++ t), (q_up (q_up (q_up m 126 0 (m 2 0)) 126 1 (m 2 1)) 126 2 (m 2 2)), y) 0 0 24 [some (qR 126), some (qR 2)] []
  refine qJ.run hκ 10 (pc' := 40) (ls' := [some (qR 126), some (qR 2)]) (st' := [qI ((m 2 0) * 5), qI 0, qR 127, qI 0, qR 3]) rfl ?_
  refine qJ.copy hκ rfl kX1_75 (Nat.le_of_ble_eq_true rfl) (Nat.le_of_ble_eq_true rfl) rfl rfl (by decide) (by decide) (by omega) (by omega) (by omega) (by omega) (by omega) (Or.inl rfl) ?_
  show qJ YX1_copyFrom κ _ (qLy (o, im125 ++ t), (q_cpy (q_up (q_up (q_up m 126 0 (m 2 0)) 126 1 (m 2 1)) 126 2 (m 2 2)) 3 0 127 0 (((m 2 0) * 5).toNat)), y) 0 0 43 [some (qR 126), some (qR 2)] []
  refine qJ.run hκ 8 (pc' := 57) (ls' := [some (qR 126), some (qR 2)]) (st' := [qI (m 2 0), qI 0, qR 128, qI 0, qR 4]) rfl ?_
  refine qJ.copy hκ rfl kX1_75 (Nat.le_of_ble_eq_true rfl) (Nat.le_of_ble_eq_true rfl) rfl rfl (by decide) (by decide) (by omega) (by omega) (by omega) (by omega) (by omega) (Or.inl rfl) ?_
  show qJ YX1_copyFrom κ _ (qLy (o, im125 ++ t), (q_cpy (q_cpy (q_up (q_up (q_up m 126 0 (m 2 0)) 126 1 (m 2 1)) 126 2 (m 2 2)) 3 0 127 0 (((m 2 0) * 5).toNat)) 4 0 128 0 ((m 2 0).toNat)), y) 0 0 60 [some (qR 126), some (qR 2)] []
  refine qJ.run hκ 8 (pc' := 74) (ls' := [some (qR 126), some (qR 2)]) (st' := [qI (m 2 0), qI 0, qR 129, qI 0, qR 5]) rfl ?_
  refine qJ.copy hκ rfl kX1_75 (Nat.le_of_ble_eq_true rfl) (Nat.le_of_ble_eq_true rfl) rfl rfl (by decide) (by decide) (by omega) (by omega) (by omega) (by omega) (by omega) (Or.inl rfl) ?_
  show qJ YX1_copyFrom κ _ (qLy (o, im125 ++ t), (q_cpy (q_cpy (q_cpy (q_up (q_up (q_up m 126 0 (m 2 0)) 126 1 (m 2 1)) 126 2 (m 2 2)) 3 0 127 0 (((m 2 0) * 5).toNat)) 4 0 128 0 ((m 2 0).toNat)) 5 0 129 0 ((m 2 0).toNat)), y) 0 0 77 [some (qR 126), some (qR 2)] []
  refine qJ.run hκ 8 (pc' := 91) (ls' := [some (qR 126), some (qR 2)]) (st' := [qI (m 2 0), qI 0, qR 130, qI 0, qR 6]) rfl ?_
  refine qJ.copy hκ rfl kX1_75 (Nat.le_of_ble_eq_true rfl) (Nat.le_of_ble_eq_true rfl) rfl rfl (by decide) (by decide) (by omega) (by omega) (by omega) (by omega) (by omega) (Or.inl rfl) ?_
  show qJ YX1_copyFrom κ _ (qLy (o, im125 ++ t), (q_cpy (q_cpy (q_cpy (q_cpy (q_up (q_up (q_up m 126 0 (m 2 0)) 126 1 (m 2 1)) 126 2 (m 2 2)) 3 0 127 0 (((m 2 0) * 5).toNat)) 4 0 128 0 ((m 2 0).toNat)) 5 0 129 0 ((m 2 0).toNat)) 6 0 130 0 ((m 2 0).toNat)), y) 0 0 94 [some (qR 126), some (qR 2)] []
  refine qJ.run hκ 8 (pc' := 108) (ls' := [some (qR 126), some (qR 2)]) (st' := [qI (m 2 0), qI 0, qR 131, qI 0, qR 7]) rfl ?_
  refine qJ.copy hκ rfl kX1_75 (Nat.le_of_ble_eq_true rfl) (Nat.le_of_ble_eq_true rfl) rfl rfl (by decide) (by decide) (by omega) (by omega) (by omega) (by omega) (by omega) (Or.inl rfl) ?_
  show qJ YX1_copyFrom κ _ (qLy (o, im125 ++ t), (q_cpy (q_cpy (q_cpy (q_cpy (q_cpy (q_up (q_up (q_up m 126 0 (m 2 0)) 126 1 (m 2 1)) 126 2 (m 2 2)) 3 0 127 0 (((m 2 0) * 5).toNat)) 4 0 128 0 ((m 2 0).toNat)) 5 0 129 0 ((m 2 0).toNat)) 6 0 130 0 ((m 2 0).toNat)) 7 0 131 0 ((m 2 0).toNat)), y) 0 0 111 [some (qR 126), some (qR 2)] []
  refine qJ.run hκ 8 (pc' := 125) (ls' := [some (qR 126), some (qR 2)]) (st' := [qI (m 2 0), qI 0, qR 132, qI 0, qR 8]) rfl ?_
  refine qJ.copy hκ rfl kX1_75 (Nat.le_of_ble_eq_true rfl) (Nat.le_of_ble_eq_true rfl) rfl rfl (by decide) (by decide) (by omega) (by omega) (by omega) (by omega) (by omega) (Or.inl rfl) ?_
  show qJ YX1_copyFrom κ _ (qLy (o, im125 ++ t), (q_cpy (q_cpy (q_cpy (q_cpy (q_cpy (q_cpy (q_up (q_up (q_up m 126 0 (m 2 0)) 126 1 (m 2 1)) 126 2 (m 2 2)) 3 0 127 0 (((m 2 0) * 5).toNat)) 4 0 128 0 ((m 2 0).toNat)) 5 0 129 0 ((m 2 0).toNat)) 6 0 130 0 ((m 2 0).toNat)) 7 0 131 0 ((m 2 0).toNat)) 8 0 132 0 ((m 2 0).toNat)), y) 0 0 128 [some (qR 126), some (qR 2)] []
  refine qJ.run hκ 8 (pc' := 142) (ls' := [some (qR 126), some (qR 2)]) (st' := [qI (m 2 2), qI 0, qR 133, qI 0, qR 9]) rfl ?_
  refine qJ.copy hκ rfl kX1_75 (Nat.le_of_ble_eq_true rfl) (Nat.le_of_ble_eq_true rfl) rfl rfl (by decide) (by decide) (by omega) (by omega) (by omega) (by omega) (by omega) (Or.inl rfl) ?_
  show qJ YX1_copyFrom κ _ (qLy (o, im125 ++ t), (q_cpy (q_cpy (q_cpy (q_cpy (q_cpy (q_cpy (q_cpy (q_up (q_up (q_up m 126 0 (m 2 0)) 126 1 (m 2 1)) 126 2 (m 2 2)) 3 0 127 0 (((m 2 0) * 5).toNat)) 4 0 128 0 ((m 2 0).toNat)) 5 0 129 0 ((m 2 0).toNat)) 6 0 130 0 ((m 2 0).toNat)) 7 0 131 0 ((m 2 0).toNat)) 8 0 132 0 ((m 2 0).toNat)) 9 0 133 0 ((m 2 2).toNat)), y) 0 0 145 [some (qR 126), some (qR 2)] []
  refine qJ.run hκ 8 (pc' := 159) (ls' := [some (qR 126), some (qR 2)]) (st' := [qI (m 2 2), qI 0, qR 134, qI 0, qR 10]) rfl ?_
  refine qJ.copy hκ rfl kX1_75 (Nat.le_of_ble_eq_true rfl) (Nat.le_of_ble_eq_true rfl) rfl rfl (by decide) (by decide) (by omega) (by omega) (by omega) (by omega) (by omega) (Or.inl rfl) ?_
  show qJ YX1_copyFrom κ _ (qLy (o, im125 ++ t), (q_cpy (q_cpy (q_cpy (q_cpy (q_cpy (q_cpy (q_cpy (q_cpy (q_up (q_up (q_up m 126 0 (m 2 0)) 126 1 (m 2 1)) 126 2 (m 2 2)) 3 0 127 0 (((m 2 0) * 5).toNat)) 4 0 128 0 ((m 2 0).toNat)) 5 0 129 0 ((m 2 0).toNat)) 6 0 130 0 ((m 2 0).toNat)) 7 0 131 0 ((m 2 0).toNat)) 8 0 132 0 ((m 2 0).toNat)) 9 0 133 0 ((m 2 2).toNat)) 10 0 134 0 ((m 2 2).toNat)), y) 0 0 162 [some (qR 126), some (qR 2)] []
  refine qJ.run hκ 8 (pc' := 176) (ls' := [some (qR 126), some (qR 2)]) (st' := [qI (m 2 2), qI 0, qR 135, qI 0, qR 11]) rfl ?_
  refine qJ.copy hκ rfl kX1_75 (Nat.le_of_ble_eq_true rfl) (Nat.le_of_ble_eq_true rfl) rfl rfl (by decide) (by decide) (by omega) (by omega) (by omega) (by omega) (by omega) (Or.inl rfl) ?_
  show qJ YX1_copyFrom κ _ (qLy (o, im125 ++ t), (q_cpy (q_cpy (q_cpy (q_cpy (q_cpy (q_cpy (q_cpy (q_cpy (q_cpy (q_up (q_up (q_up m 126 0 (m 2 0)) 126 1 (m 2 1)) 126 2 (m 2 2)) 3 0 127 0 (((m 2 0) * 5).toNat)) 4 0 128 0 ((m 2 0).toNat)) 5 0 129 0 ((m 2 0).toNat)) 6 0 130 0 ((m 2 0).toNat)) 7 0 131 0 ((m 2 0).toNat)) 8 0 132 0 ((m 2 0).toNat)) 9 0 133 0 ((m 2 2).toNat)) 10 0 134 0 ((m 2 2).toNat)) 11 0 135 0 ((m 2 2).toNat)), y) 0 0 179 [some (qR 126), some (qR 2)] []
  exact qJ.vret hκ rfl rfl (by decide) (by decide) (⟨rfl, (q_cpy (q_cpy (q_cpy (q_cpy (q_cpy (q_cpy (q_cpy (q_cpy (q_cpy (q_up (q_up (q_up m 126 0 (m 2 0)) 126 1 (m 2 1)) 126 2 (m 2 2)) 3 0 127 0 (((m 2 0) * 5).toNat)) 4 0 128 0 ((m 2 0).toNat)) 5 0 129 0 ((m 2 0).toNat)) 6 0 130 0 ((m 2 0).toNat)) 7 0 131 0 ((m 2 0).toNat)) 8 0 132 0 ((m 2 0).toNat)) 9 0 133 0 ((m 2 2).toNat)) 10 0 134 0 ((m 2 2).toNat)) 11 0 135 0 ((m 2 2).toNat)), rfl, (Eq.trans (keep_cp (by intro j; rfl)) (Eq.trans (keep_cp (by intro j; rfl)) (Eq.trans (keep_cp (by intro j; rfl)) (Eq.trans (keep_cp (by intro j; rfl)) (Eq.trans (keep_cp (by intro j; rfl)) (Eq.trans (keep_cp (by intro j; rfl)) (Eq.trans (keep_cp (by intro j; rfl)) (Eq.trans (keep_cp (by intro j; rfl)) (Eq.trans (keep_cp (by intro j; rfl)) (Eq.trans (keep_up (by rfl)) (Eq.trans (keep_up (by rfl)) (Eq.trans (keep_up (by rfl)) rfl)))))))))))), (by rw [q_cpy_rw (by decide), q_cpy_rw (by decide), q_cpy_rw (by decide), q_cpy_rw (by decide), q_cpy_rw (by decide), q_cpy_rw (by decide), q_cpy_rw (by decide), q_cpy_rw (by decide), q_cpy_rw (by decide)]; rfl), (by rw [q_cpy_rw (by decide), q_cpy_rw (by decide), q_cpy_rw (by decide), q_cpy_rw (by decide), q_cpy_rw (by decide), q_cpy_rw (by decide), q_cpy_rw (by decide), q_cpy_rw (by decide), q_cpy_rw (by decide)]; rfl), (by rw [q_cpy_rw (by decide), q_cpy_rw (by decide), q_cpy_rw (by decide), q_cpy_rw (by decide), q_cpy_rw (by decide), q_cpy_rw (by decide), q_cpy_rw (by decide), q_cpy_rw (by decide), q_cpy_rw (by decide)]; rfl), (by rw [q_cpy_rw (by decide), q_cpy_rw (by decide), q_cpy_rw (by decide), q_cpy_rw (by decide), q_cpy_rw (by decide), q_cpy_rw (by decide), q_cpy_rw (by decide), q_cpy_rw (by decide)]; exact cpy_ag (by rw [q_up_rw (by decide), q_up_rw (by decide), q_up_rw (by decide)]) (rfl)), (by rw [q_cpy_rw (by decide), q_cpy_rw (by decide), q_cpy_rw (by decide), q_cpy_rw (by decide), q_cpy_rw (by decide), q_cpy_rw (by decide), q_cpy_rw (by decide)]; exact cpy_ag (by rw [q_cpy_rw (by decide), q_up_rw (by decide), q_up_rw (by decide), q_up_rw (by decide)]) (rfl)), (by rw [q_cpy_rw (by decide), q_cpy_rw (by decide), q_cpy_rw (by decide), q_cpy_rw (by decide), q_cpy_rw (by decide), q_cpy_rw (by decide)]; exact cpy_ag (by rw [q_cpy_rw (by decide), q_cpy_rw (by decide), q_up_rw (by decide), q_up_rw (by decide), q_up_rw (by decide)]) (rfl)), (by rw [q_cpy_rw (by decide), q_cpy_rw (by decide), q_cpy_rw (by decide), q_cpy_rw (by decide), q_cpy_rw (by decide)]; exact cpy_ag (by rw [q_cpy_rw (by decide), q_cpy_rw (by decide), q_cpy_rw (by decide), q_up_rw (by decide), q_up_rw (by decide), q_up_rw (by decide)]) (rfl)), (by rw [q_cpy_rw (by decide), q_cpy_rw (by decide), q_cpy_rw (by decide), q_cpy_rw (by decide)]; exact cpy_ag (by rw [q_cpy_rw (by decide), q_cpy_rw (by decide), q_cpy_rw (by decide), q_cpy_rw (by decide), q_up_rw (by decide), q_up_rw (by decide), q_up_rw (by decide)]) (rfl)), (by rw [q_cpy_rw (by decide), q_cpy_rw (by decide), q_cpy_rw (by decide)]; exact cpy_ag (by rw [q_cpy_rw (by decide), q_cpy_rw (by decide), q_cpy_rw (by decide), q_cpy_rw (by decide), q_cpy_rw (by decide), q_up_rw (by decide), q_up_rw (by decide), q_up_rw (by decide)]) (rfl)), (by rw [q_cpy_rw (by decide), q_cpy_rw (by decide)]; exact cpy_ag (by rw [q_cpy_rw (by decide), q_cpy_rw (by decide), q_cpy_rw (by decide), q_cpy_rw (by decide), q_cpy_rw (by decide), q_cpy_rw (by decide), q_up_rw (by decide), q_up_rw (by decide), q_up_rw (by decide)]) (rfl)), (by rw [q_cpy_rw (by decide)]; exact cpy_ag (by rw [q_cpy_rw (by decide), q_cpy_rw (by decide), q_cpy_rw (by decide), q_cpy_rw (by decide), q_cpy_rw (by decide), q_cpy_rw (by decide), q_cpy_rw (by decide), q_up_rw (by decide), q_up_rw (by decide), q_up_rw (by decide)]) (rfl)), (by skip; exact cpy_ag (by rw [q_cpy_rw (by decide), q_cpy_rw (by decide), q_cpy_rw (by decide), q_cpy_rw (by decide), q_cpy_rw (by decide), q_cpy_rw (by decide), q_cpy_rw (by decide), q_cpy_rw (by decide), q_up_rw (by decide), q_up_rw (by decide), q_up_rw (by decide)]) (rfl))⟩)

set_option maxRecDepth 100000 in
theorem c_clw125 (o : Option Nat × Option Nat × Option Nat) (t : List qS) (m y : qM) (h0 : 0 ≤ m 12 1 ∧ m 12 1 ≤ 512) : qCt YX3_copyFrom 2 0 0 [qR 136, qR 12] (qLy (o, im125 ++ t), m, y) (fun r h => r = none ∧ ∃ m', h = (qLy (o, im125 ++ t), m', y) ∧ keep (kN kIlw125) m' = keep (kN kIlw125) m ∧ m' 136 0 = m 12 0 ∧ m' 136 1 = m 12 1 ∧ agN (m 12 1) (m 13) (m' 137) ∧ agN 10 (m 14) (m' 138)) := by
  refine qCt.intro okX3_copyFrom (Nat.le_of_ble_eq_true rfl) (fun κ hκ => ?_)
  show qJ YX3_copyFrom κ _ (qLy (o, im125 ++ t), m, y) 0 0 0 [some (qR 136), some (qR 12)] []
  refine qJ.run hκ 3 (pc' := 5) (ls' := [some (qR 136), some (qR 12)]) (st' := [qI (m 12 0), qR 136]) rfl ?_
  refine qJ.putI hκ rfl rfl rfl rfl (Or.inl rfl) ?_
  show qJ YX3_copyFrom κ _ (qLy (o, im125 ++ t), (q_up m 136 0 (m 12 0)), y) 0 0 8 [some (qR 136), some (qR 12)] []
  refine qJ.run hκ 3 (pc' := 13) (ls' := [some (qR 136), some (qR 12)]) (st' := [qI (m 12 1), qR 136]) rfl ?_
  refine qJ.putI hκ rfl rfl rfl rfl (Or.inl rfl) ?_
  show qJ YX3_copyFrom κ _ (qLy (o, im125 ++ t), (q_up (q_up m 136 0 (m 12 0)) 136 1 (m 12 1)), y) 0 0 16 [some (qR 136), some (qR 12)] []
  refine qJ.run hκ 8 (pc' := 30) (ls' := [some (qR 136), some (qR 12)]) (st' := [qI (m 12 1), qI 0, qR 137, qI 0, qR 13]) rfl ?_
  refine qJ.copy hκ rfl kX3_25 (Nat.le_of_ble_eq_true rfl) (Nat.le_of_ble_eq_true rfl) rfl rfl (by decide) (by decide) (by omega) (by omega) (by omega) (by omega) (by omega) (Or.inl rfl) ?_
  show qJ YX3_copyFrom κ _ (qLy (o, im125 ++ t), (q_cpy (q_up (q_up m 136 0 (m 12 0)) 136 1 (m 12 1)) 13 0 137 0 ((m 12 1).toNat)), y) 0 0 33 [some (qR 136), some (qR 12)] []
  refine qJ.run hκ 7 (pc' := 45) (ls' := [some (qR 136), some (qR 12)]) (st' := [qI 10, qI 0, qR 138, qI 0, qR 14]) rfl ?_
  refine qJ.copy hκ rfl kX3_25 (Nat.le_of_ble_eq_true rfl) (Nat.le_of_ble_eq_true rfl) rfl rfl (by decide) (by decide) (by omega) (by omega) (by omega) (by omega) (by omega) (Or.inl rfl) ?_
  show qJ YX3_copyFrom κ _ (qLy (o, im125 ++ t), (q_cpy (q_cpy (q_up (q_up m 136 0 (m 12 0)) 136 1 (m 12 1)) 13 0 137 0 ((m 12 1).toNat)) 14 0 138 0 10), y) 0 0 48 [some (qR 136), some (qR 12)] []
  exact qJ.vret hκ rfl rfl (by decide) (by decide) (⟨rfl, (q_cpy (q_cpy (q_up (q_up m 136 0 (m 12 0)) 136 1 (m 12 1)) 13 0 137 0 ((m 12 1).toNat)) 14 0 138 0 10), rfl, (Eq.trans (keep_cp (by intro j; rfl)) (Eq.trans (keep_cp (by intro j; rfl)) (Eq.trans (keep_up (by rfl)) (Eq.trans (keep_up (by rfl)) rfl)))), (by rw [q_cpy_rw (by decide), q_cpy_rw (by decide)]; rfl), (by rw [q_cpy_rw (by decide), q_cpy_rw (by decide)]; rfl), (by rw [q_cpy_rw (by decide)]; exact cpy_ag (by rw [q_up_rw (by decide), q_up_rw (by decide)]) (rfl)), (by skip; exact cpy_ag (by rw [q_cpy_rw (by decide), q_up_rw (by decide), q_up_rw (by decide)]) (rfl))⟩)

def kJw125 : Nat → Nat → Bool := fun i j => decide ((i = 139 ∧ j = 4) ∨ i = 143 ∨ i = 144)

set_option maxRecDepth 100000 in
theorem c_csw125 (o : Option Nat × Option Nat × Option Nat) (t : List qS) (m y : qM) (k : Int)  : qCt YX4_setLines 2 0 0 [qR 139, qI k, qR 19, qR 20] (qLy (o, im125 ++ t), m, y) (fun r h => r = none ∧ ∃ m', h = (qLy (o, im125 ++ t), m', y) ∧ keep (kN kJw125) m' = keep (kN kJw125) m ∧ agN 18 (m 19) (m' 143) ∧ agN 18 (m 20) (m' 144) ∧ m' 139 4 = k) := by
  refine qCt.intro okX4_setLines (Nat.le_of_ble_eq_true rfl) (fun κ hκ => ?_)
  show qJ YX4_setLines κ _ (qLy (o, im125 ++ t), m, y) 0 0 0 [some (qR 139), some (qI k), some (qR 19), some (qR 20)] []
  refine qJ.run hκ 2 (pc' := 2) (ls' := [some (qR 139), some (qI k), some (qR 19), some (qR 20)]) (st' := [qI k, qR 139]) rfl ?_
  refine qJ.putI hκ rfl rfl rfl rfl (Or.inl rfl) ?_
  show qJ YX4_setLines κ _ (qLy (o, im125 ++ t), (q_up m 139 4 k), y) 0 0 5 [some (qR 139), some (qI k), some (qR 19), some (qR 20)] []
  refine qJ.run hκ 8 (pc' := 17) (ls' := [some (qR 139), some (qI k), some (qR 19), some (qR 20)]) (st' := [qI 18, qI 0, qR 143, qI 0, qR 19]) rfl ?_
  refine qJ.copy hκ rfl kX4_48 (Nat.le_of_ble_eq_true rfl) (Nat.le_of_ble_eq_true rfl) rfl rfl (by decide) (by decide) (by omega) (by omega) (by omega) (by omega) (by omega) (Or.inl rfl) ?_
  show qJ YX4_setLines κ _ (qLy (o, im125 ++ t), (q_cpy (q_up m 139 4 k) 19 0 143 0 18), y) 0 0 20 [some (qR 139), some (qI k), some (qR 19), some (qR 20)] []
  refine qJ.run hκ 8 (pc' := 32) (ls' := [some (qR 139), some (qI k), some (qR 19), some (qR 20)]) (st' := [qI 18, qI 0, qR 144, qI 0, qR 20]) rfl ?_
  refine qJ.copy hκ rfl kX4_48 (Nat.le_of_ble_eq_true rfl) (Nat.le_of_ble_eq_true rfl) rfl rfl (by decide) (by decide) (by omega) (by omega) (by omega) (by omega) (by omega) (Or.inl rfl) ?_
  show qJ YX4_setLines κ _ (qLy (o, im125 ++ t), (q_cpy (q_cpy (q_up m 139 4 k) 19 0 143 0 18) 20 0 144 0 18), y) 0 0 35 [some (qR 139), some (qI k), some (qR 19), some (qR 20)] []
  exact qJ.vret hκ rfl rfl (by decide) (by decide) (⟨rfl, (q_cpy (q_cpy (q_up m 139 4 k) 19 0 143 0 18) 20 0 144 0 18), rfl, (Eq.trans (keep_cp (by intro j; rfl)) (Eq.trans (keep_cp (by intro j; rfl)) (Eq.trans (keep_up (by rfl)) rfl))), (by rw [q_cpy_rw (by decide)]; exact cpy_ag (by rw [q_up_rw (by decide)]) (rfl)), (by skip; exact cpy_ag (by rw [q_cpy_rw (by decide), q_up_rw (by decide)]) (rfl)), (by rw [q_cpy_rw (by decide), q_cpy_rw (by decide)]; rfl)⟩)

theorem kJw125x : ∀ i j, kN kIxw125 i j = true → kN kJw125 i j = true := by
  intro i j h
  refine kN_t.mpr fun z => kN_t.mp h ?_
  unfold kJw125 at z
  unfold kIxw125
  rw [decide_eq_true_eq] at z ⊢
  omega

set_option maxRecDepth 100000 in
theorem c_cxw125 (o : Option Nat × Option Nat × Option Nat) (t : List qS) (m y : qM) (h0 : 0 ≤ m 15 0 ∧ m 15 0 ≤ 5) : qCt YX4_copyFrom 3 0 0 [qR 139, qR 15] (qLy (o, im125 ++ t), m, y) (fun r h => r = none ∧ ∃ m', h = (qLy (o, im125 ++ t), m', y) ∧ keep (kN kIxw125) m' = keep (kN kIxw125) m ∧ m' 139 0 = m 15 0 ∧ m' 139 4 = m 15 4 ∧ agN (m 15 0 * 10) (m 16) (m' 140) ∧ agN (m 15 0) (m 17) (m' 141) ∧ agN (m 15 0) (m 18) (m' 142) ∧ agN 18 (m 19) (m' 143) ∧ agN 18 (m 20) (m' 144)) := by
  refine qCt.intro okX4_copyFrom (Nat.le_of_ble_eq_true rfl) (fun κ hκ => ?_)
  show qJ YX4_copyFrom κ _ (qLy (o, im125 ++ t), m, y) 0 0 0 [some (qR 139), some (qR 15)] []
  refine qJ.run hκ 3 (pc' := 5) (ls' := [some (qR 139), some (qR 15)]) (st' := [qI (m 15 0), qR 139]) rfl ?_
  refine qJ.putI hκ rfl rfl rfl rfl (Or.inl rfl) ?_
  show qJ YX4_copyFrom κ _ (qLy (o, im125 ++ t), (q_up m 139 0 (m 15 0)), y) 0 0 8 [some (qR 139), some (qR 15)] []
  refine qJ.run hκ 10 (pc' := 25) (ls' := [some (qR 139), some (qR 15)]) (st' := [qI ((m 15 0) * 10), qI 0, qR 140, qI 0, qR 16]) rfl ?_
  refine qJ.copy hκ rfl kX4_48 (Nat.le_of_ble_eq_true rfl) (Nat.le_of_ble_eq_true rfl) rfl rfl (by decide) (by decide) (by omega) (by omega) (by omega) (by omega) (by omega) (Or.inl rfl) ?_
  show qJ YX4_copyFrom κ _ (qLy (o, im125 ++ t), (q_cpy (q_up m 139 0 (m 15 0)) 16 0 140 0 (((m 15 0) * 10).toNat)), y) 0 0 28 [some (qR 139), some (qR 15)] []
  refine qJ.run hκ 8 (pc' := 42) (ls' := [some (qR 139), some (qR 15)]) (st' := [qI (m 15 0), qI 0, qR 141, qI 0, qR 17]) rfl ?_
  refine qJ.copy hκ rfl kX4_48 (Nat.le_of_ble_eq_true rfl) (Nat.le_of_ble_eq_true rfl) rfl rfl (by decide) (by decide) (by omega) (by omega) (by omega) (by omega) (by omega) (Or.inl rfl) ?_
  show qJ YX4_copyFrom κ _ (qLy (o, im125 ++ t), (q_cpy (q_cpy (q_up m 139 0 (m 15 0)) 16 0 140 0 (((m 15 0) * 10).toNat)) 17 0 141 0 ((m 15 0).toNat)), y) 0 0 45 [some (qR 139), some (qR 15)] []
  refine qJ.run hκ 8 (pc' := 59) (ls' := [some (qR 139), some (qR 15)]) (st' := [qI (m 15 0), qI 0, qR 142, qI 0, qR 18]) rfl ?_
  refine qJ.copy hκ rfl kX4_48 (Nat.le_of_ble_eq_true rfl) (Nat.le_of_ble_eq_true rfl) rfl rfl (by decide) (by decide) (by omega) (by omega) (by omega) (by omega) (by omega) (Or.inl rfl) ?_
  show qJ YX4_copyFrom κ _ (qLy (o, im125 ++ t), (q_cpy (q_cpy (q_cpy (q_up m 139 0 (m 15 0)) 16 0 140 0 (((m 15 0) * 10).toNat)) 17 0 141 0 ((m 15 0).toNat)) 18 0 142 0 ((m 15 0).toNat)), y) 0 0 62 [some (qR 139), some (qR 15)] []
  refine qJ.run hκ 7 (pc' := 75) (ls' := [some (qR 139), some (qR 15)]) (st' := [qR 20, qR 19, qI (m 15 4), qR 139]) rfl ?_
  refine qJ.callV (As := [qI (m 15 4), qR 19, qR 20]) (rest := []) hκ rfl kX4_54 (c_csw125 o t (q_cpy (q_cpy (q_cpy (q_up m 139 0 (m 15 0)) 16 0 140 0 (((m 15 0) * 10).toNat)) 17 0 141 0 ((m 15 0).toNat)) 18 0 142 0 ((m 15 0).toNat)) y (m 15 4)) rfl rfl (by decide) rfl rfl (Nat.le_of_ble_eq_true rfl) (Nat.le_of_ble_eq_true rfl) (Nat.le_of_ble_eq_true rfl) (Or.inl (fun r h' e => by obtain ⟨rfl, m4, rfl, K4, A19, A20, A15⟩ := e; rfl)) (fun r h' e => ?_)
  obtain ⟨rfl, m4, rfl, K4, A19, A20, A15⟩ := e
  show qJ YX4_copyFrom κ _ (qLy (o, im125 ++ t), m4, y) 0 0 78 [some (qR 139), some (qR 15)] []
  exact qJ.vret hκ rfl rfl (by decide) (by decide) (⟨rfl, m4, rfl, (keep_of kJw125x K4).trans (Eq.trans (keep_cp (by intro j; rfl)) (Eq.trans (keep_cp (by intro j; rfl)) (Eq.trans (keep_cp (by intro j; rfl)) (Eq.trans (keep_up (by rfl)) rfl)))), (show m4 139 0 = (q_cpy (q_cpy (q_cpy (q_up m 139 0 (m 15 0)) 16 0 140 0 (((m 15 0) * 10).toNat)) 17 0 141 0 ((m 15 0).toNat)) 18 0 142 0 ((m 15 0).toNat)) 139 0 from congrFun (congrFun K4 139) 0).trans (by rw [q_cpy_rw (by decide), q_cpy_rw (by decide), q_cpy_rw (by decide)]; rfl), A15.trans (show (q_cpy (q_cpy (q_cpy (q_up m 139 0 (m 15 0)) 16 0 140 0 (((m 15 0) * 10).toNat)) 17 0 141 0 ((m 15 0).toNat)) 18 0 142 0 ((m 15 0).toNat)) 15 4 = m 15 4 from by rw [q_cpy_rw (by decide), q_cpy_rw (by decide), q_cpy_rw (by decide), q_up_rw (by decide)]), (by rw [show m4 140 = (q_cpy (q_cpy (q_cpy (q_up m 139 0 (m 15 0)) 16 0 140 0 (((m 15 0) * 10).toNat)) 17 0 141 0 ((m 15 0).toNat)) 18 0 142 0 ((m 15 0).toNat)) 140 from congrFun K4 140]; exact (by rw [q_cpy_rw (by decide), q_cpy_rw (by decide)]; exact cpy_ag (by rw [q_up_rw (by decide)]) (rfl))), (by rw [show m4 141 = (q_cpy (q_cpy (q_cpy (q_up m 139 0 (m 15 0)) 16 0 140 0 (((m 15 0) * 10).toNat)) 17 0 141 0 ((m 15 0).toNat)) 18 0 142 0 ((m 15 0).toNat)) 141 from congrFun K4 141]; exact (by rw [q_cpy_rw (by decide)]; exact cpy_ag (by rw [q_cpy_rw (by decide), q_up_rw (by decide)]) (rfl))), (by rw [show m4 142 = (q_cpy (q_cpy (q_cpy (q_up m 139 0 (m 15 0)) 16 0 140 0 (((m 15 0) * 10).toNat)) 17 0 141 0 ((m 15 0).toNat)) 18 0 142 0 ((m 15 0).toNat)) 142 from congrFun K4 142]; exact (by skip; exact cpy_ag (by rw [q_cpy_rw (by decide), q_cpy_rw (by decide), q_up_rw (by decide)]) (rfl))), (by have A := A19; rw [show (q_cpy (q_cpy (q_cpy (q_up m 139 0 (m 15 0)) 16 0 140 0 (((m 15 0) * 10).toNat)) 17 0 141 0 ((m 15 0).toNat)) 18 0 142 0 ((m 15 0).toNat)) 19 = m 19 from by rw [q_cpy_rw (by decide), q_cpy_rw (by decide), q_cpy_rw (by decide), q_up_rw (by decide)]] at A; exact A), (by have A := A20; rw [show (q_cpy (q_cpy (q_cpy (q_up m 139 0 (m 15 0)) 16 0 140 0 (((m 15 0) * 10).toNat)) 17 0 141 0 ((m 15 0).toNat)) 18 0 142 0 ((m 15 0).toNat)) 20 = m 20 from by rw [q_cpy_rw (by decide), q_cpy_rw (by decide), q_cpy_rw (by decide), q_up_rw (by decide)]] at A; exact A)⟩)

set_option maxRecDepth 100000 in
theorem c_ctw125 (o : Option Nat × Option Nat × Option Nat) (t : List qS) (m y : qM) (h0 : 0 ≤ m 2 0 ∧ m 2 0 ≤ 60) (h2 : 0 ≤ m 2 2 ∧ m 2 2 ≤ 150) (h12 : 0 ≤ m 12 1 ∧ m 12 1 ≤ 512) (h15 : 0 ≤ m 15 0 ∧ m 15 0 ≤ 5) (h4 : 0 ≤ m 1 4 ∧ m 1 4 ≤ 400) (hb : ∀ j : Nat, (j : Int) < m 1 4 → -128 ≤ m 21 j ∧ m 21 j ≤ 127) : qCt YX9_copyFrom 4 0 0 [qR 125, qR 1] (qLy (o, im125 ++ t), m, y) (fun r h => r = none ∧ ∃ m', h = (qLy (o, im125 ++ t), m', y) ∧ keep (kN kIw125) m' = keep (kN kIw125) m ∧ (m' 125 4 = m 1 4 ∧ m' 125 5 = m 1 5 ∧ m' 125 6 = m 1 6 ∧ m' 125 7 = m 1 7 ∧ m' 125 8 = m 1 8 ∧ m' 125 9 = m 1 9) ∧ (m' 126 0 = m 2 0 ∧ m' 126 1 = m 2 1 ∧ m' 126 2 = m 2 2) ∧ (agN (m 2 0 * 5) (m 3) (m' 127) ∧ agN (m 2 0) (m 4) (m' 128) ∧ agN (m 2 0) (m 5) (m' 129) ∧ agN (m 2 0) (m 6) (m' 130) ∧ agN (m 2 0) (m 7) (m' 131) ∧ agN (m 2 0) (m 8) (m' 132)) ∧ (agN (m 2 2) (m 9) (m' 133) ∧ agN (m 2 2) (m 10) (m' 134) ∧ agN (m 2 2) (m 11) (m' 135)) ∧ (m' 136 0 = m 12 0 ∧ m' 136 1 = m 12 1 ∧ agN (m 12 1) (m 13) (m' 137) ∧ agN 10 (m 14) (m' 138)) ∧ (m' 139 0 = m 15 0 ∧ m' 139 4 = m 15 4 ∧ agN (m 15 0 * 10) (m 16) (m' 140) ∧ agN (m 15 0) (m 17) (m' 141) ∧ agN (m 15 0) (m 18) (m' 142) ∧ agN 18 (m 19) (m' 143) ∧ agN 18 (m 20) (m' 144)) ∧ agN (m 1 4) (m 21) (m' 145)) := by
  refine qCt.intro okX9_copyFrom (Nat.le_of_ble_eq_true rfl) (fun κ hκ => ?_)
  show qJ YX9_copyFrom κ _ (qLy (o, im125 ++ t), m, y) 0 0 0 [some (qR 125), some (qR 1)] []
  refine qJ.run hκ 4 (pc' := 8) (ls' := [some (qR 125), some (qR 1)]) (st' := [qR 2, qR 126]) rfl ?_
  refine qJ.callV (As := [qR 2]) (rest := []) hκ rfl kX9_63 (c_ccw125 o t m y h0 h2) rfl rfl (by decide) rfl rfl (Nat.le_of_ble_eq_true rfl) (Nat.le_of_ble_eq_true rfl) (Nat.le_of_ble_eq_true rfl) (Or.inl (fun r h' e => by obtain ⟨rfl, m1, rfl, K1, P0, P1, P2, P3, P4, P5, P6, P7, P8, P9, P10, P11⟩ := e; rfl)) (fun r h' e => ?_)
  obtain ⟨rfl, m1, rfl, K1, P0, P1, P2, P3, P4, P5, P6, P7, P8, P9, P10, P11⟩ := e
  show qJ YX9_copyFrom κ _ (qLy (o, im125 ++ t), m1, y) 0 0 11 [some (qR 125), some (qR 1)] []
  refine qJ.run hκ 4 (pc' := 19) (ls' := [some (qR 125), some (qR 1)]) (st' := [qR 12, qR 136]) rfl ?_
  refine qJ.callV (As := [qR 12]) (rest := []) hκ rfl kX9_67 (c_clw125 o t m1 y (by rw [show m1 12 = m 12 from congrFun K1 12]; exact h12)) rfl rfl (by decide) rfl rfl (Nat.le_of_ble_eq_true rfl) (Nat.le_of_ble_eq_true rfl) (Nat.le_of_ble_eq_true rfl) (Or.inl (fun r h' e => by obtain ⟨rfl, m2, rfl, K2, Q0, Q1, Q2, Q3⟩ := e; rfl)) (fun r h' e => ?_)
  obtain ⟨rfl, m2, rfl, K2, Q0, Q1, Q2, Q3⟩ := e
  rw [show m1 12 = m 12 from congrFun K1 12] at Q0 Q1 Q2
  rw [show m1 13 = m 13 from congrFun K1 13] at Q2
  rw [show m1 14 = m 14 from congrFun K1 14] at Q3
  show qJ YX9_copyFrom κ _ (qLy (o, im125 ++ t), m2, y) 0 0 22 [some (qR 125), some (qR 1)] []
  refine qJ.run hκ 4 (pc' := 30) (ls' := [some (qR 125), some (qR 1)]) (st' := [qR 15, qR 139]) rfl ?_
  refine qJ.callV (As := [qR 15]) (rest := []) hκ rfl kX9_70 (c_cxw125 o t m2 y (by rw [show m2 15 = m 15 from (congrFun K2 15).trans (congrFun K1 15)]; exact h15)) rfl rfl (by decide) rfl rfl (Nat.le_of_ble_eq_true rfl) (Nat.le_of_ble_eq_true rfl) (Nat.le_of_ble_eq_true rfl) (Or.inl (fun r h' e => by obtain ⟨rfl, m3, rfl, K3, R0, R1, R2, R3, R4, R5, R6⟩ := e; rfl)) (fun r h' e => ?_)
  obtain ⟨rfl, m3, rfl, K3, R0, R1, R2, R3, R4, R5, R6⟩ := e
  rw [show m2 15 = m 15 from (congrFun K2 15).trans (congrFun K1 15)] at R0 R1 R2 R3 R4
  rw [show m2 16 = m 16 from (congrFun K2 16).trans (congrFun K1 16)] at R2
  rw [show m2 17 = m 17 from (congrFun K2 17).trans (congrFun K1 17)] at R3
  rw [show m2 18 = m 18 from (congrFun K2 18).trans (congrFun K1 18)] at R4
  rw [show m2 19 = m 19 from (congrFun K2 19).trans (congrFun K1 19)] at R5
  rw [show m2 20 = m 20 from (congrFun K2 20).trans (congrFun K1 20)] at R6
  have e1 : m3 1 = m 1 := (congrFun K3 1).trans ((congrFun K2 1).trans (congrFun K1 1))
  have e21 : m3 21 = m 21 := (congrFun K3 21).trans ((congrFun K2 21).trans (congrFun K1 21))
  have e4 : m3 1 4 = m 1 4 := by rw [e1]
  show qJ YX9_copyFrom κ _ (qLy (o, im125 ++ t), m3, y) 0 0 33 [some (qR 125), some (qR 1)] []
  refine qJ.run hκ 8 (pc' := 47) (ls' := [some (qR 125), some (qR 1)]) (st' := [qI (m3 1 4), qI 0, qR 145, qI 0, qR 21]) rfl ?_
  refine qJ.copy hκ rfl kX9_73 (Nat.le_of_ble_eq_true rfl) (Nat.le_of_ble_eq_true rfl) rfl rfl (by decide) (by decide) (by omega) (by omega) (by omega) (by omega) (by omega) (Or.inr ⟨rfl, fun i hi => by show -128 ≤ m3 21 (0 + i) ∧ m3 21 (0 + i) ≤ 127; rw [Nat.zero_add, e21]; exact hb i (by omega)⟩) ?_
  show qJ YX9_copyFrom κ _ (qLy (o, im125 ++ t), (q_cpy m3 21 0 145 0 ((m3 1 4).toNat)), y) 0 0 50 [some (qR 125), some (qR 1)] []
  refine qJ.run hκ 3 (pc' := 55) (ls' := [some (qR 125), some (qR 1)]) (st' := [qI (m3 1 4), qR 125]) rfl ?_
  refine qJ.putI hκ rfl rfl rfl rfl (Or.inl rfl) ?_
  show qJ YX9_copyFrom κ _ (qLy (o, im125 ++ t), (q_up (q_cpy m3 21 0 145 0 ((m3 1 4).toNat)) 125 4 (m3 1 4)), y) 0 0 58 [some (qR 125), some (qR 1)] []
  refine qJ.run hκ 3 (pc' := 63) (ls' := [some (qR 125), some (qR 1)]) (st' := [qI (m3 1 5), qR 125]) rfl ?_
  refine qJ.putI hκ rfl rfl rfl rfl (Or.inl rfl) ?_
  show qJ YX9_copyFrom κ _ (qLy (o, im125 ++ t), (q_up (q_up (q_cpy m3 21 0 145 0 ((m3 1 4).toNat)) 125 4 (m3 1 4)) 125 5 (m3 1 5)), y) 0 0 66 [some (qR 125), some (qR 1)] []
  refine qJ.run hκ 3 (pc' := 71) (ls' := [some (qR 125), some (qR 1)]) (st' := [qI (m3 1 6), qR 125]) rfl ?_
  refine qJ.putI hκ rfl rfl rfl rfl (Or.inl rfl) ?_
  show qJ YX9_copyFrom κ _ (qLy (o, im125 ++ t), (q_up (q_up (q_up (q_cpy m3 21 0 145 0 ((m3 1 4).toNat)) 125 4 (m3 1 4)) 125 5 (m3 1 5)) 125 6 (m3 1 6)), y) 0 0 74 [some (qR 125), some (qR 1)] []
  refine qJ.run hκ 3 (pc' := 79) (ls' := [some (qR 125), some (qR 1)]) (st' := [qI (m3 1 7), qR 125]) rfl ?_
  refine qJ.putI hκ rfl rfl rfl rfl (Or.inl rfl) ?_
  show qJ YX9_copyFrom κ _ (qLy (o, im125 ++ t), (q_up (q_up (q_up (q_up (q_cpy m3 21 0 145 0 ((m3 1 4).toNat)) 125 4 (m3 1 4)) 125 5 (m3 1 5)) 125 6 (m3 1 6)) 125 7 (m3 1 7)), y) 0 0 82 [some (qR 125), some (qR 1)] []
  refine qJ.run hκ 3 (pc' := 87) (ls' := [some (qR 125), some (qR 1)]) (st' := [qI (m3 1 8), qR 125]) rfl ?_
  refine qJ.putI hκ rfl rfl rfl rfl (Or.inl rfl) ?_
  show qJ YX9_copyFrom κ _ (qLy (o, im125 ++ t), (q_up (q_up (q_up (q_up (q_up (q_cpy m3 21 0 145 0 ((m3 1 4).toNat)) 125 4 (m3 1 4)) 125 5 (m3 1 5)) 125 6 (m3 1 6)) 125 7 (m3 1 7)) 125 8 (m3 1 8)), y) 0 0 90 [some (qR 125), some (qR 1)] []
  refine qJ.run hκ 3 (pc' := 95) (ls' := [some (qR 125), some (qR 1)]) (st' := [qI (m3 1 9), qR 125]) rfl ?_
  refine qJ.putI hκ rfl rfl rfl rfl (Or.inl rfl) ?_
  show qJ YX9_copyFrom κ _ (qLy (o, im125 ++ t), (q_up (q_up (q_up (q_up (q_up (q_up (q_cpy m3 21 0 145 0 ((m3 1 4).toNat)) 125 4 (m3 1 4)) 125 5 (m3 1 5)) 125 6 (m3 1 6)) 125 7 (m3 1 7)) 125 8 (m3 1 8)) 125 9 (m3 1 9)), y) 0 0 98 [some (qR 125), some (qR 1)] []
  exact qJ.vret hκ rfl rfl (by decide) (by decide) (⟨rfl, (q_up (q_up (q_up (q_up (q_up (q_up (q_cpy m3 21 0 145 0 ((m3 1 4).toNat)) 125 4 (m3 1 4)) 125 5 (m3 1 5)) 125 6 (m3 1 6)) 125 7 (m3 1 7)) 125 8 (m3 1 8)) 125 9 (m3 1 9)), rfl, (Eq.trans (keep_up (by rfl)) (Eq.trans (keep_up (by rfl)) (Eq.trans (keep_up (by rfl)) (Eq.trans (keep_up (by rfl)) (Eq.trans (keep_up (by rfl)) (Eq.trans (keep_up (by rfl)) (Eq.trans (keep_cp (by intro j; rfl)) ((keep_of kIxw125x K3).trans ((keep_of kIlw125x K2).trans (keep_of kIcw125x K1)))))))))), ⟨(by skip; exact congrFun e1 4), (by skip; exact congrFun e1 5), (by skip; exact congrFun e1 6), (by skip; exact congrFun e1 7), (by skip; exact congrFun e1 8), (by skip; exact congrFun e1 9)⟩, ⟨(by rw [q_up_rw (by decide), q_up_rw (by decide), q_up_rw (by decide), q_up_rw (by decide), q_up_rw (by decide), q_up_rw (by decide), q_cpy_rw (by decide)]; rw [show m3 126 = m1 126 from (congrFun K3 126).trans (congrFun K2 126)]; exact P0), (by rw [q_up_rw (by decide), q_up_rw (by decide), q_up_rw (by decide), q_up_rw (by decide), q_up_rw (by decide), q_up_rw (by decide), q_cpy_rw (by decide)]; rw [show m3 126 = m1 126 from (congrFun K3 126).trans (congrFun K2 126)]; exact P1), (by rw [q_up_rw (by decide), q_up_rw (by decide), q_up_rw (by decide), q_up_rw (by decide), q_up_rw (by decide), q_up_rw (by decide), q_cpy_rw (by decide)]; rw [show m3 126 = m1 126 from (congrFun K3 126).trans (congrFun K2 126)]; exact P2)⟩, ⟨(by rw [q_up_rw (by decide), q_up_rw (by decide), q_up_rw (by decide), q_up_rw (by decide), q_up_rw (by decide), q_up_rw (by decide), q_cpy_rw (by decide)]; rw [show m3 127 = m1 127 from (congrFun K3 127).trans (congrFun K2 127)]; exact P3), (by rw [q_up_rw (by decide), q_up_rw (by decide), q_up_rw (by decide), q_up_rw (by decide), q_up_rw (by decide), q_up_rw (by decide), q_cpy_rw (by decide)]; rw [show m3 128 = m1 128 from (congrFun K3 128).trans (congrFun K2 128)]; exact P4), (by rw [q_up_rw (by decide), q_up_rw (by decide), q_up_rw (by decide), q_up_rw (by decide), q_up_rw (by decide), q_up_rw (by decide), q_cpy_rw (by decide)]; rw [show m3 129 = m1 129 from (congrFun K3 129).trans (congrFun K2 129)]; exact P5), (by rw [q_up_rw (by decide), q_up_rw (by decide), q_up_rw (by decide), q_up_rw (by decide), q_up_rw (by decide), q_up_rw (by decide), q_cpy_rw (by decide)]; rw [show m3 130 = m1 130 from (congrFun K3 130).trans (congrFun K2 130)]; exact P6), (by rw [q_up_rw (by decide), q_up_rw (by decide), q_up_rw (by decide), q_up_rw (by decide), q_up_rw (by decide), q_up_rw (by decide), q_cpy_rw (by decide)]; rw [show m3 131 = m1 131 from (congrFun K3 131).trans (congrFun K2 131)]; exact P7), (by rw [q_up_rw (by decide), q_up_rw (by decide), q_up_rw (by decide), q_up_rw (by decide), q_up_rw (by decide), q_up_rw (by decide), q_cpy_rw (by decide)]; rw [show m3 132 = m1 132 from (congrFun K3 132).trans (congrFun K2 132)]; exact P8)⟩, ⟨(by rw [q_up_rw (by decide), q_up_rw (by decide), q_up_rw (by decide), q_up_rw (by decide), q_up_rw (by decide), q_up_rw (by decide), q_cpy_rw (by decide)]; rw [show m3 133 = m1 133 from (congrFun K3 133).trans (congrFun K2 133)]; exact P9), (by rw [q_up_rw (by decide), q_up_rw (by decide), q_up_rw (by decide), q_up_rw (by decide), q_up_rw (by decide), q_up_rw (by decide), q_cpy_rw (by decide)]; rw [show m3 134 = m1 134 from (congrFun K3 134).trans (congrFun K2 134)]; exact P10), (by rw [q_up_rw (by decide), q_up_rw (by decide), q_up_rw (by decide), q_up_rw (by decide), q_up_rw (by decide), q_up_rw (by decide), q_cpy_rw (by decide)]; rw [show m3 135 = m1 135 from (congrFun K3 135).trans (congrFun K2 135)]; exact P11)⟩, ⟨(by rw [q_up_rw (by decide), q_up_rw (by decide), q_up_rw (by decide), q_up_rw (by decide), q_up_rw (by decide), q_up_rw (by decide), q_cpy_rw (by decide)]; rw [show m3 136 = m2 136 from congrFun K3 136]; exact Q0), (by rw [q_up_rw (by decide), q_up_rw (by decide), q_up_rw (by decide), q_up_rw (by decide), q_up_rw (by decide), q_up_rw (by decide), q_cpy_rw (by decide)]; rw [show m3 136 = m2 136 from congrFun K3 136]; exact Q1), (by rw [q_up_rw (by decide), q_up_rw (by decide), q_up_rw (by decide), q_up_rw (by decide), q_up_rw (by decide), q_up_rw (by decide), q_cpy_rw (by decide)]; rw [show m3 137 = m2 137 from congrFun K3 137]; exact Q2), (by rw [q_up_rw (by decide), q_up_rw (by decide), q_up_rw (by decide), q_up_rw (by decide), q_up_rw (by decide), q_up_rw (by decide), q_cpy_rw (by decide)]; rw [show m3 138 = m2 138 from congrFun K3 138]; exact Q3)⟩, ⟨(by rw [q_up_rw (by decide), q_up_rw (by decide), q_up_rw (by decide), q_up_rw (by decide), q_up_rw (by decide), q_up_rw (by decide), q_cpy_rw (by decide)]; exact R0), (by rw [q_up_rw (by decide), q_up_rw (by decide), q_up_rw (by decide), q_up_rw (by decide), q_up_rw (by decide), q_up_rw (by decide), q_cpy_rw (by decide)]; exact R1), (by rw [q_up_rw (by decide), q_up_rw (by decide), q_up_rw (by decide), q_up_rw (by decide), q_up_rw (by decide), q_up_rw (by decide), q_cpy_rw (by decide)]; exact R2), (by rw [q_up_rw (by decide), q_up_rw (by decide), q_up_rw (by decide), q_up_rw (by decide), q_up_rw (by decide), q_up_rw (by decide), q_cpy_rw (by decide)]; exact R3), (by rw [q_up_rw (by decide), q_up_rw (by decide), q_up_rw (by decide), q_up_rw (by decide), q_up_rw (by decide), q_up_rw (by decide), q_cpy_rw (by decide)]; exact R4), (by rw [q_up_rw (by decide), q_up_rw (by decide), q_up_rw (by decide), q_up_rw (by decide), q_up_rw (by decide), q_up_rw (by decide), q_cpy_rw (by decide)]; exact R5), (by rw [q_up_rw (by decide), q_up_rw (by decide), q_up_rw (by decide), q_up_rw (by decide), q_up_rw (by decide), q_up_rw (by decide), q_cpy_rw (by decide)]; exact R6)⟩, (by rw [q_up_rw (by decide), q_up_rw (by decide), q_up_rw (by decide), q_up_rw (by decide), q_up_rw (by decide), q_up_rw (by decide)]; exact cpy_ag (E := m3) (by skip; exact e21) (by rw [e4]))⟩)

def kIr125 : Nat → Nat → Bool := fun i _ => decide (1 ≤ i ∧ i ≤ 21)

def kIcr125 : Nat → Nat → Bool := fun i _ => decide (2 ≤ i ∧ i ≤ 11)

def kIlr125 : Nat → Nat → Bool := fun i _ => decide (12 ≤ i ∧ i ≤ 14)

def kIxr125 : Nat → Nat → Bool := fun i _ => decide (15 ≤ i ∧ i ≤ 20)

theorem kIcr125x : ∀ i j, kN kIr125 i j = true → kN kIcr125 i j = true := by
  intro i j h
  refine kN_t.mpr fun z => kN_t.mp h ?_
  unfold kIcr125 at z
  unfold kIr125
  rw [decide_eq_true_eq] at z ⊢
  omega

theorem kIlr125x : ∀ i j, kN kIr125 i j = true → kN kIlr125 i j = true := by
  intro i j h
  refine kN_t.mpr fun z => kN_t.mp h ?_
  unfold kIlr125 at z
  unfold kIr125
  rw [decide_eq_true_eq] at z ⊢
  omega

theorem kIxr125x : ∀ i j, kN kIr125 i j = true → kN kIxr125 i j = true := by
  intro i j h
  refine kN_t.mpr fun z => kN_t.mp h ?_
  unfold kIxr125 at z
  unfold kIr125
  rw [decide_eq_true_eq] at z ⊢
  omega

set_option maxRecDepth 100000 in
theorem c_ccr125 (o : Option Nat × Option Nat × Option Nat) (t : List qS) (m y : qM) (h0 : 0 ≤ m 126 0 ∧ m 126 0 ≤ 60) (h2 : 0 ≤ m 126 2 ∧ m 126 2 ≤ 150) : qCt YX1_copyFrom 2 0 0 [qR 2, qR 126] (qLy (o, im125 ++ t), m, y) (fun r h => r = none ∧ ∃ m', h = (qLy (o, im125 ++ t), m', y) ∧ keep (kN kIcr125) m' = keep (kN kIcr125) m ∧ m' 2 0 = m 126 0 ∧ m' 2 1 = m 126 1 ∧ m' 2 2 = m 126 2 ∧ agN (m 126 0 * 5) (m 127) (m' 3) ∧ agN (m 126 0) (m 128) (m' 4) ∧ agN (m 126 0) (m 129) (m' 5) ∧ agN (m 126 0) (m 130) (m' 6) ∧ agN (m 126 0) (m 131) (m' 7) ∧ agN (m 126 0) (m 132) (m' 8) ∧ agN (m 126 2) (m 133) (m' 9) ∧ agN (m 126 2) (m 134) (m' 10) ∧ agN (m 126 2) (m 135) (m' 11)) := by
  refine qCt.intro okX1_copyFrom (Nat.le_of_ble_eq_true rfl) (fun κ hκ => ?_)
  show qJ YX1_copyFrom κ _ (qLy (o, im125 ++ t), m, y) 0 0 0 [some (qR 2), some (qR 126)] []
  refine qJ.run hκ 3 (pc' := 5) (ls' := [some (qR 2), some (qR 126)]) (st' := [qI (m 126 0), qR 2]) rfl ?_
  refine qJ.putI hκ rfl rfl rfl rfl (Or.inl rfl) ?_
  show qJ YX1_copyFrom κ _ (qLy (o, im125 ++ t), (q_up m 2 0 (m 126 0)), y) 0 0 8 [some (qR 2), some (qR 126)] []
  refine qJ.run hκ 3 (pc' := 13) (ls' := [some (qR 2), some (qR 126)]) (st' := [qI (m 126 1), qR 2]) rfl ?_
  refine qJ.putI hκ rfl rfl rfl rfl (Or.inl rfl) ?_
  show qJ YX1_copyFrom κ _ (qLy (o, im125 ++ t), (q_up (q_up m 2 0 (m 126 0)) 2 1 (m 126 1)), y) 0 0 16 [some (qR 2), some (qR 126)] []
  refine qJ.run hκ 3 (pc' := 21) (ls' := [some (qR 2), some (qR 126)]) (st' := [qI (m 126 2), qR 2]) rfl ?_
  refine qJ.putI hκ rfl rfl rfl rfl (Or.inl rfl) ?_
  show qJ YX1_copyFrom κ _ (qLy (o, im125 ++ t), (q_up (q_up (q_up m 2 0 (m 126 0)) 2 1 (m 126 1)) 2 2 (m 126 2)), y) 0 0 24 [some (qR 2), some (qR 126)] []
  refine qJ.run hκ 10 (pc' := 40) (ls' := [some (qR 2), some (qR 126)]) (st' := [qI ((m 126 0) * 5), qI 0, qR 3, qI 0, qR 127]) rfl ?_
  refine qJ.copy hκ rfl kX1_75 (Nat.le_of_ble_eq_true rfl) (Nat.le_of_ble_eq_true rfl) rfl rfl (by decide) (by decide) (by omega) (by omega) (by omega) (by omega) (by omega) (Or.inl rfl) ?_
  show qJ YX1_copyFrom κ _ (qLy (o, im125 ++ t), (q_cpy (q_up (q_up (q_up m 2 0 (m 126 0)) 2 1 (m 126 1)) 2 2 (m 126 2)) 127 0 3 0 (((m 126 0) * 5).toNat)), y) 0 0 43 [some (qR 2), some (qR 126)] []
  refine qJ.run hκ 8 (pc' := 57) (ls' := [some (qR 2), some (qR 126)]) (st' := [qI (m 126 0), qI 0, qR 4, qI 0, qR 128]) rfl ?_
  refine qJ.copy hκ rfl kX1_75 (Nat.le_of_ble_eq_true rfl) (Nat.le_of_ble_eq_true rfl) rfl rfl (by decide) (by decide) (by omega) (by omega) (by omega) (by omega) (by omega) (Or.inl rfl) ?_
  show qJ YX1_copyFrom κ _ (qLy (o, im125 ++ t), (q_cpy (q_cpy (q_up (q_up (q_up m 2 0 (m 126 0)) 2 1 (m 126 1)) 2 2 (m 126 2)) 127 0 3 0 (((m 126 0) * 5).toNat)) 128 0 4 0 ((m 126 0).toNat)), y) 0 0 60 [some (qR 2), some (qR 126)] []
  refine qJ.run hκ 8 (pc' := 74) (ls' := [some (qR 2), some (qR 126)]) (st' := [qI (m 126 0), qI 0, qR 5, qI 0, qR 129]) rfl ?_
  refine qJ.copy hκ rfl kX1_75 (Nat.le_of_ble_eq_true rfl) (Nat.le_of_ble_eq_true rfl) rfl rfl (by decide) (by decide) (by omega) (by omega) (by omega) (by omega) (by omega) (Or.inl rfl) ?_
  show qJ YX1_copyFrom κ _ (qLy (o, im125 ++ t), (q_cpy (q_cpy (q_cpy (q_up (q_up (q_up m 2 0 (m 126 0)) 2 1 (m 126 1)) 2 2 (m 126 2)) 127 0 3 0 (((m 126 0) * 5).toNat)) 128 0 4 0 ((m 126 0).toNat)) 129 0 5 0 ((m 126 0).toNat)), y) 0 0 77 [some (qR 2), some (qR 126)] []
  refine qJ.run hκ 8 (pc' := 91) (ls' := [some (qR 2), some (qR 126)]) (st' := [qI (m 126 0), qI 0, qR 6, qI 0, qR 130]) rfl ?_
  refine qJ.copy hκ rfl kX1_75 (Nat.le_of_ble_eq_true rfl) (Nat.le_of_ble_eq_true rfl) rfl rfl (by decide) (by decide) (by omega) (by omega) (by omega) (by omega) (by omega) (Or.inl rfl) ?_
  show qJ YX1_copyFrom κ _ (qLy (o, im125 ++ t), (q_cpy (q_cpy (q_cpy (q_cpy (q_up (q_up (q_up m 2 0 (m 126 0)) 2 1 (m 126 1)) 2 2 (m 126 2)) 127 0 3 0 (((m 126 0) * 5).toNat)) 128 0 4 0 ((m 126 0).toNat)) 129 0 5 0 ((m 126 0).toNat)) 130 0 6 0 ((m 126 0).toNat)), y) 0 0 94 [some (qR 2), some (qR 126)] []
  refine qJ.run hκ 8 (pc' := 108) (ls' := [some (qR 2), some (qR 126)]) (st' := [qI (m 126 0), qI 0, qR 7, qI 0, qR 131]) rfl ?_
  refine qJ.copy hκ rfl kX1_75 (Nat.le_of_ble_eq_true rfl) (Nat.le_of_ble_eq_true rfl) rfl rfl (by decide) (by decide) (by omega) (by omega) (by omega) (by omega) (by omega) (Or.inl rfl) ?_
  show qJ YX1_copyFrom κ _ (qLy (o, im125 ++ t), (q_cpy (q_cpy (q_cpy (q_cpy (q_cpy (q_up (q_up (q_up m 2 0 (m 126 0)) 2 1 (m 126 1)) 2 2 (m 126 2)) 127 0 3 0 (((m 126 0) * 5).toNat)) 128 0 4 0 ((m 126 0).toNat)) 129 0 5 0 ((m 126 0).toNat)) 130 0 6 0 ((m 126 0).toNat)) 131 0 7 0 ((m 126 0).toNat)), y) 0 0 111 [some (qR 2), some (qR 126)] []
  refine qJ.run hκ 8 (pc' := 125) (ls' := [some (qR 2), some (qR 126)]) (st' := [qI (m 126 0), qI 0, qR 8, qI 0, qR 132]) rfl ?_
  refine qJ.copy hκ rfl kX1_75 (Nat.le_of_ble_eq_true rfl) (Nat.le_of_ble_eq_true rfl) rfl rfl (by decide) (by decide) (by omega) (by omega) (by omega) (by omega) (by omega) (Or.inl rfl) ?_
  show qJ YX1_copyFrom κ _ (qLy (o, im125 ++ t), (q_cpy (q_cpy (q_cpy (q_cpy (q_cpy (q_cpy (q_up (q_up (q_up m 2 0 (m 126 0)) 2 1 (m 126 1)) 2 2 (m 126 2)) 127 0 3 0 (((m 126 0) * 5).toNat)) 128 0 4 0 ((m 126 0).toNat)) 129 0 5 0 ((m 126 0).toNat)) 130 0 6 0 ((m 126 0).toNat)) 131 0 7 0 ((m 126 0).toNat)) 132 0 8 0 ((m 126 0).toNat)), y) 0 0 128 [some (qR 2), some (qR 126)] []
  refine qJ.run hκ 8 (pc' := 142) (ls' := [some (qR 2), some (qR 126)]) (st' := [qI (m 126 2), qI 0, qR 9, qI 0, qR 133]) rfl ?_
  refine qJ.copy hκ rfl kX1_75 (Nat.le_of_ble_eq_true rfl) (Nat.le_of_ble_eq_true rfl) rfl rfl (by decide) (by decide) (by omega) (by omega) (by omega) (by omega) (by omega) (Or.inl rfl) ?_
  show qJ YX1_copyFrom κ _ (qLy (o, im125 ++ t), (q_cpy (q_cpy (q_cpy (q_cpy (q_cpy (q_cpy (q_cpy (q_up (q_up (q_up m 2 0 (m 126 0)) 2 1 (m 126 1)) 2 2 (m 126 2)) 127 0 3 0 (((m 126 0) * 5).toNat)) 128 0 4 0 ((m 126 0).toNat)) 129 0 5 0 ((m 126 0).toNat)) 130 0 6 0 ((m 126 0).toNat)) 131 0 7 0 ((m 126 0).toNat)) 132 0 8 0 ((m 126 0).toNat)) 133 0 9 0 ((m 126 2).toNat)), y) 0 0 145 [some (qR 2), some (qR 126)] []
  refine qJ.run hκ 8 (pc' := 159) (ls' := [some (qR 2), some (qR 126)]) (st' := [qI (m 126 2), qI 0, qR 10, qI 0, qR 134]) rfl ?_
  refine qJ.copy hκ rfl kX1_75 (Nat.le_of_ble_eq_true rfl) (Nat.le_of_ble_eq_true rfl) rfl rfl (by decide) (by decide) (by omega) (by omega) (by omega) (by omega) (by omega) (Or.inl rfl) ?_
  show qJ YX1_copyFrom κ _ (qLy (o, im125 ++ t), (q_cpy (q_cpy (q_cpy (q_cpy (q_cpy (q_cpy (q_cpy (q_cpy (q_up (q_up (q_up m 2 0 (m 126 0)) 2 1 (m 126 1)) 2 2 (m 126 2)) 127 0 3 0 (((m 126 0) * 5).toNat)) 128 0 4 0 ((m 126 0).toNat)) 129 0 5 0 ((m 126 0).toNat)) 130 0 6 0 ((m 126 0).toNat)) 131 0 7 0 ((m 126 0).toNat)) 132 0 8 0 ((m 126 0).toNat)) 133 0 9 0 ((m 126 2).toNat)) 134 0 10 0 ((m 126 2).toNat)), y) 0 0 162 [some (qR 2), some (qR 126)] []
  refine qJ.run hκ 8 (pc' := 176) (ls' := [some (qR 2), some (qR 126)]) (st' := [qI (m 126 2), qI 0, qR 11, qI 0, qR 135]) rfl ?_
  refine qJ.copy hκ rfl kX1_75 (Nat.le_of_ble_eq_true rfl) (Nat.le_of_ble_eq_true rfl) rfl rfl (by decide) (by decide) (by omega) (by omega) (by omega) (by omega) (by omega) (Or.inl rfl) ?_
  show qJ YX1_copyFrom κ _ (qLy (o, im125 ++ t), (q_cpy (q_cpy (q_cpy (q_cpy (q_cpy (q_cpy (q_cpy (q_cpy (q_cpy (q_up (q_up (q_up m 2 0 (m 126 0)) 2 1 (m 126 1)) 2 2 (m 126 2)) 127 0 3 0 (((m 126 0) * 5).toNat)) 128 0 4 0 ((m 126 0).toNat)) 129 0 5 0 ((m 126 0).toNat)) 130 0 6 0 ((m 126 0).toNat)) 131 0 7 0 ((m 126 0).toNat)) 132 0 8 0 ((m 126 0).toNat)) 133 0 9 0 ((m 126 2).toNat)) 134 0 10 0 ((m 126 2).toNat)) 135 0 11 0 ((m 126 2).toNat)), y) 0 0 179 [some (qR 2), some (qR 126)] []
  exact qJ.vret hκ rfl rfl (by decide) (by decide) (⟨rfl, (q_cpy (q_cpy (q_cpy (q_cpy (q_cpy (q_cpy (q_cpy (q_cpy (q_cpy (q_up (q_up (q_up m 2 0 (m 126 0)) 2 1 (m 126 1)) 2 2 (m 126 2)) 127 0 3 0 (((m 126 0) * 5).toNat)) 128 0 4 0 ((m 126 0).toNat)) 129 0 5 0 ((m 126 0).toNat)) 130 0 6 0 ((m 126 0).toNat)) 131 0 7 0 ((m 126 0).toNat)) 132 0 8 0 ((m 126 0).toNat)) 133 0 9 0 ((m 126 2).toNat)) 134 0 10 0 ((m 126 2).toNat)) 135 0 11 0 ((m 126 2).toNat)), rfl, (Eq.trans (keep_cp (by intro j; rfl)) (Eq.trans (keep_cp (by intro j; rfl)) (Eq.trans (keep_cp (by intro j; rfl)) (Eq.trans (keep_cp (by intro j; rfl)) (Eq.trans (keep_cp (by intro j; rfl)) (Eq.trans (keep_cp (by intro j; rfl)) (Eq.trans (keep_cp (by intro j; rfl)) (Eq.trans (keep_cp (by intro j; rfl)) (Eq.trans (keep_cp (by intro j; rfl)) (Eq.trans (keep_up (by rfl)) (Eq.trans (keep_up (by rfl)) (Eq.trans (keep_up (by rfl)) rfl)))))))))))), (by rw [q_cpy_rw (by decide), q_cpy_rw (by decide), q_cpy_rw (by decide), q_cpy_rw (by decide), q_cpy_rw (by decide), q_cpy_rw (by decide), q_cpy_rw (by decide), q_cpy_rw (by decide), q_cpy_rw (by decide)]; rfl), (by rw [q_cpy_rw (by decide), q_cpy_rw (by decide), q_cpy_rw (by decide), q_cpy_rw (by decide), q_cpy_rw (by decide), q_cpy_rw (by decide), q_cpy_rw (by decide), q_cpy_rw (by decide), q_cpy_rw (by decide)]; rfl), (by rw [q_cpy_rw (by decide), q_cpy_rw (by decide), q_cpy_rw (by decide), q_cpy_rw (by decide), q_cpy_rw (by decide), q_cpy_rw (by decide), q_cpy_rw (by decide), q_cpy_rw (by decide), q_cpy_rw (by decide)]; rfl), (by rw [q_cpy_rw (by decide), q_cpy_rw (by decide), q_cpy_rw (by decide), q_cpy_rw (by decide), q_cpy_rw (by decide), q_cpy_rw (by decide), q_cpy_rw (by decide), q_cpy_rw (by decide)]; exact cpy_ag (by rw [q_up_rw (by decide), q_up_rw (by decide), q_up_rw (by decide)]) (rfl)), (by rw [q_cpy_rw (by decide), q_cpy_rw (by decide), q_cpy_rw (by decide), q_cpy_rw (by decide), q_cpy_rw (by decide), q_cpy_rw (by decide), q_cpy_rw (by decide)]; exact cpy_ag (by rw [q_cpy_rw (by decide), q_up_rw (by decide), q_up_rw (by decide), q_up_rw (by decide)]) (rfl)), (by rw [q_cpy_rw (by decide), q_cpy_rw (by decide), q_cpy_rw (by decide), q_cpy_rw (by decide), q_cpy_rw (by decide), q_cpy_rw (by decide)]; exact cpy_ag (by rw [q_cpy_rw (by decide), q_cpy_rw (by decide), q_up_rw (by decide), q_up_rw (by decide), q_up_rw (by decide)]) (rfl)), (by rw [q_cpy_rw (by decide), q_cpy_rw (by decide), q_cpy_rw (by decide), q_cpy_rw (by decide), q_cpy_rw (by decide)]; exact cpy_ag (by rw [q_cpy_rw (by decide), q_cpy_rw (by decide), q_cpy_rw (by decide), q_up_rw (by decide), q_up_rw (by decide), q_up_rw (by decide)]) (rfl)), (by rw [q_cpy_rw (by decide), q_cpy_rw (by decide), q_cpy_rw (by decide), q_cpy_rw (by decide)]; exact cpy_ag (by rw [q_cpy_rw (by decide), q_cpy_rw (by decide), q_cpy_rw (by decide), q_cpy_rw (by decide), q_up_rw (by decide), q_up_rw (by decide), q_up_rw (by decide)]) (rfl)), (by rw [q_cpy_rw (by decide), q_cpy_rw (by decide), q_cpy_rw (by decide)]; exact cpy_ag (by rw [q_cpy_rw (by decide), q_cpy_rw (by decide), q_cpy_rw (by decide), q_cpy_rw (by decide), q_cpy_rw (by decide), q_up_rw (by decide), q_up_rw (by decide), q_up_rw (by decide)]) (rfl)), (by rw [q_cpy_rw (by decide), q_cpy_rw (by decide)]; exact cpy_ag (by rw [q_cpy_rw (by decide), q_cpy_rw (by decide), q_cpy_rw (by decide), q_cpy_rw (by decide), q_cpy_rw (by decide), q_cpy_rw (by decide), q_up_rw (by decide), q_up_rw (by decide), q_up_rw (by decide)]) (rfl)), (by rw [q_cpy_rw (by decide)]; exact cpy_ag (by rw [q_cpy_rw (by decide), q_cpy_rw (by decide), q_cpy_rw (by decide), q_cpy_rw (by decide), q_cpy_rw (by decide), q_cpy_rw (by decide), q_cpy_rw (by decide), q_up_rw (by decide), q_up_rw (by decide), q_up_rw (by decide)]) (rfl)), (by skip; exact cpy_ag (by rw [q_cpy_rw (by decide), q_cpy_rw (by decide), q_cpy_rw (by decide), q_cpy_rw (by decide), q_cpy_rw (by decide), q_cpy_rw (by decide), q_cpy_rw (by decide), q_cpy_rw (by decide), q_up_rw (by decide), q_up_rw (by decide), q_up_rw (by decide)]) (rfl))⟩)

set_option maxRecDepth 100000 in
theorem c_clr125 (o : Option Nat × Option Nat × Option Nat) (t : List qS) (m y : qM) (h0 : 0 ≤ m 136 1 ∧ m 136 1 ≤ 512) : qCt YX3_copyFrom 2 0 0 [qR 12, qR 136] (qLy (o, im125 ++ t), m, y) (fun r h => r = none ∧ ∃ m', h = (qLy (o, im125 ++ t), m', y) ∧ keep (kN kIlr125) m' = keep (kN kIlr125) m ∧ m' 12 0 = m 136 0 ∧ m' 12 1 = m 136 1 ∧ agN (m 136 1) (m 137) (m' 13) ∧ agN 10 (m 138) (m' 14)) := by
  refine qCt.intro okX3_copyFrom (Nat.le_of_ble_eq_true rfl) (fun κ hκ => ?_)
  show qJ YX3_copyFrom κ _ (qLy (o, im125 ++ t), m, y) 0 0 0 [some (qR 12), some (qR 136)] []
  refine qJ.run hκ 3 (pc' := 5) (ls' := [some (qR 12), some (qR 136)]) (st' := [qI (m 136 0), qR 12]) rfl ?_
  refine qJ.putI hκ rfl rfl rfl rfl (Or.inl rfl) ?_
  show qJ YX3_copyFrom κ _ (qLy (o, im125 ++ t), (q_up m 12 0 (m 136 0)), y) 0 0 8 [some (qR 12), some (qR 136)] []
  refine qJ.run hκ 3 (pc' := 13) (ls' := [some (qR 12), some (qR 136)]) (st' := [qI (m 136 1), qR 12]) rfl ?_
  refine qJ.putI hκ rfl rfl rfl rfl (Or.inl rfl) ?_
  show qJ YX3_copyFrom κ _ (qLy (o, im125 ++ t), (q_up (q_up m 12 0 (m 136 0)) 12 1 (m 136 1)), y) 0 0 16 [some (qR 12), some (qR 136)] []
  refine qJ.run hκ 8 (pc' := 30) (ls' := [some (qR 12), some (qR 136)]) (st' := [qI (m 136 1), qI 0, qR 13, qI 0, qR 137]) rfl ?_
  refine qJ.copy hκ rfl kX3_25 (Nat.le_of_ble_eq_true rfl) (Nat.le_of_ble_eq_true rfl) rfl rfl (by decide) (by decide) (by omega) (by omega) (by omega) (by omega) (by omega) (Or.inl rfl) ?_
  show qJ YX3_copyFrom κ _ (qLy (o, im125 ++ t), (q_cpy (q_up (q_up m 12 0 (m 136 0)) 12 1 (m 136 1)) 137 0 13 0 ((m 136 1).toNat)), y) 0 0 33 [some (qR 12), some (qR 136)] []
  refine qJ.run hκ 7 (pc' := 45) (ls' := [some (qR 12), some (qR 136)]) (st' := [qI 10, qI 0, qR 14, qI 0, qR 138]) rfl ?_
  refine qJ.copy hκ rfl kX3_25 (Nat.le_of_ble_eq_true rfl) (Nat.le_of_ble_eq_true rfl) rfl rfl (by decide) (by decide) (by omega) (by omega) (by omega) (by omega) (by omega) (Or.inl rfl) ?_
  show qJ YX3_copyFrom κ _ (qLy (o, im125 ++ t), (q_cpy (q_cpy (q_up (q_up m 12 0 (m 136 0)) 12 1 (m 136 1)) 137 0 13 0 ((m 136 1).toNat)) 138 0 14 0 10), y) 0 0 48 [some (qR 12), some (qR 136)] []
  exact qJ.vret hκ rfl rfl (by decide) (by decide) (⟨rfl, (q_cpy (q_cpy (q_up (q_up m 12 0 (m 136 0)) 12 1 (m 136 1)) 137 0 13 0 ((m 136 1).toNat)) 138 0 14 0 10), rfl, (Eq.trans (keep_cp (by intro j; rfl)) (Eq.trans (keep_cp (by intro j; rfl)) (Eq.trans (keep_up (by rfl)) (Eq.trans (keep_up (by rfl)) rfl)))), (by rw [q_cpy_rw (by decide), q_cpy_rw (by decide)]; rfl), (by rw [q_cpy_rw (by decide), q_cpy_rw (by decide)]; rfl), (by rw [q_cpy_rw (by decide)]; exact cpy_ag (by rw [q_up_rw (by decide), q_up_rw (by decide)]) (rfl)), (by skip; exact cpy_ag (by rw [q_cpy_rw (by decide), q_up_rw (by decide), q_up_rw (by decide)]) (rfl))⟩)

def kJr125 : Nat → Nat → Bool := fun i j => decide ((i = 15 ∧ j = 4) ∨ i = 19 ∨ i = 20)

set_option maxRecDepth 100000 in
theorem c_csr125 (o : Option Nat × Option Nat × Option Nat) (t : List qS) (m y : qM) (k : Int)  : qCt YX4_setLines 2 0 0 [qR 15, qI k, qR 143, qR 144] (qLy (o, im125 ++ t), m, y) (fun r h => r = none ∧ ∃ m', h = (qLy (o, im125 ++ t), m', y) ∧ keep (kN kJr125) m' = keep (kN kJr125) m ∧ agN 18 (m 143) (m' 19) ∧ agN 18 (m 144) (m' 20) ∧ m' 15 4 = k) := by
  refine qCt.intro okX4_setLines (Nat.le_of_ble_eq_true rfl) (fun κ hκ => ?_)
  show qJ YX4_setLines κ _ (qLy (o, im125 ++ t), m, y) 0 0 0 [some (qR 15), some (qI k), some (qR 143), some (qR 144)] []
  refine qJ.run hκ 2 (pc' := 2) (ls' := [some (qR 15), some (qI k), some (qR 143), some (qR 144)]) (st' := [qI k, qR 15]) rfl ?_
  refine qJ.putI hκ rfl rfl rfl rfl (Or.inl rfl) ?_
  show qJ YX4_setLines κ _ (qLy (o, im125 ++ t), (q_up m 15 4 k), y) 0 0 5 [some (qR 15), some (qI k), some (qR 143), some (qR 144)] []
  refine qJ.run hκ 8 (pc' := 17) (ls' := [some (qR 15), some (qI k), some (qR 143), some (qR 144)]) (st' := [qI 18, qI 0, qR 19, qI 0, qR 143]) rfl ?_
  refine qJ.copy hκ rfl kX4_48 (Nat.le_of_ble_eq_true rfl) (Nat.le_of_ble_eq_true rfl) rfl rfl (by decide) (by decide) (by omega) (by omega) (by omega) (by omega) (by omega) (Or.inl rfl) ?_
  show qJ YX4_setLines κ _ (qLy (o, im125 ++ t), (q_cpy (q_up m 15 4 k) 143 0 19 0 18), y) 0 0 20 [some (qR 15), some (qI k), some (qR 143), some (qR 144)] []
  refine qJ.run hκ 8 (pc' := 32) (ls' := [some (qR 15), some (qI k), some (qR 143), some (qR 144)]) (st' := [qI 18, qI 0, qR 20, qI 0, qR 144]) rfl ?_
  refine qJ.copy hκ rfl kX4_48 (Nat.le_of_ble_eq_true rfl) (Nat.le_of_ble_eq_true rfl) rfl rfl (by decide) (by decide) (by omega) (by omega) (by omega) (by omega) (by omega) (Or.inl rfl) ?_
  show qJ YX4_setLines κ _ (qLy (o, im125 ++ t), (q_cpy (q_cpy (q_up m 15 4 k) 143 0 19 0 18) 144 0 20 0 18), y) 0 0 35 [some (qR 15), some (qI k), some (qR 143), some (qR 144)] []
  exact qJ.vret hκ rfl rfl (by decide) (by decide) (⟨rfl, (q_cpy (q_cpy (q_up m 15 4 k) 143 0 19 0 18) 144 0 20 0 18), rfl, (Eq.trans (keep_cp (by intro j; rfl)) (Eq.trans (keep_cp (by intro j; rfl)) (Eq.trans (keep_up (by rfl)) rfl))), (by rw [q_cpy_rw (by decide)]; exact cpy_ag (by rw [q_up_rw (by decide)]) (rfl)), (by skip; exact cpy_ag (by rw [q_cpy_rw (by decide), q_up_rw (by decide)]) (rfl)), (by rw [q_cpy_rw (by decide), q_cpy_rw (by decide)]; rfl)⟩)

theorem kJr125x : ∀ i j, kN kIxr125 i j = true → kN kJr125 i j = true := by
  intro i j h
  refine kN_t.mpr fun z => kN_t.mp h ?_
  unfold kJr125 at z
  unfold kIxr125
  rw [decide_eq_true_eq] at z ⊢
  omega

set_option maxRecDepth 100000 in
theorem c_cxr125 (o : Option Nat × Option Nat × Option Nat) (t : List qS) (m y : qM) (h0 : 0 ≤ m 139 0 ∧ m 139 0 ≤ 5) : qCt YX4_copyFrom 3 0 0 [qR 15, qR 139] (qLy (o, im125 ++ t), m, y) (fun r h => r = none ∧ ∃ m', h = (qLy (o, im125 ++ t), m', y) ∧ keep (kN kIxr125) m' = keep (kN kIxr125) m ∧ m' 15 0 = m 139 0 ∧ m' 15 4 = m 139 4 ∧ agN (m 139 0 * 10) (m 140) (m' 16) ∧ agN (m 139 0) (m 141) (m' 17) ∧ agN (m 139 0) (m 142) (m' 18) ∧ agN 18 (m 143) (m' 19) ∧ agN 18 (m 144) (m' 20)) := by
  refine qCt.intro okX4_copyFrom (Nat.le_of_ble_eq_true rfl) (fun κ hκ => ?_)
  show qJ YX4_copyFrom κ _ (qLy (o, im125 ++ t), m, y) 0 0 0 [some (qR 15), some (qR 139)] []
  refine qJ.run hκ 3 (pc' := 5) (ls' := [some (qR 15), some (qR 139)]) (st' := [qI (m 139 0), qR 15]) rfl ?_
  refine qJ.putI hκ rfl rfl rfl rfl (Or.inl rfl) ?_
  show qJ YX4_copyFrom κ _ (qLy (o, im125 ++ t), (q_up m 15 0 (m 139 0)), y) 0 0 8 [some (qR 15), some (qR 139)] []
  refine qJ.run hκ 10 (pc' := 25) (ls' := [some (qR 15), some (qR 139)]) (st' := [qI ((m 139 0) * 10), qI 0, qR 16, qI 0, qR 140]) rfl ?_
  refine qJ.copy hκ rfl kX4_48 (Nat.le_of_ble_eq_true rfl) (Nat.le_of_ble_eq_true rfl) rfl rfl (by decide) (by decide) (by omega) (by omega) (by omega) (by omega) (by omega) (Or.inl rfl) ?_
  show qJ YX4_copyFrom κ _ (qLy (o, im125 ++ t), (q_cpy (q_up m 15 0 (m 139 0)) 140 0 16 0 (((m 139 0) * 10).toNat)), y) 0 0 28 [some (qR 15), some (qR 139)] []
  refine qJ.run hκ 8 (pc' := 42) (ls' := [some (qR 15), some (qR 139)]) (st' := [qI (m 139 0), qI 0, qR 17, qI 0, qR 141]) rfl ?_
  refine qJ.copy hκ rfl kX4_48 (Nat.le_of_ble_eq_true rfl) (Nat.le_of_ble_eq_true rfl) rfl rfl (by decide) (by decide) (by omega) (by omega) (by omega) (by omega) (by omega) (Or.inl rfl) ?_
  show qJ YX4_copyFrom κ _ (qLy (o, im125 ++ t), (q_cpy (q_cpy (q_up m 15 0 (m 139 0)) 140 0 16 0 (((m 139 0) * 10).toNat)) 141 0 17 0 ((m 139 0).toNat)), y) 0 0 45 [some (qR 15), some (qR 139)] []
  refine qJ.run hκ 8 (pc' := 59) (ls' := [some (qR 15), some (qR 139)]) (st' := [qI (m 139 0), qI 0, qR 18, qI 0, qR 142]) rfl ?_
  refine qJ.copy hκ rfl kX4_48 (Nat.le_of_ble_eq_true rfl) (Nat.le_of_ble_eq_true rfl) rfl rfl (by decide) (by decide) (by omega) (by omega) (by omega) (by omega) (by omega) (Or.inl rfl) ?_
  show qJ YX4_copyFrom κ _ (qLy (o, im125 ++ t), (q_cpy (q_cpy (q_cpy (q_up m 15 0 (m 139 0)) 140 0 16 0 (((m 139 0) * 10).toNat)) 141 0 17 0 ((m 139 0).toNat)) 142 0 18 0 ((m 139 0).toNat)), y) 0 0 62 [some (qR 15), some (qR 139)] []
  refine qJ.run hκ 7 (pc' := 75) (ls' := [some (qR 15), some (qR 139)]) (st' := [qR 144, qR 143, qI (m 139 4), qR 15]) rfl ?_
  refine qJ.callV (As := [qI (m 139 4), qR 143, qR 144]) (rest := []) hκ rfl kX4_54 (c_csr125 o t (q_cpy (q_cpy (q_cpy (q_up m 15 0 (m 139 0)) 140 0 16 0 (((m 139 0) * 10).toNat)) 141 0 17 0 ((m 139 0).toNat)) 142 0 18 0 ((m 139 0).toNat)) y (m 139 4)) rfl rfl (by decide) rfl rfl (Nat.le_of_ble_eq_true rfl) (Nat.le_of_ble_eq_true rfl) (Nat.le_of_ble_eq_true rfl) (Or.inl (fun r h' e => by obtain ⟨rfl, m4, rfl, K4, A19, A20, A15⟩ := e; rfl)) (fun r h' e => ?_)
  obtain ⟨rfl, m4, rfl, K4, A19, A20, A15⟩ := e
  show qJ YX4_copyFrom κ _ (qLy (o, im125 ++ t), m4, y) 0 0 78 [some (qR 15), some (qR 139)] []
  exact qJ.vret hκ rfl rfl (by decide) (by decide) (⟨rfl, m4, rfl, (keep_of kJr125x K4).trans (Eq.trans (keep_cp (by intro j; rfl)) (Eq.trans (keep_cp (by intro j; rfl)) (Eq.trans (keep_cp (by intro j; rfl)) (Eq.trans (keep_up (by rfl)) rfl)))), (show m4 15 0 = (q_cpy (q_cpy (q_cpy (q_up m 15 0 (m 139 0)) 140 0 16 0 (((m 139 0) * 10).toNat)) 141 0 17 0 ((m 139 0).toNat)) 142 0 18 0 ((m 139 0).toNat)) 15 0 from congrFun (congrFun K4 15) 0).trans (by rw [q_cpy_rw (by decide), q_cpy_rw (by decide), q_cpy_rw (by decide)]; rfl), A15.trans (show (q_cpy (q_cpy (q_cpy (q_up m 15 0 (m 139 0)) 140 0 16 0 (((m 139 0) * 10).toNat)) 141 0 17 0 ((m 139 0).toNat)) 142 0 18 0 ((m 139 0).toNat)) 139 4 = m 139 4 from by rw [q_cpy_rw (by decide), q_cpy_rw (by decide), q_cpy_rw (by decide), q_up_rw (by decide)]), (by rw [show m4 16 = (q_cpy (q_cpy (q_cpy (q_up m 15 0 (m 139 0)) 140 0 16 0 (((m 139 0) * 10).toNat)) 141 0 17 0 ((m 139 0).toNat)) 142 0 18 0 ((m 139 0).toNat)) 16 from congrFun K4 16]; exact (by rw [q_cpy_rw (by decide), q_cpy_rw (by decide)]; exact cpy_ag (by rw [q_up_rw (by decide)]) (rfl))), (by rw [show m4 17 = (q_cpy (q_cpy (q_cpy (q_up m 15 0 (m 139 0)) 140 0 16 0 (((m 139 0) * 10).toNat)) 141 0 17 0 ((m 139 0).toNat)) 142 0 18 0 ((m 139 0).toNat)) 17 from congrFun K4 17]; exact (by rw [q_cpy_rw (by decide)]; exact cpy_ag (by rw [q_cpy_rw (by decide), q_up_rw (by decide)]) (rfl))), (by rw [show m4 18 = (q_cpy (q_cpy (q_cpy (q_up m 15 0 (m 139 0)) 140 0 16 0 (((m 139 0) * 10).toNat)) 141 0 17 0 ((m 139 0).toNat)) 142 0 18 0 ((m 139 0).toNat)) 18 from congrFun K4 18]; exact (by skip; exact cpy_ag (by rw [q_cpy_rw (by decide), q_cpy_rw (by decide), q_up_rw (by decide)]) (rfl))), (by have A := A19; rw [show (q_cpy (q_cpy (q_cpy (q_up m 15 0 (m 139 0)) 140 0 16 0 (((m 139 0) * 10).toNat)) 141 0 17 0 ((m 139 0).toNat)) 142 0 18 0 ((m 139 0).toNat)) 143 = m 143 from by rw [q_cpy_rw (by decide), q_cpy_rw (by decide), q_cpy_rw (by decide), q_up_rw (by decide)]] at A; exact A), (by have A := A20; rw [show (q_cpy (q_cpy (q_cpy (q_up m 15 0 (m 139 0)) 140 0 16 0 (((m 139 0) * 10).toNat)) 141 0 17 0 ((m 139 0).toNat)) 142 0 18 0 ((m 139 0).toNat)) 144 = m 144 from by rw [q_cpy_rw (by decide), q_cpy_rw (by decide), q_cpy_rw (by decide), q_up_rw (by decide)]] at A; exact A)⟩)

set_option maxRecDepth 100000 in
theorem c_ctr125 (o : Option Nat × Option Nat × Option Nat) (t : List qS) (m y : qM) (h0 : 0 ≤ m 126 0 ∧ m 126 0 ≤ 60) (h2 : 0 ≤ m 126 2 ∧ m 126 2 ≤ 150) (h12 : 0 ≤ m 136 1 ∧ m 136 1 ≤ 512) (h15 : 0 ≤ m 139 0 ∧ m 139 0 ≤ 5) (h4 : 0 ≤ m 125 4 ∧ m 125 4 ≤ 400) (hb : ∀ j : Nat, (j : Int) < m 125 4 → -128 ≤ m 145 j ∧ m 145 j ≤ 127) : qCt YX9_copyFrom 4 0 0 [qR 1, qR 125] (qLy (o, im125 ++ t), m, y) (fun r h => r = none ∧ ∃ m', h = (qLy (o, im125 ++ t), m', y) ∧ keep (kN kIr125) m' = keep (kN kIr125) m ∧ (m' 1 4 = m 125 4 ∧ m' 1 5 = m 125 5 ∧ m' 1 6 = m 125 6 ∧ m' 1 7 = m 125 7 ∧ m' 1 8 = m 125 8 ∧ m' 1 9 = m 125 9) ∧ (m' 2 0 = m 126 0 ∧ m' 2 1 = m 126 1 ∧ m' 2 2 = m 126 2) ∧ (agN (m 126 0 * 5) (m 127) (m' 3) ∧ agN (m 126 0) (m 128) (m' 4) ∧ agN (m 126 0) (m 129) (m' 5) ∧ agN (m 126 0) (m 130) (m' 6) ∧ agN (m 126 0) (m 131) (m' 7) ∧ agN (m 126 0) (m 132) (m' 8)) ∧ (agN (m 126 2) (m 133) (m' 9) ∧ agN (m 126 2) (m 134) (m' 10) ∧ agN (m 126 2) (m 135) (m' 11)) ∧ (m' 12 0 = m 136 0 ∧ m' 12 1 = m 136 1 ∧ agN (m 136 1) (m 137) (m' 13) ∧ agN 10 (m 138) (m' 14)) ∧ (m' 15 0 = m 139 0 ∧ m' 15 4 = m 139 4 ∧ agN (m 139 0 * 10) (m 140) (m' 16) ∧ agN (m 139 0) (m 141) (m' 17) ∧ agN (m 139 0) (m 142) (m' 18) ∧ agN 18 (m 143) (m' 19) ∧ agN 18 (m 144) (m' 20)) ∧ agN (m 125 4) (m 145) (m' 21)) := by
  refine qCt.intro okX9_copyFrom (Nat.le_of_ble_eq_true rfl) (fun κ hκ => ?_)
  show qJ YX9_copyFrom κ _ (qLy (o, im125 ++ t), m, y) 0 0 0 [some (qR 1), some (qR 125)] []
  refine qJ.run hκ 4 (pc' := 8) (ls' := [some (qR 1), some (qR 125)]) (st' := [qR 126, qR 2]) rfl ?_
  refine qJ.callV (As := [qR 126]) (rest := []) hκ rfl kX9_63 (c_ccr125 o t m y h0 h2) rfl rfl (by decide) rfl rfl (Nat.le_of_ble_eq_true rfl) (Nat.le_of_ble_eq_true rfl) (Nat.le_of_ble_eq_true rfl) (Or.inl (fun r h' e => by obtain ⟨rfl, m1, rfl, K1, P0, P1, P2, P3, P4, P5, P6, P7, P8, P9, P10, P11⟩ := e; rfl)) (fun r h' e => ?_)
  obtain ⟨rfl, m1, rfl, K1, P0, P1, P2, P3, P4, P5, P6, P7, P8, P9, P10, P11⟩ := e
  show qJ YX9_copyFrom κ _ (qLy (o, im125 ++ t), m1, y) 0 0 11 [some (qR 1), some (qR 125)] []
  refine qJ.run hκ 4 (pc' := 19) (ls' := [some (qR 1), some (qR 125)]) (st' := [qR 136, qR 12]) rfl ?_
  refine qJ.callV (As := [qR 136]) (rest := []) hκ rfl kX9_67 (c_clr125 o t m1 y (by rw [show m1 136 = m 136 from congrFun K1 136]; exact h12)) rfl rfl (by decide) rfl rfl (Nat.le_of_ble_eq_true rfl) (Nat.le_of_ble_eq_true rfl) (Nat.le_of_ble_eq_true rfl) (Or.inl (fun r h' e => by obtain ⟨rfl, m2, rfl, K2, Q0, Q1, Q2, Q3⟩ := e; rfl)) (fun r h' e => ?_)
  obtain ⟨rfl, m2, rfl, K2, Q0, Q1, Q2, Q3⟩ := e
  rw [show m1 136 = m 136 from congrFun K1 136] at Q0 Q1 Q2
  rw [show m1 137 = m 137 from congrFun K1 137] at Q2
  rw [show m1 138 = m 138 from congrFun K1 138] at Q3
  show qJ YX9_copyFrom κ _ (qLy (o, im125 ++ t), m2, y) 0 0 22 [some (qR 1), some (qR 125)] []
  refine qJ.run hκ 4 (pc' := 30) (ls' := [some (qR 1), some (qR 125)]) (st' := [qR 139, qR 15]) rfl ?_
  refine qJ.callV (As := [qR 139]) (rest := []) hκ rfl kX9_70 (c_cxr125 o t m2 y (by rw [show m2 139 = m 139 from (congrFun K2 139).trans (congrFun K1 139)]; exact h15)) rfl rfl (by decide) rfl rfl (Nat.le_of_ble_eq_true rfl) (Nat.le_of_ble_eq_true rfl) (Nat.le_of_ble_eq_true rfl) (Or.inl (fun r h' e => by obtain ⟨rfl, m3, rfl, K3, R0, R1, R2, R3, R4, R5, R6⟩ := e; rfl)) (fun r h' e => ?_)
  obtain ⟨rfl, m3, rfl, K3, R0, R1, R2, R3, R4, R5, R6⟩ := e
  rw [show m2 139 = m 139 from (congrFun K2 139).trans (congrFun K1 139)] at R0 R1 R2 R3 R4
  rw [show m2 140 = m 140 from (congrFun K2 140).trans (congrFun K1 140)] at R2
  rw [show m2 141 = m 141 from (congrFun K2 141).trans (congrFun K1 141)] at R3
  rw [show m2 142 = m 142 from (congrFun K2 142).trans (congrFun K1 142)] at R4
  rw [show m2 143 = m 143 from (congrFun K2 143).trans (congrFun K1 143)] at R5
  rw [show m2 144 = m 144 from (congrFun K2 144).trans (congrFun K1 144)] at R6
  have e1 : m3 125 = m 125 := (congrFun K3 125).trans ((congrFun K2 125).trans (congrFun K1 125))
  have e21 : m3 145 = m 145 := (congrFun K3 145).trans ((congrFun K2 145).trans (congrFun K1 145))
  have e4 : m3 125 4 = m 125 4 := by rw [e1]
  show qJ YX9_copyFrom κ _ (qLy (o, im125 ++ t), m3, y) 0 0 33 [some (qR 1), some (qR 125)] []
  refine qJ.run hκ 8 (pc' := 47) (ls' := [some (qR 1), some (qR 125)]) (st' := [qI (m3 125 4), qI 0, qR 21, qI 0, qR 145]) rfl ?_
  refine qJ.copy hκ rfl kX9_73 (Nat.le_of_ble_eq_true rfl) (Nat.le_of_ble_eq_true rfl) rfl rfl (by decide) (by decide) (by omega) (by omega) (by omega) (by omega) (by omega) (Or.inr ⟨rfl, fun i hi => by show -128 ≤ m3 145 (0 + i) ∧ m3 145 (0 + i) ≤ 127; rw [Nat.zero_add, e21]; exact hb i (by omega)⟩) ?_
  show qJ YX9_copyFrom κ _ (qLy (o, im125 ++ t), (q_cpy m3 145 0 21 0 ((m3 125 4).toNat)), y) 0 0 50 [some (qR 1), some (qR 125)] []
  refine qJ.run hκ 3 (pc' := 55) (ls' := [some (qR 1), some (qR 125)]) (st' := [qI (m3 125 4), qR 1]) rfl ?_
  refine qJ.putI hκ rfl rfl rfl rfl (Or.inl rfl) ?_
  show qJ YX9_copyFrom κ _ (qLy (o, im125 ++ t), (q_up (q_cpy m3 145 0 21 0 ((m3 125 4).toNat)) 1 4 (m3 125 4)), y) 0 0 58 [some (qR 1), some (qR 125)] []
  refine qJ.run hκ 3 (pc' := 63) (ls' := [some (qR 1), some (qR 125)]) (st' := [qI (m3 125 5), qR 1]) rfl ?_
  refine qJ.putI hκ rfl rfl rfl rfl (Or.inl rfl) ?_
  show qJ YX9_copyFrom κ _ (qLy (o, im125 ++ t), (q_up (q_up (q_cpy m3 145 0 21 0 ((m3 125 4).toNat)) 1 4 (m3 125 4)) 1 5 (m3 125 5)), y) 0 0 66 [some (qR 1), some (qR 125)] []
  refine qJ.run hκ 3 (pc' := 71) (ls' := [some (qR 1), some (qR 125)]) (st' := [qI (m3 125 6), qR 1]) rfl ?_
  refine qJ.putI hκ rfl rfl rfl rfl (Or.inl rfl) ?_
  show qJ YX9_copyFrom κ _ (qLy (o, im125 ++ t), (q_up (q_up (q_up (q_cpy m3 145 0 21 0 ((m3 125 4).toNat)) 1 4 (m3 125 4)) 1 5 (m3 125 5)) 1 6 (m3 125 6)), y) 0 0 74 [some (qR 1), some (qR 125)] []
  refine qJ.run hκ 3 (pc' := 79) (ls' := [some (qR 1), some (qR 125)]) (st' := [qI (m3 125 7), qR 1]) rfl ?_
  refine qJ.putI hκ rfl rfl rfl rfl (Or.inl rfl) ?_
  show qJ YX9_copyFrom κ _ (qLy (o, im125 ++ t), (q_up (q_up (q_up (q_up (q_cpy m3 145 0 21 0 ((m3 125 4).toNat)) 1 4 (m3 125 4)) 1 5 (m3 125 5)) 1 6 (m3 125 6)) 1 7 (m3 125 7)), y) 0 0 82 [some (qR 1), some (qR 125)] []
  refine qJ.run hκ 3 (pc' := 87) (ls' := [some (qR 1), some (qR 125)]) (st' := [qI (m3 125 8), qR 1]) rfl ?_
  refine qJ.putI hκ rfl rfl rfl rfl (Or.inl rfl) ?_
  show qJ YX9_copyFrom κ _ (qLy (o, im125 ++ t), (q_up (q_up (q_up (q_up (q_up (q_cpy m3 145 0 21 0 ((m3 125 4).toNat)) 1 4 (m3 125 4)) 1 5 (m3 125 5)) 1 6 (m3 125 6)) 1 7 (m3 125 7)) 1 8 (m3 125 8)), y) 0 0 90 [some (qR 1), some (qR 125)] []
  refine qJ.run hκ 3 (pc' := 95) (ls' := [some (qR 1), some (qR 125)]) (st' := [qI (m3 125 9), qR 1]) rfl ?_
  refine qJ.putI hκ rfl rfl rfl rfl (Or.inl rfl) ?_
  show qJ YX9_copyFrom κ _ (qLy (o, im125 ++ t), (q_up (q_up (q_up (q_up (q_up (q_up (q_cpy m3 145 0 21 0 ((m3 125 4).toNat)) 1 4 (m3 125 4)) 1 5 (m3 125 5)) 1 6 (m3 125 6)) 1 7 (m3 125 7)) 1 8 (m3 125 8)) 1 9 (m3 125 9)), y) 0 0 98 [some (qR 1), some (qR 125)] []
  exact qJ.vret hκ rfl rfl (by decide) (by decide) (⟨rfl, (q_up (q_up (q_up (q_up (q_up (q_up (q_cpy m3 145 0 21 0 ((m3 125 4).toNat)) 1 4 (m3 125 4)) 1 5 (m3 125 5)) 1 6 (m3 125 6)) 1 7 (m3 125 7)) 1 8 (m3 125 8)) 1 9 (m3 125 9)), rfl, (Eq.trans (keep_up (by rfl)) (Eq.trans (keep_up (by rfl)) (Eq.trans (keep_up (by rfl)) (Eq.trans (keep_up (by rfl)) (Eq.trans (keep_up (by rfl)) (Eq.trans (keep_up (by rfl)) (Eq.trans (keep_cp (by intro j; rfl)) ((keep_of kIxr125x K3).trans ((keep_of kIlr125x K2).trans (keep_of kIcr125x K1)))))))))), ⟨(by skip; exact congrFun e1 4), (by skip; exact congrFun e1 5), (by skip; exact congrFun e1 6), (by skip; exact congrFun e1 7), (by skip; exact congrFun e1 8), (by skip; exact congrFun e1 9)⟩, ⟨(by rw [q_up_rw (by decide), q_up_rw (by decide), q_up_rw (by decide), q_up_rw (by decide), q_up_rw (by decide), q_up_rw (by decide), q_cpy_rw (by decide)]; rw [show m3 2 = m1 2 from (congrFun K3 2).trans (congrFun K2 2)]; exact P0), (by rw [q_up_rw (by decide), q_up_rw (by decide), q_up_rw (by decide), q_up_rw (by decide), q_up_rw (by decide), q_up_rw (by decide), q_cpy_rw (by decide)]; rw [show m3 2 = m1 2 from (congrFun K3 2).trans (congrFun K2 2)]; exact P1), (by rw [q_up_rw (by decide), q_up_rw (by decide), q_up_rw (by decide), q_up_rw (by decide), q_up_rw (by decide), q_up_rw (by decide), q_cpy_rw (by decide)]; rw [show m3 2 = m1 2 from (congrFun K3 2).trans (congrFun K2 2)]; exact P2)⟩, ⟨(by rw [q_up_rw (by decide), q_up_rw (by decide), q_up_rw (by decide), q_up_rw (by decide), q_up_rw (by decide), q_up_rw (by decide), q_cpy_rw (by decide)]; rw [show m3 3 = m1 3 from (congrFun K3 3).trans (congrFun K2 3)]; exact P3), (by rw [q_up_rw (by decide), q_up_rw (by decide), q_up_rw (by decide), q_up_rw (by decide), q_up_rw (by decide), q_up_rw (by decide), q_cpy_rw (by decide)]; rw [show m3 4 = m1 4 from (congrFun K3 4).trans (congrFun K2 4)]; exact P4), (by rw [q_up_rw (by decide), q_up_rw (by decide), q_up_rw (by decide), q_up_rw (by decide), q_up_rw (by decide), q_up_rw (by decide), q_cpy_rw (by decide)]; rw [show m3 5 = m1 5 from (congrFun K3 5).trans (congrFun K2 5)]; exact P5), (by rw [q_up_rw (by decide), q_up_rw (by decide), q_up_rw (by decide), q_up_rw (by decide), q_up_rw (by decide), q_up_rw (by decide), q_cpy_rw (by decide)]; rw [show m3 6 = m1 6 from (congrFun K3 6).trans (congrFun K2 6)]; exact P6), (by rw [q_up_rw (by decide), q_up_rw (by decide), q_up_rw (by decide), q_up_rw (by decide), q_up_rw (by decide), q_up_rw (by decide), q_cpy_rw (by decide)]; rw [show m3 7 = m1 7 from (congrFun K3 7).trans (congrFun K2 7)]; exact P7), (by rw [q_up_rw (by decide), q_up_rw (by decide), q_up_rw (by decide), q_up_rw (by decide), q_up_rw (by decide), q_up_rw (by decide), q_cpy_rw (by decide)]; rw [show m3 8 = m1 8 from (congrFun K3 8).trans (congrFun K2 8)]; exact P8)⟩, ⟨(by rw [q_up_rw (by decide), q_up_rw (by decide), q_up_rw (by decide), q_up_rw (by decide), q_up_rw (by decide), q_up_rw (by decide), q_cpy_rw (by decide)]; rw [show m3 9 = m1 9 from (congrFun K3 9).trans (congrFun K2 9)]; exact P9), (by rw [q_up_rw (by decide), q_up_rw (by decide), q_up_rw (by decide), q_up_rw (by decide), q_up_rw (by decide), q_up_rw (by decide), q_cpy_rw (by decide)]; rw [show m3 10 = m1 10 from (congrFun K3 10).trans (congrFun K2 10)]; exact P10), (by rw [q_up_rw (by decide), q_up_rw (by decide), q_up_rw (by decide), q_up_rw (by decide), q_up_rw (by decide), q_up_rw (by decide), q_cpy_rw (by decide)]; rw [show m3 11 = m1 11 from (congrFun K3 11).trans (congrFun K2 11)]; exact P11)⟩, ⟨(by rw [q_up_rw (by decide), q_up_rw (by decide), q_up_rw (by decide), q_up_rw (by decide), q_up_rw (by decide), q_up_rw (by decide), q_cpy_rw (by decide)]; rw [show m3 12 = m2 12 from congrFun K3 12]; exact Q0), (by rw [q_up_rw (by decide), q_up_rw (by decide), q_up_rw (by decide), q_up_rw (by decide), q_up_rw (by decide), q_up_rw (by decide), q_cpy_rw (by decide)]; rw [show m3 12 = m2 12 from congrFun K3 12]; exact Q1), (by rw [q_up_rw (by decide), q_up_rw (by decide), q_up_rw (by decide), q_up_rw (by decide), q_up_rw (by decide), q_up_rw (by decide), q_cpy_rw (by decide)]; rw [show m3 13 = m2 13 from congrFun K3 13]; exact Q2), (by rw [q_up_rw (by decide), q_up_rw (by decide), q_up_rw (by decide), q_up_rw (by decide), q_up_rw (by decide), q_up_rw (by decide), q_cpy_rw (by decide)]; rw [show m3 14 = m2 14 from congrFun K3 14]; exact Q3)⟩, ⟨(by rw [q_up_rw (by decide), q_up_rw (by decide), q_up_rw (by decide), q_up_rw (by decide), q_up_rw (by decide), q_up_rw (by decide), q_cpy_rw (by decide)]; exact R0), (by rw [q_up_rw (by decide), q_up_rw (by decide), q_up_rw (by decide), q_up_rw (by decide), q_up_rw (by decide), q_up_rw (by decide), q_cpy_rw (by decide)]; exact R1), (by rw [q_up_rw (by decide), q_up_rw (by decide), q_up_rw (by decide), q_up_rw (by decide), q_up_rw (by decide), q_up_rw (by decide), q_cpy_rw (by decide)]; exact R2), (by rw [q_up_rw (by decide), q_up_rw (by decide), q_up_rw (by decide), q_up_rw (by decide), q_up_rw (by decide), q_up_rw (by decide), q_cpy_rw (by decide)]; exact R3), (by rw [q_up_rw (by decide), q_up_rw (by decide), q_up_rw (by decide), q_up_rw (by decide), q_up_rw (by decide), q_up_rw (by decide), q_cpy_rw (by decide)]; exact R4), (by rw [q_up_rw (by decide), q_up_rw (by decide), q_up_rw (by decide), q_up_rw (by decide), q_up_rw (by decide), q_up_rw (by decide), q_cpy_rw (by decide)]; exact R5), (by rw [q_up_rw (by decide), q_up_rw (by decide), q_up_rw (by decide), q_up_rw (by decide), q_up_rw (by decide), q_up_rw (by decide), q_cpy_rw (by decide)]; exact R6)⟩, (by rw [q_up_rw (by decide), q_up_rw (by decide), q_up_rw (by decide), q_up_rw (by decide), q_up_rw (by decide), q_up_rw (by decide)]; exact cpy_ag (E := m3) (by skip; exact e21) (by rw [e4]))⟩)

def kIw146 : Nat → Nat → Bool := fun i _ => decide (146 ≤ i ∧ i ≤ 166)

def kIcw146 : Nat → Nat → Bool := fun i _ => decide (147 ≤ i ∧ i ≤ 156)

def kIlw146 : Nat → Nat → Bool := fun i _ => decide (157 ≤ i ∧ i ≤ 159)

def kIxw146 : Nat → Nat → Bool := fun i _ => decide (160 ≤ i ∧ i ≤ 165)

theorem kIcw146x : ∀ i j, kN kIw146 i j = true → kN kIcw146 i j = true := by
  intro i j h
  refine kN_t.mpr fun z => kN_t.mp h ?_
  unfold kIcw146 at z
  unfold kIw146
  rw [decide_eq_true_eq] at z ⊢
  omega

theorem kIlw146x : ∀ i j, kN kIw146 i j = true → kN kIlw146 i j = true := by
  intro i j h
  refine kN_t.mpr fun z => kN_t.mp h ?_
  unfold kIlw146 at z
  unfold kIw146
  rw [decide_eq_true_eq] at z ⊢
  omega

theorem kIxw146x : ∀ i j, kN kIw146 i j = true → kN kIxw146 i j = true := by
  intro i j h
  refine kN_t.mpr fun z => kN_t.mp h ?_
  unfold kIxw146 at z
  unfold kIw146
  rw [decide_eq_true_eq] at z ⊢
  omega

set_option maxRecDepth 100000 in
theorem c_ccw146 (o : Option Nat × Option Nat × Option Nat) (t : List qS) (m y : qM) (h0 : 0 ≤ m 2 0 ∧ m 2 0 ≤ 60) (h2 : 0 ≤ m 2 2 ∧ m 2 2 ≤ 150) : qCt YX1_copyFrom 2 0 0 [qR 147, qR 2] (qLy (o, im125 ++ (im146 ++ t)), m, y) (fun r h => r = none ∧ ∃ m', h = (qLy (o, im125 ++ (im146 ++ t)), m', y) ∧ keep (kN kIcw146) m' = keep (kN kIcw146) m ∧ m' 147 0 = m 2 0 ∧ m' 147 1 = m 2 1 ∧ m' 147 2 = m 2 2 ∧ agN (m 2 0 * 5) (m 3) (m' 148) ∧ agN (m 2 0) (m 4) (m' 149) ∧ agN (m 2 0) (m 5) (m' 150) ∧ agN (m 2 0) (m 6) (m' 151) ∧ agN (m 2 0) (m 7) (m' 152) ∧ agN (m 2 0) (m 8) (m' 153) ∧ agN (m 2 2) (m 9) (m' 154) ∧ agN (m 2 2) (m 10) (m' 155) ∧ agN (m 2 2) (m 11) (m' 156)) := by
  refine qCt.intro okX1_copyFrom (Nat.le_of_ble_eq_true rfl) (fun κ hκ => ?_)
  show qJ YX1_copyFrom κ _ (qLy (o, im125 ++ (im146 ++ t)), m, y) 0 0 0 [some (qR 147), some (qR 2)] []
  refine qJ.run hκ 3 (pc' := 5) (ls' := [some (qR 147), some (qR 2)]) (st' := [qI (m 2 0), qR 147]) rfl ?_
  refine qJ.putI hκ rfl rfl rfl rfl (Or.inl rfl) ?_
  show qJ YX1_copyFrom κ _ (qLy (o, im125 ++ (im146 ++ t)), (q_up m 147 0 (m 2 0)), y) 0 0 8 [some (qR 147), some (qR 2)] []
  refine qJ.run hκ 3 (pc' := 13) (ls' := [some (qR 147), some (qR 2)]) (st' := [qI (m 2 1), qR 147]) rfl ?_
  refine qJ.putI hκ rfl rfl rfl rfl (Or.inl rfl) ?_
  show qJ YX1_copyFrom κ _ (qLy (o, im125 ++ (im146 ++ t)), (q_up (q_up m 147 0 (m 2 0)) 147 1 (m 2 1)), y) 0 0 16 [some (qR 147), some (qR 2)] []
  refine qJ.run hκ 3 (pc' := 21) (ls' := [some (qR 147), some (qR 2)]) (st' := [qI (m 2 2), qR 147]) rfl ?_
  refine qJ.putI hκ rfl rfl rfl rfl (Or.inl rfl) ?_
  show qJ YX1_copyFrom κ _ (qLy (o, im125 ++ (im146 ++ t)), (q_up (q_up (q_up m 147 0 (m 2 0)) 147 1 (m 2 1)) 147 2 (m 2 2)), y) 0 0 24 [some (qR 147), some (qR 2)] []
  refine qJ.run hκ 10 (pc' := 40) (ls' := [some (qR 147), some (qR 2)]) (st' := [qI ((m 2 0) * 5), qI 0, qR 148, qI 0, qR 3]) rfl ?_
  refine qJ.copy hκ rfl kX1_75 (Nat.le_of_ble_eq_true rfl) (Nat.le_of_ble_eq_true rfl) rfl rfl (by decide) (by decide) (by omega) (by omega) (by omega) (by omega) (by omega) (Or.inl rfl) ?_
  show qJ YX1_copyFrom κ _ (qLy (o, im125 ++ (im146 ++ t)), (q_cpy (q_up (q_up (q_up m 147 0 (m 2 0)) 147 1 (m 2 1)) 147 2 (m 2 2)) 3 0 148 0 (((m 2 0) * 5).toNat)), y) 0 0 43 [some (qR 147), some (qR 2)] []
  refine qJ.run hκ 8 (pc' := 57) (ls' := [some (qR 147), some (qR 2)]) (st' := [qI (m 2 0), qI 0, qR 149, qI 0, qR 4]) rfl ?_
  refine qJ.copy hκ rfl kX1_75 (Nat.le_of_ble_eq_true rfl) (Nat.le_of_ble_eq_true rfl) rfl rfl (by decide) (by decide) (by omega) (by omega) (by omega) (by omega) (by omega) (Or.inl rfl) ?_
  show qJ YX1_copyFrom κ _ (qLy (o, im125 ++ (im146 ++ t)), (q_cpy (q_cpy (q_up (q_up (q_up m 147 0 (m 2 0)) 147 1 (m 2 1)) 147 2 (m 2 2)) 3 0 148 0 (((m 2 0) * 5).toNat)) 4 0 149 0 ((m 2 0).toNat)), y) 0 0 60 [some (qR 147), some (qR 2)] []
  refine qJ.run hκ 8 (pc' := 74) (ls' := [some (qR 147), some (qR 2)]) (st' := [qI (m 2 0), qI 0, qR 150, qI 0, qR 5]) rfl ?_
  refine qJ.copy hκ rfl kX1_75 (Nat.le_of_ble_eq_true rfl) (Nat.le_of_ble_eq_true rfl) rfl rfl (by decide) (by decide) (by omega) (by omega) (by omega) (by omega) (by omega) (Or.inl rfl) ?_
  show qJ YX1_copyFrom κ _ (qLy (o, im125 ++ (im146 ++ t)), (q_cpy (q_cpy (q_cpy (q_up (q_up (q_up m 147 0 (m 2 0)) 147 1 (m 2 1)) 147 2 (m 2 2)) 3 0 148 0 (((m 2 0) * 5).toNat)) 4 0 149 0 ((m 2 0).toNat)) 5 0 150 0 ((m 2 0).toNat)), y) 0 0 77 [some (qR 147), some (qR 2)] []
  refine qJ.run hκ 8 (pc' := 91) (ls' := [some (qR 147), some (qR 2)]) (st' := [qI (m 2 0), qI 0, qR 151, qI 0, qR 6]) rfl ?_
  refine qJ.copy hκ rfl kX1_75 (Nat.le_of_ble_eq_true rfl) (Nat.le_of_ble_eq_true rfl) rfl rfl (by decide) (by decide) (by omega) (by omega) (by omega) (by omega) (by omega) (Or.inl rfl) ?_
  show qJ YX1_copyFrom κ _ (qLy (o, im125 ++ (im146 ++ t)), (q_cpy (q_cpy (q_cpy (q_cpy (q_up (q_up (q_up m 147 0 (m 2 0)) 147 1 (m 2 1)) 147 2 (m 2 2)) 3 0 148 0 (((m 2 0) * 5).toNat)) 4 0 149 0 ((m 2 0).toNat)) 5 0 150 0 ((m 2 0).toNat)) 6 0 151 0 ((m 2 0).toNat)), y) 0 0 94 [some (qR 147), some (qR 2)] []
  refine qJ.run hκ 8 (pc' := 108) (ls' := [some (qR 147), some (qR 2)]) (st' := [qI (m 2 0), qI 0, qR 152, qI 0, qR 7]) rfl ?_
  refine qJ.copy hκ rfl kX1_75 (Nat.le_of_ble_eq_true rfl) (Nat.le_of_ble_eq_true rfl) rfl rfl (by decide) (by decide) (by omega) (by omega) (by omega) (by omega) (by omega) (Or.inl rfl) ?_
  show qJ YX1_copyFrom κ _ (qLy (o, im125 ++ (im146 ++ t)), (q_cpy (q_cpy (q_cpy (q_cpy (q_cpy (q_up (q_up (q_up m 147 0 (m 2 0)) 147 1 (m 2 1)) 147 2 (m 2 2)) 3 0 148 0 (((m 2 0) * 5).toNat)) 4 0 149 0 ((m 2 0).toNat)) 5 0 150 0 ((m 2 0).toNat)) 6 0 151 0 ((m 2 0).toNat)) 7 0 152 0 ((m 2 0).toNat)), y) 0 0 111 [some (qR 147), some (qR 2)] []
  refine qJ.run hκ 8 (pc' := 125) (ls' := [some (qR 147), some (qR 2)]) (st' := [qI (m 2 0), qI 0, qR 153, qI 0, qR 8]) rfl ?_
  refine qJ.copy hκ rfl kX1_75 (Nat.le_of_ble_eq_true rfl) (Nat.le_of_ble_eq_true rfl) rfl rfl (by decide) (by decide) (by omega) (by omega) (by omega) (by omega) (by omega) (Or.inl rfl) ?_
  show qJ YX1_copyFrom κ _ (qLy (o, im125 ++ (im146 ++ t)), (q_cpy (q_cpy (q_cpy (q_cpy (q_cpy (q_cpy (q_up (q_up (q_up m 147 0 (m 2 0)) 147 1 (m 2 1)) 147 2 (m 2 2)) 3 0 148 0 (((m 2 0) * 5).toNat)) 4 0 149 0 ((m 2 0).toNat)) 5 0 150 0 ((m 2 0).toNat)) 6 0 151 0 ((m 2 0).toNat)) 7 0 152 0 ((m 2 0).toNat)) 8 0 153 0 ((m 2 0).toNat)), y) 0 0 128 [some (qR 147), some (qR 2)] []
  refine qJ.run hκ 8 (pc' := 142) (ls' := [some (qR 147), some (qR 2)]) (st' := [qI (m 2 2), qI 0, qR 154, qI 0, qR 9]) rfl ?_
  refine qJ.copy hκ rfl kX1_75 (Nat.le_of_ble_eq_true rfl) (Nat.le_of_ble_eq_true rfl) rfl rfl (by decide) (by decide) (by omega) (by omega) (by omega) (by omega) (by omega) (Or.inl rfl) ?_
  show qJ YX1_copyFrom κ _ (qLy (o, im125 ++ (im146 ++ t)), (q_cpy (q_cpy (q_cpy (q_cpy (q_cpy (q_cpy (q_cpy (q_up (q_up (q_up m 147 0 (m 2 0)) 147 1 (m 2 1)) 147 2 (m 2 2)) 3 0 148 0 (((m 2 0) * 5).toNat)) 4 0 149 0 ((m 2 0).toNat)) 5 0 150 0 ((m 2 0).toNat)) 6 0 151 0 ((m 2 0).toNat)) 7 0 152 0 ((m 2 0).toNat)) 8 0 153 0 ((m 2 0).toNat)) 9 0 154 0 ((m 2 2).toNat)), y) 0 0 145 [some (qR 147), some (qR 2)] []
  refine qJ.run hκ 8 (pc' := 159) (ls' := [some (qR 147), some (qR 2)]) (st' := [qI (m 2 2), qI 0, qR 155, qI 0, qR 10]) rfl ?_
  refine qJ.copy hκ rfl kX1_75 (Nat.le_of_ble_eq_true rfl) (Nat.le_of_ble_eq_true rfl) rfl rfl (by decide) (by decide) (by omega) (by omega) (by omega) (by omega) (by omega) (Or.inl rfl) ?_
  show qJ YX1_copyFrom κ _ (qLy (o, im125 ++ (im146 ++ t)), (q_cpy (q_cpy (q_cpy (q_cpy (q_cpy (q_cpy (q_cpy (q_cpy (q_up (q_up (q_up m 147 0 (m 2 0)) 147 1 (m 2 1)) 147 2 (m 2 2)) 3 0 148 0 (((m 2 0) * 5).toNat)) 4 0 149 0 ((m 2 0).toNat)) 5 0 150 0 ((m 2 0).toNat)) 6 0 151 0 ((m 2 0).toNat)) 7 0 152 0 ((m 2 0).toNat)) 8 0 153 0 ((m 2 0).toNat)) 9 0 154 0 ((m 2 2).toNat)) 10 0 155 0 ((m 2 2).toNat)), y) 0 0 162 [some (qR 147), some (qR 2)] []
  refine qJ.run hκ 8 (pc' := 176) (ls' := [some (qR 147), some (qR 2)]) (st' := [qI (m 2 2), qI 0, qR 156, qI 0, qR 11]) rfl ?_
  refine qJ.copy hκ rfl kX1_75 (Nat.le_of_ble_eq_true rfl) (Nat.le_of_ble_eq_true rfl) rfl rfl (by decide) (by decide) (by omega) (by omega) (by omega) (by omega) (by omega) (Or.inl rfl) ?_
  show qJ YX1_copyFrom κ _ (qLy (o, im125 ++ (im146 ++ t)), (q_cpy (q_cpy (q_cpy (q_cpy (q_cpy (q_cpy (q_cpy (q_cpy (q_cpy (q_up (q_up (q_up m 147 0 (m 2 0)) 147 1 (m 2 1)) 147 2 (m 2 2)) 3 0 148 0 (((m 2 0) * 5).toNat)) 4 0 149 0 ((m 2 0).toNat)) 5 0 150 0 ((m 2 0).toNat)) 6 0 151 0 ((m 2 0).toNat)) 7 0 152 0 ((m 2 0).toNat)) 8 0 153 0 ((m 2 0).toNat)) 9 0 154 0 ((m 2 2).toNat)) 10 0 155 0 ((m 2 2).toNat)) 11 0 156 0 ((m 2 2).toNat)), y) 0 0 179 [some (qR 147), some (qR 2)] []
  exact qJ.vret hκ rfl rfl (by decide) (by decide) (⟨rfl, (q_cpy (q_cpy (q_cpy (q_cpy (q_cpy (q_cpy (q_cpy (q_cpy (q_cpy (q_up (q_up (q_up m 147 0 (m 2 0)) 147 1 (m 2 1)) 147 2 (m 2 2)) 3 0 148 0 (((m 2 0) * 5).toNat)) 4 0 149 0 ((m 2 0).toNat)) 5 0 150 0 ((m 2 0).toNat)) 6 0 151 0 ((m 2 0).toNat)) 7 0 152 0 ((m 2 0).toNat)) 8 0 153 0 ((m 2 0).toNat)) 9 0 154 0 ((m 2 2).toNat)) 10 0 155 0 ((m 2 2).toNat)) 11 0 156 0 ((m 2 2).toNat)), rfl, (Eq.trans (keep_cp (by intro j; rfl)) (Eq.trans (keep_cp (by intro j; rfl)) (Eq.trans (keep_cp (by intro j; rfl)) (Eq.trans (keep_cp (by intro j; rfl)) (Eq.trans (keep_cp (by intro j; rfl)) (Eq.trans (keep_cp (by intro j; rfl)) (Eq.trans (keep_cp (by intro j; rfl)) (Eq.trans (keep_cp (by intro j; rfl)) (Eq.trans (keep_cp (by intro j; rfl)) (Eq.trans (keep_up (by rfl)) (Eq.trans (keep_up (by rfl)) (Eq.trans (keep_up (by rfl)) rfl)))))))))))), (by rw [q_cpy_rw (by decide), q_cpy_rw (by decide), q_cpy_rw (by decide), q_cpy_rw (by decide), q_cpy_rw (by decide), q_cpy_rw (by decide), q_cpy_rw (by decide), q_cpy_rw (by decide), q_cpy_rw (by decide)]; rfl), (by rw [q_cpy_rw (by decide), q_cpy_rw (by decide), q_cpy_rw (by decide), q_cpy_rw (by decide), q_cpy_rw (by decide), q_cpy_rw (by decide), q_cpy_rw (by decide), q_cpy_rw (by decide), q_cpy_rw (by decide)]; rfl), (by rw [q_cpy_rw (by decide), q_cpy_rw (by decide), q_cpy_rw (by decide), q_cpy_rw (by decide), q_cpy_rw (by decide), q_cpy_rw (by decide), q_cpy_rw (by decide), q_cpy_rw (by decide), q_cpy_rw (by decide)]; rfl), (by rw [q_cpy_rw (by decide), q_cpy_rw (by decide), q_cpy_rw (by decide), q_cpy_rw (by decide), q_cpy_rw (by decide), q_cpy_rw (by decide), q_cpy_rw (by decide), q_cpy_rw (by decide)]; exact cpy_ag (by rw [q_up_rw (by decide), q_up_rw (by decide), q_up_rw (by decide)]) (rfl)), (by rw [q_cpy_rw (by decide), q_cpy_rw (by decide), q_cpy_rw (by decide), q_cpy_rw (by decide), q_cpy_rw (by decide), q_cpy_rw (by decide), q_cpy_rw (by decide)]; exact cpy_ag (by rw [q_cpy_rw (by decide), q_up_rw (by decide), q_up_rw (by decide), q_up_rw (by decide)]) (rfl)), (by rw [q_cpy_rw (by decide), q_cpy_rw (by decide), q_cpy_rw (by decide), q_cpy_rw (by decide), q_cpy_rw (by decide), q_cpy_rw (by decide)]; exact cpy_ag (by rw [q_cpy_rw (by decide), q_cpy_rw (by decide), q_up_rw (by decide), q_up_rw (by decide), q_up_rw (by decide)]) (rfl)), (by rw [q_cpy_rw (by decide), q_cpy_rw (by decide), q_cpy_rw (by decide), q_cpy_rw (by decide), q_cpy_rw (by decide)]; exact cpy_ag (by rw [q_cpy_rw (by decide), q_cpy_rw (by decide), q_cpy_rw (by decide), q_up_rw (by decide), q_up_rw (by decide), q_up_rw (by decide)]) (rfl)), (by rw [q_cpy_rw (by decide), q_cpy_rw (by decide), q_cpy_rw (by decide), q_cpy_rw (by decide)]; exact cpy_ag (by rw [q_cpy_rw (by decide), q_cpy_rw (by decide), q_cpy_rw (by decide), q_cpy_rw (by decide), q_up_rw (by decide), q_up_rw (by decide), q_up_rw (by decide)]) (rfl)), (by rw [q_cpy_rw (by decide), q_cpy_rw (by decide), q_cpy_rw (by decide)]; exact cpy_ag (by rw [q_cpy_rw (by decide), q_cpy_rw (by decide), q_cpy_rw (by decide), q_cpy_rw (by decide), q_cpy_rw (by decide), q_up_rw (by decide), q_up_rw (by decide), q_up_rw (by decide)]) (rfl)), (by rw [q_cpy_rw (by decide), q_cpy_rw (by decide)]; exact cpy_ag (by rw [q_cpy_rw (by decide), q_cpy_rw (by decide), q_cpy_rw (by decide), q_cpy_rw (by decide), q_cpy_rw (by decide), q_cpy_rw (by decide), q_up_rw (by decide), q_up_rw (by decide), q_up_rw (by decide)]) (rfl)), (by rw [q_cpy_rw (by decide)]; exact cpy_ag (by rw [q_cpy_rw (by decide), q_cpy_rw (by decide), q_cpy_rw (by decide), q_cpy_rw (by decide), q_cpy_rw (by decide), q_cpy_rw (by decide), q_cpy_rw (by decide), q_up_rw (by decide), q_up_rw (by decide), q_up_rw (by decide)]) (rfl)), (by skip; exact cpy_ag (by rw [q_cpy_rw (by decide), q_cpy_rw (by decide), q_cpy_rw (by decide), q_cpy_rw (by decide), q_cpy_rw (by decide), q_cpy_rw (by decide), q_cpy_rw (by decide), q_cpy_rw (by decide), q_up_rw (by decide), q_up_rw (by decide), q_up_rw (by decide)]) (rfl))⟩)

set_option maxRecDepth 100000 in
theorem c_clw146 (o : Option Nat × Option Nat × Option Nat) (t : List qS) (m y : qM) (h0 : 0 ≤ m 12 1 ∧ m 12 1 ≤ 512) : qCt YX3_copyFrom 2 0 0 [qR 157, qR 12] (qLy (o, im125 ++ (im146 ++ t)), m, y) (fun r h => r = none ∧ ∃ m', h = (qLy (o, im125 ++ (im146 ++ t)), m', y) ∧ keep (kN kIlw146) m' = keep (kN kIlw146) m ∧ m' 157 0 = m 12 0 ∧ m' 157 1 = m 12 1 ∧ agN (m 12 1) (m 13) (m' 158) ∧ agN 10 (m 14) (m' 159)) := by
  refine qCt.intro okX3_copyFrom (Nat.le_of_ble_eq_true rfl) (fun κ hκ => ?_)
  show qJ YX3_copyFrom κ _ (qLy (o, im125 ++ (im146 ++ t)), m, y) 0 0 0 [some (qR 157), some (qR 12)] []
  refine qJ.run hκ 3 (pc' := 5) (ls' := [some (qR 157), some (qR 12)]) (st' := [qI (m 12 0), qR 157]) rfl ?_
  refine qJ.putI hκ rfl rfl rfl rfl (Or.inl rfl) ?_
  show qJ YX3_copyFrom κ _ (qLy (o, im125 ++ (im146 ++ t)), (q_up m 157 0 (m 12 0)), y) 0 0 8 [some (qR 157), some (qR 12)] []
  refine qJ.run hκ 3 (pc' := 13) (ls' := [some (qR 157), some (qR 12)]) (st' := [qI (m 12 1), qR 157]) rfl ?_
  refine qJ.putI hκ rfl rfl rfl rfl (Or.inl rfl) ?_
  show qJ YX3_copyFrom κ _ (qLy (o, im125 ++ (im146 ++ t)), (q_up (q_up m 157 0 (m 12 0)) 157 1 (m 12 1)), y) 0 0 16 [some (qR 157), some (qR 12)] []
  refine qJ.run hκ 8 (pc' := 30) (ls' := [some (qR 157), some (qR 12)]) (st' := [qI (m 12 1), qI 0, qR 158, qI 0, qR 13]) rfl ?_
  refine qJ.copy hκ rfl kX3_25 (Nat.le_of_ble_eq_true rfl) (Nat.le_of_ble_eq_true rfl) rfl rfl (by decide) (by decide) (by omega) (by omega) (by omega) (by omega) (by omega) (Or.inl rfl) ?_
  show qJ YX3_copyFrom κ _ (qLy (o, im125 ++ (im146 ++ t)), (q_cpy (q_up (q_up m 157 0 (m 12 0)) 157 1 (m 12 1)) 13 0 158 0 ((m 12 1).toNat)), y) 0 0 33 [some (qR 157), some (qR 12)] []
  refine qJ.run hκ 7 (pc' := 45) (ls' := [some (qR 157), some (qR 12)]) (st' := [qI 10, qI 0, qR 159, qI 0, qR 14]) rfl ?_
  refine qJ.copy hκ rfl kX3_25 (Nat.le_of_ble_eq_true rfl) (Nat.le_of_ble_eq_true rfl) rfl rfl (by decide) (by decide) (by omega) (by omega) (by omega) (by omega) (by omega) (Or.inl rfl) ?_
  show qJ YX3_copyFrom κ _ (qLy (o, im125 ++ (im146 ++ t)), (q_cpy (q_cpy (q_up (q_up m 157 0 (m 12 0)) 157 1 (m 12 1)) 13 0 158 0 ((m 12 1).toNat)) 14 0 159 0 10), y) 0 0 48 [some (qR 157), some (qR 12)] []
  exact qJ.vret hκ rfl rfl (by decide) (by decide) (⟨rfl, (q_cpy (q_cpy (q_up (q_up m 157 0 (m 12 0)) 157 1 (m 12 1)) 13 0 158 0 ((m 12 1).toNat)) 14 0 159 0 10), rfl, (Eq.trans (keep_cp (by intro j; rfl)) (Eq.trans (keep_cp (by intro j; rfl)) (Eq.trans (keep_up (by rfl)) (Eq.trans (keep_up (by rfl)) rfl)))), (by rw [q_cpy_rw (by decide), q_cpy_rw (by decide)]; rfl), (by rw [q_cpy_rw (by decide), q_cpy_rw (by decide)]; rfl), (by rw [q_cpy_rw (by decide)]; exact cpy_ag (by rw [q_up_rw (by decide), q_up_rw (by decide)]) (rfl)), (by skip; exact cpy_ag (by rw [q_cpy_rw (by decide), q_up_rw (by decide), q_up_rw (by decide)]) (rfl))⟩)

def kJw146 : Nat → Nat → Bool := fun i j => decide ((i = 160 ∧ j = 4) ∨ i = 164 ∨ i = 165)

set_option maxRecDepth 100000 in
theorem c_csw146 (o : Option Nat × Option Nat × Option Nat) (t : List qS) (m y : qM) (k : Int)  : qCt YX4_setLines 2 0 0 [qR 160, qI k, qR 19, qR 20] (qLy (o, im125 ++ (im146 ++ t)), m, y) (fun r h => r = none ∧ ∃ m', h = (qLy (o, im125 ++ (im146 ++ t)), m', y) ∧ keep (kN kJw146) m' = keep (kN kJw146) m ∧ agN 18 (m 19) (m' 164) ∧ agN 18 (m 20) (m' 165) ∧ m' 160 4 = k) := by
  refine qCt.intro okX4_setLines (Nat.le_of_ble_eq_true rfl) (fun κ hκ => ?_)
  show qJ YX4_setLines κ _ (qLy (o, im125 ++ (im146 ++ t)), m, y) 0 0 0 [some (qR 160), some (qI k), some (qR 19), some (qR 20)] []
  refine qJ.run hκ 2 (pc' := 2) (ls' := [some (qR 160), some (qI k), some (qR 19), some (qR 20)]) (st' := [qI k, qR 160]) rfl ?_
  refine qJ.putI hκ rfl rfl rfl rfl (Or.inl rfl) ?_
  show qJ YX4_setLines κ _ (qLy (o, im125 ++ (im146 ++ t)), (q_up m 160 4 k), y) 0 0 5 [some (qR 160), some (qI k), some (qR 19), some (qR 20)] []
  refine qJ.run hκ 8 (pc' := 17) (ls' := [some (qR 160), some (qI k), some (qR 19), some (qR 20)]) (st' := [qI 18, qI 0, qR 164, qI 0, qR 19]) rfl ?_
  refine qJ.copy hκ rfl kX4_48 (Nat.le_of_ble_eq_true rfl) (Nat.le_of_ble_eq_true rfl) rfl rfl (by decide) (by decide) (by omega) (by omega) (by omega) (by omega) (by omega) (Or.inl rfl) ?_
  show qJ YX4_setLines κ _ (qLy (o, im125 ++ (im146 ++ t)), (q_cpy (q_up m 160 4 k) 19 0 164 0 18), y) 0 0 20 [some (qR 160), some (qI k), some (qR 19), some (qR 20)] []
  refine qJ.run hκ 8 (pc' := 32) (ls' := [some (qR 160), some (qI k), some (qR 19), some (qR 20)]) (st' := [qI 18, qI 0, qR 165, qI 0, qR 20]) rfl ?_
  refine qJ.copy hκ rfl kX4_48 (Nat.le_of_ble_eq_true rfl) (Nat.le_of_ble_eq_true rfl) rfl rfl (by decide) (by decide) (by omega) (by omega) (by omega) (by omega) (by omega) (Or.inl rfl) ?_
  show qJ YX4_setLines κ _ (qLy (o, im125 ++ (im146 ++ t)), (q_cpy (q_cpy (q_up m 160 4 k) 19 0 164 0 18) 20 0 165 0 18), y) 0 0 35 [some (qR 160), some (qI k), some (qR 19), some (qR 20)] []
  exact qJ.vret hκ rfl rfl (by decide) (by decide) (⟨rfl, (q_cpy (q_cpy (q_up m 160 4 k) 19 0 164 0 18) 20 0 165 0 18), rfl, (Eq.trans (keep_cp (by intro j; rfl)) (Eq.trans (keep_cp (by intro j; rfl)) (Eq.trans (keep_up (by rfl)) rfl))), (by rw [q_cpy_rw (by decide)]; exact cpy_ag (by rw [q_up_rw (by decide)]) (rfl)), (by skip; exact cpy_ag (by rw [q_cpy_rw (by decide), q_up_rw (by decide)]) (rfl)), (by rw [q_cpy_rw (by decide), q_cpy_rw (by decide)]; rfl)⟩)

theorem kJw146x : ∀ i j, kN kIxw146 i j = true → kN kJw146 i j = true := by
  intro i j h
  refine kN_t.mpr fun z => kN_t.mp h ?_
  unfold kJw146 at z
  unfold kIxw146
  rw [decide_eq_true_eq] at z ⊢
  omega

set_option maxRecDepth 100000 in
theorem c_cxw146 (o : Option Nat × Option Nat × Option Nat) (t : List qS) (m y : qM) (h0 : 0 ≤ m 15 0 ∧ m 15 0 ≤ 5) : qCt YX4_copyFrom 3 0 0 [qR 160, qR 15] (qLy (o, im125 ++ (im146 ++ t)), m, y) (fun r h => r = none ∧ ∃ m', h = (qLy (o, im125 ++ (im146 ++ t)), m', y) ∧ keep (kN kIxw146) m' = keep (kN kIxw146) m ∧ m' 160 0 = m 15 0 ∧ m' 160 4 = m 15 4 ∧ agN (m 15 0 * 10) (m 16) (m' 161) ∧ agN (m 15 0) (m 17) (m' 162) ∧ agN (m 15 0) (m 18) (m' 163) ∧ agN 18 (m 19) (m' 164) ∧ agN 18 (m 20) (m' 165)) := by
  refine qCt.intro okX4_copyFrom (Nat.le_of_ble_eq_true rfl) (fun κ hκ => ?_)
  show qJ YX4_copyFrom κ _ (qLy (o, im125 ++ (im146 ++ t)), m, y) 0 0 0 [some (qR 160), some (qR 15)] []
  refine qJ.run hκ 3 (pc' := 5) (ls' := [some (qR 160), some (qR 15)]) (st' := [qI (m 15 0), qR 160]) rfl ?_
  refine qJ.putI hκ rfl rfl rfl rfl (Or.inl rfl) ?_
  show qJ YX4_copyFrom κ _ (qLy (o, im125 ++ (im146 ++ t)), (q_up m 160 0 (m 15 0)), y) 0 0 8 [some (qR 160), some (qR 15)] []
  refine qJ.run hκ 10 (pc' := 25) (ls' := [some (qR 160), some (qR 15)]) (st' := [qI ((m 15 0) * 10), qI 0, qR 161, qI 0, qR 16]) rfl ?_
  refine qJ.copy hκ rfl kX4_48 (Nat.le_of_ble_eq_true rfl) (Nat.le_of_ble_eq_true rfl) rfl rfl (by decide) (by decide) (by omega) (by omega) (by omega) (by omega) (by omega) (Or.inl rfl) ?_
  show qJ YX4_copyFrom κ _ (qLy (o, im125 ++ (im146 ++ t)), (q_cpy (q_up m 160 0 (m 15 0)) 16 0 161 0 (((m 15 0) * 10).toNat)), y) 0 0 28 [some (qR 160), some (qR 15)] []
  refine qJ.run hκ 8 (pc' := 42) (ls' := [some (qR 160), some (qR 15)]) (st' := [qI (m 15 0), qI 0, qR 162, qI 0, qR 17]) rfl ?_
  refine qJ.copy hκ rfl kX4_48 (Nat.le_of_ble_eq_true rfl) (Nat.le_of_ble_eq_true rfl) rfl rfl (by decide) (by decide) (by omega) (by omega) (by omega) (by omega) (by omega) (Or.inl rfl) ?_
  show qJ YX4_copyFrom κ _ (qLy (o, im125 ++ (im146 ++ t)), (q_cpy (q_cpy (q_up m 160 0 (m 15 0)) 16 0 161 0 (((m 15 0) * 10).toNat)) 17 0 162 0 ((m 15 0).toNat)), y) 0 0 45 [some (qR 160), some (qR 15)] []
  refine qJ.run hκ 8 (pc' := 59) (ls' := [some (qR 160), some (qR 15)]) (st' := [qI (m 15 0), qI 0, qR 163, qI 0, qR 18]) rfl ?_
  refine qJ.copy hκ rfl kX4_48 (Nat.le_of_ble_eq_true rfl) (Nat.le_of_ble_eq_true rfl) rfl rfl (by decide) (by decide) (by omega) (by omega) (by omega) (by omega) (by omega) (Or.inl rfl) ?_
  show qJ YX4_copyFrom κ _ (qLy (o, im125 ++ (im146 ++ t)), (q_cpy (q_cpy (q_cpy (q_up m 160 0 (m 15 0)) 16 0 161 0 (((m 15 0) * 10).toNat)) 17 0 162 0 ((m 15 0).toNat)) 18 0 163 0 ((m 15 0).toNat)), y) 0 0 62 [some (qR 160), some (qR 15)] []
  refine qJ.run hκ 7 (pc' := 75) (ls' := [some (qR 160), some (qR 15)]) (st' := [qR 20, qR 19, qI (m 15 4), qR 160]) rfl ?_
  refine qJ.callV (As := [qI (m 15 4), qR 19, qR 20]) (rest := []) hκ rfl kX4_54 (c_csw146 o t (q_cpy (q_cpy (q_cpy (q_up m 160 0 (m 15 0)) 16 0 161 0 (((m 15 0) * 10).toNat)) 17 0 162 0 ((m 15 0).toNat)) 18 0 163 0 ((m 15 0).toNat)) y (m 15 4)) rfl rfl (by decide) rfl rfl (Nat.le_of_ble_eq_true rfl) (Nat.le_of_ble_eq_true rfl) (Nat.le_of_ble_eq_true rfl) (Or.inl (fun r h' e => by obtain ⟨rfl, m4, rfl, K4, A19, A20, A15⟩ := e; rfl)) (fun r h' e => ?_)
  obtain ⟨rfl, m4, rfl, K4, A19, A20, A15⟩ := e
  show qJ YX4_copyFrom κ _ (qLy (o, im125 ++ (im146 ++ t)), m4, y) 0 0 78 [some (qR 160), some (qR 15)] []
  exact qJ.vret hκ rfl rfl (by decide) (by decide) (⟨rfl, m4, rfl, (keep_of kJw146x K4).trans (Eq.trans (keep_cp (by intro j; rfl)) (Eq.trans (keep_cp (by intro j; rfl)) (Eq.trans (keep_cp (by intro j; rfl)) (Eq.trans (keep_up (by rfl)) rfl)))), (show m4 160 0 = (q_cpy (q_cpy (q_cpy (q_up m 160 0 (m 15 0)) 16 0 161 0 (((m 15 0) * 10).toNat)) 17 0 162 0 ((m 15 0).toNat)) 18 0 163 0 ((m 15 0).toNat)) 160 0 from congrFun (congrFun K4 160) 0).trans (by rw [q_cpy_rw (by decide), q_cpy_rw (by decide), q_cpy_rw (by decide)]; rfl), A15.trans (show (q_cpy (q_cpy (q_cpy (q_up m 160 0 (m 15 0)) 16 0 161 0 (((m 15 0) * 10).toNat)) 17 0 162 0 ((m 15 0).toNat)) 18 0 163 0 ((m 15 0).toNat)) 15 4 = m 15 4 from by rw [q_cpy_rw (by decide), q_cpy_rw (by decide), q_cpy_rw (by decide), q_up_rw (by decide)]), (by rw [show m4 161 = (q_cpy (q_cpy (q_cpy (q_up m 160 0 (m 15 0)) 16 0 161 0 (((m 15 0) * 10).toNat)) 17 0 162 0 ((m 15 0).toNat)) 18 0 163 0 ((m 15 0).toNat)) 161 from congrFun K4 161]; exact (by rw [q_cpy_rw (by decide), q_cpy_rw (by decide)]; exact cpy_ag (by rw [q_up_rw (by decide)]) (rfl))), (by rw [show m4 162 = (q_cpy (q_cpy (q_cpy (q_up m 160 0 (m 15 0)) 16 0 161 0 (((m 15 0) * 10).toNat)) 17 0 162 0 ((m 15 0).toNat)) 18 0 163 0 ((m 15 0).toNat)) 162 from congrFun K4 162]; exact (by rw [q_cpy_rw (by decide)]; exact cpy_ag (by rw [q_cpy_rw (by decide), q_up_rw (by decide)]) (rfl))), (by rw [show m4 163 = (q_cpy (q_cpy (q_cpy (q_up m 160 0 (m 15 0)) 16 0 161 0 (((m 15 0) * 10).toNat)) 17 0 162 0 ((m 15 0).toNat)) 18 0 163 0 ((m 15 0).toNat)) 163 from congrFun K4 163]; exact (by skip; exact cpy_ag (by rw [q_cpy_rw (by decide), q_cpy_rw (by decide), q_up_rw (by decide)]) (rfl))), (by have A := A19; rw [show (q_cpy (q_cpy (q_cpy (q_up m 160 0 (m 15 0)) 16 0 161 0 (((m 15 0) * 10).toNat)) 17 0 162 0 ((m 15 0).toNat)) 18 0 163 0 ((m 15 0).toNat)) 19 = m 19 from by rw [q_cpy_rw (by decide), q_cpy_rw (by decide), q_cpy_rw (by decide), q_up_rw (by decide)]] at A; exact A), (by have A := A20; rw [show (q_cpy (q_cpy (q_cpy (q_up m 160 0 (m 15 0)) 16 0 161 0 (((m 15 0) * 10).toNat)) 17 0 162 0 ((m 15 0).toNat)) 18 0 163 0 ((m 15 0).toNat)) 20 = m 20 from by rw [q_cpy_rw (by decide), q_cpy_rw (by decide), q_cpy_rw (by decide), q_up_rw (by decide)]] at A; exact A)⟩)

set_option maxRecDepth 100000 in
theorem c_ctw146 (o : Option Nat × Option Nat × Option Nat) (t : List qS) (m y : qM) (h0 : 0 ≤ m 2 0 ∧ m 2 0 ≤ 60) (h2 : 0 ≤ m 2 2 ∧ m 2 2 ≤ 150) (h12 : 0 ≤ m 12 1 ∧ m 12 1 ≤ 512) (h15 : 0 ≤ m 15 0 ∧ m 15 0 ≤ 5) (h4 : 0 ≤ m 1 4 ∧ m 1 4 ≤ 400) (hb : ∀ j : Nat, (j : Int) < m 1 4 → -128 ≤ m 21 j ∧ m 21 j ≤ 127) : qCt YX9_copyFrom 4 0 0 [qR 146, qR 1] (qLy (o, im125 ++ (im146 ++ t)), m, y) (fun r h => r = none ∧ ∃ m', h = (qLy (o, im125 ++ (im146 ++ t)), m', y) ∧ keep (kN kIw146) m' = keep (kN kIw146) m ∧ (m' 146 4 = m 1 4 ∧ m' 146 5 = m 1 5 ∧ m' 146 6 = m 1 6 ∧ m' 146 7 = m 1 7 ∧ m' 146 8 = m 1 8 ∧ m' 146 9 = m 1 9) ∧ (m' 147 0 = m 2 0 ∧ m' 147 1 = m 2 1 ∧ m' 147 2 = m 2 2) ∧ (agN (m 2 0 * 5) (m 3) (m' 148) ∧ agN (m 2 0) (m 4) (m' 149) ∧ agN (m 2 0) (m 5) (m' 150) ∧ agN (m 2 0) (m 6) (m' 151) ∧ agN (m 2 0) (m 7) (m' 152) ∧ agN (m 2 0) (m 8) (m' 153)) ∧ (agN (m 2 2) (m 9) (m' 154) ∧ agN (m 2 2) (m 10) (m' 155) ∧ agN (m 2 2) (m 11) (m' 156)) ∧ (m' 157 0 = m 12 0 ∧ m' 157 1 = m 12 1 ∧ agN (m 12 1) (m 13) (m' 158) ∧ agN 10 (m 14) (m' 159)) ∧ (m' 160 0 = m 15 0 ∧ m' 160 4 = m 15 4 ∧ agN (m 15 0 * 10) (m 16) (m' 161) ∧ agN (m 15 0) (m 17) (m' 162) ∧ agN (m 15 0) (m 18) (m' 163) ∧ agN 18 (m 19) (m' 164) ∧ agN 18 (m 20) (m' 165)) ∧ agN (m 1 4) (m 21) (m' 166)) := by
  refine qCt.intro okX9_copyFrom (Nat.le_of_ble_eq_true rfl) (fun κ hκ => ?_)
  show qJ YX9_copyFrom κ _ (qLy (o, im125 ++ (im146 ++ t)), m, y) 0 0 0 [some (qR 146), some (qR 1)] []
  refine qJ.run hκ 4 (pc' := 8) (ls' := [some (qR 146), some (qR 1)]) (st' := [qR 2, qR 147]) rfl ?_
  refine qJ.callV (As := [qR 2]) (rest := []) hκ rfl kX9_63 (c_ccw146 o t m y h0 h2) rfl rfl (by decide) rfl rfl (Nat.le_of_ble_eq_true rfl) (Nat.le_of_ble_eq_true rfl) (Nat.le_of_ble_eq_true rfl) (Or.inl (fun r h' e => by obtain ⟨rfl, m1, rfl, K1, P0, P1, P2, P3, P4, P5, P6, P7, P8, P9, P10, P11⟩ := e; rfl)) (fun r h' e => ?_)
  obtain ⟨rfl, m1, rfl, K1, P0, P1, P2, P3, P4, P5, P6, P7, P8, P9, P10, P11⟩ := e
  show qJ YX9_copyFrom κ _ (qLy (o, im125 ++ (im146 ++ t)), m1, y) 0 0 11 [some (qR 146), some (qR 1)] []
  refine qJ.run hκ 4 (pc' := 19) (ls' := [some (qR 146), some (qR 1)]) (st' := [qR 12, qR 157]) rfl ?_
  refine qJ.callV (As := [qR 12]) (rest := []) hκ rfl kX9_67 (c_clw146 o t m1 y (by rw [show m1 12 = m 12 from congrFun K1 12]; exact h12)) rfl rfl (by decide) rfl rfl (Nat.le_of_ble_eq_true rfl) (Nat.le_of_ble_eq_true rfl) (Nat.le_of_ble_eq_true rfl) (Or.inl (fun r h' e => by obtain ⟨rfl, m2, rfl, K2, Q0, Q1, Q2, Q3⟩ := e; rfl)) (fun r h' e => ?_)
  obtain ⟨rfl, m2, rfl, K2, Q0, Q1, Q2, Q3⟩ := e
  rw [show m1 12 = m 12 from congrFun K1 12] at Q0 Q1 Q2
  rw [show m1 13 = m 13 from congrFun K1 13] at Q2
  rw [show m1 14 = m 14 from congrFun K1 14] at Q3
  show qJ YX9_copyFrom κ _ (qLy (o, im125 ++ (im146 ++ t)), m2, y) 0 0 22 [some (qR 146), some (qR 1)] []
  refine qJ.run hκ 4 (pc' := 30) (ls' := [some (qR 146), some (qR 1)]) (st' := [qR 15, qR 160]) rfl ?_
  refine qJ.callV (As := [qR 15]) (rest := []) hκ rfl kX9_70 (c_cxw146 o t m2 y (by rw [show m2 15 = m 15 from (congrFun K2 15).trans (congrFun K1 15)]; exact h15)) rfl rfl (by decide) rfl rfl (Nat.le_of_ble_eq_true rfl) (Nat.le_of_ble_eq_true rfl) (Nat.le_of_ble_eq_true rfl) (Or.inl (fun r h' e => by obtain ⟨rfl, m3, rfl, K3, R0, R1, R2, R3, R4, R5, R6⟩ := e; rfl)) (fun r h' e => ?_)
  obtain ⟨rfl, m3, rfl, K3, R0, R1, R2, R3, R4, R5, R6⟩ := e
  rw [show m2 15 = m 15 from (congrFun K2 15).trans (congrFun K1 15)] at R0 R1 R2 R3 R4
  rw [show m2 16 = m 16 from (congrFun K2 16).trans (congrFun K1 16)] at R2
  rw [show m2 17 = m 17 from (congrFun K2 17).trans (congrFun K1 17)] at R3
  rw [show m2 18 = m 18 from (congrFun K2 18).trans (congrFun K1 18)] at R4
  rw [show m2 19 = m 19 from (congrFun K2 19).trans (congrFun K1 19)] at R5
  rw [show m2 20 = m 20 from (congrFun K2 20).trans (congrFun K1 20)] at R6
  have e1 : m3 1 = m 1 := (congrFun K3 1).trans ((congrFun K2 1).trans (congrFun K1 1))
  have e21 : m3 21 = m 21 := (congrFun K3 21).trans ((congrFun K2 21).trans (congrFun K1 21))
  have e4 : m3 1 4 = m 1 4 := by rw [e1]
  show qJ YX9_copyFrom κ _ (qLy (o, im125 ++ (im146 ++ t)), m3, y) 0 0 33 [some (qR 146), some (qR 1)] []
  refine qJ.run hκ 8 (pc' := 47) (ls' := [some (qR 146), some (qR 1)]) (st' := [qI (m3 1 4), qI 0, qR 166, qI 0, qR 21]) rfl ?_
  refine qJ.copy hκ rfl kX9_73 (Nat.le_of_ble_eq_true rfl) (Nat.le_of_ble_eq_true rfl) rfl rfl (by decide) (by decide) (by omega) (by omega) (by omega) (by omega) (by omega) (Or.inr ⟨rfl, fun i hi => by show -128 ≤ m3 21 (0 + i) ∧ m3 21 (0 + i) ≤ 127; rw [Nat.zero_add, e21]; exact hb i (by omega)⟩) ?_
  show qJ YX9_copyFrom κ _ (qLy (o, im125 ++ (im146 ++ t)), (q_cpy m3 21 0 166 0 ((m3 1 4).toNat)), y) 0 0 50 [some (qR 146), some (qR 1)] []
  refine qJ.run hκ 3 (pc' := 55) (ls' := [some (qR 146), some (qR 1)]) (st' := [qI (m3 1 4), qR 146]) rfl ?_
  refine qJ.putI hκ rfl rfl rfl rfl (Or.inl rfl) ?_
  show qJ YX9_copyFrom κ _ (qLy (o, im125 ++ (im146 ++ t)), (q_up (q_cpy m3 21 0 166 0 ((m3 1 4).toNat)) 146 4 (m3 1 4)), y) 0 0 58 [some (qR 146), some (qR 1)] []
  refine qJ.run hκ 3 (pc' := 63) (ls' := [some (qR 146), some (qR 1)]) (st' := [qI (m3 1 5), qR 146]) rfl ?_
  refine qJ.putI hκ rfl rfl rfl rfl (Or.inl rfl) ?_
  show qJ YX9_copyFrom κ _ (qLy (o, im125 ++ (im146 ++ t)), (q_up (q_up (q_cpy m3 21 0 166 0 ((m3 1 4).toNat)) 146 4 (m3 1 4)) 146 5 (m3 1 5)), y) 0 0 66 [some (qR 146), some (qR 1)] []
  refine qJ.run hκ 3 (pc' := 71) (ls' := [some (qR 146), some (qR 1)]) (st' := [qI (m3 1 6), qR 146]) rfl ?_
  refine qJ.putI hκ rfl rfl rfl rfl (Or.inl rfl) ?_
  show qJ YX9_copyFrom κ _ (qLy (o, im125 ++ (im146 ++ t)), (q_up (q_up (q_up (q_cpy m3 21 0 166 0 ((m3 1 4).toNat)) 146 4 (m3 1 4)) 146 5 (m3 1 5)) 146 6 (m3 1 6)), y) 0 0 74 [some (qR 146), some (qR 1)] []
  refine qJ.run hκ 3 (pc' := 79) (ls' := [some (qR 146), some (qR 1)]) (st' := [qI (m3 1 7), qR 146]) rfl ?_
  refine qJ.putI hκ rfl rfl rfl rfl (Or.inl rfl) ?_
  show qJ YX9_copyFrom κ _ (qLy (o, im125 ++ (im146 ++ t)), (q_up (q_up (q_up (q_up (q_cpy m3 21 0 166 0 ((m3 1 4).toNat)) 146 4 (m3 1 4)) 146 5 (m3 1 5)) 146 6 (m3 1 6)) 146 7 (m3 1 7)), y) 0 0 82 [some (qR 146), some (qR 1)] []
  refine qJ.run hκ 3 (pc' := 87) (ls' := [some (qR 146), some (qR 1)]) (st' := [qI (m3 1 8), qR 146]) rfl ?_
  refine qJ.putI hκ rfl rfl rfl rfl (Or.inl rfl) ?_
  show qJ YX9_copyFrom κ _ (qLy (o, im125 ++ (im146 ++ t)), (q_up (q_up (q_up (q_up (q_up (q_cpy m3 21 0 166 0 ((m3 1 4).toNat)) 146 4 (m3 1 4)) 146 5 (m3 1 5)) 146 6 (m3 1 6)) 146 7 (m3 1 7)) 146 8 (m3 1 8)), y) 0 0 90 [some (qR 146), some (qR 1)] []
  refine qJ.run hκ 3 (pc' := 95) (ls' := [some (qR 146), some (qR 1)]) (st' := [qI (m3 1 9), qR 146]) rfl ?_
  refine qJ.putI hκ rfl rfl rfl rfl (Or.inl rfl) ?_
  show qJ YX9_copyFrom κ _ (qLy (o, im125 ++ (im146 ++ t)), (q_up (q_up (q_up (q_up (q_up (q_up (q_cpy m3 21 0 166 0 ((m3 1 4).toNat)) 146 4 (m3 1 4)) 146 5 (m3 1 5)) 146 6 (m3 1 6)) 146 7 (m3 1 7)) 146 8 (m3 1 8)) 146 9 (m3 1 9)), y) 0 0 98 [some (qR 146), some (qR 1)] []
  exact qJ.vret hκ rfl rfl (by decide) (by decide) (⟨rfl, (q_up (q_up (q_up (q_up (q_up (q_up (q_cpy m3 21 0 166 0 ((m3 1 4).toNat)) 146 4 (m3 1 4)) 146 5 (m3 1 5)) 146 6 (m3 1 6)) 146 7 (m3 1 7)) 146 8 (m3 1 8)) 146 9 (m3 1 9)), rfl, (Eq.trans (keep_up (by rfl)) (Eq.trans (keep_up (by rfl)) (Eq.trans (keep_up (by rfl)) (Eq.trans (keep_up (by rfl)) (Eq.trans (keep_up (by rfl)) (Eq.trans (keep_up (by rfl)) (Eq.trans (keep_cp (by intro j; rfl)) ((keep_of kIxw146x K3).trans ((keep_of kIlw146x K2).trans (keep_of kIcw146x K1)))))))))), ⟨(by skip; exact congrFun e1 4), (by skip; exact congrFun e1 5), (by skip; exact congrFun e1 6), (by skip; exact congrFun e1 7), (by skip; exact congrFun e1 8), (by skip; exact congrFun e1 9)⟩, ⟨(by rw [q_up_rw (by decide), q_up_rw (by decide), q_up_rw (by decide), q_up_rw (by decide), q_up_rw (by decide), q_up_rw (by decide), q_cpy_rw (by decide)]; rw [show m3 147 = m1 147 from (congrFun K3 147).trans (congrFun K2 147)]; exact P0), (by rw [q_up_rw (by decide), q_up_rw (by decide), q_up_rw (by decide), q_up_rw (by decide), q_up_rw (by decide), q_up_rw (by decide), q_cpy_rw (by decide)]; rw [show m3 147 = m1 147 from (congrFun K3 147).trans (congrFun K2 147)]; exact P1), (by rw [q_up_rw (by decide), q_up_rw (by decide), q_up_rw (by decide), q_up_rw (by decide), q_up_rw (by decide), q_up_rw (by decide), q_cpy_rw (by decide)]; rw [show m3 147 = m1 147 from (congrFun K3 147).trans (congrFun K2 147)]; exact P2)⟩, ⟨(by rw [q_up_rw (by decide), q_up_rw (by decide), q_up_rw (by decide), q_up_rw (by decide), q_up_rw (by decide), q_up_rw (by decide), q_cpy_rw (by decide)]; rw [show m3 148 = m1 148 from (congrFun K3 148).trans (congrFun K2 148)]; exact P3), (by rw [q_up_rw (by decide), q_up_rw (by decide), q_up_rw (by decide), q_up_rw (by decide), q_up_rw (by decide), q_up_rw (by decide), q_cpy_rw (by decide)]; rw [show m3 149 = m1 149 from (congrFun K3 149).trans (congrFun K2 149)]; exact P4), (by rw [q_up_rw (by decide), q_up_rw (by decide), q_up_rw (by decide), q_up_rw (by decide), q_up_rw (by decide), q_up_rw (by decide), q_cpy_rw (by decide)]; rw [show m3 150 = m1 150 from (congrFun K3 150).trans (congrFun K2 150)]; exact P5), (by rw [q_up_rw (by decide), q_up_rw (by decide), q_up_rw (by decide), q_up_rw (by decide), q_up_rw (by decide), q_up_rw (by decide), q_cpy_rw (by decide)]; rw [show m3 151 = m1 151 from (congrFun K3 151).trans (congrFun K2 151)]; exact P6), (by rw [q_up_rw (by decide), q_up_rw (by decide), q_up_rw (by decide), q_up_rw (by decide), q_up_rw (by decide), q_up_rw (by decide), q_cpy_rw (by decide)]; rw [show m3 152 = m1 152 from (congrFun K3 152).trans (congrFun K2 152)]; exact P7), (by rw [q_up_rw (by decide), q_up_rw (by decide), q_up_rw (by decide), q_up_rw (by decide), q_up_rw (by decide), q_up_rw (by decide), q_cpy_rw (by decide)]; rw [show m3 153 = m1 153 from (congrFun K3 153).trans (congrFun K2 153)]; exact P8)⟩, ⟨(by rw [q_up_rw (by decide), q_up_rw (by decide), q_up_rw (by decide), q_up_rw (by decide), q_up_rw (by decide), q_up_rw (by decide), q_cpy_rw (by decide)]; rw [show m3 154 = m1 154 from (congrFun K3 154).trans (congrFun K2 154)]; exact P9), (by rw [q_up_rw (by decide), q_up_rw (by decide), q_up_rw (by decide), q_up_rw (by decide), q_up_rw (by decide), q_up_rw (by decide), q_cpy_rw (by decide)]; rw [show m3 155 = m1 155 from (congrFun K3 155).trans (congrFun K2 155)]; exact P10), (by rw [q_up_rw (by decide), q_up_rw (by decide), q_up_rw (by decide), q_up_rw (by decide), q_up_rw (by decide), q_up_rw (by decide), q_cpy_rw (by decide)]; rw [show m3 156 = m1 156 from (congrFun K3 156).trans (congrFun K2 156)]; exact P11)⟩, ⟨(by rw [q_up_rw (by decide), q_up_rw (by decide), q_up_rw (by decide), q_up_rw (by decide), q_up_rw (by decide), q_up_rw (by decide), q_cpy_rw (by decide)]; rw [show m3 157 = m2 157 from congrFun K3 157]; exact Q0), (by rw [q_up_rw (by decide), q_up_rw (by decide), q_up_rw (by decide), q_up_rw (by decide), q_up_rw (by decide), q_up_rw (by decide), q_cpy_rw (by decide)]; rw [show m3 157 = m2 157 from congrFun K3 157]; exact Q1), (by rw [q_up_rw (by decide), q_up_rw (by decide), q_up_rw (by decide), q_up_rw (by decide), q_up_rw (by decide), q_up_rw (by decide), q_cpy_rw (by decide)]; rw [show m3 158 = m2 158 from congrFun K3 158]; exact Q2), (by rw [q_up_rw (by decide), q_up_rw (by decide), q_up_rw (by decide), q_up_rw (by decide), q_up_rw (by decide), q_up_rw (by decide), q_cpy_rw (by decide)]; rw [show m3 159 = m2 159 from congrFun K3 159]; exact Q3)⟩, ⟨(by rw [q_up_rw (by decide), q_up_rw (by decide), q_up_rw (by decide), q_up_rw (by decide), q_up_rw (by decide), q_up_rw (by decide), q_cpy_rw (by decide)]; exact R0), (by rw [q_up_rw (by decide), q_up_rw (by decide), q_up_rw (by decide), q_up_rw (by decide), q_up_rw (by decide), q_up_rw (by decide), q_cpy_rw (by decide)]; exact R1), (by rw [q_up_rw (by decide), q_up_rw (by decide), q_up_rw (by decide), q_up_rw (by decide), q_up_rw (by decide), q_up_rw (by decide), q_cpy_rw (by decide)]; exact R2), (by rw [q_up_rw (by decide), q_up_rw (by decide), q_up_rw (by decide), q_up_rw (by decide), q_up_rw (by decide), q_up_rw (by decide), q_cpy_rw (by decide)]; exact R3), (by rw [q_up_rw (by decide), q_up_rw (by decide), q_up_rw (by decide), q_up_rw (by decide), q_up_rw (by decide), q_up_rw (by decide), q_cpy_rw (by decide)]; exact R4), (by rw [q_up_rw (by decide), q_up_rw (by decide), q_up_rw (by decide), q_up_rw (by decide), q_up_rw (by decide), q_up_rw (by decide), q_cpy_rw (by decide)]; exact R5), (by rw [q_up_rw (by decide), q_up_rw (by decide), q_up_rw (by decide), q_up_rw (by decide), q_up_rw (by decide), q_up_rw (by decide), q_cpy_rw (by decide)]; exact R6)⟩, (by rw [q_up_rw (by decide), q_up_rw (by decide), q_up_rw (by decide), q_up_rw (by decide), q_up_rw (by decide), q_up_rw (by decide)]; exact cpy_ag (E := m3) (by skip; exact e21) (by rw [e4]))⟩)

def kIr146 : Nat → Nat → Bool := fun i _ => decide (1 ≤ i ∧ i ≤ 21)

def kIcr146 : Nat → Nat → Bool := fun i _ => decide (2 ≤ i ∧ i ≤ 11)

def kIlr146 : Nat → Nat → Bool := fun i _ => decide (12 ≤ i ∧ i ≤ 14)

def kIxr146 : Nat → Nat → Bool := fun i _ => decide (15 ≤ i ∧ i ≤ 20)

theorem kIcr146x : ∀ i j, kN kIr146 i j = true → kN kIcr146 i j = true := by
  intro i j h
  refine kN_t.mpr fun z => kN_t.mp h ?_
  unfold kIcr146 at z
  unfold kIr146
  rw [decide_eq_true_eq] at z ⊢
  omega

theorem kIlr146x : ∀ i j, kN kIr146 i j = true → kN kIlr146 i j = true := by
  intro i j h
  refine kN_t.mpr fun z => kN_t.mp h ?_
  unfold kIlr146 at z
  unfold kIr146
  rw [decide_eq_true_eq] at z ⊢
  omega

theorem kIxr146x : ∀ i j, kN kIr146 i j = true → kN kIxr146 i j = true := by
  intro i j h
  refine kN_t.mpr fun z => kN_t.mp h ?_
  unfold kIxr146 at z
  unfold kIr146
  rw [decide_eq_true_eq] at z ⊢
  omega

set_option maxRecDepth 100000 in
theorem c_ccr146 (o : Option Nat × Option Nat × Option Nat) (t : List qS) (m y : qM) (h0 : 0 ≤ m 147 0 ∧ m 147 0 ≤ 60) (h2 : 0 ≤ m 147 2 ∧ m 147 2 ≤ 150) : qCt YX1_copyFrom 2 0 0 [qR 2, qR 147] (qLy (o, im125 ++ (im146 ++ t)), m, y) (fun r h => r = none ∧ ∃ m', h = (qLy (o, im125 ++ (im146 ++ t)), m', y) ∧ keep (kN kIcr146) m' = keep (kN kIcr146) m ∧ m' 2 0 = m 147 0 ∧ m' 2 1 = m 147 1 ∧ m' 2 2 = m 147 2 ∧ agN (m 147 0 * 5) (m 148) (m' 3) ∧ agN (m 147 0) (m 149) (m' 4) ∧ agN (m 147 0) (m 150) (m' 5) ∧ agN (m 147 0) (m 151) (m' 6) ∧ agN (m 147 0) (m 152) (m' 7) ∧ agN (m 147 0) (m 153) (m' 8) ∧ agN (m 147 2) (m 154) (m' 9) ∧ agN (m 147 2) (m 155) (m' 10) ∧ agN (m 147 2) (m 156) (m' 11)) := by
  refine qCt.intro okX1_copyFrom (Nat.le_of_ble_eq_true rfl) (fun κ hκ => ?_)
  show qJ YX1_copyFrom κ _ (qLy (o, im125 ++ (im146 ++ t)), m, y) 0 0 0 [some (qR 2), some (qR 147)] []
  refine qJ.run hκ 3 (pc' := 5) (ls' := [some (qR 2), some (qR 147)]) (st' := [qI (m 147 0), qR 2]) rfl ?_
  refine qJ.putI hκ rfl rfl rfl rfl (Or.inl rfl) ?_
  show qJ YX1_copyFrom κ _ (qLy (o, im125 ++ (im146 ++ t)), (q_up m 2 0 (m 147 0)), y) 0 0 8 [some (qR 2), some (qR 147)] []
  refine qJ.run hκ 3 (pc' := 13) (ls' := [some (qR 2), some (qR 147)]) (st' := [qI (m 147 1), qR 2]) rfl ?_
  refine qJ.putI hκ rfl rfl rfl rfl (Or.inl rfl) ?_
  show qJ YX1_copyFrom κ _ (qLy (o, im125 ++ (im146 ++ t)), (q_up (q_up m 2 0 (m 147 0)) 2 1 (m 147 1)), y) 0 0 16 [some (qR 2), some (qR 147)] []
  refine qJ.run hκ 3 (pc' := 21) (ls' := [some (qR 2), some (qR 147)]) (st' := [qI (m 147 2), qR 2]) rfl ?_
  refine qJ.putI hκ rfl rfl rfl rfl (Or.inl rfl) ?_
  show qJ YX1_copyFrom κ _ (qLy (o, im125 ++ (im146 ++ t)), (q_up (q_up (q_up m 2 0 (m 147 0)) 2 1 (m 147 1)) 2 2 (m 147 2)), y) 0 0 24 [some (qR 2), some (qR 147)] []
  refine qJ.run hκ 10 (pc' := 40) (ls' := [some (qR 2), some (qR 147)]) (st' := [qI ((m 147 0) * 5), qI 0, qR 3, qI 0, qR 148]) rfl ?_
  refine qJ.copy hκ rfl kX1_75 (Nat.le_of_ble_eq_true rfl) (Nat.le_of_ble_eq_true rfl) rfl rfl (by decide) (by decide) (by omega) (by omega) (by omega) (by omega) (by omega) (Or.inl rfl) ?_
  show qJ YX1_copyFrom κ _ (qLy (o, im125 ++ (im146 ++ t)), (q_cpy (q_up (q_up (q_up m 2 0 (m 147 0)) 2 1 (m 147 1)) 2 2 (m 147 2)) 148 0 3 0 (((m 147 0) * 5).toNat)), y) 0 0 43 [some (qR 2), some (qR 147)] []
  refine qJ.run hκ 8 (pc' := 57) (ls' := [some (qR 2), some (qR 147)]) (st' := [qI (m 147 0), qI 0, qR 4, qI 0, qR 149]) rfl ?_
  refine qJ.copy hκ rfl kX1_75 (Nat.le_of_ble_eq_true rfl) (Nat.le_of_ble_eq_true rfl) rfl rfl (by decide) (by decide) (by omega) (by omega) (by omega) (by omega) (by omega) (Or.inl rfl) ?_
  show qJ YX1_copyFrom κ _ (qLy (o, im125 ++ (im146 ++ t)), (q_cpy (q_cpy (q_up (q_up (q_up m 2 0 (m 147 0)) 2 1 (m 147 1)) 2 2 (m 147 2)) 148 0 3 0 (((m 147 0) * 5).toNat)) 149 0 4 0 ((m 147 0).toNat)), y) 0 0 60 [some (qR 2), some (qR 147)] []
  refine qJ.run hκ 8 (pc' := 74) (ls' := [some (qR 2), some (qR 147)]) (st' := [qI (m 147 0), qI 0, qR 5, qI 0, qR 150]) rfl ?_
  refine qJ.copy hκ rfl kX1_75 (Nat.le_of_ble_eq_true rfl) (Nat.le_of_ble_eq_true rfl) rfl rfl (by decide) (by decide) (by omega) (by omega) (by omega) (by omega) (by omega) (Or.inl rfl) ?_
  show qJ YX1_copyFrom κ _ (qLy (o, im125 ++ (im146 ++ t)), (q_cpy (q_cpy (q_cpy (q_up (q_up (q_up m 2 0 (m 147 0)) 2 1 (m 147 1)) 2 2 (m 147 2)) 148 0 3 0 (((m 147 0) * 5).toNat)) 149 0 4 0 ((m 147 0).toNat)) 150 0 5 0 ((m 147 0).toNat)), y) 0 0 77 [some (qR 2), some (qR 147)] []
  refine qJ.run hκ 8 (pc' := 91) (ls' := [some (qR 2), some (qR 147)]) (st' := [qI (m 147 0), qI 0, qR 6, qI 0, qR 151]) rfl ?_
  refine qJ.copy hκ rfl kX1_75 (Nat.le_of_ble_eq_true rfl) (Nat.le_of_ble_eq_true rfl) rfl rfl (by decide) (by decide) (by omega) (by omega) (by omega) (by omega) (by omega) (Or.inl rfl) ?_
  show qJ YX1_copyFrom κ _ (qLy (o, im125 ++ (im146 ++ t)), (q_cpy (q_cpy (q_cpy (q_cpy (q_up (q_up (q_up m 2 0 (m 147 0)) 2 1 (m 147 1)) 2 2 (m 147 2)) 148 0 3 0 (((m 147 0) * 5).toNat)) 149 0 4 0 ((m 147 0).toNat)) 150 0 5 0 ((m 147 0).toNat)) 151 0 6 0 ((m 147 0).toNat)), y) 0 0 94 [some (qR 2), some (qR 147)] []
  refine qJ.run hκ 8 (pc' := 108) (ls' := [some (qR 2), some (qR 147)]) (st' := [qI (m 147 0), qI 0, qR 7, qI 0, qR 152]) rfl ?_
  refine qJ.copy hκ rfl kX1_75 (Nat.le_of_ble_eq_true rfl) (Nat.le_of_ble_eq_true rfl) rfl rfl (by decide) (by decide) (by omega) (by omega) (by omega) (by omega) (by omega) (Or.inl rfl) ?_
  show qJ YX1_copyFrom κ _ (qLy (o, im125 ++ (im146 ++ t)), (q_cpy (q_cpy (q_cpy (q_cpy (q_cpy (q_up (q_up (q_up m 2 0 (m 147 0)) 2 1 (m 147 1)) 2 2 (m 147 2)) 148 0 3 0 (((m 147 0) * 5).toNat)) 149 0 4 0 ((m 147 0).toNat)) 150 0 5 0 ((m 147 0).toNat)) 151 0 6 0 ((m 147 0).toNat)) 152 0 7 0 ((m 147 0).toNat)), y) 0 0 111 [some (qR 2), some (qR 147)] []
  refine qJ.run hκ 8 (pc' := 125) (ls' := [some (qR 2), some (qR 147)]) (st' := [qI (m 147 0), qI 0, qR 8, qI 0, qR 153]) rfl ?_
  refine qJ.copy hκ rfl kX1_75 (Nat.le_of_ble_eq_true rfl) (Nat.le_of_ble_eq_true rfl) rfl rfl (by decide) (by decide) (by omega) (by omega) (by omega) (by omega) (by omega) (Or.inl rfl) ?_
  show qJ YX1_copyFrom κ _ (qLy (o, im125 ++ (im146 ++ t)), (q_cpy (q_cpy (q_cpy (q_cpy (q_cpy (q_cpy (q_up (q_up (q_up m 2 0 (m 147 0)) 2 1 (m 147 1)) 2 2 (m 147 2)) 148 0 3 0 (((m 147 0) * 5).toNat)) 149 0 4 0 ((m 147 0).toNat)) 150 0 5 0 ((m 147 0).toNat)) 151 0 6 0 ((m 147 0).toNat)) 152 0 7 0 ((m 147 0).toNat)) 153 0 8 0 ((m 147 0).toNat)), y) 0 0 128 [some (qR 2), some (qR 147)] []
  refine qJ.run hκ 8 (pc' := 142) (ls' := [some (qR 2), some (qR 147)]) (st' := [qI (m 147 2), qI 0, qR 9, qI 0, qR 154]) rfl ?_
  refine qJ.copy hκ rfl kX1_75 (Nat.le_of_ble_eq_true rfl) (Nat.le_of_ble_eq_true rfl) rfl rfl (by decide) (by decide) (by omega) (by omega) (by omega) (by omega) (by omega) (Or.inl rfl) ?_
  show qJ YX1_copyFrom κ _ (qLy (o, im125 ++ (im146 ++ t)), (q_cpy (q_cpy (q_cpy (q_cpy (q_cpy (q_cpy (q_cpy (q_up (q_up (q_up m 2 0 (m 147 0)) 2 1 (m 147 1)) 2 2 (m 147 2)) 148 0 3 0 (((m 147 0) * 5).toNat)) 149 0 4 0 ((m 147 0).toNat)) 150 0 5 0 ((m 147 0).toNat)) 151 0 6 0 ((m 147 0).toNat)) 152 0 7 0 ((m 147 0).toNat)) 153 0 8 0 ((m 147 0).toNat)) 154 0 9 0 ((m 147 2).toNat)), y) 0 0 145 [some (qR 2), some (qR 147)] []
  refine qJ.run hκ 8 (pc' := 159) (ls' := [some (qR 2), some (qR 147)]) (st' := [qI (m 147 2), qI 0, qR 10, qI 0, qR 155]) rfl ?_
  refine qJ.copy hκ rfl kX1_75 (Nat.le_of_ble_eq_true rfl) (Nat.le_of_ble_eq_true rfl) rfl rfl (by decide) (by decide) (by omega) (by omega) (by omega) (by omega) (by omega) (Or.inl rfl) ?_
  show qJ YX1_copyFrom κ _ (qLy (o, im125 ++ (im146 ++ t)), (q_cpy (q_cpy (q_cpy (q_cpy (q_cpy (q_cpy (q_cpy (q_cpy (q_up (q_up (q_up m 2 0 (m 147 0)) 2 1 (m 147 1)) 2 2 (m 147 2)) 148 0 3 0 (((m 147 0) * 5).toNat)) 149 0 4 0 ((m 147 0).toNat)) 150 0 5 0 ((m 147 0).toNat)) 151 0 6 0 ((m 147 0).toNat)) 152 0 7 0 ((m 147 0).toNat)) 153 0 8 0 ((m 147 0).toNat)) 154 0 9 0 ((m 147 2).toNat)) 155 0 10 0 ((m 147 2).toNat)), y) 0 0 162 [some (qR 2), some (qR 147)] []
  refine qJ.run hκ 8 (pc' := 176) (ls' := [some (qR 2), some (qR 147)]) (st' := [qI (m 147 2), qI 0, qR 11, qI 0, qR 156]) rfl ?_
  refine qJ.copy hκ rfl kX1_75 (Nat.le_of_ble_eq_true rfl) (Nat.le_of_ble_eq_true rfl) rfl rfl (by decide) (by decide) (by omega) (by omega) (by omega) (by omega) (by omega) (Or.inl rfl) ?_
  show qJ YX1_copyFrom κ _ (qLy (o, im125 ++ (im146 ++ t)), (q_cpy (q_cpy (q_cpy (q_cpy (q_cpy (q_cpy (q_cpy (q_cpy (q_cpy (q_up (q_up (q_up m 2 0 (m 147 0)) 2 1 (m 147 1)) 2 2 (m 147 2)) 148 0 3 0 (((m 147 0) * 5).toNat)) 149 0 4 0 ((m 147 0).toNat)) 150 0 5 0 ((m 147 0).toNat)) 151 0 6 0 ((m 147 0).toNat)) 152 0 7 0 ((m 147 0).toNat)) 153 0 8 0 ((m 147 0).toNat)) 154 0 9 0 ((m 147 2).toNat)) 155 0 10 0 ((m 147 2).toNat)) 156 0 11 0 ((m 147 2).toNat)), y) 0 0 179 [some (qR 2), some (qR 147)] []
  exact qJ.vret hκ rfl rfl (by decide) (by decide) (⟨rfl, (q_cpy (q_cpy (q_cpy (q_cpy (q_cpy (q_cpy (q_cpy (q_cpy (q_cpy (q_up (q_up (q_up m 2 0 (m 147 0)) 2 1 (m 147 1)) 2 2 (m 147 2)) 148 0 3 0 (((m 147 0) * 5).toNat)) 149 0 4 0 ((m 147 0).toNat)) 150 0 5 0 ((m 147 0).toNat)) 151 0 6 0 ((m 147 0).toNat)) 152 0 7 0 ((m 147 0).toNat)) 153 0 8 0 ((m 147 0).toNat)) 154 0 9 0 ((m 147 2).toNat)) 155 0 10 0 ((m 147 2).toNat)) 156 0 11 0 ((m 147 2).toNat)), rfl, (Eq.trans (keep_cp (by intro j; rfl)) (Eq.trans (keep_cp (by intro j; rfl)) (Eq.trans (keep_cp (by intro j; rfl)) (Eq.trans (keep_cp (by intro j; rfl)) (Eq.trans (keep_cp (by intro j; rfl)) (Eq.trans (keep_cp (by intro j; rfl)) (Eq.trans (keep_cp (by intro j; rfl)) (Eq.trans (keep_cp (by intro j; rfl)) (Eq.trans (keep_cp (by intro j; rfl)) (Eq.trans (keep_up (by rfl)) (Eq.trans (keep_up (by rfl)) (Eq.trans (keep_up (by rfl)) rfl)))))))))))), (by rw [q_cpy_rw (by decide), q_cpy_rw (by decide), q_cpy_rw (by decide), q_cpy_rw (by decide), q_cpy_rw (by decide), q_cpy_rw (by decide), q_cpy_rw (by decide), q_cpy_rw (by decide), q_cpy_rw (by decide)]; rfl), (by rw [q_cpy_rw (by decide), q_cpy_rw (by decide), q_cpy_rw (by decide), q_cpy_rw (by decide), q_cpy_rw (by decide), q_cpy_rw (by decide), q_cpy_rw (by decide), q_cpy_rw (by decide), q_cpy_rw (by decide)]; rfl), (by rw [q_cpy_rw (by decide), q_cpy_rw (by decide), q_cpy_rw (by decide), q_cpy_rw (by decide), q_cpy_rw (by decide), q_cpy_rw (by decide), q_cpy_rw (by decide), q_cpy_rw (by decide), q_cpy_rw (by decide)]; rfl), (by rw [q_cpy_rw (by decide), q_cpy_rw (by decide), q_cpy_rw (by decide), q_cpy_rw (by decide), q_cpy_rw (by decide), q_cpy_rw (by decide), q_cpy_rw (by decide), q_cpy_rw (by decide)]; exact cpy_ag (by rw [q_up_rw (by decide), q_up_rw (by decide), q_up_rw (by decide)]) (rfl)), (by rw [q_cpy_rw (by decide), q_cpy_rw (by decide), q_cpy_rw (by decide), q_cpy_rw (by decide), q_cpy_rw (by decide), q_cpy_rw (by decide), q_cpy_rw (by decide)]; exact cpy_ag (by rw [q_cpy_rw (by decide), q_up_rw (by decide), q_up_rw (by decide), q_up_rw (by decide)]) (rfl)), (by rw [q_cpy_rw (by decide), q_cpy_rw (by decide), q_cpy_rw (by decide), q_cpy_rw (by decide), q_cpy_rw (by decide), q_cpy_rw (by decide)]; exact cpy_ag (by rw [q_cpy_rw (by decide), q_cpy_rw (by decide), q_up_rw (by decide), q_up_rw (by decide), q_up_rw (by decide)]) (rfl)), (by rw [q_cpy_rw (by decide), q_cpy_rw (by decide), q_cpy_rw (by decide), q_cpy_rw (by decide), q_cpy_rw (by decide)]; exact cpy_ag (by rw [q_cpy_rw (by decide), q_cpy_rw (by decide), q_cpy_rw (by decide), q_up_rw (by decide), q_up_rw (by decide), q_up_rw (by decide)]) (rfl)), (by rw [q_cpy_rw (by decide), q_cpy_rw (by decide), q_cpy_rw (by decide), q_cpy_rw (by decide)]; exact cpy_ag (by rw [q_cpy_rw (by decide), q_cpy_rw (by decide), q_cpy_rw (by decide), q_cpy_rw (by decide), q_up_rw (by decide), q_up_rw (by decide), q_up_rw (by decide)]) (rfl)), (by rw [q_cpy_rw (by decide), q_cpy_rw (by decide), q_cpy_rw (by decide)]; exact cpy_ag (by rw [q_cpy_rw (by decide), q_cpy_rw (by decide), q_cpy_rw (by decide), q_cpy_rw (by decide), q_cpy_rw (by decide), q_up_rw (by decide), q_up_rw (by decide), q_up_rw (by decide)]) (rfl)), (by rw [q_cpy_rw (by decide), q_cpy_rw (by decide)]; exact cpy_ag (by rw [q_cpy_rw (by decide), q_cpy_rw (by decide), q_cpy_rw (by decide), q_cpy_rw (by decide), q_cpy_rw (by decide), q_cpy_rw (by decide), q_up_rw (by decide), q_up_rw (by decide), q_up_rw (by decide)]) (rfl)), (by rw [q_cpy_rw (by decide)]; exact cpy_ag (by rw [q_cpy_rw (by decide), q_cpy_rw (by decide), q_cpy_rw (by decide), q_cpy_rw (by decide), q_cpy_rw (by decide), q_cpy_rw (by decide), q_cpy_rw (by decide), q_up_rw (by decide), q_up_rw (by decide), q_up_rw (by decide)]) (rfl)), (by skip; exact cpy_ag (by rw [q_cpy_rw (by decide), q_cpy_rw (by decide), q_cpy_rw (by decide), q_cpy_rw (by decide), q_cpy_rw (by decide), q_cpy_rw (by decide), q_cpy_rw (by decide), q_cpy_rw (by decide), q_up_rw (by decide), q_up_rw (by decide), q_up_rw (by decide)]) (rfl))⟩)

set_option maxRecDepth 100000 in
theorem c_clr146 (o : Option Nat × Option Nat × Option Nat) (t : List qS) (m y : qM) (h0 : 0 ≤ m 157 1 ∧ m 157 1 ≤ 512) : qCt YX3_copyFrom 2 0 0 [qR 12, qR 157] (qLy (o, im125 ++ (im146 ++ t)), m, y) (fun r h => r = none ∧ ∃ m', h = (qLy (o, im125 ++ (im146 ++ t)), m', y) ∧ keep (kN kIlr146) m' = keep (kN kIlr146) m ∧ m' 12 0 = m 157 0 ∧ m' 12 1 = m 157 1 ∧ agN (m 157 1) (m 158) (m' 13) ∧ agN 10 (m 159) (m' 14)) := by
  refine qCt.intro okX3_copyFrom (Nat.le_of_ble_eq_true rfl) (fun κ hκ => ?_)
  show qJ YX3_copyFrom κ _ (qLy (o, im125 ++ (im146 ++ t)), m, y) 0 0 0 [some (qR 12), some (qR 157)] []
  refine qJ.run hκ 3 (pc' := 5) (ls' := [some (qR 12), some (qR 157)]) (st' := [qI (m 157 0), qR 12]) rfl ?_
  refine qJ.putI hκ rfl rfl rfl rfl (Or.inl rfl) ?_
  show qJ YX3_copyFrom κ _ (qLy (o, im125 ++ (im146 ++ t)), (q_up m 12 0 (m 157 0)), y) 0 0 8 [some (qR 12), some (qR 157)] []
  refine qJ.run hκ 3 (pc' := 13) (ls' := [some (qR 12), some (qR 157)]) (st' := [qI (m 157 1), qR 12]) rfl ?_
  refine qJ.putI hκ rfl rfl rfl rfl (Or.inl rfl) ?_
  show qJ YX3_copyFrom κ _ (qLy (o, im125 ++ (im146 ++ t)), (q_up (q_up m 12 0 (m 157 0)) 12 1 (m 157 1)), y) 0 0 16 [some (qR 12), some (qR 157)] []
  refine qJ.run hκ 8 (pc' := 30) (ls' := [some (qR 12), some (qR 157)]) (st' := [qI (m 157 1), qI 0, qR 13, qI 0, qR 158]) rfl ?_
  refine qJ.copy hκ rfl kX3_25 (Nat.le_of_ble_eq_true rfl) (Nat.le_of_ble_eq_true rfl) rfl rfl (by decide) (by decide) (by omega) (by omega) (by omega) (by omega) (by omega) (Or.inl rfl) ?_
  show qJ YX3_copyFrom κ _ (qLy (o, im125 ++ (im146 ++ t)), (q_cpy (q_up (q_up m 12 0 (m 157 0)) 12 1 (m 157 1)) 158 0 13 0 ((m 157 1).toNat)), y) 0 0 33 [some (qR 12), some (qR 157)] []
  refine qJ.run hκ 7 (pc' := 45) (ls' := [some (qR 12), some (qR 157)]) (st' := [qI 10, qI 0, qR 14, qI 0, qR 159]) rfl ?_
  refine qJ.copy hκ rfl kX3_25 (Nat.le_of_ble_eq_true rfl) (Nat.le_of_ble_eq_true rfl) rfl rfl (by decide) (by decide) (by omega) (by omega) (by omega) (by omega) (by omega) (Or.inl rfl) ?_
  show qJ YX3_copyFrom κ _ (qLy (o, im125 ++ (im146 ++ t)), (q_cpy (q_cpy (q_up (q_up m 12 0 (m 157 0)) 12 1 (m 157 1)) 158 0 13 0 ((m 157 1).toNat)) 159 0 14 0 10), y) 0 0 48 [some (qR 12), some (qR 157)] []
  exact qJ.vret hκ rfl rfl (by decide) (by decide) (⟨rfl, (q_cpy (q_cpy (q_up (q_up m 12 0 (m 157 0)) 12 1 (m 157 1)) 158 0 13 0 ((m 157 1).toNat)) 159 0 14 0 10), rfl, (Eq.trans (keep_cp (by intro j; rfl)) (Eq.trans (keep_cp (by intro j; rfl)) (Eq.trans (keep_up (by rfl)) (Eq.trans (keep_up (by rfl)) rfl)))), (by rw [q_cpy_rw (by decide), q_cpy_rw (by decide)]; rfl), (by rw [q_cpy_rw (by decide), q_cpy_rw (by decide)]; rfl), (by rw [q_cpy_rw (by decide)]; exact cpy_ag (by rw [q_up_rw (by decide), q_up_rw (by decide)]) (rfl)), (by skip; exact cpy_ag (by rw [q_cpy_rw (by decide), q_up_rw (by decide), q_up_rw (by decide)]) (rfl))⟩)

def kJr146 : Nat → Nat → Bool := fun i j => decide ((i = 15 ∧ j = 4) ∨ i = 19 ∨ i = 20)

set_option maxRecDepth 100000 in
theorem c_csr146 (o : Option Nat × Option Nat × Option Nat) (t : List qS) (m y : qM) (k : Int)  : qCt YX4_setLines 2 0 0 [qR 15, qI k, qR 164, qR 165] (qLy (o, im125 ++ (im146 ++ t)), m, y) (fun r h => r = none ∧ ∃ m', h = (qLy (o, im125 ++ (im146 ++ t)), m', y) ∧ keep (kN kJr146) m' = keep (kN kJr146) m ∧ agN 18 (m 164) (m' 19) ∧ agN 18 (m 165) (m' 20) ∧ m' 15 4 = k) := by
  refine qCt.intro okX4_setLines (Nat.le_of_ble_eq_true rfl) (fun κ hκ => ?_)
  show qJ YX4_setLines κ _ (qLy (o, im125 ++ (im146 ++ t)), m, y) 0 0 0 [some (qR 15), some (qI k), some (qR 164), some (qR 165)] []
  refine qJ.run hκ 2 (pc' := 2) (ls' := [some (qR 15), some (qI k), some (qR 164), some (qR 165)]) (st' := [qI k, qR 15]) rfl ?_
  refine qJ.putI hκ rfl rfl rfl rfl (Or.inl rfl) ?_
  show qJ YX4_setLines κ _ (qLy (o, im125 ++ (im146 ++ t)), (q_up m 15 4 k), y) 0 0 5 [some (qR 15), some (qI k), some (qR 164), some (qR 165)] []
  refine qJ.run hκ 8 (pc' := 17) (ls' := [some (qR 15), some (qI k), some (qR 164), some (qR 165)]) (st' := [qI 18, qI 0, qR 19, qI 0, qR 164]) rfl ?_
  refine qJ.copy hκ rfl kX4_48 (Nat.le_of_ble_eq_true rfl) (Nat.le_of_ble_eq_true rfl) rfl rfl (by decide) (by decide) (by omega) (by omega) (by omega) (by omega) (by omega) (Or.inl rfl) ?_
  show qJ YX4_setLines κ _ (qLy (o, im125 ++ (im146 ++ t)), (q_cpy (q_up m 15 4 k) 164 0 19 0 18), y) 0 0 20 [some (qR 15), some (qI k), some (qR 164), some (qR 165)] []
  refine qJ.run hκ 8 (pc' := 32) (ls' := [some (qR 15), some (qI k), some (qR 164), some (qR 165)]) (st' := [qI 18, qI 0, qR 20, qI 0, qR 165]) rfl ?_
  refine qJ.copy hκ rfl kX4_48 (Nat.le_of_ble_eq_true rfl) (Nat.le_of_ble_eq_true rfl) rfl rfl (by decide) (by decide) (by omega) (by omega) (by omega) (by omega) (by omega) (Or.inl rfl) ?_
  show qJ YX4_setLines κ _ (qLy (o, im125 ++ (im146 ++ t)), (q_cpy (q_cpy (q_up m 15 4 k) 164 0 19 0 18) 165 0 20 0 18), y) 0 0 35 [some (qR 15), some (qI k), some (qR 164), some (qR 165)] []
  exact qJ.vret hκ rfl rfl (by decide) (by decide) (⟨rfl, (q_cpy (q_cpy (q_up m 15 4 k) 164 0 19 0 18) 165 0 20 0 18), rfl, (Eq.trans (keep_cp (by intro j; rfl)) (Eq.trans (keep_cp (by intro j; rfl)) (Eq.trans (keep_up (by rfl)) rfl))), (by rw [q_cpy_rw (by decide)]; exact cpy_ag (by rw [q_up_rw (by decide)]) (rfl)), (by skip; exact cpy_ag (by rw [q_cpy_rw (by decide), q_up_rw (by decide)]) (rfl)), (by rw [q_cpy_rw (by decide), q_cpy_rw (by decide)]; rfl)⟩)

theorem kJr146x : ∀ i j, kN kIxr146 i j = true → kN kJr146 i j = true := by
  intro i j h
  refine kN_t.mpr fun z => kN_t.mp h ?_
  unfold kJr146 at z
  unfold kIxr146
  rw [decide_eq_true_eq] at z ⊢
  omega

set_option maxRecDepth 100000 in
theorem c_cxr146 (o : Option Nat × Option Nat × Option Nat) (t : List qS) (m y : qM) (h0 : 0 ≤ m 160 0 ∧ m 160 0 ≤ 5) : qCt YX4_copyFrom 3 0 0 [qR 15, qR 160] (qLy (o, im125 ++ (im146 ++ t)), m, y) (fun r h => r = none ∧ ∃ m', h = (qLy (o, im125 ++ (im146 ++ t)), m', y) ∧ keep (kN kIxr146) m' = keep (kN kIxr146) m ∧ m' 15 0 = m 160 0 ∧ m' 15 4 = m 160 4 ∧ agN (m 160 0 * 10) (m 161) (m' 16) ∧ agN (m 160 0) (m 162) (m' 17) ∧ agN (m 160 0) (m 163) (m' 18) ∧ agN 18 (m 164) (m' 19) ∧ agN 18 (m 165) (m' 20)) := by
  refine qCt.intro okX4_copyFrom (Nat.le_of_ble_eq_true rfl) (fun κ hκ => ?_)
  show qJ YX4_copyFrom κ _ (qLy (o, im125 ++ (im146 ++ t)), m, y) 0 0 0 [some (qR 15), some (qR 160)] []
  refine qJ.run hκ 3 (pc' := 5) (ls' := [some (qR 15), some (qR 160)]) (st' := [qI (m 160 0), qR 15]) rfl ?_
  refine qJ.putI hκ rfl rfl rfl rfl (Or.inl rfl) ?_
  show qJ YX4_copyFrom κ _ (qLy (o, im125 ++ (im146 ++ t)), (q_up m 15 0 (m 160 0)), y) 0 0 8 [some (qR 15), some (qR 160)] []
  refine qJ.run hκ 10 (pc' := 25) (ls' := [some (qR 15), some (qR 160)]) (st' := [qI ((m 160 0) * 10), qI 0, qR 16, qI 0, qR 161]) rfl ?_
  refine qJ.copy hκ rfl kX4_48 (Nat.le_of_ble_eq_true rfl) (Nat.le_of_ble_eq_true rfl) rfl rfl (by decide) (by decide) (by omega) (by omega) (by omega) (by omega) (by omega) (Or.inl rfl) ?_
  show qJ YX4_copyFrom κ _ (qLy (o, im125 ++ (im146 ++ t)), (q_cpy (q_up m 15 0 (m 160 0)) 161 0 16 0 (((m 160 0) * 10).toNat)), y) 0 0 28 [some (qR 15), some (qR 160)] []
  refine qJ.run hκ 8 (pc' := 42) (ls' := [some (qR 15), some (qR 160)]) (st' := [qI (m 160 0), qI 0, qR 17, qI 0, qR 162]) rfl ?_
  refine qJ.copy hκ rfl kX4_48 (Nat.le_of_ble_eq_true rfl) (Nat.le_of_ble_eq_true rfl) rfl rfl (by decide) (by decide) (by omega) (by omega) (by omega) (by omega) (by omega) (Or.inl rfl) ?_
  show qJ YX4_copyFrom κ _ (qLy (o, im125 ++ (im146 ++ t)), (q_cpy (q_cpy (q_up m 15 0 (m 160 0)) 161 0 16 0 (((m 160 0) * 10).toNat)) 162 0 17 0 ((m 160 0).toNat)), y) 0 0 45 [some (qR 15), some (qR 160)] []
  refine qJ.run hκ 8 (pc' := 59) (ls' := [some (qR 15), some (qR 160)]) (st' := [qI (m 160 0), qI 0, qR 18, qI 0, qR 163]) rfl ?_
  refine qJ.copy hκ rfl kX4_48 (Nat.le_of_ble_eq_true rfl) (Nat.le_of_ble_eq_true rfl) rfl rfl (by decide) (by decide) (by omega) (by omega) (by omega) (by omega) (by omega) (Or.inl rfl) ?_
  show qJ YX4_copyFrom κ _ (qLy (o, im125 ++ (im146 ++ t)), (q_cpy (q_cpy (q_cpy (q_up m 15 0 (m 160 0)) 161 0 16 0 (((m 160 0) * 10).toNat)) 162 0 17 0 ((m 160 0).toNat)) 163 0 18 0 ((m 160 0).toNat)), y) 0 0 62 [some (qR 15), some (qR 160)] []
  refine qJ.run hκ 7 (pc' := 75) (ls' := [some (qR 15), some (qR 160)]) (st' := [qR 165, qR 164, qI (m 160 4), qR 15]) rfl ?_
  refine qJ.callV (As := [qI (m 160 4), qR 164, qR 165]) (rest := []) hκ rfl kX4_54 (c_csr146 o t (q_cpy (q_cpy (q_cpy (q_up m 15 0 (m 160 0)) 161 0 16 0 (((m 160 0) * 10).toNat)) 162 0 17 0 ((m 160 0).toNat)) 163 0 18 0 ((m 160 0).toNat)) y (m 160 4)) rfl rfl (by decide) rfl rfl (Nat.le_of_ble_eq_true rfl) (Nat.le_of_ble_eq_true rfl) (Nat.le_of_ble_eq_true rfl) (Or.inl (fun r h' e => by obtain ⟨rfl, m4, rfl, K4, A19, A20, A15⟩ := e; rfl)) (fun r h' e => ?_)
  obtain ⟨rfl, m4, rfl, K4, A19, A20, A15⟩ := e
  show qJ YX4_copyFrom κ _ (qLy (o, im125 ++ (im146 ++ t)), m4, y) 0 0 78 [some (qR 15), some (qR 160)] []
  exact qJ.vret hκ rfl rfl (by decide) (by decide) (⟨rfl, m4, rfl, (keep_of kJr146x K4).trans (Eq.trans (keep_cp (by intro j; rfl)) (Eq.trans (keep_cp (by intro j; rfl)) (Eq.trans (keep_cp (by intro j; rfl)) (Eq.trans (keep_up (by rfl)) rfl)))), (show m4 15 0 = (q_cpy (q_cpy (q_cpy (q_up m 15 0 (m 160 0)) 161 0 16 0 (((m 160 0) * 10).toNat)) 162 0 17 0 ((m 160 0).toNat)) 163 0 18 0 ((m 160 0).toNat)) 15 0 from congrFun (congrFun K4 15) 0).trans (by rw [q_cpy_rw (by decide), q_cpy_rw (by decide), q_cpy_rw (by decide)]; rfl), A15.trans (show (q_cpy (q_cpy (q_cpy (q_up m 15 0 (m 160 0)) 161 0 16 0 (((m 160 0) * 10).toNat)) 162 0 17 0 ((m 160 0).toNat)) 163 0 18 0 ((m 160 0).toNat)) 160 4 = m 160 4 from by rw [q_cpy_rw (by decide), q_cpy_rw (by decide), q_cpy_rw (by decide), q_up_rw (by decide)]), (by rw [show m4 16 = (q_cpy (q_cpy (q_cpy (q_up m 15 0 (m 160 0)) 161 0 16 0 (((m 160 0) * 10).toNat)) 162 0 17 0 ((m 160 0).toNat)) 163 0 18 0 ((m 160 0).toNat)) 16 from congrFun K4 16]; exact (by rw [q_cpy_rw (by decide), q_cpy_rw (by decide)]; exact cpy_ag (by rw [q_up_rw (by decide)]) (rfl))), (by rw [show m4 17 = (q_cpy (q_cpy (q_cpy (q_up m 15 0 (m 160 0)) 161 0 16 0 (((m 160 0) * 10).toNat)) 162 0 17 0 ((m 160 0).toNat)) 163 0 18 0 ((m 160 0).toNat)) 17 from congrFun K4 17]; exact (by rw [q_cpy_rw (by decide)]; exact cpy_ag (by rw [q_cpy_rw (by decide), q_up_rw (by decide)]) (rfl))), (by rw [show m4 18 = (q_cpy (q_cpy (q_cpy (q_up m 15 0 (m 160 0)) 161 0 16 0 (((m 160 0) * 10).toNat)) 162 0 17 0 ((m 160 0).toNat)) 163 0 18 0 ((m 160 0).toNat)) 18 from congrFun K4 18]; exact (by skip; exact cpy_ag (by rw [q_cpy_rw (by decide), q_cpy_rw (by decide), q_up_rw (by decide)]) (rfl))), (by have A := A19; rw [show (q_cpy (q_cpy (q_cpy (q_up m 15 0 (m 160 0)) 161 0 16 0 (((m 160 0) * 10).toNat)) 162 0 17 0 ((m 160 0).toNat)) 163 0 18 0 ((m 160 0).toNat)) 164 = m 164 from by rw [q_cpy_rw (by decide), q_cpy_rw (by decide), q_cpy_rw (by decide), q_up_rw (by decide)]] at A; exact A), (by have A := A20; rw [show (q_cpy (q_cpy (q_cpy (q_up m 15 0 (m 160 0)) 161 0 16 0 (((m 160 0) * 10).toNat)) 162 0 17 0 ((m 160 0).toNat)) 163 0 18 0 ((m 160 0).toNat)) 165 = m 165 from by rw [q_cpy_rw (by decide), q_cpy_rw (by decide), q_cpy_rw (by decide), q_up_rw (by decide)]] at A; exact A)⟩)

set_option maxRecDepth 100000 in
theorem c_ctr146 (o : Option Nat × Option Nat × Option Nat) (t : List qS) (m y : qM) (h0 : 0 ≤ m 147 0 ∧ m 147 0 ≤ 60) (h2 : 0 ≤ m 147 2 ∧ m 147 2 ≤ 150) (h12 : 0 ≤ m 157 1 ∧ m 157 1 ≤ 512) (h15 : 0 ≤ m 160 0 ∧ m 160 0 ≤ 5) (h4 : 0 ≤ m 146 4 ∧ m 146 4 ≤ 400) (hb : ∀ j : Nat, (j : Int) < m 146 4 → -128 ≤ m 166 j ∧ m 166 j ≤ 127) : qCt YX9_copyFrom 4 0 0 [qR 1, qR 146] (qLy (o, im125 ++ (im146 ++ t)), m, y) (fun r h => r = none ∧ ∃ m', h = (qLy (o, im125 ++ (im146 ++ t)), m', y) ∧ keep (kN kIr146) m' = keep (kN kIr146) m ∧ (m' 1 4 = m 146 4 ∧ m' 1 5 = m 146 5 ∧ m' 1 6 = m 146 6 ∧ m' 1 7 = m 146 7 ∧ m' 1 8 = m 146 8 ∧ m' 1 9 = m 146 9) ∧ (m' 2 0 = m 147 0 ∧ m' 2 1 = m 147 1 ∧ m' 2 2 = m 147 2) ∧ (agN (m 147 0 * 5) (m 148) (m' 3) ∧ agN (m 147 0) (m 149) (m' 4) ∧ agN (m 147 0) (m 150) (m' 5) ∧ agN (m 147 0) (m 151) (m' 6) ∧ agN (m 147 0) (m 152) (m' 7) ∧ agN (m 147 0) (m 153) (m' 8)) ∧ (agN (m 147 2) (m 154) (m' 9) ∧ agN (m 147 2) (m 155) (m' 10) ∧ agN (m 147 2) (m 156) (m' 11)) ∧ (m' 12 0 = m 157 0 ∧ m' 12 1 = m 157 1 ∧ agN (m 157 1) (m 158) (m' 13) ∧ agN 10 (m 159) (m' 14)) ∧ (m' 15 0 = m 160 0 ∧ m' 15 4 = m 160 4 ∧ agN (m 160 0 * 10) (m 161) (m' 16) ∧ agN (m 160 0) (m 162) (m' 17) ∧ agN (m 160 0) (m 163) (m' 18) ∧ agN 18 (m 164) (m' 19) ∧ agN 18 (m 165) (m' 20)) ∧ agN (m 146 4) (m 166) (m' 21)) := by
  refine qCt.intro okX9_copyFrom (Nat.le_of_ble_eq_true rfl) (fun κ hκ => ?_)
  show qJ YX9_copyFrom κ _ (qLy (o, im125 ++ (im146 ++ t)), m, y) 0 0 0 [some (qR 1), some (qR 146)] []
  refine qJ.run hκ 4 (pc' := 8) (ls' := [some (qR 1), some (qR 146)]) (st' := [qR 147, qR 2]) rfl ?_
  refine qJ.callV (As := [qR 147]) (rest := []) hκ rfl kX9_63 (c_ccr146 o t m y h0 h2) rfl rfl (by decide) rfl rfl (Nat.le_of_ble_eq_true rfl) (Nat.le_of_ble_eq_true rfl) (Nat.le_of_ble_eq_true rfl) (Or.inl (fun r h' e => by obtain ⟨rfl, m1, rfl, K1, P0, P1, P2, P3, P4, P5, P6, P7, P8, P9, P10, P11⟩ := e; rfl)) (fun r h' e => ?_)
  obtain ⟨rfl, m1, rfl, K1, P0, P1, P2, P3, P4, P5, P6, P7, P8, P9, P10, P11⟩ := e
  show qJ YX9_copyFrom κ _ (qLy (o, im125 ++ (im146 ++ t)), m1, y) 0 0 11 [some (qR 1), some (qR 146)] []
  refine qJ.run hκ 4 (pc' := 19) (ls' := [some (qR 1), some (qR 146)]) (st' := [qR 157, qR 12]) rfl ?_
  refine qJ.callV (As := [qR 157]) (rest := []) hκ rfl kX9_67 (c_clr146 o t m1 y (by rw [show m1 157 = m 157 from congrFun K1 157]; exact h12)) rfl rfl (by decide) rfl rfl (Nat.le_of_ble_eq_true rfl) (Nat.le_of_ble_eq_true rfl) (Nat.le_of_ble_eq_true rfl) (Or.inl (fun r h' e => by obtain ⟨rfl, m2, rfl, K2, Q0, Q1, Q2, Q3⟩ := e; rfl)) (fun r h' e => ?_)
  obtain ⟨rfl, m2, rfl, K2, Q0, Q1, Q2, Q3⟩ := e
  rw [show m1 157 = m 157 from congrFun K1 157] at Q0 Q1 Q2
  rw [show m1 158 = m 158 from congrFun K1 158] at Q2
  rw [show m1 159 = m 159 from congrFun K1 159] at Q3
  show qJ YX9_copyFrom κ _ (qLy (o, im125 ++ (im146 ++ t)), m2, y) 0 0 22 [some (qR 1), some (qR 146)] []
  refine qJ.run hκ 4 (pc' := 30) (ls' := [some (qR 1), some (qR 146)]) (st' := [qR 160, qR 15]) rfl ?_
  refine qJ.callV (As := [qR 160]) (rest := []) hκ rfl kX9_70 (c_cxr146 o t m2 y (by rw [show m2 160 = m 160 from (congrFun K2 160).trans (congrFun K1 160)]; exact h15)) rfl rfl (by decide) rfl rfl (Nat.le_of_ble_eq_true rfl) (Nat.le_of_ble_eq_true rfl) (Nat.le_of_ble_eq_true rfl) (Or.inl (fun r h' e => by obtain ⟨rfl, m3, rfl, K3, R0, R1, R2, R3, R4, R5, R6⟩ := e; rfl)) (fun r h' e => ?_)
  obtain ⟨rfl, m3, rfl, K3, R0, R1, R2, R3, R4, R5, R6⟩ := e
  rw [show m2 160 = m 160 from (congrFun K2 160).trans (congrFun K1 160)] at R0 R1 R2 R3 R4
  rw [show m2 161 = m 161 from (congrFun K2 161).trans (congrFun K1 161)] at R2
  rw [show m2 162 = m 162 from (congrFun K2 162).trans (congrFun K1 162)] at R3
  rw [show m2 163 = m 163 from (congrFun K2 163).trans (congrFun K1 163)] at R4
  rw [show m2 164 = m 164 from (congrFun K2 164).trans (congrFun K1 164)] at R5
  rw [show m2 165 = m 165 from (congrFun K2 165).trans (congrFun K1 165)] at R6
  have e1 : m3 146 = m 146 := (congrFun K3 146).trans ((congrFun K2 146).trans (congrFun K1 146))
  have e21 : m3 166 = m 166 := (congrFun K3 166).trans ((congrFun K2 166).trans (congrFun K1 166))
  have e4 : m3 146 4 = m 146 4 := by rw [e1]
  show qJ YX9_copyFrom κ _ (qLy (o, im125 ++ (im146 ++ t)), m3, y) 0 0 33 [some (qR 1), some (qR 146)] []
  refine qJ.run hκ 8 (pc' := 47) (ls' := [some (qR 1), some (qR 146)]) (st' := [qI (m3 146 4), qI 0, qR 21, qI 0, qR 166]) rfl ?_
  refine qJ.copy hκ rfl kX9_73 (Nat.le_of_ble_eq_true rfl) (Nat.le_of_ble_eq_true rfl) rfl rfl (by decide) (by decide) (by omega) (by omega) (by omega) (by omega) (by omega) (Or.inr ⟨rfl, fun i hi => by show -128 ≤ m3 166 (0 + i) ∧ m3 166 (0 + i) ≤ 127; rw [Nat.zero_add, e21]; exact hb i (by omega)⟩) ?_
  show qJ YX9_copyFrom κ _ (qLy (o, im125 ++ (im146 ++ t)), (q_cpy m3 166 0 21 0 ((m3 146 4).toNat)), y) 0 0 50 [some (qR 1), some (qR 146)] []
  refine qJ.run hκ 3 (pc' := 55) (ls' := [some (qR 1), some (qR 146)]) (st' := [qI (m3 146 4), qR 1]) rfl ?_
  refine qJ.putI hκ rfl rfl rfl rfl (Or.inl rfl) ?_
  show qJ YX9_copyFrom κ _ (qLy (o, im125 ++ (im146 ++ t)), (q_up (q_cpy m3 166 0 21 0 ((m3 146 4).toNat)) 1 4 (m3 146 4)), y) 0 0 58 [some (qR 1), some (qR 146)] []
  refine qJ.run hκ 3 (pc' := 63) (ls' := [some (qR 1), some (qR 146)]) (st' := [qI (m3 146 5), qR 1]) rfl ?_
  refine qJ.putI hκ rfl rfl rfl rfl (Or.inl rfl) ?_
  show qJ YX9_copyFrom κ _ (qLy (o, im125 ++ (im146 ++ t)), (q_up (q_up (q_cpy m3 166 0 21 0 ((m3 146 4).toNat)) 1 4 (m3 146 4)) 1 5 (m3 146 5)), y) 0 0 66 [some (qR 1), some (qR 146)] []
  refine qJ.run hκ 3 (pc' := 71) (ls' := [some (qR 1), some (qR 146)]) (st' := [qI (m3 146 6), qR 1]) rfl ?_
  refine qJ.putI hκ rfl rfl rfl rfl (Or.inl rfl) ?_
  show qJ YX9_copyFrom κ _ (qLy (o, im125 ++ (im146 ++ t)), (q_up (q_up (q_up (q_cpy m3 166 0 21 0 ((m3 146 4).toNat)) 1 4 (m3 146 4)) 1 5 (m3 146 5)) 1 6 (m3 146 6)), y) 0 0 74 [some (qR 1), some (qR 146)] []
  refine qJ.run hκ 3 (pc' := 79) (ls' := [some (qR 1), some (qR 146)]) (st' := [qI (m3 146 7), qR 1]) rfl ?_
  refine qJ.putI hκ rfl rfl rfl rfl (Or.inl rfl) ?_
  show qJ YX9_copyFrom κ _ (qLy (o, im125 ++ (im146 ++ t)), (q_up (q_up (q_up (q_up (q_cpy m3 166 0 21 0 ((m3 146 4).toNat)) 1 4 (m3 146 4)) 1 5 (m3 146 5)) 1 6 (m3 146 6)) 1 7 (m3 146 7)), y) 0 0 82 [some (qR 1), some (qR 146)] []
  refine qJ.run hκ 3 (pc' := 87) (ls' := [some (qR 1), some (qR 146)]) (st' := [qI (m3 146 8), qR 1]) rfl ?_
  refine qJ.putI hκ rfl rfl rfl rfl (Or.inl rfl) ?_
  show qJ YX9_copyFrom κ _ (qLy (o, im125 ++ (im146 ++ t)), (q_up (q_up (q_up (q_up (q_up (q_cpy m3 166 0 21 0 ((m3 146 4).toNat)) 1 4 (m3 146 4)) 1 5 (m3 146 5)) 1 6 (m3 146 6)) 1 7 (m3 146 7)) 1 8 (m3 146 8)), y) 0 0 90 [some (qR 1), some (qR 146)] []
  refine qJ.run hκ 3 (pc' := 95) (ls' := [some (qR 1), some (qR 146)]) (st' := [qI (m3 146 9), qR 1]) rfl ?_
  refine qJ.putI hκ rfl rfl rfl rfl (Or.inl rfl) ?_
  show qJ YX9_copyFrom κ _ (qLy (o, im125 ++ (im146 ++ t)), (q_up (q_up (q_up (q_up (q_up (q_up (q_cpy m3 166 0 21 0 ((m3 146 4).toNat)) 1 4 (m3 146 4)) 1 5 (m3 146 5)) 1 6 (m3 146 6)) 1 7 (m3 146 7)) 1 8 (m3 146 8)) 1 9 (m3 146 9)), y) 0 0 98 [some (qR 1), some (qR 146)] []
  exact qJ.vret hκ rfl rfl (by decide) (by decide) (⟨rfl, (q_up (q_up (q_up (q_up (q_up (q_up (q_cpy m3 166 0 21 0 ((m3 146 4).toNat)) 1 4 (m3 146 4)) 1 5 (m3 146 5)) 1 6 (m3 146 6)) 1 7 (m3 146 7)) 1 8 (m3 146 8)) 1 9 (m3 146 9)), rfl, (Eq.trans (keep_up (by rfl)) (Eq.trans (keep_up (by rfl)) (Eq.trans (keep_up (by rfl)) (Eq.trans (keep_up (by rfl)) (Eq.trans (keep_up (by rfl)) (Eq.trans (keep_up (by rfl)) (Eq.trans (keep_cp (by intro j; rfl)) ((keep_of kIxr146x K3).trans ((keep_of kIlr146x K2).trans (keep_of kIcr146x K1)))))))))), ⟨(by skip; exact congrFun e1 4), (by skip; exact congrFun e1 5), (by skip; exact congrFun e1 6), (by skip; exact congrFun e1 7), (by skip; exact congrFun e1 8), (by skip; exact congrFun e1 9)⟩, ⟨(by rw [q_up_rw (by decide), q_up_rw (by decide), q_up_rw (by decide), q_up_rw (by decide), q_up_rw (by decide), q_up_rw (by decide), q_cpy_rw (by decide)]; rw [show m3 2 = m1 2 from (congrFun K3 2).trans (congrFun K2 2)]; exact P0), (by rw [q_up_rw (by decide), q_up_rw (by decide), q_up_rw (by decide), q_up_rw (by decide), q_up_rw (by decide), q_up_rw (by decide), q_cpy_rw (by decide)]; rw [show m3 2 = m1 2 from (congrFun K3 2).trans (congrFun K2 2)]; exact P1), (by rw [q_up_rw (by decide), q_up_rw (by decide), q_up_rw (by decide), q_up_rw (by decide), q_up_rw (by decide), q_up_rw (by decide), q_cpy_rw (by decide)]; rw [show m3 2 = m1 2 from (congrFun K3 2).trans (congrFun K2 2)]; exact P2)⟩, ⟨(by rw [q_up_rw (by decide), q_up_rw (by decide), q_up_rw (by decide), q_up_rw (by decide), q_up_rw (by decide), q_up_rw (by decide), q_cpy_rw (by decide)]; rw [show m3 3 = m1 3 from (congrFun K3 3).trans (congrFun K2 3)]; exact P3), (by rw [q_up_rw (by decide), q_up_rw (by decide), q_up_rw (by decide), q_up_rw (by decide), q_up_rw (by decide), q_up_rw (by decide), q_cpy_rw (by decide)]; rw [show m3 4 = m1 4 from (congrFun K3 4).trans (congrFun K2 4)]; exact P4), (by rw [q_up_rw (by decide), q_up_rw (by decide), q_up_rw (by decide), q_up_rw (by decide), q_up_rw (by decide), q_up_rw (by decide), q_cpy_rw (by decide)]; rw [show m3 5 = m1 5 from (congrFun K3 5).trans (congrFun K2 5)]; exact P5), (by rw [q_up_rw (by decide), q_up_rw (by decide), q_up_rw (by decide), q_up_rw (by decide), q_up_rw (by decide), q_up_rw (by decide), q_cpy_rw (by decide)]; rw [show m3 6 = m1 6 from (congrFun K3 6).trans (congrFun K2 6)]; exact P6), (by rw [q_up_rw (by decide), q_up_rw (by decide), q_up_rw (by decide), q_up_rw (by decide), q_up_rw (by decide), q_up_rw (by decide), q_cpy_rw (by decide)]; rw [show m3 7 = m1 7 from (congrFun K3 7).trans (congrFun K2 7)]; exact P7), (by rw [q_up_rw (by decide), q_up_rw (by decide), q_up_rw (by decide), q_up_rw (by decide), q_up_rw (by decide), q_up_rw (by decide), q_cpy_rw (by decide)]; rw [show m3 8 = m1 8 from (congrFun K3 8).trans (congrFun K2 8)]; exact P8)⟩, ⟨(by rw [q_up_rw (by decide), q_up_rw (by decide), q_up_rw (by decide), q_up_rw (by decide), q_up_rw (by decide), q_up_rw (by decide), q_cpy_rw (by decide)]; rw [show m3 9 = m1 9 from (congrFun K3 9).trans (congrFun K2 9)]; exact P9), (by rw [q_up_rw (by decide), q_up_rw (by decide), q_up_rw (by decide), q_up_rw (by decide), q_up_rw (by decide), q_up_rw (by decide), q_cpy_rw (by decide)]; rw [show m3 10 = m1 10 from (congrFun K3 10).trans (congrFun K2 10)]; exact P10), (by rw [q_up_rw (by decide), q_up_rw (by decide), q_up_rw (by decide), q_up_rw (by decide), q_up_rw (by decide), q_up_rw (by decide), q_cpy_rw (by decide)]; rw [show m3 11 = m1 11 from (congrFun K3 11).trans (congrFun K2 11)]; exact P11)⟩, ⟨(by rw [q_up_rw (by decide), q_up_rw (by decide), q_up_rw (by decide), q_up_rw (by decide), q_up_rw (by decide), q_up_rw (by decide), q_cpy_rw (by decide)]; rw [show m3 12 = m2 12 from congrFun K3 12]; exact Q0), (by rw [q_up_rw (by decide), q_up_rw (by decide), q_up_rw (by decide), q_up_rw (by decide), q_up_rw (by decide), q_up_rw (by decide), q_cpy_rw (by decide)]; rw [show m3 12 = m2 12 from congrFun K3 12]; exact Q1), (by rw [q_up_rw (by decide), q_up_rw (by decide), q_up_rw (by decide), q_up_rw (by decide), q_up_rw (by decide), q_up_rw (by decide), q_cpy_rw (by decide)]; rw [show m3 13 = m2 13 from congrFun K3 13]; exact Q2), (by rw [q_up_rw (by decide), q_up_rw (by decide), q_up_rw (by decide), q_up_rw (by decide), q_up_rw (by decide), q_up_rw (by decide), q_cpy_rw (by decide)]; rw [show m3 14 = m2 14 from congrFun K3 14]; exact Q3)⟩, ⟨(by rw [q_up_rw (by decide), q_up_rw (by decide), q_up_rw (by decide), q_up_rw (by decide), q_up_rw (by decide), q_up_rw (by decide), q_cpy_rw (by decide)]; exact R0), (by rw [q_up_rw (by decide), q_up_rw (by decide), q_up_rw (by decide), q_up_rw (by decide), q_up_rw (by decide), q_up_rw (by decide), q_cpy_rw (by decide)]; exact R1), (by rw [q_up_rw (by decide), q_up_rw (by decide), q_up_rw (by decide), q_up_rw (by decide), q_up_rw (by decide), q_up_rw (by decide), q_cpy_rw (by decide)]; exact R2), (by rw [q_up_rw (by decide), q_up_rw (by decide), q_up_rw (by decide), q_up_rw (by decide), q_up_rw (by decide), q_up_rw (by decide), q_cpy_rw (by decide)]; exact R3), (by rw [q_up_rw (by decide), q_up_rw (by decide), q_up_rw (by decide), q_up_rw (by decide), q_up_rw (by decide), q_up_rw (by decide), q_cpy_rw (by decide)]; exact R4), (by rw [q_up_rw (by decide), q_up_rw (by decide), q_up_rw (by decide), q_up_rw (by decide), q_up_rw (by decide), q_up_rw (by decide), q_cpy_rw (by decide)]; exact R5), (by rw [q_up_rw (by decide), q_up_rw (by decide), q_up_rw (by decide), q_up_rw (by decide), q_up_rw (by decide), q_up_rw (by decide), q_cpy_rw (by decide)]; exact R6)⟩, (by rw [q_up_rw (by decide), q_up_rw (by decide), q_up_rw (by decide), q_up_rw (by decide), q_up_rw (by decide), q_up_rw (by decide)]; exact cpy_ag (E := m3) (by skip; exact e21) (by rw [e4]))⟩)

def kIw167 : Nat → Nat → Bool := fun i _ => decide (167 ≤ i ∧ i ≤ 187)

def kIcw167 : Nat → Nat → Bool := fun i _ => decide (168 ≤ i ∧ i ≤ 177)

def kIlw167 : Nat → Nat → Bool := fun i _ => decide (178 ≤ i ∧ i ≤ 180)

def kIxw167 : Nat → Nat → Bool := fun i _ => decide (181 ≤ i ∧ i ≤ 186)

theorem kIcw167x : ∀ i j, kN kIw167 i j = true → kN kIcw167 i j = true := by
  intro i j h
  refine kN_t.mpr fun z => kN_t.mp h ?_
  unfold kIcw167 at z
  unfold kIw167
  rw [decide_eq_true_eq] at z ⊢
  omega

theorem kIlw167x : ∀ i j, kN kIw167 i j = true → kN kIlw167 i j = true := by
  intro i j h
  refine kN_t.mpr fun z => kN_t.mp h ?_
  unfold kIlw167 at z
  unfold kIw167
  rw [decide_eq_true_eq] at z ⊢
  omega

theorem kIxw167x : ∀ i j, kN kIw167 i j = true → kN kIxw167 i j = true := by
  intro i j h
  refine kN_t.mpr fun z => kN_t.mp h ?_
  unfold kIxw167 at z
  unfold kIw167
  rw [decide_eq_true_eq] at z ⊢
  omega

set_option maxRecDepth 100000 in
theorem c_ccw167 (o : Option Nat × Option Nat × Option Nat) (t : List qS) (m y : qM) (h0 : 0 ≤ m 2 0 ∧ m 2 0 ≤ 60) (h2 : 0 ≤ m 2 2 ∧ m 2 2 ≤ 150) : qCt YX1_copyFrom 2 0 0 [qR 168, qR 2] (qLy (o, im125 ++ (im146 ++ (im167 ++ t))), m, y) (fun r h => r = none ∧ ∃ m', h = (qLy (o, im125 ++ (im146 ++ (im167 ++ t))), m', y) ∧ keep (kN kIcw167) m' = keep (kN kIcw167) m ∧ m' 168 0 = m 2 0 ∧ m' 168 1 = m 2 1 ∧ m' 168 2 = m 2 2 ∧ agN (m 2 0 * 5) (m 3) (m' 169) ∧ agN (m 2 0) (m 4) (m' 170) ∧ agN (m 2 0) (m 5) (m' 171) ∧ agN (m 2 0) (m 6) (m' 172) ∧ agN (m 2 0) (m 7) (m' 173) ∧ agN (m 2 0) (m 8) (m' 174) ∧ agN (m 2 2) (m 9) (m' 175) ∧ agN (m 2 2) (m 10) (m' 176) ∧ agN (m 2 2) (m 11) (m' 177)) := by
  refine qCt.intro okX1_copyFrom (Nat.le_of_ble_eq_true rfl) (fun κ hκ => ?_)
  show qJ YX1_copyFrom κ _ (qLy (o, im125 ++ (im146 ++ (im167 ++ t))), m, y) 0 0 0 [some (qR 168), some (qR 2)] []
  refine qJ.run hκ 3 (pc' := 5) (ls' := [some (qR 168), some (qR 2)]) (st' := [qI (m 2 0), qR 168]) rfl ?_
  refine qJ.putI hκ rfl rfl rfl rfl (Or.inl rfl) ?_
  show qJ YX1_copyFrom κ _ (qLy (o, im125 ++ (im146 ++ (im167 ++ t))), (q_up m 168 0 (m 2 0)), y) 0 0 8 [some (qR 168), some (qR 2)] []
  refine qJ.run hκ 3 (pc' := 13) (ls' := [some (qR 168), some (qR 2)]) (st' := [qI (m 2 1), qR 168]) rfl ?_
  refine qJ.putI hκ rfl rfl rfl rfl (Or.inl rfl) ?_
  show qJ YX1_copyFrom κ _ (qLy (o, im125 ++ (im146 ++ (im167 ++ t))), (q_up (q_up m 168 0 (m 2 0)) 168 1 (m 2 1)), y) 0 0 16 [some (qR 168), some (qR 2)] []
  refine qJ.run hκ 3 (pc' := 21) (ls' := [some (qR 168), some (qR 2)]) (st' := [qI (m 2 2), qR 168]) rfl ?_
  refine qJ.putI hκ rfl rfl rfl rfl (Or.inl rfl) ?_
  show qJ YX1_copyFrom κ _ (qLy (o, im125 ++ (im146 ++ (im167 ++ t))), (q_up (q_up (q_up m 168 0 (m 2 0)) 168 1 (m 2 1)) 168 2 (m 2 2)), y) 0 0 24 [some (qR 168), some (qR 2)] []
  refine qJ.run hκ 10 (pc' := 40) (ls' := [some (qR 168), some (qR 2)]) (st' := [qI ((m 2 0) * 5), qI 0, qR 169, qI 0, qR 3]) rfl ?_
  refine qJ.copy hκ rfl kX1_75 (Nat.le_of_ble_eq_true rfl) (Nat.le_of_ble_eq_true rfl) rfl rfl (by decide) (by decide) (by omega) (by omega) (by omega) (by omega) (by omega) (Or.inl rfl) ?_
  show qJ YX1_copyFrom κ _ (qLy (o, im125 ++ (im146 ++ (im167 ++ t))), (q_cpy (q_up (q_up (q_up m 168 0 (m 2 0)) 168 1 (m 2 1)) 168 2 (m 2 2)) 3 0 169 0 (((m 2 0) * 5).toNat)), y) 0 0 43 [some (qR 168), some (qR 2)] []
  refine qJ.run hκ 8 (pc' := 57) (ls' := [some (qR 168), some (qR 2)]) (st' := [qI (m 2 0), qI 0, qR 170, qI 0, qR 4]) rfl ?_
  refine qJ.copy hκ rfl kX1_75 (Nat.le_of_ble_eq_true rfl) (Nat.le_of_ble_eq_true rfl) rfl rfl (by decide) (by decide) (by omega) (by omega) (by omega) (by omega) (by omega) (Or.inl rfl) ?_
  show qJ YX1_copyFrom κ _ (qLy (o, im125 ++ (im146 ++ (im167 ++ t))), (q_cpy (q_cpy (q_up (q_up (q_up m 168 0 (m 2 0)) 168 1 (m 2 1)) 168 2 (m 2 2)) 3 0 169 0 (((m 2 0) * 5).toNat)) 4 0 170 0 ((m 2 0).toNat)), y) 0 0 60 [some (qR 168), some (qR 2)] []
  refine qJ.run hκ 8 (pc' := 74) (ls' := [some (qR 168), some (qR 2)]) (st' := [qI (m 2 0), qI 0, qR 171, qI 0, qR 5]) rfl ?_
  refine qJ.copy hκ rfl kX1_75 (Nat.le_of_ble_eq_true rfl) (Nat.le_of_ble_eq_true rfl) rfl rfl (by decide) (by decide) (by omega) (by omega) (by omega) (by omega) (by omega) (Or.inl rfl) ?_
  show qJ YX1_copyFrom κ _ (qLy (o, im125 ++ (im146 ++ (im167 ++ t))), (q_cpy (q_cpy (q_cpy (q_up (q_up (q_up m 168 0 (m 2 0)) 168 1 (m 2 1)) 168 2 (m 2 2)) 3 0 169 0 (((m 2 0) * 5).toNat)) 4 0 170 0 ((m 2 0).toNat)) 5 0 171 0 ((m 2 0).toNat)), y) 0 0 77 [some (qR 168), some (qR 2)] []
  refine qJ.run hκ 8 (pc' := 91) (ls' := [some (qR 168), some (qR 2)]) (st' := [qI (m 2 0), qI 0, qR 172, qI 0, qR 6]) rfl ?_
  refine qJ.copy hκ rfl kX1_75 (Nat.le_of_ble_eq_true rfl) (Nat.le_of_ble_eq_true rfl) rfl rfl (by decide) (by decide) (by omega) (by omega) (by omega) (by omega) (by omega) (Or.inl rfl) ?_
  show qJ YX1_copyFrom κ _ (qLy (o, im125 ++ (im146 ++ (im167 ++ t))), (q_cpy (q_cpy (q_cpy (q_cpy (q_up (q_up (q_up m 168 0 (m 2 0)) 168 1 (m 2 1)) 168 2 (m 2 2)) 3 0 169 0 (((m 2 0) * 5).toNat)) 4 0 170 0 ((m 2 0).toNat)) 5 0 171 0 ((m 2 0).toNat)) 6 0 172 0 ((m 2 0).toNat)), y) 0 0 94 [some (qR 168), some (qR 2)] []
  refine qJ.run hκ 8 (pc' := 108) (ls' := [some (qR 168), some (qR 2)]) (st' := [qI (m 2 0), qI 0, qR 173, qI 0, qR 7]) rfl ?_
  refine qJ.copy hκ rfl kX1_75 (Nat.le_of_ble_eq_true rfl) (Nat.le_of_ble_eq_true rfl) rfl rfl (by decide) (by decide) (by omega) (by omega) (by omega) (by omega) (by omega) (Or.inl rfl) ?_
  show qJ YX1_copyFrom κ _ (qLy (o, im125 ++ (im146 ++ (im167 ++ t))), (q_cpy (q_cpy (q_cpy (q_cpy (q_cpy (q_up (q_up (q_up m 168 0 (m 2 0)) 168 1 (m 2 1)) 168 2 (m 2 2)) 3 0 169 0 (((m 2 0) * 5).toNat)) 4 0 170 0 ((m 2 0).toNat)) 5 0 171 0 ((m 2 0).toNat)) 6 0 172 0 ((m 2 0).toNat)) 7 0 173 0 ((m 2 0).toNat)), y) 0 0 111 [some (qR 168), some (qR 2)] []
  refine qJ.run hκ 8 (pc' := 125) (ls' := [some (qR 168), some (qR 2)]) (st' := [qI (m 2 0), qI 0, qR 174, qI 0, qR 8]) rfl ?_
  refine qJ.copy hκ rfl kX1_75 (Nat.le_of_ble_eq_true rfl) (Nat.le_of_ble_eq_true rfl) rfl rfl (by decide) (by decide) (by omega) (by omega) (by omega) (by omega) (by omega) (Or.inl rfl) ?_
  show qJ YX1_copyFrom κ _ (qLy (o, im125 ++ (im146 ++ (im167 ++ t))), (q_cpy (q_cpy (q_cpy (q_cpy (q_cpy (q_cpy (q_up (q_up (q_up m 168 0 (m 2 0)) 168 1 (m 2 1)) 168 2 (m 2 2)) 3 0 169 0 (((m 2 0) * 5).toNat)) 4 0 170 0 ((m 2 0).toNat)) 5 0 171 0 ((m 2 0).toNat)) 6 0 172 0 ((m 2 0).toNat)) 7 0 173 0 ((m 2 0).toNat)) 8 0 174 0 ((m 2 0).toNat)), y) 0 0 128 [some (qR 168), some (qR 2)] []
  refine qJ.run hκ 8 (pc' := 142) (ls' := [some (qR 168), some (qR 2)]) (st' := [qI (m 2 2), qI 0, qR 175, qI 0, qR 9]) rfl ?_
  refine qJ.copy hκ rfl kX1_75 (Nat.le_of_ble_eq_true rfl) (Nat.le_of_ble_eq_true rfl) rfl rfl (by decide) (by decide) (by omega) (by omega) (by omega) (by omega) (by omega) (Or.inl rfl) ?_
  show qJ YX1_copyFrom κ _ (qLy (o, im125 ++ (im146 ++ (im167 ++ t))), (q_cpy (q_cpy (q_cpy (q_cpy (q_cpy (q_cpy (q_cpy (q_up (q_up (q_up m 168 0 (m 2 0)) 168 1 (m 2 1)) 168 2 (m 2 2)) 3 0 169 0 (((m 2 0) * 5).toNat)) 4 0 170 0 ((m 2 0).toNat)) 5 0 171 0 ((m 2 0).toNat)) 6 0 172 0 ((m 2 0).toNat)) 7 0 173 0 ((m 2 0).toNat)) 8 0 174 0 ((m 2 0).toNat)) 9 0 175 0 ((m 2 2).toNat)), y) 0 0 145 [some (qR 168), some (qR 2)] []
  refine qJ.run hκ 8 (pc' := 159) (ls' := [some (qR 168), some (qR 2)]) (st' := [qI (m 2 2), qI 0, qR 176, qI 0, qR 10]) rfl ?_
  refine qJ.copy hκ rfl kX1_75 (Nat.le_of_ble_eq_true rfl) (Nat.le_of_ble_eq_true rfl) rfl rfl (by decide) (by decide) (by omega) (by omega) (by omega) (by omega) (by omega) (Or.inl rfl) ?_
  show qJ YX1_copyFrom κ _ (qLy (o, im125 ++ (im146 ++ (im167 ++ t))), (q_cpy (q_cpy (q_cpy (q_cpy (q_cpy (q_cpy (q_cpy (q_cpy (q_up (q_up (q_up m 168 0 (m 2 0)) 168 1 (m 2 1)) 168 2 (m 2 2)) 3 0 169 0 (((m 2 0) * 5).toNat)) 4 0 170 0 ((m 2 0).toNat)) 5 0 171 0 ((m 2 0).toNat)) 6 0 172 0 ((m 2 0).toNat)) 7 0 173 0 ((m 2 0).toNat)) 8 0 174 0 ((m 2 0).toNat)) 9 0 175 0 ((m 2 2).toNat)) 10 0 176 0 ((m 2 2).toNat)), y) 0 0 162 [some (qR 168), some (qR 2)] []
  refine qJ.run hκ 8 (pc' := 176) (ls' := [some (qR 168), some (qR 2)]) (st' := [qI (m 2 2), qI 0, qR 177, qI 0, qR 11]) rfl ?_
  refine qJ.copy hκ rfl kX1_75 (Nat.le_of_ble_eq_true rfl) (Nat.le_of_ble_eq_true rfl) rfl rfl (by decide) (by decide) (by omega) (by omega) (by omega) (by omega) (by omega) (Or.inl rfl) ?_
  show qJ YX1_copyFrom κ _ (qLy (o, im125 ++ (im146 ++ (im167 ++ t))), (q_cpy (q_cpy (q_cpy (q_cpy (q_cpy (q_cpy (q_cpy (q_cpy (q_cpy (q_up (q_up (q_up m 168 0 (m 2 0)) 168 1 (m 2 1)) 168 2 (m 2 2)) 3 0 169 0 (((m 2 0) * 5).toNat)) 4 0 170 0 ((m 2 0).toNat)) 5 0 171 0 ((m 2 0).toNat)) 6 0 172 0 ((m 2 0).toNat)) 7 0 173 0 ((m 2 0).toNat)) 8 0 174 0 ((m 2 0).toNat)) 9 0 175 0 ((m 2 2).toNat)) 10 0 176 0 ((m 2 2).toNat)) 11 0 177 0 ((m 2 2).toNat)), y) 0 0 179 [some (qR 168), some (qR 2)] []
  exact qJ.vret hκ rfl rfl (by decide) (by decide) (⟨rfl, (q_cpy (q_cpy (q_cpy (q_cpy (q_cpy (q_cpy (q_cpy (q_cpy (q_cpy (q_up (q_up (q_up m 168 0 (m 2 0)) 168 1 (m 2 1)) 168 2 (m 2 2)) 3 0 169 0 (((m 2 0) * 5).toNat)) 4 0 170 0 ((m 2 0).toNat)) 5 0 171 0 ((m 2 0).toNat)) 6 0 172 0 ((m 2 0).toNat)) 7 0 173 0 ((m 2 0).toNat)) 8 0 174 0 ((m 2 0).toNat)) 9 0 175 0 ((m 2 2).toNat)) 10 0 176 0 ((m 2 2).toNat)) 11 0 177 0 ((m 2 2).toNat)), rfl, (Eq.trans (keep_cp (by intro j; rfl)) (Eq.trans (keep_cp (by intro j; rfl)) (Eq.trans (keep_cp (by intro j; rfl)) (Eq.trans (keep_cp (by intro j; rfl)) (Eq.trans (keep_cp (by intro j; rfl)) (Eq.trans (keep_cp (by intro j; rfl)) (Eq.trans (keep_cp (by intro j; rfl)) (Eq.trans (keep_cp (by intro j; rfl)) (Eq.trans (keep_cp (by intro j; rfl)) (Eq.trans (keep_up (by rfl)) (Eq.trans (keep_up (by rfl)) (Eq.trans (keep_up (by rfl)) rfl)))))))))))), (by rw [q_cpy_rw (by decide), q_cpy_rw (by decide), q_cpy_rw (by decide), q_cpy_rw (by decide), q_cpy_rw (by decide), q_cpy_rw (by decide), q_cpy_rw (by decide), q_cpy_rw (by decide), q_cpy_rw (by decide)]; rfl), (by rw [q_cpy_rw (by decide), q_cpy_rw (by decide), q_cpy_rw (by decide), q_cpy_rw (by decide), q_cpy_rw (by decide), q_cpy_rw (by decide), q_cpy_rw (by decide), q_cpy_rw (by decide), q_cpy_rw (by decide)]; rfl), (by rw [q_cpy_rw (by decide), q_cpy_rw (by decide), q_cpy_rw (by decide), q_cpy_rw (by decide), q_cpy_rw (by decide), q_cpy_rw (by decide), q_cpy_rw (by decide), q_cpy_rw (by decide), q_cpy_rw (by decide)]; rfl), (by rw [q_cpy_rw (by decide), q_cpy_rw (by decide), q_cpy_rw (by decide), q_cpy_rw (by decide), q_cpy_rw (by decide), q_cpy_rw (by decide), q_cpy_rw (by decide), q_cpy_rw (by decide)]; exact cpy_ag (by rw [q_up_rw (by decide), q_up_rw (by decide), q_up_rw (by decide)]) (rfl)), (by rw [q_cpy_rw (by decide), q_cpy_rw (by decide), q_cpy_rw (by decide), q_cpy_rw (by decide), q_cpy_rw (by decide), q_cpy_rw (by decide), q_cpy_rw (by decide)]; exact cpy_ag (by rw [q_cpy_rw (by decide), q_up_rw (by decide), q_up_rw (by decide), q_up_rw (by decide)]) (rfl)), (by rw [q_cpy_rw (by decide), q_cpy_rw (by decide), q_cpy_rw (by decide), q_cpy_rw (by decide), q_cpy_rw (by decide), q_cpy_rw (by decide)]; exact cpy_ag (by rw [q_cpy_rw (by decide), q_cpy_rw (by decide), q_up_rw (by decide), q_up_rw (by decide), q_up_rw (by decide)]) (rfl)), (by rw [q_cpy_rw (by decide), q_cpy_rw (by decide), q_cpy_rw (by decide), q_cpy_rw (by decide), q_cpy_rw (by decide)]; exact cpy_ag (by rw [q_cpy_rw (by decide), q_cpy_rw (by decide), q_cpy_rw (by decide), q_up_rw (by decide), q_up_rw (by decide), q_up_rw (by decide)]) (rfl)), (by rw [q_cpy_rw (by decide), q_cpy_rw (by decide), q_cpy_rw (by decide), q_cpy_rw (by decide)]; exact cpy_ag (by rw [q_cpy_rw (by decide), q_cpy_rw (by decide), q_cpy_rw (by decide), q_cpy_rw (by decide), q_up_rw (by decide), q_up_rw (by decide), q_up_rw (by decide)]) (rfl)), (by rw [q_cpy_rw (by decide), q_cpy_rw (by decide), q_cpy_rw (by decide)]; exact cpy_ag (by rw [q_cpy_rw (by decide), q_cpy_rw (by decide), q_cpy_rw (by decide), q_cpy_rw (by decide), q_cpy_rw (by decide), q_up_rw (by decide), q_up_rw (by decide), q_up_rw (by decide)]) (rfl)), (by rw [q_cpy_rw (by decide), q_cpy_rw (by decide)]; exact cpy_ag (by rw [q_cpy_rw (by decide), q_cpy_rw (by decide), q_cpy_rw (by decide), q_cpy_rw (by decide), q_cpy_rw (by decide), q_cpy_rw (by decide), q_up_rw (by decide), q_up_rw (by decide), q_up_rw (by decide)]) (rfl)), (by rw [q_cpy_rw (by decide)]; exact cpy_ag (by rw [q_cpy_rw (by decide), q_cpy_rw (by decide), q_cpy_rw (by decide), q_cpy_rw (by decide), q_cpy_rw (by decide), q_cpy_rw (by decide), q_cpy_rw (by decide), q_up_rw (by decide), q_up_rw (by decide), q_up_rw (by decide)]) (rfl)), (by skip; exact cpy_ag (by rw [q_cpy_rw (by decide), q_cpy_rw (by decide), q_cpy_rw (by decide), q_cpy_rw (by decide), q_cpy_rw (by decide), q_cpy_rw (by decide), q_cpy_rw (by decide), q_cpy_rw (by decide), q_up_rw (by decide), q_up_rw (by decide), q_up_rw (by decide)]) (rfl))⟩)

set_option maxRecDepth 100000 in
theorem c_clw167 (o : Option Nat × Option Nat × Option Nat) (t : List qS) (m y : qM) (h0 : 0 ≤ m 12 1 ∧ m 12 1 ≤ 512) : qCt YX3_copyFrom 2 0 0 [qR 178, qR 12] (qLy (o, im125 ++ (im146 ++ (im167 ++ t))), m, y) (fun r h => r = none ∧ ∃ m', h = (qLy (o, im125 ++ (im146 ++ (im167 ++ t))), m', y) ∧ keep (kN kIlw167) m' = keep (kN kIlw167) m ∧ m' 178 0 = m 12 0 ∧ m' 178 1 = m 12 1 ∧ agN (m 12 1) (m 13) (m' 179) ∧ agN 10 (m 14) (m' 180)) := by
  refine qCt.intro okX3_copyFrom (Nat.le_of_ble_eq_true rfl) (fun κ hκ => ?_)
  show qJ YX3_copyFrom κ _ (qLy (o, im125 ++ (im146 ++ (im167 ++ t))), m, y) 0 0 0 [some (qR 178), some (qR 12)] []
  refine qJ.run hκ 3 (pc' := 5) (ls' := [some (qR 178), some (qR 12)]) (st' := [qI (m 12 0), qR 178]) rfl ?_
  refine qJ.putI hκ rfl rfl rfl rfl (Or.inl rfl) ?_
  show qJ YX3_copyFrom κ _ (qLy (o, im125 ++ (im146 ++ (im167 ++ t))), (q_up m 178 0 (m 12 0)), y) 0 0 8 [some (qR 178), some (qR 12)] []
  refine qJ.run hκ 3 (pc' := 13) (ls' := [some (qR 178), some (qR 12)]) (st' := [qI (m 12 1), qR 178]) rfl ?_
  refine qJ.putI hκ rfl rfl rfl rfl (Or.inl rfl) ?_
  show qJ YX3_copyFrom κ _ (qLy (o, im125 ++ (im146 ++ (im167 ++ t))), (q_up (q_up m 178 0 (m 12 0)) 178 1 (m 12 1)), y) 0 0 16 [some (qR 178), some (qR 12)] []
  refine qJ.run hκ 8 (pc' := 30) (ls' := [some (qR 178), some (qR 12)]) (st' := [qI (m 12 1), qI 0, qR 179, qI 0, qR 13]) rfl ?_
  refine qJ.copy hκ rfl kX3_25 (Nat.le_of_ble_eq_true rfl) (Nat.le_of_ble_eq_true rfl) rfl rfl (by decide) (by decide) (by omega) (by omega) (by omega) (by omega) (by omega) (Or.inl rfl) ?_
  show qJ YX3_copyFrom κ _ (qLy (o, im125 ++ (im146 ++ (im167 ++ t))), (q_cpy (q_up (q_up m 178 0 (m 12 0)) 178 1 (m 12 1)) 13 0 179 0 ((m 12 1).toNat)), y) 0 0 33 [some (qR 178), some (qR 12)] []
  refine qJ.run hκ 7 (pc' := 45) (ls' := [some (qR 178), some (qR 12)]) (st' := [qI 10, qI 0, qR 180, qI 0, qR 14]) rfl ?_
  refine qJ.copy hκ rfl kX3_25 (Nat.le_of_ble_eq_true rfl) (Nat.le_of_ble_eq_true rfl) rfl rfl (by decide) (by decide) (by omega) (by omega) (by omega) (by omega) (by omega) (Or.inl rfl) ?_
  show qJ YX3_copyFrom κ _ (qLy (o, im125 ++ (im146 ++ (im167 ++ t))), (q_cpy (q_cpy (q_up (q_up m 178 0 (m 12 0)) 178 1 (m 12 1)) 13 0 179 0 ((m 12 1).toNat)) 14 0 180 0 10), y) 0 0 48 [some (qR 178), some (qR 12)] []
  exact qJ.vret hκ rfl rfl (by decide) (by decide) (⟨rfl, (q_cpy (q_cpy (q_up (q_up m 178 0 (m 12 0)) 178 1 (m 12 1)) 13 0 179 0 ((m 12 1).toNat)) 14 0 180 0 10), rfl, (Eq.trans (keep_cp (by intro j; rfl)) (Eq.trans (keep_cp (by intro j; rfl)) (Eq.trans (keep_up (by rfl)) (Eq.trans (keep_up (by rfl)) rfl)))), (by rw [q_cpy_rw (by decide), q_cpy_rw (by decide)]; rfl), (by rw [q_cpy_rw (by decide), q_cpy_rw (by decide)]; rfl), (by rw [q_cpy_rw (by decide)]; exact cpy_ag (by rw [q_up_rw (by decide), q_up_rw (by decide)]) (rfl)), (by skip; exact cpy_ag (by rw [q_cpy_rw (by decide), q_up_rw (by decide), q_up_rw (by decide)]) (rfl))⟩)

def kJw167 : Nat → Nat → Bool := fun i j => decide ((i = 181 ∧ j = 4) ∨ i = 185 ∨ i = 186)

set_option maxRecDepth 100000 in
theorem c_csw167 (o : Option Nat × Option Nat × Option Nat) (t : List qS) (m y : qM) (k : Int)  : qCt YX4_setLines 2 0 0 [qR 181, qI k, qR 19, qR 20] (qLy (o, im125 ++ (im146 ++ (im167 ++ t))), m, y) (fun r h => r = none ∧ ∃ m', h = (qLy (o, im125 ++ (im146 ++ (im167 ++ t))), m', y) ∧ keep (kN kJw167) m' = keep (kN kJw167) m ∧ agN 18 (m 19) (m' 185) ∧ agN 18 (m 20) (m' 186) ∧ m' 181 4 = k) := by
  refine qCt.intro okX4_setLines (Nat.le_of_ble_eq_true rfl) (fun κ hκ => ?_)
  show qJ YX4_setLines κ _ (qLy (o, im125 ++ (im146 ++ (im167 ++ t))), m, y) 0 0 0 [some (qR 181), some (qI k), some (qR 19), some (qR 20)] []
  refine qJ.run hκ 2 (pc' := 2) (ls' := [some (qR 181), some (qI k), some (qR 19), some (qR 20)]) (st' := [qI k, qR 181]) rfl ?_
  refine qJ.putI hκ rfl rfl rfl rfl (Or.inl rfl) ?_
  show qJ YX4_setLines κ _ (qLy (o, im125 ++ (im146 ++ (im167 ++ t))), (q_up m 181 4 k), y) 0 0 5 [some (qR 181), some (qI k), some (qR 19), some (qR 20)] []
  refine qJ.run hκ 8 (pc' := 17) (ls' := [some (qR 181), some (qI k), some (qR 19), some (qR 20)]) (st' := [qI 18, qI 0, qR 185, qI 0, qR 19]) rfl ?_
  refine qJ.copy hκ rfl kX4_48 (Nat.le_of_ble_eq_true rfl) (Nat.le_of_ble_eq_true rfl) rfl rfl (by decide) (by decide) (by omega) (by omega) (by omega) (by omega) (by omega) (Or.inl rfl) ?_
  show qJ YX4_setLines κ _ (qLy (o, im125 ++ (im146 ++ (im167 ++ t))), (q_cpy (q_up m 181 4 k) 19 0 185 0 18), y) 0 0 20 [some (qR 181), some (qI k), some (qR 19), some (qR 20)] []
  refine qJ.run hκ 8 (pc' := 32) (ls' := [some (qR 181), some (qI k), some (qR 19), some (qR 20)]) (st' := [qI 18, qI 0, qR 186, qI 0, qR 20]) rfl ?_
  refine qJ.copy hκ rfl kX4_48 (Nat.le_of_ble_eq_true rfl) (Nat.le_of_ble_eq_true rfl) rfl rfl (by decide) (by decide) (by omega) (by omega) (by omega) (by omega) (by omega) (Or.inl rfl) ?_
  show qJ YX4_setLines κ _ (qLy (o, im125 ++ (im146 ++ (im167 ++ t))), (q_cpy (q_cpy (q_up m 181 4 k) 19 0 185 0 18) 20 0 186 0 18), y) 0 0 35 [some (qR 181), some (qI k), some (qR 19), some (qR 20)] []
  exact qJ.vret hκ rfl rfl (by decide) (by decide) (⟨rfl, (q_cpy (q_cpy (q_up m 181 4 k) 19 0 185 0 18) 20 0 186 0 18), rfl, (Eq.trans (keep_cp (by intro j; rfl)) (Eq.trans (keep_cp (by intro j; rfl)) (Eq.trans (keep_up (by rfl)) rfl))), (by rw [q_cpy_rw (by decide)]; exact cpy_ag (by rw [q_up_rw (by decide)]) (rfl)), (by skip; exact cpy_ag (by rw [q_cpy_rw (by decide), q_up_rw (by decide)]) (rfl)), (by rw [q_cpy_rw (by decide), q_cpy_rw (by decide)]; rfl)⟩)

theorem kJw167x : ∀ i j, kN kIxw167 i j = true → kN kJw167 i j = true := by
  intro i j h
  refine kN_t.mpr fun z => kN_t.mp h ?_
  unfold kJw167 at z
  unfold kIxw167
  rw [decide_eq_true_eq] at z ⊢
  omega

set_option maxRecDepth 100000 in
theorem c_cxw167 (o : Option Nat × Option Nat × Option Nat) (t : List qS) (m y : qM) (h0 : 0 ≤ m 15 0 ∧ m 15 0 ≤ 5) : qCt YX4_copyFrom 3 0 0 [qR 181, qR 15] (qLy (o, im125 ++ (im146 ++ (im167 ++ t))), m, y) (fun r h => r = none ∧ ∃ m', h = (qLy (o, im125 ++ (im146 ++ (im167 ++ t))), m', y) ∧ keep (kN kIxw167) m' = keep (kN kIxw167) m ∧ m' 181 0 = m 15 0 ∧ m' 181 4 = m 15 4 ∧ agN (m 15 0 * 10) (m 16) (m' 182) ∧ agN (m 15 0) (m 17) (m' 183) ∧ agN (m 15 0) (m 18) (m' 184) ∧ agN 18 (m 19) (m' 185) ∧ agN 18 (m 20) (m' 186)) := by
  refine qCt.intro okX4_copyFrom (Nat.le_of_ble_eq_true rfl) (fun κ hκ => ?_)
  show qJ YX4_copyFrom κ _ (qLy (o, im125 ++ (im146 ++ (im167 ++ t))), m, y) 0 0 0 [some (qR 181), some (qR 15)] []
  refine qJ.run hκ 3 (pc' := 5) (ls' := [some (qR 181), some (qR 15)]) (st' := [qI (m 15 0), qR 181]) rfl ?_
  refine qJ.putI hκ rfl rfl rfl rfl (Or.inl rfl) ?_
  show qJ YX4_copyFrom κ _ (qLy (o, im125 ++ (im146 ++ (im167 ++ t))), (q_up m 181 0 (m 15 0)), y) 0 0 8 [some (qR 181), some (qR 15)] []
  refine qJ.run hκ 10 (pc' := 25) (ls' := [some (qR 181), some (qR 15)]) (st' := [qI ((m 15 0) * 10), qI 0, qR 182, qI 0, qR 16]) rfl ?_
  refine qJ.copy hκ rfl kX4_48 (Nat.le_of_ble_eq_true rfl) (Nat.le_of_ble_eq_true rfl) rfl rfl (by decide) (by decide) (by omega) (by omega) (by omega) (by omega) (by omega) (Or.inl rfl) ?_
  show qJ YX4_copyFrom κ _ (qLy (o, im125 ++ (im146 ++ (im167 ++ t))), (q_cpy (q_up m 181 0 (m 15 0)) 16 0 182 0 (((m 15 0) * 10).toNat)), y) 0 0 28 [some (qR 181), some (qR 15)] []
  refine qJ.run hκ 8 (pc' := 42) (ls' := [some (qR 181), some (qR 15)]) (st' := [qI (m 15 0), qI 0, qR 183, qI 0, qR 17]) rfl ?_
  refine qJ.copy hκ rfl kX4_48 (Nat.le_of_ble_eq_true rfl) (Nat.le_of_ble_eq_true rfl) rfl rfl (by decide) (by decide) (by omega) (by omega) (by omega) (by omega) (by omega) (Or.inl rfl) ?_
  show qJ YX4_copyFrom κ _ (qLy (o, im125 ++ (im146 ++ (im167 ++ t))), (q_cpy (q_cpy (q_up m 181 0 (m 15 0)) 16 0 182 0 (((m 15 0) * 10).toNat)) 17 0 183 0 ((m 15 0).toNat)), y) 0 0 45 [some (qR 181), some (qR 15)] []
  refine qJ.run hκ 8 (pc' := 59) (ls' := [some (qR 181), some (qR 15)]) (st' := [qI (m 15 0), qI 0, qR 184, qI 0, qR 18]) rfl ?_
  refine qJ.copy hκ rfl kX4_48 (Nat.le_of_ble_eq_true rfl) (Nat.le_of_ble_eq_true rfl) rfl rfl (by decide) (by decide) (by omega) (by omega) (by omega) (by omega) (by omega) (Or.inl rfl) ?_
  show qJ YX4_copyFrom κ _ (qLy (o, im125 ++ (im146 ++ (im167 ++ t))), (q_cpy (q_cpy (q_cpy (q_up m 181 0 (m 15 0)) 16 0 182 0 (((m 15 0) * 10).toNat)) 17 0 183 0 ((m 15 0).toNat)) 18 0 184 0 ((m 15 0).toNat)), y) 0 0 62 [some (qR 181), some (qR 15)] []
  refine qJ.run hκ 7 (pc' := 75) (ls' := [some (qR 181), some (qR 15)]) (st' := [qR 20, qR 19, qI (m 15 4), qR 181]) rfl ?_
  refine qJ.callV (As := [qI (m 15 4), qR 19, qR 20]) (rest := []) hκ rfl kX4_54 (c_csw167 o t (q_cpy (q_cpy (q_cpy (q_up m 181 0 (m 15 0)) 16 0 182 0 (((m 15 0) * 10).toNat)) 17 0 183 0 ((m 15 0).toNat)) 18 0 184 0 ((m 15 0).toNat)) y (m 15 4)) rfl rfl (by decide) rfl rfl (Nat.le_of_ble_eq_true rfl) (Nat.le_of_ble_eq_true rfl) (Nat.le_of_ble_eq_true rfl) (Or.inl (fun r h' e => by obtain ⟨rfl, m4, rfl, K4, A19, A20, A15⟩ := e; rfl)) (fun r h' e => ?_)
  obtain ⟨rfl, m4, rfl, K4, A19, A20, A15⟩ := e
  show qJ YX4_copyFrom κ _ (qLy (o, im125 ++ (im146 ++ (im167 ++ t))), m4, y) 0 0 78 [some (qR 181), some (qR 15)] []
  exact qJ.vret hκ rfl rfl (by decide) (by decide) (⟨rfl, m4, rfl, (keep_of kJw167x K4).trans (Eq.trans (keep_cp (by intro j; rfl)) (Eq.trans (keep_cp (by intro j; rfl)) (Eq.trans (keep_cp (by intro j; rfl)) (Eq.trans (keep_up (by rfl)) rfl)))), (show m4 181 0 = (q_cpy (q_cpy (q_cpy (q_up m 181 0 (m 15 0)) 16 0 182 0 (((m 15 0) * 10).toNat)) 17 0 183 0 ((m 15 0).toNat)) 18 0 184 0 ((m 15 0).toNat)) 181 0 from congrFun (congrFun K4 181) 0).trans (by rw [q_cpy_rw (by decide), q_cpy_rw (by decide), q_cpy_rw (by decide)]; rfl), A15.trans (show (q_cpy (q_cpy (q_cpy (q_up m 181 0 (m 15 0)) 16 0 182 0 (((m 15 0) * 10).toNat)) 17 0 183 0 ((m 15 0).toNat)) 18 0 184 0 ((m 15 0).toNat)) 15 4 = m 15 4 from by rw [q_cpy_rw (by decide), q_cpy_rw (by decide), q_cpy_rw (by decide), q_up_rw (by decide)]), (by rw [show m4 182 = (q_cpy (q_cpy (q_cpy (q_up m 181 0 (m 15 0)) 16 0 182 0 (((m 15 0) * 10).toNat)) 17 0 183 0 ((m 15 0).toNat)) 18 0 184 0 ((m 15 0).toNat)) 182 from congrFun K4 182]; exact (by rw [q_cpy_rw (by decide), q_cpy_rw (by decide)]; exact cpy_ag (by rw [q_up_rw (by decide)]) (rfl))), (by rw [show m4 183 = (q_cpy (q_cpy (q_cpy (q_up m 181 0 (m 15 0)) 16 0 182 0 (((m 15 0) * 10).toNat)) 17 0 183 0 ((m 15 0).toNat)) 18 0 184 0 ((m 15 0).toNat)) 183 from congrFun K4 183]; exact (by rw [q_cpy_rw (by decide)]; exact cpy_ag (by rw [q_cpy_rw (by decide), q_up_rw (by decide)]) (rfl))), (by rw [show m4 184 = (q_cpy (q_cpy (q_cpy (q_up m 181 0 (m 15 0)) 16 0 182 0 (((m 15 0) * 10).toNat)) 17 0 183 0 ((m 15 0).toNat)) 18 0 184 0 ((m 15 0).toNat)) 184 from congrFun K4 184]; exact (by skip; exact cpy_ag (by rw [q_cpy_rw (by decide), q_cpy_rw (by decide), q_up_rw (by decide)]) (rfl))), (by have A := A19; rw [show (q_cpy (q_cpy (q_cpy (q_up m 181 0 (m 15 0)) 16 0 182 0 (((m 15 0) * 10).toNat)) 17 0 183 0 ((m 15 0).toNat)) 18 0 184 0 ((m 15 0).toNat)) 19 = m 19 from by rw [q_cpy_rw (by decide), q_cpy_rw (by decide), q_cpy_rw (by decide), q_up_rw (by decide)]] at A; exact A), (by have A := A20; rw [show (q_cpy (q_cpy (q_cpy (q_up m 181 0 (m 15 0)) 16 0 182 0 (((m 15 0) * 10).toNat)) 17 0 183 0 ((m 15 0).toNat)) 18 0 184 0 ((m 15 0).toNat)) 20 = m 20 from by rw [q_cpy_rw (by decide), q_cpy_rw (by decide), q_cpy_rw (by decide), q_up_rw (by decide)]] at A; exact A)⟩)

set_option maxRecDepth 100000 in
theorem c_ctw167 (o : Option Nat × Option Nat × Option Nat) (t : List qS) (m y : qM) (h0 : 0 ≤ m 2 0 ∧ m 2 0 ≤ 60) (h2 : 0 ≤ m 2 2 ∧ m 2 2 ≤ 150) (h12 : 0 ≤ m 12 1 ∧ m 12 1 ≤ 512) (h15 : 0 ≤ m 15 0 ∧ m 15 0 ≤ 5) (h4 : 0 ≤ m 1 4 ∧ m 1 4 ≤ 400) (hb : ∀ j : Nat, (j : Int) < m 1 4 → -128 ≤ m 21 j ∧ m 21 j ≤ 127) : qCt YX9_copyFrom 4 0 0 [qR 167, qR 1] (qLy (o, im125 ++ (im146 ++ (im167 ++ t))), m, y) (fun r h => r = none ∧ ∃ m', h = (qLy (o, im125 ++ (im146 ++ (im167 ++ t))), m', y) ∧ keep (kN kIw167) m' = keep (kN kIw167) m ∧ (m' 167 4 = m 1 4 ∧ m' 167 5 = m 1 5 ∧ m' 167 6 = m 1 6 ∧ m' 167 7 = m 1 7 ∧ m' 167 8 = m 1 8 ∧ m' 167 9 = m 1 9) ∧ (m' 168 0 = m 2 0 ∧ m' 168 1 = m 2 1 ∧ m' 168 2 = m 2 2) ∧ (agN (m 2 0 * 5) (m 3) (m' 169) ∧ agN (m 2 0) (m 4) (m' 170) ∧ agN (m 2 0) (m 5) (m' 171) ∧ agN (m 2 0) (m 6) (m' 172) ∧ agN (m 2 0) (m 7) (m' 173) ∧ agN (m 2 0) (m 8) (m' 174)) ∧ (agN (m 2 2) (m 9) (m' 175) ∧ agN (m 2 2) (m 10) (m' 176) ∧ agN (m 2 2) (m 11) (m' 177)) ∧ (m' 178 0 = m 12 0 ∧ m' 178 1 = m 12 1 ∧ agN (m 12 1) (m 13) (m' 179) ∧ agN 10 (m 14) (m' 180)) ∧ (m' 181 0 = m 15 0 ∧ m' 181 4 = m 15 4 ∧ agN (m 15 0 * 10) (m 16) (m' 182) ∧ agN (m 15 0) (m 17) (m' 183) ∧ agN (m 15 0) (m 18) (m' 184) ∧ agN 18 (m 19) (m' 185) ∧ agN 18 (m 20) (m' 186)) ∧ agN (m 1 4) (m 21) (m' 187)) := by
  refine qCt.intro okX9_copyFrom (Nat.le_of_ble_eq_true rfl) (fun κ hκ => ?_)
  show qJ YX9_copyFrom κ _ (qLy (o, im125 ++ (im146 ++ (im167 ++ t))), m, y) 0 0 0 [some (qR 167), some (qR 1)] []
  refine qJ.run hκ 4 (pc' := 8) (ls' := [some (qR 167), some (qR 1)]) (st' := [qR 2, qR 168]) rfl ?_
  refine qJ.callV (As := [qR 2]) (rest := []) hκ rfl kX9_63 (c_ccw167 o t m y h0 h2) rfl rfl (by decide) rfl rfl (Nat.le_of_ble_eq_true rfl) (Nat.le_of_ble_eq_true rfl) (Nat.le_of_ble_eq_true rfl) (Or.inl (fun r h' e => by obtain ⟨rfl, m1, rfl, K1, P0, P1, P2, P3, P4, P5, P6, P7, P8, P9, P10, P11⟩ := e; rfl)) (fun r h' e => ?_)
  obtain ⟨rfl, m1, rfl, K1, P0, P1, P2, P3, P4, P5, P6, P7, P8, P9, P10, P11⟩ := e
  show qJ YX9_copyFrom κ _ (qLy (o, im125 ++ (im146 ++ (im167 ++ t))), m1, y) 0 0 11 [some (qR 167), some (qR 1)] []
  refine qJ.run hκ 4 (pc' := 19) (ls' := [some (qR 167), some (qR 1)]) (st' := [qR 12, qR 178]) rfl ?_
  refine qJ.callV (As := [qR 12]) (rest := []) hκ rfl kX9_67 (c_clw167 o t m1 y (by rw [show m1 12 = m 12 from congrFun K1 12]; exact h12)) rfl rfl (by decide) rfl rfl (Nat.le_of_ble_eq_true rfl) (Nat.le_of_ble_eq_true rfl) (Nat.le_of_ble_eq_true rfl) (Or.inl (fun r h' e => by obtain ⟨rfl, m2, rfl, K2, Q0, Q1, Q2, Q3⟩ := e; rfl)) (fun r h' e => ?_)
  obtain ⟨rfl, m2, rfl, K2, Q0, Q1, Q2, Q3⟩ := e
  rw [show m1 12 = m 12 from congrFun K1 12] at Q0 Q1 Q2
  rw [show m1 13 = m 13 from congrFun K1 13] at Q2
  rw [show m1 14 = m 14 from congrFun K1 14] at Q3
  show qJ YX9_copyFrom κ _ (qLy (o, im125 ++ (im146 ++ (im167 ++ t))), m2, y) 0 0 22 [some (qR 167), some (qR 1)] []
  refine qJ.run hκ 4 (pc' := 30) (ls' := [some (qR 167), some (qR 1)]) (st' := [qR 15, qR 181]) rfl ?_
  refine qJ.callV (As := [qR 15]) (rest := []) hκ rfl kX9_70 (c_cxw167 o t m2 y (by rw [show m2 15 = m 15 from (congrFun K2 15).trans (congrFun K1 15)]; exact h15)) rfl rfl (by decide) rfl rfl (Nat.le_of_ble_eq_true rfl) (Nat.le_of_ble_eq_true rfl) (Nat.le_of_ble_eq_true rfl) (Or.inl (fun r h' e => by obtain ⟨rfl, m3, rfl, K3, R0, R1, R2, R3, R4, R5, R6⟩ := e; rfl)) (fun r h' e => ?_)
  obtain ⟨rfl, m3, rfl, K3, R0, R1, R2, R3, R4, R5, R6⟩ := e
  rw [show m2 15 = m 15 from (congrFun K2 15).trans (congrFun K1 15)] at R0 R1 R2 R3 R4
  rw [show m2 16 = m 16 from (congrFun K2 16).trans (congrFun K1 16)] at R2
  rw [show m2 17 = m 17 from (congrFun K2 17).trans (congrFun K1 17)] at R3
  rw [show m2 18 = m 18 from (congrFun K2 18).trans (congrFun K1 18)] at R4
  rw [show m2 19 = m 19 from (congrFun K2 19).trans (congrFun K1 19)] at R5
  rw [show m2 20 = m 20 from (congrFun K2 20).trans (congrFun K1 20)] at R6
  have e1 : m3 1 = m 1 := (congrFun K3 1).trans ((congrFun K2 1).trans (congrFun K1 1))
  have e21 : m3 21 = m 21 := (congrFun K3 21).trans ((congrFun K2 21).trans (congrFun K1 21))
  have e4 : m3 1 4 = m 1 4 := by rw [e1]
  show qJ YX9_copyFrom κ _ (qLy (o, im125 ++ (im146 ++ (im167 ++ t))), m3, y) 0 0 33 [some (qR 167), some (qR 1)] []
  refine qJ.run hκ 8 (pc' := 47) (ls' := [some (qR 167), some (qR 1)]) (st' := [qI (m3 1 4), qI 0, qR 187, qI 0, qR 21]) rfl ?_
  refine qJ.copy hκ rfl kX9_73 (Nat.le_of_ble_eq_true rfl) (Nat.le_of_ble_eq_true rfl) rfl rfl (by decide) (by decide) (by omega) (by omega) (by omega) (by omega) (by omega) (Or.inr ⟨rfl, fun i hi => by show -128 ≤ m3 21 (0 + i) ∧ m3 21 (0 + i) ≤ 127; rw [Nat.zero_add, e21]; exact hb i (by omega)⟩) ?_
  show qJ YX9_copyFrom κ _ (qLy (o, im125 ++ (im146 ++ (im167 ++ t))), (q_cpy m3 21 0 187 0 ((m3 1 4).toNat)), y) 0 0 50 [some (qR 167), some (qR 1)] []
  refine qJ.run hκ 3 (pc' := 55) (ls' := [some (qR 167), some (qR 1)]) (st' := [qI (m3 1 4), qR 167]) rfl ?_
  refine qJ.putI hκ rfl rfl rfl rfl (Or.inl rfl) ?_
  show qJ YX9_copyFrom κ _ (qLy (o, im125 ++ (im146 ++ (im167 ++ t))), (q_up (q_cpy m3 21 0 187 0 ((m3 1 4).toNat)) 167 4 (m3 1 4)), y) 0 0 58 [some (qR 167), some (qR 1)] []
  refine qJ.run hκ 3 (pc' := 63) (ls' := [some (qR 167), some (qR 1)]) (st' := [qI (m3 1 5), qR 167]) rfl ?_
  refine qJ.putI hκ rfl rfl rfl rfl (Or.inl rfl) ?_
  show qJ YX9_copyFrom κ _ (qLy (o, im125 ++ (im146 ++ (im167 ++ t))), (q_up (q_up (q_cpy m3 21 0 187 0 ((m3 1 4).toNat)) 167 4 (m3 1 4)) 167 5 (m3 1 5)), y) 0 0 66 [some (qR 167), some (qR 1)] []
  refine qJ.run hκ 3 (pc' := 71) (ls' := [some (qR 167), some (qR 1)]) (st' := [qI (m3 1 6), qR 167]) rfl ?_
  refine qJ.putI hκ rfl rfl rfl rfl (Or.inl rfl) ?_
  show qJ YX9_copyFrom κ _ (qLy (o, im125 ++ (im146 ++ (im167 ++ t))), (q_up (q_up (q_up (q_cpy m3 21 0 187 0 ((m3 1 4).toNat)) 167 4 (m3 1 4)) 167 5 (m3 1 5)) 167 6 (m3 1 6)), y) 0 0 74 [some (qR 167), some (qR 1)] []
  refine qJ.run hκ 3 (pc' := 79) (ls' := [some (qR 167), some (qR 1)]) (st' := [qI (m3 1 7), qR 167]) rfl ?_
  refine qJ.putI hκ rfl rfl rfl rfl (Or.inl rfl) ?_
  show qJ YX9_copyFrom κ _ (qLy (o, im125 ++ (im146 ++ (im167 ++ t))), (q_up (q_up (q_up (q_up (q_cpy m3 21 0 187 0 ((m3 1 4).toNat)) 167 4 (m3 1 4)) 167 5 (m3 1 5)) 167 6 (m3 1 6)) 167 7 (m3 1 7)), y) 0 0 82 [some (qR 167), some (qR 1)] []
  refine qJ.run hκ 3 (pc' := 87) (ls' := [some (qR 167), some (qR 1)]) (st' := [qI (m3 1 8), qR 167]) rfl ?_
  refine qJ.putI hκ rfl rfl rfl rfl (Or.inl rfl) ?_
  show qJ YX9_copyFrom κ _ (qLy (o, im125 ++ (im146 ++ (im167 ++ t))), (q_up (q_up (q_up (q_up (q_up (q_cpy m3 21 0 187 0 ((m3 1 4).toNat)) 167 4 (m3 1 4)) 167 5 (m3 1 5)) 167 6 (m3 1 6)) 167 7 (m3 1 7)) 167 8 (m3 1 8)), y) 0 0 90 [some (qR 167), some (qR 1)] []
  refine qJ.run hκ 3 (pc' := 95) (ls' := [some (qR 167), some (qR 1)]) (st' := [qI (m3 1 9), qR 167]) rfl ?_
  refine qJ.putI hκ rfl rfl rfl rfl (Or.inl rfl) ?_
  show qJ YX9_copyFrom κ _ (qLy (o, im125 ++ (im146 ++ (im167 ++ t))), (q_up (q_up (q_up (q_up (q_up (q_up (q_cpy m3 21 0 187 0 ((m3 1 4).toNat)) 167 4 (m3 1 4)) 167 5 (m3 1 5)) 167 6 (m3 1 6)) 167 7 (m3 1 7)) 167 8 (m3 1 8)) 167 9 (m3 1 9)), y) 0 0 98 [some (qR 167), some (qR 1)] []
  exact qJ.vret hκ rfl rfl (by decide) (by decide) (⟨rfl, (q_up (q_up (q_up (q_up (q_up (q_up (q_cpy m3 21 0 187 0 ((m3 1 4).toNat)) 167 4 (m3 1 4)) 167 5 (m3 1 5)) 167 6 (m3 1 6)) 167 7 (m3 1 7)) 167 8 (m3 1 8)) 167 9 (m3 1 9)), rfl, (Eq.trans (keep_up (by rfl)) (Eq.trans (keep_up (by rfl)) (Eq.trans (keep_up (by rfl)) (Eq.trans (keep_up (by rfl)) (Eq.trans (keep_up (by rfl)) (Eq.trans (keep_up (by rfl)) (Eq.trans (keep_cp (by intro j; rfl)) ((keep_of kIxw167x K3).trans ((keep_of kIlw167x K2).trans (keep_of kIcw167x K1)))))))))), ⟨(by skip; exact congrFun e1 4), (by skip; exact congrFun e1 5), (by skip; exact congrFun e1 6), (by skip; exact congrFun e1 7), (by skip; exact congrFun e1 8), (by skip; exact congrFun e1 9)⟩, ⟨(by rw [q_up_rw (by decide), q_up_rw (by decide), q_up_rw (by decide), q_up_rw (by decide), q_up_rw (by decide), q_up_rw (by decide), q_cpy_rw (by decide)]; rw [show m3 168 = m1 168 from (congrFun K3 168).trans (congrFun K2 168)]; exact P0), (by rw [q_up_rw (by decide), q_up_rw (by decide), q_up_rw (by decide), q_up_rw (by decide), q_up_rw (by decide), q_up_rw (by decide), q_cpy_rw (by decide)]; rw [show m3 168 = m1 168 from (congrFun K3 168).trans (congrFun K2 168)]; exact P1), (by rw [q_up_rw (by decide), q_up_rw (by decide), q_up_rw (by decide), q_up_rw (by decide), q_up_rw (by decide), q_up_rw (by decide), q_cpy_rw (by decide)]; rw [show m3 168 = m1 168 from (congrFun K3 168).trans (congrFun K2 168)]; exact P2)⟩, ⟨(by rw [q_up_rw (by decide), q_up_rw (by decide), q_up_rw (by decide), q_up_rw (by decide), q_up_rw (by decide), q_up_rw (by decide), q_cpy_rw (by decide)]; rw [show m3 169 = m1 169 from (congrFun K3 169).trans (congrFun K2 169)]; exact P3), (by rw [q_up_rw (by decide), q_up_rw (by decide), q_up_rw (by decide), q_up_rw (by decide), q_up_rw (by decide), q_up_rw (by decide), q_cpy_rw (by decide)]; rw [show m3 170 = m1 170 from (congrFun K3 170).trans (congrFun K2 170)]; exact P4), (by rw [q_up_rw (by decide), q_up_rw (by decide), q_up_rw (by decide), q_up_rw (by decide), q_up_rw (by decide), q_up_rw (by decide), q_cpy_rw (by decide)]; rw [show m3 171 = m1 171 from (congrFun K3 171).trans (congrFun K2 171)]; exact P5), (by rw [q_up_rw (by decide), q_up_rw (by decide), q_up_rw (by decide), q_up_rw (by decide), q_up_rw (by decide), q_up_rw (by decide), q_cpy_rw (by decide)]; rw [show m3 172 = m1 172 from (congrFun K3 172).trans (congrFun K2 172)]; exact P6), (by rw [q_up_rw (by decide), q_up_rw (by decide), q_up_rw (by decide), q_up_rw (by decide), q_up_rw (by decide), q_up_rw (by decide), q_cpy_rw (by decide)]; rw [show m3 173 = m1 173 from (congrFun K3 173).trans (congrFun K2 173)]; exact P7), (by rw [q_up_rw (by decide), q_up_rw (by decide), q_up_rw (by decide), q_up_rw (by decide), q_up_rw (by decide), q_up_rw (by decide), q_cpy_rw (by decide)]; rw [show m3 174 = m1 174 from (congrFun K3 174).trans (congrFun K2 174)]; exact P8)⟩, ⟨(by rw [q_up_rw (by decide), q_up_rw (by decide), q_up_rw (by decide), q_up_rw (by decide), q_up_rw (by decide), q_up_rw (by decide), q_cpy_rw (by decide)]; rw [show m3 175 = m1 175 from (congrFun K3 175).trans (congrFun K2 175)]; exact P9), (by rw [q_up_rw (by decide), q_up_rw (by decide), q_up_rw (by decide), q_up_rw (by decide), q_up_rw (by decide), q_up_rw (by decide), q_cpy_rw (by decide)]; rw [show m3 176 = m1 176 from (congrFun K3 176).trans (congrFun K2 176)]; exact P10), (by rw [q_up_rw (by decide), q_up_rw (by decide), q_up_rw (by decide), q_up_rw (by decide), q_up_rw (by decide), q_up_rw (by decide), q_cpy_rw (by decide)]; rw [show m3 177 = m1 177 from (congrFun K3 177).trans (congrFun K2 177)]; exact P11)⟩, ⟨(by rw [q_up_rw (by decide), q_up_rw (by decide), q_up_rw (by decide), q_up_rw (by decide), q_up_rw (by decide), q_up_rw (by decide), q_cpy_rw (by decide)]; rw [show m3 178 = m2 178 from congrFun K3 178]; exact Q0), (by rw [q_up_rw (by decide), q_up_rw (by decide), q_up_rw (by decide), q_up_rw (by decide), q_up_rw (by decide), q_up_rw (by decide), q_cpy_rw (by decide)]; rw [show m3 178 = m2 178 from congrFun K3 178]; exact Q1), (by rw [q_up_rw (by decide), q_up_rw (by decide), q_up_rw (by decide), q_up_rw (by decide), q_up_rw (by decide), q_up_rw (by decide), q_cpy_rw (by decide)]; rw [show m3 179 = m2 179 from congrFun K3 179]; exact Q2), (by rw [q_up_rw (by decide), q_up_rw (by decide), q_up_rw (by decide), q_up_rw (by decide), q_up_rw (by decide), q_up_rw (by decide), q_cpy_rw (by decide)]; rw [show m3 180 = m2 180 from congrFun K3 180]; exact Q3)⟩, ⟨(by rw [q_up_rw (by decide), q_up_rw (by decide), q_up_rw (by decide), q_up_rw (by decide), q_up_rw (by decide), q_up_rw (by decide), q_cpy_rw (by decide)]; exact R0), (by rw [q_up_rw (by decide), q_up_rw (by decide), q_up_rw (by decide), q_up_rw (by decide), q_up_rw (by decide), q_up_rw (by decide), q_cpy_rw (by decide)]; exact R1), (by rw [q_up_rw (by decide), q_up_rw (by decide), q_up_rw (by decide), q_up_rw (by decide), q_up_rw (by decide), q_up_rw (by decide), q_cpy_rw (by decide)]; exact R2), (by rw [q_up_rw (by decide), q_up_rw (by decide), q_up_rw (by decide), q_up_rw (by decide), q_up_rw (by decide), q_up_rw (by decide), q_cpy_rw (by decide)]; exact R3), (by rw [q_up_rw (by decide), q_up_rw (by decide), q_up_rw (by decide), q_up_rw (by decide), q_up_rw (by decide), q_up_rw (by decide), q_cpy_rw (by decide)]; exact R4), (by rw [q_up_rw (by decide), q_up_rw (by decide), q_up_rw (by decide), q_up_rw (by decide), q_up_rw (by decide), q_up_rw (by decide), q_cpy_rw (by decide)]; exact R5), (by rw [q_up_rw (by decide), q_up_rw (by decide), q_up_rw (by decide), q_up_rw (by decide), q_up_rw (by decide), q_up_rw (by decide), q_cpy_rw (by decide)]; exact R6)⟩, (by rw [q_up_rw (by decide), q_up_rw (by decide), q_up_rw (by decide), q_up_rw (by decide), q_up_rw (by decide), q_up_rw (by decide)]; exact cpy_ag (E := m3) (by skip; exact e21) (by rw [e4]))⟩)

def kIr167 : Nat → Nat → Bool := fun i _ => decide (1 ≤ i ∧ i ≤ 21)

def kIcr167 : Nat → Nat → Bool := fun i _ => decide (2 ≤ i ∧ i ≤ 11)

def kIlr167 : Nat → Nat → Bool := fun i _ => decide (12 ≤ i ∧ i ≤ 14)

def kIxr167 : Nat → Nat → Bool := fun i _ => decide (15 ≤ i ∧ i ≤ 20)

theorem kIcr167x : ∀ i j, kN kIr167 i j = true → kN kIcr167 i j = true := by
  intro i j h
  refine kN_t.mpr fun z => kN_t.mp h ?_
  unfold kIcr167 at z
  unfold kIr167
  rw [decide_eq_true_eq] at z ⊢
  omega

theorem kIlr167x : ∀ i j, kN kIr167 i j = true → kN kIlr167 i j = true := by
  intro i j h
  refine kN_t.mpr fun z => kN_t.mp h ?_
  unfold kIlr167 at z
  unfold kIr167
  rw [decide_eq_true_eq] at z ⊢
  omega

theorem kIxr167x : ∀ i j, kN kIr167 i j = true → kN kIxr167 i j = true := by
  intro i j h
  refine kN_t.mpr fun z => kN_t.mp h ?_
  unfold kIxr167 at z
  unfold kIr167
  rw [decide_eq_true_eq] at z ⊢
  omega

set_option maxRecDepth 100000 in
theorem c_ccr167 (o : Option Nat × Option Nat × Option Nat) (t : List qS) (m y : qM) (h0 : 0 ≤ m 168 0 ∧ m 168 0 ≤ 60) (h2 : 0 ≤ m 168 2 ∧ m 168 2 ≤ 150) : qCt YX1_copyFrom 2 0 0 [qR 2, qR 168] (qLy (o, im125 ++ (im146 ++ (im167 ++ t))), m, y) (fun r h => r = none ∧ ∃ m', h = (qLy (o, im125 ++ (im146 ++ (im167 ++ t))), m', y) ∧ keep (kN kIcr167) m' = keep (kN kIcr167) m ∧ m' 2 0 = m 168 0 ∧ m' 2 1 = m 168 1 ∧ m' 2 2 = m 168 2 ∧ agN (m 168 0 * 5) (m 169) (m' 3) ∧ agN (m 168 0) (m 170) (m' 4) ∧ agN (m 168 0) (m 171) (m' 5) ∧ agN (m 168 0) (m 172) (m' 6) ∧ agN (m 168 0) (m 173) (m' 7) ∧ agN (m 168 0) (m 174) (m' 8) ∧ agN (m 168 2) (m 175) (m' 9) ∧ agN (m 168 2) (m 176) (m' 10) ∧ agN (m 168 2) (m 177) (m' 11)) := by
  refine qCt.intro okX1_copyFrom (Nat.le_of_ble_eq_true rfl) (fun κ hκ => ?_)
  show qJ YX1_copyFrom κ _ (qLy (o, im125 ++ (im146 ++ (im167 ++ t))), m, y) 0 0 0 [some (qR 2), some (qR 168)] []
  refine qJ.run hκ 3 (pc' := 5) (ls' := [some (qR 2), some (qR 168)]) (st' := [qI (m 168 0), qR 2]) rfl ?_
  refine qJ.putI hκ rfl rfl rfl rfl (Or.inl rfl) ?_
  show qJ YX1_copyFrom κ _ (qLy (o, im125 ++ (im146 ++ (im167 ++ t))), (q_up m 2 0 (m 168 0)), y) 0 0 8 [some (qR 2), some (qR 168)] []
  refine qJ.run hκ 3 (pc' := 13) (ls' := [some (qR 2), some (qR 168)]) (st' := [qI (m 168 1), qR 2]) rfl ?_
  refine qJ.putI hκ rfl rfl rfl rfl (Or.inl rfl) ?_
  show qJ YX1_copyFrom κ _ (qLy (o, im125 ++ (im146 ++ (im167 ++ t))), (q_up (q_up m 2 0 (m 168 0)) 2 1 (m 168 1)), y) 0 0 16 [some (qR 2), some (qR 168)] []
  refine qJ.run hκ 3 (pc' := 21) (ls' := [some (qR 2), some (qR 168)]) (st' := [qI (m 168 2), qR 2]) rfl ?_
  refine qJ.putI hκ rfl rfl rfl rfl (Or.inl rfl) ?_
  show qJ YX1_copyFrom κ _ (qLy (o, im125 ++ (im146 ++ (im167 ++ t))), (q_up (q_up (q_up m 2 0 (m 168 0)) 2 1 (m 168 1)) 2 2 (m 168 2)), y) 0 0 24 [some (qR 2), some (qR 168)] []
  refine qJ.run hκ 10 (pc' := 40) (ls' := [some (qR 2), some (qR 168)]) (st' := [qI ((m 168 0) * 5), qI 0, qR 3, qI 0, qR 169]) rfl ?_
  refine qJ.copy hκ rfl kX1_75 (Nat.le_of_ble_eq_true rfl) (Nat.le_of_ble_eq_true rfl) rfl rfl (by decide) (by decide) (by omega) (by omega) (by omega) (by omega) (by omega) (Or.inl rfl) ?_
  show qJ YX1_copyFrom κ _ (qLy (o, im125 ++ (im146 ++ (im167 ++ t))), (q_cpy (q_up (q_up (q_up m 2 0 (m 168 0)) 2 1 (m 168 1)) 2 2 (m 168 2)) 169 0 3 0 (((m 168 0) * 5).toNat)), y) 0 0 43 [some (qR 2), some (qR 168)] []
  refine qJ.run hκ 8 (pc' := 57) (ls' := [some (qR 2), some (qR 168)]) (st' := [qI (m 168 0), qI 0, qR 4, qI 0, qR 170]) rfl ?_
  refine qJ.copy hκ rfl kX1_75 (Nat.le_of_ble_eq_true rfl) (Nat.le_of_ble_eq_true rfl) rfl rfl (by decide) (by decide) (by omega) (by omega) (by omega) (by omega) (by omega) (Or.inl rfl) ?_
  show qJ YX1_copyFrom κ _ (qLy (o, im125 ++ (im146 ++ (im167 ++ t))), (q_cpy (q_cpy (q_up (q_up (q_up m 2 0 (m 168 0)) 2 1 (m 168 1)) 2 2 (m 168 2)) 169 0 3 0 (((m 168 0) * 5).toNat)) 170 0 4 0 ((m 168 0).toNat)), y) 0 0 60 [some (qR 2), some (qR 168)] []
  refine qJ.run hκ 8 (pc' := 74) (ls' := [some (qR 2), some (qR 168)]) (st' := [qI (m 168 0), qI 0, qR 5, qI 0, qR 171]) rfl ?_
  refine qJ.copy hκ rfl kX1_75 (Nat.le_of_ble_eq_true rfl) (Nat.le_of_ble_eq_true rfl) rfl rfl (by decide) (by decide) (by omega) (by omega) (by omega) (by omega) (by omega) (Or.inl rfl) ?_
  show qJ YX1_copyFrom κ _ (qLy (o, im125 ++ (im146 ++ (im167 ++ t))), (q_cpy (q_cpy (q_cpy (q_up (q_up (q_up m 2 0 (m 168 0)) 2 1 (m 168 1)) 2 2 (m 168 2)) 169 0 3 0 (((m 168 0) * 5).toNat)) 170 0 4 0 ((m 168 0).toNat)) 171 0 5 0 ((m 168 0).toNat)), y) 0 0 77 [some (qR 2), some (qR 168)] []
  refine qJ.run hκ 8 (pc' := 91) (ls' := [some (qR 2), some (qR 168)]) (st' := [qI (m 168 0), qI 0, qR 6, qI 0, qR 172]) rfl ?_
  refine qJ.copy hκ rfl kX1_75 (Nat.le_of_ble_eq_true rfl) (Nat.le_of_ble_eq_true rfl) rfl rfl (by decide) (by decide) (by omega) (by omega) (by omega) (by omega) (by omega) (Or.inl rfl) ?_
  show qJ YX1_copyFrom κ _ (qLy (o, im125 ++ (im146 ++ (im167 ++ t))), (q_cpy (q_cpy (q_cpy (q_cpy (q_up (q_up (q_up m 2 0 (m 168 0)) 2 1 (m 168 1)) 2 2 (m 168 2)) 169 0 3 0 (((m 168 0) * 5).toNat)) 170 0 4 0 ((m 168 0).toNat)) 171 0 5 0 ((m 168 0).toNat)) 172 0 6 0 ((m 168 0).toNat)), y) 0 0 94 [some (qR 2), some (qR 168)] []
  refine qJ.run hκ 8 (pc' := 108) (ls' := [some (qR 2), some (qR 168)]) (st' := [qI (m 168 0), qI 0, qR 7, qI 0, qR 173]) rfl ?_
  refine qJ.copy hκ rfl kX1_75 (Nat.le_of_ble_eq_true rfl) (Nat.le_of_ble_eq_true rfl) rfl rfl (by decide) (by decide) (by omega) (by omega) (by omega) (by omega) (by omega) (Or.inl rfl) ?_
  show qJ YX1_copyFrom κ _ (qLy (o, im125 ++ (im146 ++ (im167 ++ t))), (q_cpy (q_cpy (q_cpy (q_cpy (q_cpy (q_up (q_up (q_up m 2 0 (m 168 0)) 2 1 (m 168 1)) 2 2 (m 168 2)) 169 0 3 0 (((m 168 0) * 5).toNat)) 170 0 4 0 ((m 168 0).toNat)) 171 0 5 0 ((m 168 0).toNat)) 172 0 6 0 ((m 168 0).toNat)) 173 0 7 0 ((m 168 0).toNat)), y) 0 0 111 [some (qR 2), some (qR 168)] []
  refine qJ.run hκ 8 (pc' := 125) (ls' := [some (qR 2), some (qR 168)]) (st' := [qI (m 168 0), qI 0, qR 8, qI 0, qR 174]) rfl ?_
  refine qJ.copy hκ rfl kX1_75 (Nat.le_of_ble_eq_true rfl) (Nat.le_of_ble_eq_true rfl) rfl rfl (by decide) (by decide) (by omega) (by omega) (by omega) (by omega) (by omega) (Or.inl rfl) ?_
  show qJ YX1_copyFrom κ _ (qLy (o, im125 ++ (im146 ++ (im167 ++ t))), (q_cpy (q_cpy (q_cpy (q_cpy (q_cpy (q_cpy (q_up (q_up (q_up m 2 0 (m 168 0)) 2 1 (m 168 1)) 2 2 (m 168 2)) 169 0 3 0 (((m 168 0) * 5).toNat)) 170 0 4 0 ((m 168 0).toNat)) 171 0 5 0 ((m 168 0).toNat)) 172 0 6 0 ((m 168 0).toNat)) 173 0 7 0 ((m 168 0).toNat)) 174 0 8 0 ((m 168 0).toNat)), y) 0 0 128 [some (qR 2), some (qR 168)] []
  refine qJ.run hκ 8 (pc' := 142) (ls' := [some (qR 2), some (qR 168)]) (st' := [qI (m 168 2), qI 0, qR 9, qI 0, qR 175]) rfl ?_
  refine qJ.copy hκ rfl kX1_75 (Nat.le_of_ble_eq_true rfl) (Nat.le_of_ble_eq_true rfl) rfl rfl (by decide) (by decide) (by omega) (by omega) (by omega) (by omega) (by omega) (Or.inl rfl) ?_
  show qJ YX1_copyFrom κ _ (qLy (o, im125 ++ (im146 ++ (im167 ++ t))), (q_cpy (q_cpy (q_cpy (q_cpy (q_cpy (q_cpy (q_cpy (q_up (q_up (q_up m 2 0 (m 168 0)) 2 1 (m 168 1)) 2 2 (m 168 2)) 169 0 3 0 (((m 168 0) * 5).toNat)) 170 0 4 0 ((m 168 0).toNat)) 171 0 5 0 ((m 168 0).toNat)) 172 0 6 0 ((m 168 0).toNat)) 173 0 7 0 ((m 168 0).toNat)) 174 0 8 0 ((m 168 0).toNat)) 175 0 9 0 ((m 168 2).toNat)), y) 0 0 145 [some (qR 2), some (qR 168)] []
  refine qJ.run hκ 8 (pc' := 159) (ls' := [some (qR 2), some (qR 168)]) (st' := [qI (m 168 2), qI 0, qR 10, qI 0, qR 176]) rfl ?_
  refine qJ.copy hκ rfl kX1_75 (Nat.le_of_ble_eq_true rfl) (Nat.le_of_ble_eq_true rfl) rfl rfl (by decide) (by decide) (by omega) (by omega) (by omega) (by omega) (by omega) (Or.inl rfl) ?_
  show qJ YX1_copyFrom κ _ (qLy (o, im125 ++ (im146 ++ (im167 ++ t))), (q_cpy (q_cpy (q_cpy (q_cpy (q_cpy (q_cpy (q_cpy (q_cpy (q_up (q_up (q_up m 2 0 (m 168 0)) 2 1 (m 168 1)) 2 2 (m 168 2)) 169 0 3 0 (((m 168 0) * 5).toNat)) 170 0 4 0 ((m 168 0).toNat)) 171 0 5 0 ((m 168 0).toNat)) 172 0 6 0 ((m 168 0).toNat)) 173 0 7 0 ((m 168 0).toNat)) 174 0 8 0 ((m 168 0).toNat)) 175 0 9 0 ((m 168 2).toNat)) 176 0 10 0 ((m 168 2).toNat)), y) 0 0 162 [some (qR 2), some (qR 168)] []
  refine qJ.run hκ 8 (pc' := 176) (ls' := [some (qR 2), some (qR 168)]) (st' := [qI (m 168 2), qI 0, qR 11, qI 0, qR 177]) rfl ?_
  refine qJ.copy hκ rfl kX1_75 (Nat.le_of_ble_eq_true rfl) (Nat.le_of_ble_eq_true rfl) rfl rfl (by decide) (by decide) (by omega) (by omega) (by omega) (by omega) (by omega) (Or.inl rfl) ?_
  show qJ YX1_copyFrom κ _ (qLy (o, im125 ++ (im146 ++ (im167 ++ t))), (q_cpy (q_cpy (q_cpy (q_cpy (q_cpy (q_cpy (q_cpy (q_cpy (q_cpy (q_up (q_up (q_up m 2 0 (m 168 0)) 2 1 (m 168 1)) 2 2 (m 168 2)) 169 0 3 0 (((m 168 0) * 5).toNat)) 170 0 4 0 ((m 168 0).toNat)) 171 0 5 0 ((m 168 0).toNat)) 172 0 6 0 ((m 168 0).toNat)) 173 0 7 0 ((m 168 0).toNat)) 174 0 8 0 ((m 168 0).toNat)) 175 0 9 0 ((m 168 2).toNat)) 176 0 10 0 ((m 168 2).toNat)) 177 0 11 0 ((m 168 2).toNat)), y) 0 0 179 [some (qR 2), some (qR 168)] []
  exact qJ.vret hκ rfl rfl (by decide) (by decide) (⟨rfl, (q_cpy (q_cpy (q_cpy (q_cpy (q_cpy (q_cpy (q_cpy (q_cpy (q_cpy (q_up (q_up (q_up m 2 0 (m 168 0)) 2 1 (m 168 1)) 2 2 (m 168 2)) 169 0 3 0 (((m 168 0) * 5).toNat)) 170 0 4 0 ((m 168 0).toNat)) 171 0 5 0 ((m 168 0).toNat)) 172 0 6 0 ((m 168 0).toNat)) 173 0 7 0 ((m 168 0).toNat)) 174 0 8 0 ((m 168 0).toNat)) 175 0 9 0 ((m 168 2).toNat)) 176 0 10 0 ((m 168 2).toNat)) 177 0 11 0 ((m 168 2).toNat)), rfl, (Eq.trans (keep_cp (by intro j; rfl)) (Eq.trans (keep_cp (by intro j; rfl)) (Eq.trans (keep_cp (by intro j; rfl)) (Eq.trans (keep_cp (by intro j; rfl)) (Eq.trans (keep_cp (by intro j; rfl)) (Eq.trans (keep_cp (by intro j; rfl)) (Eq.trans (keep_cp (by intro j; rfl)) (Eq.trans (keep_cp (by intro j; rfl)) (Eq.trans (keep_cp (by intro j; rfl)) (Eq.trans (keep_up (by rfl)) (Eq.trans (keep_up (by rfl)) (Eq.trans (keep_up (by rfl)) rfl)))))))))))), (by rw [q_cpy_rw (by decide), q_cpy_rw (by decide), q_cpy_rw (by decide), q_cpy_rw (by decide), q_cpy_rw (by decide), q_cpy_rw (by decide), q_cpy_rw (by decide), q_cpy_rw (by decide), q_cpy_rw (by decide)]; rfl), (by rw [q_cpy_rw (by decide), q_cpy_rw (by decide), q_cpy_rw (by decide), q_cpy_rw (by decide), q_cpy_rw (by decide), q_cpy_rw (by decide), q_cpy_rw (by decide), q_cpy_rw (by decide), q_cpy_rw (by decide)]; rfl), (by rw [q_cpy_rw (by decide), q_cpy_rw (by decide), q_cpy_rw (by decide), q_cpy_rw (by decide), q_cpy_rw (by decide), q_cpy_rw (by decide), q_cpy_rw (by decide), q_cpy_rw (by decide), q_cpy_rw (by decide)]; rfl), (by rw [q_cpy_rw (by decide), q_cpy_rw (by decide), q_cpy_rw (by decide), q_cpy_rw (by decide), q_cpy_rw (by decide), q_cpy_rw (by decide), q_cpy_rw (by decide), q_cpy_rw (by decide)]; exact cpy_ag (by rw [q_up_rw (by decide), q_up_rw (by decide), q_up_rw (by decide)]) (rfl)), (by rw [q_cpy_rw (by decide), q_cpy_rw (by decide), q_cpy_rw (by decide), q_cpy_rw (by decide), q_cpy_rw (by decide), q_cpy_rw (by decide), q_cpy_rw (by decide)]; exact cpy_ag (by rw [q_cpy_rw (by decide), q_up_rw (by decide), q_up_rw (by decide), q_up_rw (by decide)]) (rfl)), (by rw [q_cpy_rw (by decide), q_cpy_rw (by decide), q_cpy_rw (by decide), q_cpy_rw (by decide), q_cpy_rw (by decide), q_cpy_rw (by decide)]; exact cpy_ag (by rw [q_cpy_rw (by decide), q_cpy_rw (by decide), q_up_rw (by decide), q_up_rw (by decide), q_up_rw (by decide)]) (rfl)), (by rw [q_cpy_rw (by decide), q_cpy_rw (by decide), q_cpy_rw (by decide), q_cpy_rw (by decide), q_cpy_rw (by decide)]; exact cpy_ag (by rw [q_cpy_rw (by decide), q_cpy_rw (by decide), q_cpy_rw (by decide), q_up_rw (by decide), q_up_rw (by decide), q_up_rw (by decide)]) (rfl)), (by rw [q_cpy_rw (by decide), q_cpy_rw (by decide), q_cpy_rw (by decide), q_cpy_rw (by decide)]; exact cpy_ag (by rw [q_cpy_rw (by decide), q_cpy_rw (by decide), q_cpy_rw (by decide), q_cpy_rw (by decide), q_up_rw (by decide), q_up_rw (by decide), q_up_rw (by decide)]) (rfl)), (by rw [q_cpy_rw (by decide), q_cpy_rw (by decide), q_cpy_rw (by decide)]; exact cpy_ag (by rw [q_cpy_rw (by decide), q_cpy_rw (by decide), q_cpy_rw (by decide), q_cpy_rw (by decide), q_cpy_rw (by decide), q_up_rw (by decide), q_up_rw (by decide), q_up_rw (by decide)]) (rfl)), (by rw [q_cpy_rw (by decide), q_cpy_rw (by decide)]; exact cpy_ag (by rw [q_cpy_rw (by decide), q_cpy_rw (by decide), q_cpy_rw (by decide), q_cpy_rw (by decide), q_cpy_rw (by decide), q_cpy_rw (by decide), q_up_rw (by decide), q_up_rw (by decide), q_up_rw (by decide)]) (rfl)), (by rw [q_cpy_rw (by decide)]; exact cpy_ag (by rw [q_cpy_rw (by decide), q_cpy_rw (by decide), q_cpy_rw (by decide), q_cpy_rw (by decide), q_cpy_rw (by decide), q_cpy_rw (by decide), q_cpy_rw (by decide), q_up_rw (by decide), q_up_rw (by decide), q_up_rw (by decide)]) (rfl)), (by skip; exact cpy_ag (by rw [q_cpy_rw (by decide), q_cpy_rw (by decide), q_cpy_rw (by decide), q_cpy_rw (by decide), q_cpy_rw (by decide), q_cpy_rw (by decide), q_cpy_rw (by decide), q_cpy_rw (by decide), q_up_rw (by decide), q_up_rw (by decide), q_up_rw (by decide)]) (rfl))⟩)

set_option maxRecDepth 100000 in
theorem c_clr167 (o : Option Nat × Option Nat × Option Nat) (t : List qS) (m y : qM) (h0 : 0 ≤ m 178 1 ∧ m 178 1 ≤ 512) : qCt YX3_copyFrom 2 0 0 [qR 12, qR 178] (qLy (o, im125 ++ (im146 ++ (im167 ++ t))), m, y) (fun r h => r = none ∧ ∃ m', h = (qLy (o, im125 ++ (im146 ++ (im167 ++ t))), m', y) ∧ keep (kN kIlr167) m' = keep (kN kIlr167) m ∧ m' 12 0 = m 178 0 ∧ m' 12 1 = m 178 1 ∧ agN (m 178 1) (m 179) (m' 13) ∧ agN 10 (m 180) (m' 14)) := by
  refine qCt.intro okX3_copyFrom (Nat.le_of_ble_eq_true rfl) (fun κ hκ => ?_)
  show qJ YX3_copyFrom κ _ (qLy (o, im125 ++ (im146 ++ (im167 ++ t))), m, y) 0 0 0 [some (qR 12), some (qR 178)] []
  refine qJ.run hκ 3 (pc' := 5) (ls' := [some (qR 12), some (qR 178)]) (st' := [qI (m 178 0), qR 12]) rfl ?_
  refine qJ.putI hκ rfl rfl rfl rfl (Or.inl rfl) ?_
  show qJ YX3_copyFrom κ _ (qLy (o, im125 ++ (im146 ++ (im167 ++ t))), (q_up m 12 0 (m 178 0)), y) 0 0 8 [some (qR 12), some (qR 178)] []
  refine qJ.run hκ 3 (pc' := 13) (ls' := [some (qR 12), some (qR 178)]) (st' := [qI (m 178 1), qR 12]) rfl ?_
  refine qJ.putI hκ rfl rfl rfl rfl (Or.inl rfl) ?_
  show qJ YX3_copyFrom κ _ (qLy (o, im125 ++ (im146 ++ (im167 ++ t))), (q_up (q_up m 12 0 (m 178 0)) 12 1 (m 178 1)), y) 0 0 16 [some (qR 12), some (qR 178)] []
  refine qJ.run hκ 8 (pc' := 30) (ls' := [some (qR 12), some (qR 178)]) (st' := [qI (m 178 1), qI 0, qR 13, qI 0, qR 179]) rfl ?_
  refine qJ.copy hκ rfl kX3_25 (Nat.le_of_ble_eq_true rfl) (Nat.le_of_ble_eq_true rfl) rfl rfl (by decide) (by decide) (by omega) (by omega) (by omega) (by omega) (by omega) (Or.inl rfl) ?_
  show qJ YX3_copyFrom κ _ (qLy (o, im125 ++ (im146 ++ (im167 ++ t))), (q_cpy (q_up (q_up m 12 0 (m 178 0)) 12 1 (m 178 1)) 179 0 13 0 ((m 178 1).toNat)), y) 0 0 33 [some (qR 12), some (qR 178)] []
  refine qJ.run hκ 7 (pc' := 45) (ls' := [some (qR 12), some (qR 178)]) (st' := [qI 10, qI 0, qR 14, qI 0, qR 180]) rfl ?_
  refine qJ.copy hκ rfl kX3_25 (Nat.le_of_ble_eq_true rfl) (Nat.le_of_ble_eq_true rfl) rfl rfl (by decide) (by decide) (by omega) (by omega) (by omega) (by omega) (by omega) (Or.inl rfl) ?_
  show qJ YX3_copyFrom κ _ (qLy (o, im125 ++ (im146 ++ (im167 ++ t))), (q_cpy (q_cpy (q_up (q_up m 12 0 (m 178 0)) 12 1 (m 178 1)) 179 0 13 0 ((m 178 1).toNat)) 180 0 14 0 10), y) 0 0 48 [some (qR 12), some (qR 178)] []
  exact qJ.vret hκ rfl rfl (by decide) (by decide) (⟨rfl, (q_cpy (q_cpy (q_up (q_up m 12 0 (m 178 0)) 12 1 (m 178 1)) 179 0 13 0 ((m 178 1).toNat)) 180 0 14 0 10), rfl, (Eq.trans (keep_cp (by intro j; rfl)) (Eq.trans (keep_cp (by intro j; rfl)) (Eq.trans (keep_up (by rfl)) (Eq.trans (keep_up (by rfl)) rfl)))), (by rw [q_cpy_rw (by decide), q_cpy_rw (by decide)]; rfl), (by rw [q_cpy_rw (by decide), q_cpy_rw (by decide)]; rfl), (by rw [q_cpy_rw (by decide)]; exact cpy_ag (by rw [q_up_rw (by decide), q_up_rw (by decide)]) (rfl)), (by skip; exact cpy_ag (by rw [q_cpy_rw (by decide), q_up_rw (by decide), q_up_rw (by decide)]) (rfl))⟩)

def kJr167 : Nat → Nat → Bool := fun i j => decide ((i = 15 ∧ j = 4) ∨ i = 19 ∨ i = 20)

set_option maxRecDepth 100000 in
theorem c_csr167 (o : Option Nat × Option Nat × Option Nat) (t : List qS) (m y : qM) (k : Int)  : qCt YX4_setLines 2 0 0 [qR 15, qI k, qR 185, qR 186] (qLy (o, im125 ++ (im146 ++ (im167 ++ t))), m, y) (fun r h => r = none ∧ ∃ m', h = (qLy (o, im125 ++ (im146 ++ (im167 ++ t))), m', y) ∧ keep (kN kJr167) m' = keep (kN kJr167) m ∧ agN 18 (m 185) (m' 19) ∧ agN 18 (m 186) (m' 20) ∧ m' 15 4 = k) := by
  refine qCt.intro okX4_setLines (Nat.le_of_ble_eq_true rfl) (fun κ hκ => ?_)
  show qJ YX4_setLines κ _ (qLy (o, im125 ++ (im146 ++ (im167 ++ t))), m, y) 0 0 0 [some (qR 15), some (qI k), some (qR 185), some (qR 186)] []
  refine qJ.run hκ 2 (pc' := 2) (ls' := [some (qR 15), some (qI k), some (qR 185), some (qR 186)]) (st' := [qI k, qR 15]) rfl ?_
  refine qJ.putI hκ rfl rfl rfl rfl (Or.inl rfl) ?_
  show qJ YX4_setLines κ _ (qLy (o, im125 ++ (im146 ++ (im167 ++ t))), (q_up m 15 4 k), y) 0 0 5 [some (qR 15), some (qI k), some (qR 185), some (qR 186)] []
  refine qJ.run hκ 8 (pc' := 17) (ls' := [some (qR 15), some (qI k), some (qR 185), some (qR 186)]) (st' := [qI 18, qI 0, qR 19, qI 0, qR 185]) rfl ?_
  refine qJ.copy hκ rfl kX4_48 (Nat.le_of_ble_eq_true rfl) (Nat.le_of_ble_eq_true rfl) rfl rfl (by decide) (by decide) (by omega) (by omega) (by omega) (by omega) (by omega) (Or.inl rfl) ?_
  show qJ YX4_setLines κ _ (qLy (o, im125 ++ (im146 ++ (im167 ++ t))), (q_cpy (q_up m 15 4 k) 185 0 19 0 18), y) 0 0 20 [some (qR 15), some (qI k), some (qR 185), some (qR 186)] []
  refine qJ.run hκ 8 (pc' := 32) (ls' := [some (qR 15), some (qI k), some (qR 185), some (qR 186)]) (st' := [qI 18, qI 0, qR 20, qI 0, qR 186]) rfl ?_
  refine qJ.copy hκ rfl kX4_48 (Nat.le_of_ble_eq_true rfl) (Nat.le_of_ble_eq_true rfl) rfl rfl (by decide) (by decide) (by omega) (by omega) (by omega) (by omega) (by omega) (Or.inl rfl) ?_
  show qJ YX4_setLines κ _ (qLy (o, im125 ++ (im146 ++ (im167 ++ t))), (q_cpy (q_cpy (q_up m 15 4 k) 185 0 19 0 18) 186 0 20 0 18), y) 0 0 35 [some (qR 15), some (qI k), some (qR 185), some (qR 186)] []
  exact qJ.vret hκ rfl rfl (by decide) (by decide) (⟨rfl, (q_cpy (q_cpy (q_up m 15 4 k) 185 0 19 0 18) 186 0 20 0 18), rfl, (Eq.trans (keep_cp (by intro j; rfl)) (Eq.trans (keep_cp (by intro j; rfl)) (Eq.trans (keep_up (by rfl)) rfl))), (by rw [q_cpy_rw (by decide)]; exact cpy_ag (by rw [q_up_rw (by decide)]) (rfl)), (by skip; exact cpy_ag (by rw [q_cpy_rw (by decide), q_up_rw (by decide)]) (rfl)), (by rw [q_cpy_rw (by decide), q_cpy_rw (by decide)]; rfl)⟩)

theorem kJr167x : ∀ i j, kN kIxr167 i j = true → kN kJr167 i j = true := by
  intro i j h
  refine kN_t.mpr fun z => kN_t.mp h ?_
  unfold kJr167 at z
  unfold kIxr167
  rw [decide_eq_true_eq] at z ⊢
  omega

set_option maxRecDepth 100000 in
theorem c_cxr167 (o : Option Nat × Option Nat × Option Nat) (t : List qS) (m y : qM) (h0 : 0 ≤ m 181 0 ∧ m 181 0 ≤ 5) : qCt YX4_copyFrom 3 0 0 [qR 15, qR 181] (qLy (o, im125 ++ (im146 ++ (im167 ++ t))), m, y) (fun r h => r = none ∧ ∃ m', h = (qLy (o, im125 ++ (im146 ++ (im167 ++ t))), m', y) ∧ keep (kN kIxr167) m' = keep (kN kIxr167) m ∧ m' 15 0 = m 181 0 ∧ m' 15 4 = m 181 4 ∧ agN (m 181 0 * 10) (m 182) (m' 16) ∧ agN (m 181 0) (m 183) (m' 17) ∧ agN (m 181 0) (m 184) (m' 18) ∧ agN 18 (m 185) (m' 19) ∧ agN 18 (m 186) (m' 20)) := by
  refine qCt.intro okX4_copyFrom (Nat.le_of_ble_eq_true rfl) (fun κ hκ => ?_)
  show qJ YX4_copyFrom κ _ (qLy (o, im125 ++ (im146 ++ (im167 ++ t))), m, y) 0 0 0 [some (qR 15), some (qR 181)] []
  refine qJ.run hκ 3 (pc' := 5) (ls' := [some (qR 15), some (qR 181)]) (st' := [qI (m 181 0), qR 15]) rfl ?_
  refine qJ.putI hκ rfl rfl rfl rfl (Or.inl rfl) ?_
  show qJ YX4_copyFrom κ _ (qLy (o, im125 ++ (im146 ++ (im167 ++ t))), (q_up m 15 0 (m 181 0)), y) 0 0 8 [some (qR 15), some (qR 181)] []
  refine qJ.run hκ 10 (pc' := 25) (ls' := [some (qR 15), some (qR 181)]) (st' := [qI ((m 181 0) * 10), qI 0, qR 16, qI 0, qR 182]) rfl ?_
  refine qJ.copy hκ rfl kX4_48 (Nat.le_of_ble_eq_true rfl) (Nat.le_of_ble_eq_true rfl) rfl rfl (by decide) (by decide) (by omega) (by omega) (by omega) (by omega) (by omega) (Or.inl rfl) ?_
  show qJ YX4_copyFrom κ _ (qLy (o, im125 ++ (im146 ++ (im167 ++ t))), (q_cpy (q_up m 15 0 (m 181 0)) 182 0 16 0 (((m 181 0) * 10).toNat)), y) 0 0 28 [some (qR 15), some (qR 181)] []
  refine qJ.run hκ 8 (pc' := 42) (ls' := [some (qR 15), some (qR 181)]) (st' := [qI (m 181 0), qI 0, qR 17, qI 0, qR 183]) rfl ?_
  refine qJ.copy hκ rfl kX4_48 (Nat.le_of_ble_eq_true rfl) (Nat.le_of_ble_eq_true rfl) rfl rfl (by decide) (by decide) (by omega) (by omega) (by omega) (by omega) (by omega) (Or.inl rfl) ?_
  show qJ YX4_copyFrom κ _ (qLy (o, im125 ++ (im146 ++ (im167 ++ t))), (q_cpy (q_cpy (q_up m 15 0 (m 181 0)) 182 0 16 0 (((m 181 0) * 10).toNat)) 183 0 17 0 ((m 181 0).toNat)), y) 0 0 45 [some (qR 15), some (qR 181)] []
  refine qJ.run hκ 8 (pc' := 59) (ls' := [some (qR 15), some (qR 181)]) (st' := [qI (m 181 0), qI 0, qR 18, qI 0, qR 184]) rfl ?_
  refine qJ.copy hκ rfl kX4_48 (Nat.le_of_ble_eq_true rfl) (Nat.le_of_ble_eq_true rfl) rfl rfl (by decide) (by decide) (by omega) (by omega) (by omega) (by omega) (by omega) (Or.inl rfl) ?_
  show qJ YX4_copyFrom κ _ (qLy (o, im125 ++ (im146 ++ (im167 ++ t))), (q_cpy (q_cpy (q_cpy (q_up m 15 0 (m 181 0)) 182 0 16 0 (((m 181 0) * 10).toNat)) 183 0 17 0 ((m 181 0).toNat)) 184 0 18 0 ((m 181 0).toNat)), y) 0 0 62 [some (qR 15), some (qR 181)] []
  refine qJ.run hκ 7 (pc' := 75) (ls' := [some (qR 15), some (qR 181)]) (st' := [qR 186, qR 185, qI (m 181 4), qR 15]) rfl ?_
  refine qJ.callV (As := [qI (m 181 4), qR 185, qR 186]) (rest := []) hκ rfl kX4_54 (c_csr167 o t (q_cpy (q_cpy (q_cpy (q_up m 15 0 (m 181 0)) 182 0 16 0 (((m 181 0) * 10).toNat)) 183 0 17 0 ((m 181 0).toNat)) 184 0 18 0 ((m 181 0).toNat)) y (m 181 4)) rfl rfl (by decide) rfl rfl (Nat.le_of_ble_eq_true rfl) (Nat.le_of_ble_eq_true rfl) (Nat.le_of_ble_eq_true rfl) (Or.inl (fun r h' e => by obtain ⟨rfl, m4, rfl, K4, A19, A20, A15⟩ := e; rfl)) (fun r h' e => ?_)
  obtain ⟨rfl, m4, rfl, K4, A19, A20, A15⟩ := e
  show qJ YX4_copyFrom κ _ (qLy (o, im125 ++ (im146 ++ (im167 ++ t))), m4, y) 0 0 78 [some (qR 15), some (qR 181)] []
  exact qJ.vret hκ rfl rfl (by decide) (by decide) (⟨rfl, m4, rfl, (keep_of kJr167x K4).trans (Eq.trans (keep_cp (by intro j; rfl)) (Eq.trans (keep_cp (by intro j; rfl)) (Eq.trans (keep_cp (by intro j; rfl)) (Eq.trans (keep_up (by rfl)) rfl)))), (show m4 15 0 = (q_cpy (q_cpy (q_cpy (q_up m 15 0 (m 181 0)) 182 0 16 0 (((m 181 0) * 10).toNat)) 183 0 17 0 ((m 181 0).toNat)) 184 0 18 0 ((m 181 0).toNat)) 15 0 from congrFun (congrFun K4 15) 0).trans (by rw [q_cpy_rw (by decide), q_cpy_rw (by decide), q_cpy_rw (by decide)]; rfl), A15.trans (show (q_cpy (q_cpy (q_cpy (q_up m 15 0 (m 181 0)) 182 0 16 0 (((m 181 0) * 10).toNat)) 183 0 17 0 ((m 181 0).toNat)) 184 0 18 0 ((m 181 0).toNat)) 181 4 = m 181 4 from by rw [q_cpy_rw (by decide), q_cpy_rw (by decide), q_cpy_rw (by decide), q_up_rw (by decide)]), (by rw [show m4 16 = (q_cpy (q_cpy (q_cpy (q_up m 15 0 (m 181 0)) 182 0 16 0 (((m 181 0) * 10).toNat)) 183 0 17 0 ((m 181 0).toNat)) 184 0 18 0 ((m 181 0).toNat)) 16 from congrFun K4 16]; exact (by rw [q_cpy_rw (by decide), q_cpy_rw (by decide)]; exact cpy_ag (by rw [q_up_rw (by decide)]) (rfl))), (by rw [show m4 17 = (q_cpy (q_cpy (q_cpy (q_up m 15 0 (m 181 0)) 182 0 16 0 (((m 181 0) * 10).toNat)) 183 0 17 0 ((m 181 0).toNat)) 184 0 18 0 ((m 181 0).toNat)) 17 from congrFun K4 17]; exact (by rw [q_cpy_rw (by decide)]; exact cpy_ag (by rw [q_cpy_rw (by decide), q_up_rw (by decide)]) (rfl))), (by rw [show m4 18 = (q_cpy (q_cpy (q_cpy (q_up m 15 0 (m 181 0)) 182 0 16 0 (((m 181 0) * 10).toNat)) 183 0 17 0 ((m 181 0).toNat)) 184 0 18 0 ((m 181 0).toNat)) 18 from congrFun K4 18]; exact (by skip; exact cpy_ag (by rw [q_cpy_rw (by decide), q_cpy_rw (by decide), q_up_rw (by decide)]) (rfl))), (by have A := A19; rw [show (q_cpy (q_cpy (q_cpy (q_up m 15 0 (m 181 0)) 182 0 16 0 (((m 181 0) * 10).toNat)) 183 0 17 0 ((m 181 0).toNat)) 184 0 18 0 ((m 181 0).toNat)) 185 = m 185 from by rw [q_cpy_rw (by decide), q_cpy_rw (by decide), q_cpy_rw (by decide), q_up_rw (by decide)]] at A; exact A), (by have A := A20; rw [show (q_cpy (q_cpy (q_cpy (q_up m 15 0 (m 181 0)) 182 0 16 0 (((m 181 0) * 10).toNat)) 183 0 17 0 ((m 181 0).toNat)) 184 0 18 0 ((m 181 0).toNat)) 186 = m 186 from by rw [q_cpy_rw (by decide), q_cpy_rw (by decide), q_cpy_rw (by decide), q_up_rw (by decide)]] at A; exact A)⟩)

set_option maxRecDepth 100000 in
theorem c_ctr167 (o : Option Nat × Option Nat × Option Nat) (t : List qS) (m y : qM) (h0 : 0 ≤ m 168 0 ∧ m 168 0 ≤ 60) (h2 : 0 ≤ m 168 2 ∧ m 168 2 ≤ 150) (h12 : 0 ≤ m 178 1 ∧ m 178 1 ≤ 512) (h15 : 0 ≤ m 181 0 ∧ m 181 0 ≤ 5) (h4 : 0 ≤ m 167 4 ∧ m 167 4 ≤ 400) (hb : ∀ j : Nat, (j : Int) < m 167 4 → -128 ≤ m 187 j ∧ m 187 j ≤ 127) : qCt YX9_copyFrom 4 0 0 [qR 1, qR 167] (qLy (o, im125 ++ (im146 ++ (im167 ++ t))), m, y) (fun r h => r = none ∧ ∃ m', h = (qLy (o, im125 ++ (im146 ++ (im167 ++ t))), m', y) ∧ keep (kN kIr167) m' = keep (kN kIr167) m ∧ (m' 1 4 = m 167 4 ∧ m' 1 5 = m 167 5 ∧ m' 1 6 = m 167 6 ∧ m' 1 7 = m 167 7 ∧ m' 1 8 = m 167 8 ∧ m' 1 9 = m 167 9) ∧ (m' 2 0 = m 168 0 ∧ m' 2 1 = m 168 1 ∧ m' 2 2 = m 168 2) ∧ (agN (m 168 0 * 5) (m 169) (m' 3) ∧ agN (m 168 0) (m 170) (m' 4) ∧ agN (m 168 0) (m 171) (m' 5) ∧ agN (m 168 0) (m 172) (m' 6) ∧ agN (m 168 0) (m 173) (m' 7) ∧ agN (m 168 0) (m 174) (m' 8)) ∧ (agN (m 168 2) (m 175) (m' 9) ∧ agN (m 168 2) (m 176) (m' 10) ∧ agN (m 168 2) (m 177) (m' 11)) ∧ (m' 12 0 = m 178 0 ∧ m' 12 1 = m 178 1 ∧ agN (m 178 1) (m 179) (m' 13) ∧ agN 10 (m 180) (m' 14)) ∧ (m' 15 0 = m 181 0 ∧ m' 15 4 = m 181 4 ∧ agN (m 181 0 * 10) (m 182) (m' 16) ∧ agN (m 181 0) (m 183) (m' 17) ∧ agN (m 181 0) (m 184) (m' 18) ∧ agN 18 (m 185) (m' 19) ∧ agN 18 (m 186) (m' 20)) ∧ agN (m 167 4) (m 187) (m' 21)) := by
  refine qCt.intro okX9_copyFrom (Nat.le_of_ble_eq_true rfl) (fun κ hκ => ?_)
  show qJ YX9_copyFrom κ _ (qLy (o, im125 ++ (im146 ++ (im167 ++ t))), m, y) 0 0 0 [some (qR 1), some (qR 167)] []
  refine qJ.run hκ 4 (pc' := 8) (ls' := [some (qR 1), some (qR 167)]) (st' := [qR 168, qR 2]) rfl ?_
  refine qJ.callV (As := [qR 168]) (rest := []) hκ rfl kX9_63 (c_ccr167 o t m y h0 h2) rfl rfl (by decide) rfl rfl (Nat.le_of_ble_eq_true rfl) (Nat.le_of_ble_eq_true rfl) (Nat.le_of_ble_eq_true rfl) (Or.inl (fun r h' e => by obtain ⟨rfl, m1, rfl, K1, P0, P1, P2, P3, P4, P5, P6, P7, P8, P9, P10, P11⟩ := e; rfl)) (fun r h' e => ?_)
  obtain ⟨rfl, m1, rfl, K1, P0, P1, P2, P3, P4, P5, P6, P7, P8, P9, P10, P11⟩ := e
  show qJ YX9_copyFrom κ _ (qLy (o, im125 ++ (im146 ++ (im167 ++ t))), m1, y) 0 0 11 [some (qR 1), some (qR 167)] []
  refine qJ.run hκ 4 (pc' := 19) (ls' := [some (qR 1), some (qR 167)]) (st' := [qR 178, qR 12]) rfl ?_
  refine qJ.callV (As := [qR 178]) (rest := []) hκ rfl kX9_67 (c_clr167 o t m1 y (by rw [show m1 178 = m 178 from congrFun K1 178]; exact h12)) rfl rfl (by decide) rfl rfl (Nat.le_of_ble_eq_true rfl) (Nat.le_of_ble_eq_true rfl) (Nat.le_of_ble_eq_true rfl) (Or.inl (fun r h' e => by obtain ⟨rfl, m2, rfl, K2, Q0, Q1, Q2, Q3⟩ := e; rfl)) (fun r h' e => ?_)
  obtain ⟨rfl, m2, rfl, K2, Q0, Q1, Q2, Q3⟩ := e
  rw [show m1 178 = m 178 from congrFun K1 178] at Q0 Q1 Q2
  rw [show m1 179 = m 179 from congrFun K1 179] at Q2
  rw [show m1 180 = m 180 from congrFun K1 180] at Q3
  show qJ YX9_copyFrom κ _ (qLy (o, im125 ++ (im146 ++ (im167 ++ t))), m2, y) 0 0 22 [some (qR 1), some (qR 167)] []
  refine qJ.run hκ 4 (pc' := 30) (ls' := [some (qR 1), some (qR 167)]) (st' := [qR 181, qR 15]) rfl ?_
  refine qJ.callV (As := [qR 181]) (rest := []) hκ rfl kX9_70 (c_cxr167 o t m2 y (by rw [show m2 181 = m 181 from (congrFun K2 181).trans (congrFun K1 181)]; exact h15)) rfl rfl (by decide) rfl rfl (Nat.le_of_ble_eq_true rfl) (Nat.le_of_ble_eq_true rfl) (Nat.le_of_ble_eq_true rfl) (Or.inl (fun r h' e => by obtain ⟨rfl, m3, rfl, K3, R0, R1, R2, R3, R4, R5, R6⟩ := e; rfl)) (fun r h' e => ?_)
  obtain ⟨rfl, m3, rfl, K3, R0, R1, R2, R3, R4, R5, R6⟩ := e
  rw [show m2 181 = m 181 from (congrFun K2 181).trans (congrFun K1 181)] at R0 R1 R2 R3 R4
  rw [show m2 182 = m 182 from (congrFun K2 182).trans (congrFun K1 182)] at R2
  rw [show m2 183 = m 183 from (congrFun K2 183).trans (congrFun K1 183)] at R3
  rw [show m2 184 = m 184 from (congrFun K2 184).trans (congrFun K1 184)] at R4
  rw [show m2 185 = m 185 from (congrFun K2 185).trans (congrFun K1 185)] at R5
  rw [show m2 186 = m 186 from (congrFun K2 186).trans (congrFun K1 186)] at R6
  have e1 : m3 167 = m 167 := (congrFun K3 167).trans ((congrFun K2 167).trans (congrFun K1 167))
  have e21 : m3 187 = m 187 := (congrFun K3 187).trans ((congrFun K2 187).trans (congrFun K1 187))
  have e4 : m3 167 4 = m 167 4 := by rw [e1]
  show qJ YX9_copyFrom κ _ (qLy (o, im125 ++ (im146 ++ (im167 ++ t))), m3, y) 0 0 33 [some (qR 1), some (qR 167)] []
  refine qJ.run hκ 8 (pc' := 47) (ls' := [some (qR 1), some (qR 167)]) (st' := [qI (m3 167 4), qI 0, qR 21, qI 0, qR 187]) rfl ?_
  refine qJ.copy hκ rfl kX9_73 (Nat.le_of_ble_eq_true rfl) (Nat.le_of_ble_eq_true rfl) rfl rfl (by decide) (by decide) (by omega) (by omega) (by omega) (by omega) (by omega) (Or.inr ⟨rfl, fun i hi => by show -128 ≤ m3 187 (0 + i) ∧ m3 187 (0 + i) ≤ 127; rw [Nat.zero_add, e21]; exact hb i (by omega)⟩) ?_
  show qJ YX9_copyFrom κ _ (qLy (o, im125 ++ (im146 ++ (im167 ++ t))), (q_cpy m3 187 0 21 0 ((m3 167 4).toNat)), y) 0 0 50 [some (qR 1), some (qR 167)] []
  refine qJ.run hκ 3 (pc' := 55) (ls' := [some (qR 1), some (qR 167)]) (st' := [qI (m3 167 4), qR 1]) rfl ?_
  refine qJ.putI hκ rfl rfl rfl rfl (Or.inl rfl) ?_
  show qJ YX9_copyFrom κ _ (qLy (o, im125 ++ (im146 ++ (im167 ++ t))), (q_up (q_cpy m3 187 0 21 0 ((m3 167 4).toNat)) 1 4 (m3 167 4)), y) 0 0 58 [some (qR 1), some (qR 167)] []
  refine qJ.run hκ 3 (pc' := 63) (ls' := [some (qR 1), some (qR 167)]) (st' := [qI (m3 167 5), qR 1]) rfl ?_
  refine qJ.putI hκ rfl rfl rfl rfl (Or.inl rfl) ?_
  show qJ YX9_copyFrom κ _ (qLy (o, im125 ++ (im146 ++ (im167 ++ t))), (q_up (q_up (q_cpy m3 187 0 21 0 ((m3 167 4).toNat)) 1 4 (m3 167 4)) 1 5 (m3 167 5)), y) 0 0 66 [some (qR 1), some (qR 167)] []
  refine qJ.run hκ 3 (pc' := 71) (ls' := [some (qR 1), some (qR 167)]) (st' := [qI (m3 167 6), qR 1]) rfl ?_
  refine qJ.putI hκ rfl rfl rfl rfl (Or.inl rfl) ?_
  show qJ YX9_copyFrom κ _ (qLy (o, im125 ++ (im146 ++ (im167 ++ t))), (q_up (q_up (q_up (q_cpy m3 187 0 21 0 ((m3 167 4).toNat)) 1 4 (m3 167 4)) 1 5 (m3 167 5)) 1 6 (m3 167 6)), y) 0 0 74 [some (qR 1), some (qR 167)] []
  refine qJ.run hκ 3 (pc' := 79) (ls' := [some (qR 1), some (qR 167)]) (st' := [qI (m3 167 7), qR 1]) rfl ?_
  refine qJ.putI hκ rfl rfl rfl rfl (Or.inl rfl) ?_
  show qJ YX9_copyFrom κ _ (qLy (o, im125 ++ (im146 ++ (im167 ++ t))), (q_up (q_up (q_up (q_up (q_cpy m3 187 0 21 0 ((m3 167 4).toNat)) 1 4 (m3 167 4)) 1 5 (m3 167 5)) 1 6 (m3 167 6)) 1 7 (m3 167 7)), y) 0 0 82 [some (qR 1), some (qR 167)] []
  refine qJ.run hκ 3 (pc' := 87) (ls' := [some (qR 1), some (qR 167)]) (st' := [qI (m3 167 8), qR 1]) rfl ?_
  refine qJ.putI hκ rfl rfl rfl rfl (Or.inl rfl) ?_
  show qJ YX9_copyFrom κ _ (qLy (o, im125 ++ (im146 ++ (im167 ++ t))), (q_up (q_up (q_up (q_up (q_up (q_cpy m3 187 0 21 0 ((m3 167 4).toNat)) 1 4 (m3 167 4)) 1 5 (m3 167 5)) 1 6 (m3 167 6)) 1 7 (m3 167 7)) 1 8 (m3 167 8)), y) 0 0 90 [some (qR 1), some (qR 167)] []
  refine qJ.run hκ 3 (pc' := 95) (ls' := [some (qR 1), some (qR 167)]) (st' := [qI (m3 167 9), qR 1]) rfl ?_
  refine qJ.putI hκ rfl rfl rfl rfl (Or.inl rfl) ?_
  show qJ YX9_copyFrom κ _ (qLy (o, im125 ++ (im146 ++ (im167 ++ t))), (q_up (q_up (q_up (q_up (q_up (q_up (q_cpy m3 187 0 21 0 ((m3 167 4).toNat)) 1 4 (m3 167 4)) 1 5 (m3 167 5)) 1 6 (m3 167 6)) 1 7 (m3 167 7)) 1 8 (m3 167 8)) 1 9 (m3 167 9)), y) 0 0 98 [some (qR 1), some (qR 167)] []
  exact qJ.vret hκ rfl rfl (by decide) (by decide) (⟨rfl, (q_up (q_up (q_up (q_up (q_up (q_up (q_cpy m3 187 0 21 0 ((m3 167 4).toNat)) 1 4 (m3 167 4)) 1 5 (m3 167 5)) 1 6 (m3 167 6)) 1 7 (m3 167 7)) 1 8 (m3 167 8)) 1 9 (m3 167 9)), rfl, (Eq.trans (keep_up (by rfl)) (Eq.trans (keep_up (by rfl)) (Eq.trans (keep_up (by rfl)) (Eq.trans (keep_up (by rfl)) (Eq.trans (keep_up (by rfl)) (Eq.trans (keep_up (by rfl)) (Eq.trans (keep_cp (by intro j; rfl)) ((keep_of kIxr167x K3).trans ((keep_of kIlr167x K2).trans (keep_of kIcr167x K1)))))))))), ⟨(by skip; exact congrFun e1 4), (by skip; exact congrFun e1 5), (by skip; exact congrFun e1 6), (by skip; exact congrFun e1 7), (by skip; exact congrFun e1 8), (by skip; exact congrFun e1 9)⟩, ⟨(by rw [q_up_rw (by decide), q_up_rw (by decide), q_up_rw (by decide), q_up_rw (by decide), q_up_rw (by decide), q_up_rw (by decide), q_cpy_rw (by decide)]; rw [show m3 2 = m1 2 from (congrFun K3 2).trans (congrFun K2 2)]; exact P0), (by rw [q_up_rw (by decide), q_up_rw (by decide), q_up_rw (by decide), q_up_rw (by decide), q_up_rw (by decide), q_up_rw (by decide), q_cpy_rw (by decide)]; rw [show m3 2 = m1 2 from (congrFun K3 2).trans (congrFun K2 2)]; exact P1), (by rw [q_up_rw (by decide), q_up_rw (by decide), q_up_rw (by decide), q_up_rw (by decide), q_up_rw (by decide), q_up_rw (by decide), q_cpy_rw (by decide)]; rw [show m3 2 = m1 2 from (congrFun K3 2).trans (congrFun K2 2)]; exact P2)⟩, ⟨(by rw [q_up_rw (by decide), q_up_rw (by decide), q_up_rw (by decide), q_up_rw (by decide), q_up_rw (by decide), q_up_rw (by decide), q_cpy_rw (by decide)]; rw [show m3 3 = m1 3 from (congrFun K3 3).trans (congrFun K2 3)]; exact P3), (by rw [q_up_rw (by decide), q_up_rw (by decide), q_up_rw (by decide), q_up_rw (by decide), q_up_rw (by decide), q_up_rw (by decide), q_cpy_rw (by decide)]; rw [show m3 4 = m1 4 from (congrFun K3 4).trans (congrFun K2 4)]; exact P4), (by rw [q_up_rw (by decide), q_up_rw (by decide), q_up_rw (by decide), q_up_rw (by decide), q_up_rw (by decide), q_up_rw (by decide), q_cpy_rw (by decide)]; rw [show m3 5 = m1 5 from (congrFun K3 5).trans (congrFun K2 5)]; exact P5), (by rw [q_up_rw (by decide), q_up_rw (by decide), q_up_rw (by decide), q_up_rw (by decide), q_up_rw (by decide), q_up_rw (by decide), q_cpy_rw (by decide)]; rw [show m3 6 = m1 6 from (congrFun K3 6).trans (congrFun K2 6)]; exact P6), (by rw [q_up_rw (by decide), q_up_rw (by decide), q_up_rw (by decide), q_up_rw (by decide), q_up_rw (by decide), q_up_rw (by decide), q_cpy_rw (by decide)]; rw [show m3 7 = m1 7 from (congrFun K3 7).trans (congrFun K2 7)]; exact P7), (by rw [q_up_rw (by decide), q_up_rw (by decide), q_up_rw (by decide), q_up_rw (by decide), q_up_rw (by decide), q_up_rw (by decide), q_cpy_rw (by decide)]; rw [show m3 8 = m1 8 from (congrFun K3 8).trans (congrFun K2 8)]; exact P8)⟩, ⟨(by rw [q_up_rw (by decide), q_up_rw (by decide), q_up_rw (by decide), q_up_rw (by decide), q_up_rw (by decide), q_up_rw (by decide), q_cpy_rw (by decide)]; rw [show m3 9 = m1 9 from (congrFun K3 9).trans (congrFun K2 9)]; exact P9), (by rw [q_up_rw (by decide), q_up_rw (by decide), q_up_rw (by decide), q_up_rw (by decide), q_up_rw (by decide), q_up_rw (by decide), q_cpy_rw (by decide)]; rw [show m3 10 = m1 10 from (congrFun K3 10).trans (congrFun K2 10)]; exact P10), (by rw [q_up_rw (by decide), q_up_rw (by decide), q_up_rw (by decide), q_up_rw (by decide), q_up_rw (by decide), q_up_rw (by decide), q_cpy_rw (by decide)]; rw [show m3 11 = m1 11 from (congrFun K3 11).trans (congrFun K2 11)]; exact P11)⟩, ⟨(by rw [q_up_rw (by decide), q_up_rw (by decide), q_up_rw (by decide), q_up_rw (by decide), q_up_rw (by decide), q_up_rw (by decide), q_cpy_rw (by decide)]; rw [show m3 12 = m2 12 from congrFun K3 12]; exact Q0), (by rw [q_up_rw (by decide), q_up_rw (by decide), q_up_rw (by decide), q_up_rw (by decide), q_up_rw (by decide), q_up_rw (by decide), q_cpy_rw (by decide)]; rw [show m3 12 = m2 12 from congrFun K3 12]; exact Q1), (by rw [q_up_rw (by decide), q_up_rw (by decide), q_up_rw (by decide), q_up_rw (by decide), q_up_rw (by decide), q_up_rw (by decide), q_cpy_rw (by decide)]; rw [show m3 13 = m2 13 from congrFun K3 13]; exact Q2), (by rw [q_up_rw (by decide), q_up_rw (by decide), q_up_rw (by decide), q_up_rw (by decide), q_up_rw (by decide), q_up_rw (by decide), q_cpy_rw (by decide)]; rw [show m3 14 = m2 14 from congrFun K3 14]; exact Q3)⟩, ⟨(by rw [q_up_rw (by decide), q_up_rw (by decide), q_up_rw (by decide), q_up_rw (by decide), q_up_rw (by decide), q_up_rw (by decide), q_cpy_rw (by decide)]; exact R0), (by rw [q_up_rw (by decide), q_up_rw (by decide), q_up_rw (by decide), q_up_rw (by decide), q_up_rw (by decide), q_up_rw (by decide), q_cpy_rw (by decide)]; exact R1), (by rw [q_up_rw (by decide), q_up_rw (by decide), q_up_rw (by decide), q_up_rw (by decide), q_up_rw (by decide), q_up_rw (by decide), q_cpy_rw (by decide)]; exact R2), (by rw [q_up_rw (by decide), q_up_rw (by decide), q_up_rw (by decide), q_up_rw (by decide), q_up_rw (by decide), q_up_rw (by decide), q_cpy_rw (by decide)]; exact R3), (by rw [q_up_rw (by decide), q_up_rw (by decide), q_up_rw (by decide), q_up_rw (by decide), q_up_rw (by decide), q_up_rw (by decide), q_cpy_rw (by decide)]; exact R4), (by rw [q_up_rw (by decide), q_up_rw (by decide), q_up_rw (by decide), q_up_rw (by decide), q_up_rw (by decide), q_up_rw (by decide), q_cpy_rw (by decide)]; exact R5), (by rw [q_up_rw (by decide), q_up_rw (by decide), q_up_rw (by decide), q_up_rw (by decide), q_up_rw (by decide), q_up_rw (by decide), q_cpy_rw (by decide)]; exact R6)⟩, (by rw [q_up_rw (by decide), q_up_rw (by decide), q_up_rw (by decide), q_up_rw (by decide), q_up_rw (by decide), q_up_rw (by decide)]; exact cpy_ag (E := m3) (by skip; exact e21) (by rw [e4]))⟩)

/-! printed by p91.py: the class starts its assignment; the best word -/
def kA0 : Nat → Nat → Bool := fun i _ => decide (60 ≤ i ∧ i ≤ 67)
theorem aS_0 {D : qD} {M : qM} (h6 : ∀ s : Nat, s < 20 → M 66 s = dR D s ∧ M 67 s = dC D s) (h0 : ∀ s : Nat, s < 20 → M 60 s = -1 ∧ M 62 s = 0 ∧ M 64 s = 0) (h1 : ∀ v : Nat, v < 28 → M 61 v = -1) : aS D (fun _ => -1) M := by
  have z : ∀ (g : Nat → Int) (r : Int), q_cnt (uR (fun _ => -1) g r) 20 = 0 := fun g r => (q_cnt_no 20).mpr fun j _ q => q.1 rfl
  refine ⟨⟨fun s hs => ⟨(h0 s hs).1, by show (-1 : Int) ≤ -1; decide, by show (-1 : Int) ≤ 27; decide⟩, fun a b _ _ _ q _ => absurd rfl q⟩, fun v hv => ?_, fun r hr => ?_, fun r hr => ?_, h6⟩
  · rw [h1 v hv]
    exact ⟨⟨fun _ s _ q => by have q2 : (-1 : Int) = (v : Int) := q; omega, fun _ => rfl⟩, by decide, by decide⟩
  · rw [z]
    exact ⟨(h0 r hr).2.1, fun s _ q => absurd rfl q⟩
  · rw [z]
    exact ⟨(h0 r hr).2.2, fun s _ q => absurd rfl q⟩
def mxH (L : List (Nat → Int)) (j : Int) : Nat → Int
  | 0 => 0
  | e + 1 => max (mxH L j e) (hC L e j)
def smH (L : List (Nat → Int)) (j : Int) : Nat → Int
  | 0 => 0
  | e + 1 => smH L j e + hC L e j
def gLf (L : List (Nat → Int)) (n : Nat) (j : Int) : Int := max (mxH L j n) ((L.length : Nat) - smH L j n)
theorem hC_r (L : List (Nat → Int)) (e : Nat) (i : Int) : 0 ≤ hC L e i ∧ hC L e i ≤ (L.length : Nat) := by
  unfold hC
  have := List.countP_le_length (p := fun R : Nat → Int => decide (R e = i)) (l := L)
  omega
theorem mxH_r {L : List (Nat → Int)} {j : Int} : ∀ n, 0 ≤ mxH L j n ∧ mxH L j n ≤ (L.length : Nat)
  | 0 => ⟨Int.le_refl 0, Int.natCast_nonneg _⟩
  | n + 1 => by
    have a := mxH_r (L := L) (j := j) n
    have b := hC_r L n j
    show 0 ≤ max (mxH L j n) (hC L n j) ∧ max (mxH L j n) (hC L n j) ≤ _
    omega
theorem smH_r {L : List (Nat → Int)} {j : Int} : ∀ n : Nat, 0 ≤ smH L j n ∧ smH L j n ≤ n * ((L.length : Nat) : Int)
  | 0 => ⟨Int.le_refl 0, by show (0 : Int) ≤ 0 * _; omega⟩
  | n + 1 => by
    have a := smH_r (L := L) (j := j) n
    have b := hC_r L n j
    show 0 ≤ smH L j n + hC L n j ∧ smH L j n + hC L n j ≤ _
    have : ((n + 1 : Nat) : Int) * ((L.length : Nat) : Int) = (n : Int) * ((L.length : Nat) : Int) + ((L.length : Nat) : Int) := by rw [show ((n + 1 : Nat) : Int) = (n : Int) + 1 from rfl, Int.add_mul, Int.one_mul]
    omega
theorem smH_b {L : List (Nat → Int)} {j : Int} {n : Nat} (hn : n ≤ 5) (hL : L.length ≤ 248832) : 0 ≤ smH L j n ∧ smH L j n ≤ 1244160 := by
  have a := smH_r (L := L) (j := j) n
  have : (n : Int) * ((L.length : Nat) : Int) ≤ 5 * 248832 := Int.mul_le_mul (by omega) (by omega) (Int.natCast_nonneg _) (by decide)
  omega
def bst (L : List (Nat → Int)) (n : Nat) (cw : Nat → Int) : Nat → Int × Int
  | 0 => (-1, -1)
  | j + 1 => if (bst L n cw j).1 = -1 ∨ gLf L n (j : Int) < (bst L n cw j).2 then (cw j, gLf L n (j : Int)) else bst L n cw j
def bstA (L : List (Nat → Int)) (n : Nat) (cw : Nat → Int) (k : Nat) : Int × Int := if L.length = 0 then (-1, -1) else bst L n cw k
theorem gLf_r {L : List (Nat → Int)} {n : Nat} {j : Int} (hn : n ≤ 5) (hL : L.length ≤ 248832) : 0 ≤ gLf L n j ∧ gLf L n j ≤ 248832 := by
  have a := mxH_r (L := L) (j := j) n
  have b := smH_b (L := L) (j := j) hn hL
  unfold gLf
  omega
theorem bst_r {L : List (Nat → Int)} {n : Nat} {cw : Nat → Int} (hn : n ≤ 5) (hL : L.length ≤ 248832) : ∀ k, (∀ j, j < k → 0 ≤ cw j ∧ cw j ≤ 60) → (-1 ≤ (bst L n cw k).1 ∧ (bst L n cw k).1 ≤ 60) ∧ (-1 ≤ (bst L n cw k).2 ∧ (bst L n cw k).2 ≤ 248832)
  | 0, _ => by show (-1 ≤ (-1 : Int) ∧ (-1 : Int) ≤ 60) ∧ (-1 ≤ (-1 : Int) ∧ (-1 : Int) ≤ 248832); omega
  | k + 1, h => by
    have ih := bst_r (n := n) hn hL k (fun j hj => h j (by omega))
    have g := gLf_r (L := L) (n := n) (j := (k : Int)) hn hL
    have c := h k (by omega)
    unfold bst
    split
    · show (-1 ≤ cw k ∧ cw k ≤ 60) ∧ (-1 ≤ gLf L n (k : Int) ∧ gLf L n (k : Int) ≤ 248832); omega
    · exact ih
def kBe : Nat → Nat → Bool := fun i j => decide (i = 56 ∧ (j = 1 ∨ j = 2))
/-- rows of counts hold L's -/
def hdS (L : List (Nat → Int)) (n k : Nat) (M : qM) : Prop := ((M 56 0 = ((L.length : Nat) : Int) ∧ L.length ≤ 248832) ∧ (M 56 14 = (n : Int) ∧ n ≤ 5) ∧ (M 56 10 = (k : Int) ∧ k ≤ 12)) ∧ ∀ e i : Nat, e < 5 → i < 12 → M 74 (e * 12 + i) = hC L e (i : Int)

theorem q_uu12 {m : qM} {a b c d : Int} : q_up (q_up (q_up (q_up m 56 1 a) 56 2 b) 56 1 c) 56 2 d = q_up (q_up m 56 1 c) 56 2 d := by
  funext i j
  unfold q_up
  by_cases h : i = 56 ∧ j = 2
  · simp only [if_pos h]
  · by_cases h2 : i = 56 ∧ j = 1
    · simp only [if_neg h, if_pos h2]
    · simp only [if_neg h, if_neg h2]

set_option maxRecDepth 100000 in
theorem c_aStart (u : qU) (m y : qM)  : qCt YX0_start 2 0 0 [qR 59, qR 29] (qLy u, m, y) (fun r h => r = none ∧ ∃ m', h = (qLy u, m', y) ∧ keep (kN kA0) m' = keep (kN kA0) m ∧ (∀ s : Nat, s < 20 → m' 66 s = m 30 s ∧ m' 67 s = m 31 s) ∧ (∀ s : Nat, s < 20 → m' 60 s = -1 ∧ m' 62 s = 0 ∧ m' 64 s = 0) ∧ ∀ v : Nat, v < 28 → m' 61 v = -1) := by
  refine qCt.intro okX0_start (Nat.le_of_ble_eq_true rfl) (fun κ hκ => ?_)
  show qJ YX0_start κ _ (qLy u, m, y) 0 0 0 [some (qR 59), some (qR 29)] []
  refine qJ.run hκ 7 (pc' := 12) (ls' := [some (qR 59), some (qR 29)]) (st' := [qI 20, qI 0, qR 66, qI 0, qR 30]) rfl ?_
  refine qJ.copy hκ rfl kX0_41 (Nat.le_of_ble_eq_true rfl) (Nat.le_of_ble_eq_true rfl) rfl rfl (by decide) (by decide) (by omega) (by omega) (by omega) (by omega) (by omega) (Or.inl rfl) ?_
  show qJ YX0_start κ _ (qLy u, (q_cpy m 30 0 66 0 20), y) 0 0 15 [some (qR 59), some (qR 29)] []
  refine qJ.run hκ 7 (pc' := 27) (ls' := [some (qR 59), some (qR 29)]) (st' := [qI 20, qI 0, qR 67, qI 0, qR 31]) rfl ?_
  refine qJ.copy hκ rfl kX0_41 (Nat.le_of_ble_eq_true rfl) (Nat.le_of_ble_eq_true rfl) rfl rfl (by decide) (by decide) (by omega) (by omega) (by omega) (by omega) (by omega) (Or.inl rfl) ?_
  show qJ YX0_start κ _ (qLy u, (q_cpy (q_cpy m 30 0 66 0 20) 31 0 67 0 20), y) 0 0 30 [some (qR 59), some (qR 29)] []
  refine qJ.run hκ 3 (pc' := 35) (ls' := [some (qR 59), some (qR 29)]) (st' := [qI (-1), qR 60]) rfl ?_
  refine qJ.callS (As := [qR 60, qI (-1)]) (rest := []) hκ rfl kX0_50 (c_fill60 u (q_cpy (q_cpy m 30 0 66 0 20) 31 0 67 0 20) y (-1)) (by decide) rfl rfl (Nat.le_of_ble_eq_true rfl) (Nat.le_of_ble_eq_true rfl) (Nat.le_of_ble_eq_true rfl) (Or.inl (fun r h' e => by obtain ⟨rfl, rfl⟩ := e; rfl)) (fun r h' e => ?_)
  obtain ⟨rfl, rfl⟩ := e
  show qJ YX0_start κ _ (qLy u, (q_row (q_cpy (q_cpy m 30 0 66 0 20) 31 0 67 0 20) 60 (fun k => if k < 20 then (-1) else m 60 k)), y) 0 0 38 [some (qR 59), some (qR 29)] []
  refine qJ.run hκ 3 (pc' := 43) (ls' := [some (qR 59), some (qR 29)]) (st' := [qI (-1), qR 61]) rfl ?_
  refine qJ.callS (As := [qR 61, qI (-1)]) (rest := []) hκ rfl kX0_50 (c_fill61 u (q_row (q_cpy (q_cpy m 30 0 66 0 20) 31 0 67 0 20) 60 (fun k => if k < 20 then (-1) else m 60 k)) y (-1)) (by decide) rfl rfl (Nat.le_of_ble_eq_true rfl) (Nat.le_of_ble_eq_true rfl) (Nat.le_of_ble_eq_true rfl) (Or.inl (fun r h' e => by obtain ⟨rfl, rfl⟩ := e; rfl)) (fun r h' e => ?_)
  obtain ⟨rfl, rfl⟩ := e
  show qJ YX0_start κ _ (qLy u, (q_row (q_row (q_cpy (q_cpy m 30 0 66 0 20) 31 0 67 0 20) 60 (fun k => if k < 20 then (-1) else m 60 k)) 61 (fun k => if k < 28 then (-1) else m 61 k)), y) 0 0 46 [some (qR 59), some (qR 29)] []
  refine qJ.run hκ 3 (pc' := 51) (ls' := [some (qR 59), some (qR 29)]) (st' := [qI 0, qR 62]) rfl ?_
  refine qJ.callS (As := [qR 62, qI 0]) (rest := []) hκ rfl kX0_50 (c_fill62 u (q_row (q_row (q_cpy (q_cpy m 30 0 66 0 20) 31 0 67 0 20) 60 (fun k => if k < 20 then (-1) else m 60 k)) 61 (fun k => if k < 28 then (-1) else m 61 k)) y 0) (by decide) rfl rfl (Nat.le_of_ble_eq_true rfl) (Nat.le_of_ble_eq_true rfl) (Nat.le_of_ble_eq_true rfl) (Or.inl (fun r h' e => by obtain ⟨rfl, rfl⟩ := e; rfl)) (fun r h' e => ?_)
  obtain ⟨rfl, rfl⟩ := e
  show qJ YX0_start κ _ (qLy u, (q_row (q_row (q_row (q_cpy (q_cpy m 30 0 66 0 20) 31 0 67 0 20) 60 (fun k => if k < 20 then (-1) else m 60 k)) 61 (fun k => if k < 28 then (-1) else m 61 k)) 62 (fun k => if k < 20 then 0 else m 62 k)), y) 0 0 54 [some (qR 59), some (qR 29)] []
  refine qJ.run hκ 3 (pc' := 59) (ls' := [some (qR 59), some (qR 29)]) (st' := [qI 0, qR 64]) rfl ?_
  refine qJ.callS (As := [qR 64, qI 0]) (rest := []) hκ rfl kX0_50 (c_fill64 u (q_row (q_row (q_row (q_cpy (q_cpy m 30 0 66 0 20) 31 0 67 0 20) 60 (fun k => if k < 20 then (-1) else m 60 k)) 61 (fun k => if k < 28 then (-1) else m 61 k)) 62 (fun k => if k < 20 then 0 else m 62 k)) y 0) (by decide) rfl rfl (Nat.le_of_ble_eq_true rfl) (Nat.le_of_ble_eq_true rfl) (Nat.le_of_ble_eq_true rfl) (Or.inl (fun r h' e => by obtain ⟨rfl, rfl⟩ := e; rfl)) (fun r h' e => ?_)
  obtain ⟨rfl, rfl⟩ := e
  show qJ YX0_start κ _ (qLy u, (q_row (q_row (q_row (q_row (q_cpy (q_cpy m 30 0 66 0 20) 31 0 67 0 20) 60 (fun k => if k < 20 then (-1) else m 60 k)) 61 (fun k => if k < 28 then (-1) else m 61 k)) 62 (fun k => if k < 20 then 0 else m 62 k)) 64 (fun k => if k < 20 then 0 else m 64 k)), y) 0 0 62 [some (qR 59), some (qR 29)] []
  exact qJ.vret hκ rfl rfl (by decide) (by decide) (by
      refine ⟨rfl, _, rfl, ?_, fun t ht => ⟨?_, ?_⟩, fun t ht => ⟨if_pos ht, if_pos ht, if_pos ht⟩, fun v hv => if_pos hv⟩
      · exact Eq.trans (keep_row (by intro j; rfl)) (Eq.trans (keep_row (by intro j; rfl)) (Eq.trans (keep_row (by intro j; rfl)) (Eq.trans (keep_row (by intro j; rfl)) (Eq.trans (keep_cp (by intro j; rfl)) (keep_cp (by intro j; rfl))))))
      · show q_cpy m 30 0 66 0 20 66 t = _
        rw [q_cpy_at, if_pos ⟨by omega, by omega⟩, Nat.zero_add, Nat.sub_zero]
      · show q_cpy (q_cpy m 30 0 66 0 20) 31 0 67 0 20 67 t = _
        rw [q_cpy_at, if_pos ⟨by omega, by omega⟩, Nat.zero_add, Nat.sub_zero]
        rfl)

set_option maxRecDepth 100000 in
theorem c_gLeft (u : qU) (m y : qM) (L : List (Nat → Int)) (nn k : Nat) (i : Int) (hd : hdS L nn k m) (hi : 0 ≤ i ∧ i < 12) : qCt YX6_greatestLeft 2 0 0 [qR 56, qI i] (qLy u, m, y) (fun r h => r = some (qI (gLf L nn i)) ∧ h = (qLy u, m, y)) := by
  refine qCt.intro okX6_greatestLeft (Nat.le_of_ble_eq_true rfl) (fun κ hκ => ?_)
  obtain ⟨⟨⟨d0, d1⟩, ⟨d2, d3⟩, d4, d5⟩, dh⟩ := hd
  have L10 : ∀ (n : Nat) (a : Int) (b : Int) (e : Int), (0 ≤ e ∧ e ≤ (nn : Int)) → (a = mxH L i e.toNat) → (b = ((L.length : Nat) : Int) - smH L i e.toNat) → (((nn : Int) - e).toNat) < n → qJ YX6_greatestLeft κ (qFin (fun r h => r = some (qI (gLf L nn i)) ∧ h = (qLy u, m, y)) 0 0 κ) (qLy u, m, y) 0 0 10 [some (qR 56), some (qI i), some (qI a), some (qI b), some (qI e), none] [] := by
    intro n
    induction n with
    | zero => intro a b e _ _ _ hz0; omega
    | succ n ih10 =>
      intro a b e v10_0 v10_1 v10_2 v10_m
      have mr := mxH_r (L := L) (j := i) e.toNat
      have sr := smH_b (L := L) (j := i) (n := e.toNat) (by omega) d1
      refine qJ.run hκ 3 (pc' := 16) (ls' := [some (qR 56), some (qI i), some (qI a), some (qI b), some (qI e), none]) (st' := [qI (m 56 14), qI e]) rfl ?_
      refine qJ.icmp_ge hκ (tgt := 51) rfl rfl (by omega) (by omega) (fun c16 => ?_) (fun c16 => ?_)
      · show qJ YX6_greatestLeft κ _ (qLy u, m, y) 0 0 51 [some (qR 56), some (qI i), some (qI a), some (qI b), some (qI e), none] []
        refine qJ.run hκ 2 (pc' := 53) (ls' := [some (qR 56), some (qI i), some (qI a), some (qI b), some (qI e), none]) (st' := [qI b, qI a]) rfl ?_
        refine qJ.max hκ rfl kX6_175 (Nat.le_of_ble_eq_true rfl) (Nat.le_of_ble_eq_true rfl) (Nat.le_of_ble_eq_true rfl) (Nat.le_of_ble_eq_true rfl) (by omega) (by omega) ?_
        show qJ YX6_greatestLeft κ _ (qLy u, m, y) 0 0 56 [some (qR 56), some (qI i), some (qI a), some (qI b), some (qI e), none] [qI (max a b)]
        exact qJ.iret hκ rfl rfl (by decide) (by decide) (⟨by rw [v10_1, v10_2, show e.toNat = nn by omega]; rfl, rfl⟩)
      · show qJ YX6_greatestLeft κ _ (qLy u, m, y) 0 0 19 [some (qR 56), some (qI i), some (qI a), some (qI b), some (qI e), none] []
        have hh : m 74 ((e * 12) + i).toNat = hC L e.toNat i := by
          have := dh e.toNat i.toNat (by omega) (by omega)
          rw [q_tn hi.1] at this
          rw [show ((e * 12) + i).toNat = e.toNat * 12 + i.toNat by omega]
          exact this
        have hr := hC_r L e.toNat i
        refine qJ.run hκ 7 (pc' := 30) (ls' := [some (qR 56), some (qI i), some (qI a), some (qI b), some (qI e), none]) (st' := [qI ((e * 12) + i), qR 74]) rfl ?_
        refine qJ.ald hκ rfl rfl rfl (by decide) (by omega) ?_
        show qJ YX6_greatestLeft κ _ (qLy u, m, y) 0 0 31 [some (qR 56), some (qI i), some (qI a), some (qI b), some (qI e), none] [qI (m 74 (((e * 12) + i).toNat))]
        refine qJ.run hκ 3 (pc' := 36) (ls' := [some (qR 56), some (qI i), some (qI a), some (qI b), some (qI e), some (qI (m 74 (((e * 12) + i).toNat)))]) (st' := [qI (m 74 (((e * 12) + i).toNat)), qI a]) rfl ?_
        refine qJ.max hκ rfl kX6_175 (Nat.le_of_ble_eq_true rfl) (Nat.le_of_ble_eq_true rfl) (Nat.le_of_ble_eq_true rfl) (Nat.le_of_ble_eq_true rfl) (by omega) (by omega) ?_
        show qJ YX6_greatestLeft κ _ (qLy u, m, y) 0 0 39 [some (qR 56), some (qI i), some (qI a), some (qI b), some (qI e), some (qI (m 74 (((e * 12) + i).toNat)))] [qI (max a (m 74 (((e * 12) + i).toNat)))]
        refine qJ.run hκ 7 (pc' := 10) (ls' := [some (qR 56), some (qI i), some (qI (max a (m 74 (((e * 12) + i).toNat)))), some (qI (b - (m 74 (((e * 12) + i).toNat)))), some (qI (e + 1)), some (qI (m 74 (((e * 12) + i).toNat)))]) (st' := []) rfl ?_
        refine qJ.dl [true, true, true, true, true, false] ?_
        show qJ YX6_greatestLeft κ _ (qLy u, m, y) 0 0 10 [some (qR 56), some (qI i), some (qI (max a (m 74 (((e * 12) + i).toNat)))), some (qI (b - (m 74 (((e * 12) + i).toNat)))), some (qI (e + 1)), none] []
        exact ih10  (max a (m 74 (((e * 12) + i).toNat))) (b - (m 74 (((e * 12) + i).toNat))) (e + 1) (by omega) (by rw [show (e + 1).toNat = e.toNat + 1 by omega, v10_1, hh]; rfl) (by rw [show (e + 1).toNat = e.toNat + 1 by omega, v10_2, hh]; show _ = _ - (smH L i e.toNat + hC L e.toNat i); omega) (by omega)
  show qJ YX6_greatestLeft κ _ (qLy u, m, y) 0 0 0 [some (qR 56), some (qI i), none, none, none, none] []
  refine qJ.run hκ 7 (pc' := 10) (ls' := [some (qR 56), some (qI i), some (qI 0), some (qI (m 56 0)), some (qI 0), none]) (st' := []) rfl ?_
  exact L10 6 0 (m 56 0) 0 (by omega) (rfl) (by show m 56 0 = _ - 0; omega) (by omega)

set_option maxRecDepth 100000 in
theorem c_best (u : qU) (m y : qM) (L : List (Nat → Int)) (nn k : Nat) (cw : Nat → Int) (hd : hdS L nn k m) (hp : ∀ j : Nat, j < k → m 68 j = cw j ∧ 0 ≤ cw j ∧ cw j ≤ 60) : qCt YX6_chooseBest 3 0 0 [qR 56] (qLy u, m, y) (fun r h => r = none ∧ ∃ m', h = (qLy u, m', y) ∧ keep (kN kBe) m' = keep (kN kBe) m ∧ m' 56 1 = (bstA L nn cw k).1 ∧ m' 56 2 = (bstA L nn cw k).2) := by
  refine qCt.intro okX6_chooseBest (Nat.le_of_ble_eq_true rfl) (fun κ hκ => ?_)
  have hd0 := hd
  obtain ⟨⟨⟨d0, d1⟩, ⟨d2, d3⟩, d4, d5⟩, dh⟩ := hd
  have L12 : ∀ (n : Nat) (i : Int) (p : Int) (q : Int), (0 ≤ i ∧ i ≤ (k : Int)) → (p = (bst L nn cw i.toNat).1) → (q = (bst L nn cw i.toNat).2) → (¬ L.length = 0 ∨ i = 0) → (((k : Int) - i).toNat) < n → qJ YX6_chooseBest κ (qFin (fun r h => r = none ∧ ∃ m', h = (qLy u, m', y) ∧ keep (kN kBe) m' = keep (kN kBe) m ∧ m' 56 1 = (bstA L nn cw k).1 ∧ m' 56 2 = (bstA L nn cw k).2) 0 0 κ) (qLy u, (q_up (q_up m 56 1 p) 56 2 q), y) 0 0 12 [some (qR 56), some (qI i), none] [] := by
    intro n
    induction n with
    | zero => intro i p q _ _ _ _ hz0; omega
    | succ n ih12 =>
      intro i p q v12_0 v12_1 v12_2 v12_3 v12_m
      have br := bst_r (L := L) (n := nn) (cw := cw) d3 d1 i.toNat (fun j hj => (hp j (by omega)).2)
      have gr := gLf_r (L := L) (n := nn) (j := i) d3 d1
      refine qJ.run hκ 3 (pc' := 17) (ls' := [some (qR 56), some (qI i), none]) (st' := [qI (m 56 10), qI i]) rfl ?_
      refine qJ.icmp_ge hκ (tgt := 70) rfl rfl (by omega) (by omega) (fun c17 => ?_) (fun c17 => ?_)
      · show qJ YX6_chooseBest κ _ (qLy u, (q_up (q_up m 56 1 p) 56 2 q), y) 0 0 70 [some (qR 56), some (qI i), none] []
        exact qJ.vret hκ rfl rfl (by decide) (by decide) (by
      refine ⟨rfl, _, rfl, (Eq.trans (keep_up (by rfl)) (Eq.trans (keep_up (by rfl)) rfl)), ?_, ?_⟩ <;> unfold bstA
      · show p = _
        by_cases lz : L.length = 0
        · rw [if_pos lz, v12_1, show i.toNat = 0 by omega]; rfl
        · rw [if_neg lz, v12_1, show i.toNat = k by omega]
      · show q = _
        by_cases lz : L.length = 0
        · rw [if_pos lz, v12_2, show i.toNat = 0 by omega]; rfl
        · rw [if_neg lz, v12_2, show i.toNat = k by omega])
      · show qJ YX6_chooseBest κ _ (qLy u, (q_up (q_up m 56 1 p) 56 2 q), y) 0 0 20 [some (qR 56), some (qI i), none] []
        have pi := hp i.toNat (by omega)
        refine qJ.run hκ 2 (pc' := 24) (ls' := [some (qR 56), some (qI i), none]) (st' := [qI (m 56 0)]) rfl ?_
        refine qJ.if_le hκ (tgt := 70) rfl rfl (by omega) (fun c24 => ?_) (fun c24 => ?_)
        · show qJ YX6_chooseBest κ _ (qLy u, (q_up (q_up m 56 1 p) 56 2 q), y) 0 0 70 [some (qR 56), some (qI i), none] []
          exact qJ.vret hκ rfl rfl (by decide) (by decide) (by
      refine ⟨rfl, _, rfl, (Eq.trans (keep_up (by rfl)) (Eq.trans (keep_up (by rfl)) rfl)), ?_, ?_⟩ <;> unfold bstA
      · show p = _
        by_cases lz : L.length = 0
        · rw [if_pos lz, v12_1, show i.toNat = 0 by omega]; rfl
        · rw [if_neg lz, v12_1, show i.toNat = k by omega]
      · show q = _
        by_cases lz : L.length = 0
        · rw [if_pos lz, v12_2, show i.toNat = 0 by omega]; rfl
        · rw [if_neg lz, v12_2, show i.toNat = k by omega])
        · show qJ YX6_chooseBest κ _ (qLy u, (q_up (q_up m 56 1 p) 56 2 q), y) 0 0 27 [some (qR 56), some (qI i), none] []
          refine qJ.run hκ 2 (pc' := 29) (ls' := [some (qR 56), some (qI i), none]) (st' := [qI i, qR 56]) rfl ?_
          refine qJ.callV (As := [qI i]) (rest := []) hκ rfl kX6_172 (c_gLeft u (q_up (q_up m 56 1 p) 56 2 q) y L nn k i (show hdS L nn k (q_up (q_up m 56 1 p) 56 2 q) from hd0) (by omega)) rfl rfl (by decide) rfl rfl (Nat.le_of_ble_eq_true rfl) (Nat.le_of_ble_eq_true rfl) (Nat.le_of_ble_eq_true rfl) (Or.inl (fun r h' e => by obtain ⟨rfl, rfl⟩ := e; rfl)) (fun r h' e => ?_)
          obtain ⟨rfl, rfl⟩ := e
          show qJ YX6_chooseBest κ _ (qLy u, (q_up (q_up m 56 1 p) 56 2 q), y) 0 0 32 [some (qR 56), some (qI i), none] [qI (gLf L nn i)]
          refine qJ.run hκ 4 (pc' := 38) (ls' := [some (qR 56), some (qI i), some (qI (gLf L nn i))]) (st' := [qI (-1), qI p]) rfl ?_
          refine qJ.icmp_eq hκ (tgt := 49) rfl rfl (by omega) (by omega) (fun c38 => ?_) (fun c38 => ?_)
          · show qJ YX6_chooseBest κ _ (qLy u, (q_up (q_up m 56 1 p) 56 2 q), y) 0 0 49 [some (qR 56), some (qI i), some (qI (gLf L nn i))] []
            refine qJ.run hκ 4 (pc' := 55) (ls' := [some (qR 56), some (qI i), some (qI (gLf L nn i))]) (st' := [qI i, qR 68, qR 56]) rfl ?_
            refine qJ.ald hκ rfl rfl rfl (by decide) (by omega) ?_
            show qJ YX6_chooseBest κ _ (qLy u, (q_up (q_up m 56 1 p) 56 2 q), y) 0 0 56 [some (qR 56), some (qI i), some (qI (gLf L nn i))] [qI (m 68 i.toNat), qR 56]
            refine qJ.putI hκ rfl rfl rfl rfl (Or.inl rfl) ?_
            show qJ YX6_chooseBest κ _ (qLy u, (q_up (q_up (q_up m 56 1 p) 56 2 q) 56 1 (m 68 i.toNat)), y) 0 0 59 [some (qR 56), some (qI i), some (qI (gLf L nn i))] []
            refine qJ.run hκ 2 (pc' := 61) (ls' := [some (qR 56), some (qI i), some (qI (gLf L nn i))]) (st' := [qI (gLf L nn i), qR 56]) rfl ?_
            refine qJ.putI hκ rfl rfl rfl rfl (Or.inl rfl) ?_
            show qJ YX6_chooseBest κ _ (qLy u, (q_up (q_up (q_up (q_up m 56 1 p) 56 2 q) 56 1 (m 68 i.toNat)) 56 2 (gLf L nn i)), y) 0 0 64 [some (qR 56), some (qI i), some (qI (gLf L nn i))] []
            refine qJ.run hκ 2 (pc' := 12) (ls' := [some (qR 56), some (qI (i + 1)), some (qI (gLf L nn i))]) (st' := []) rfl ?_
            refine qJ.dl [true, true, false] ?_
            show qJ YX6_chooseBest κ _ (qLy u, (q_up (q_up (q_up (q_up m 56 1 p) 56 2 q) 56 1 (m 68 i.toNat)) 56 2 (gLf L nn i)), y) 0 0 12 [some (qR 56), some (qI (i + 1)), none] []
            exact qJ.cast (ih12  (i + 1) (m 68 i.toNat) (gLf L nn i) (by omega) (by rw [show (i + 1).toNat = i.toNat + 1 by omega]; unfold bst; rw [if_pos (Or.inl (by omega))]; exact pi.1) (by rw [show (i + 1).toNat = i.toNat + 1 by omega]; unfold bst; rw [if_pos (Or.inl (by omega)), q_tn v12_0.1]) (by omega) (by omega)) (by rw [q_uu12]) rfl rfl
          · show qJ YX6_chooseBest κ _ (qLy u, (q_up (q_up m 56 1 p) 56 2 q), y) 0 0 41 [some (qR 56), some (qI i), some (qI (gLf L nn i))] []
            refine qJ.run hκ 3 (pc' := 46) (ls' := [some (qR 56), some (qI i), some (qI (gLf L nn i))]) (st' := [qI q, qI (gLf L nn i)]) rfl ?_
            refine qJ.icmp_ge hκ (tgt := 64) rfl rfl (by omega) (by omega) (fun c46 => ?_) (fun c46 => ?_)
            · show qJ YX6_chooseBest κ _ (qLy u, (q_up (q_up m 56 1 p) 56 2 q), y) 0 0 64 [some (qR 56), some (qI i), some (qI (gLf L nn i))] []
              refine qJ.run hκ 2 (pc' := 12) (ls' := [some (qR 56), some (qI (i + 1)), some (qI (gLf L nn i))]) (st' := []) rfl ?_
              refine qJ.dl [true, true, false] ?_
              show qJ YX6_chooseBest κ _ (qLy u, (q_up (q_up m 56 1 p) 56 2 q), y) 0 0 12 [some (qR 56), some (qI (i + 1)), none] []
              exact qJ.cast (ih12  (i + 1) p q (by omega) (by rw [show (i + 1).toNat = i.toNat + 1 by omega]; unfold bst; rw [if_neg (fun z => by rw [q_tn v12_0.1] at z; omega)]; exact v12_1) (by rw [show (i + 1).toNat = i.toNat + 1 by omega]; unfold bst; rw [if_neg (fun z => by rw [q_tn v12_0.1] at z; omega)]; exact v12_2) (by omega) (by omega)) (rfl) rfl rfl
            · show qJ YX6_chooseBest κ _ (qLy u, (q_up (q_up m 56 1 p) 56 2 q), y) 0 0 49 [some (qR 56), some (qI i), some (qI (gLf L nn i))] []
              refine qJ.run hκ 4 (pc' := 55) (ls' := [some (qR 56), some (qI i), some (qI (gLf L nn i))]) (st' := [qI i, qR 68, qR 56]) rfl ?_
              refine qJ.ald hκ rfl rfl rfl (by decide) (by omega) ?_
              show qJ YX6_chooseBest κ _ (qLy u, (q_up (q_up m 56 1 p) 56 2 q), y) 0 0 56 [some (qR 56), some (qI i), some (qI (gLf L nn i))] [qI (m 68 i.toNat), qR 56]
              refine qJ.putI hκ rfl rfl rfl rfl (Or.inl rfl) ?_
              show qJ YX6_chooseBest κ _ (qLy u, (q_up (q_up (q_up m 56 1 p) 56 2 q) 56 1 (m 68 i.toNat)), y) 0 0 59 [some (qR 56), some (qI i), some (qI (gLf L nn i))] []
              refine qJ.run hκ 2 (pc' := 61) (ls' := [some (qR 56), some (qI i), some (qI (gLf L nn i))]) (st' := [qI (gLf L nn i), qR 56]) rfl ?_
              refine qJ.putI hκ rfl rfl rfl rfl (Or.inl rfl) ?_
              show qJ YX6_chooseBest κ _ (qLy u, (q_up (q_up (q_up (q_up m 56 1 p) 56 2 q) 56 1 (m 68 i.toNat)) 56 2 (gLf L nn i)), y) 0 0 64 [some (qR 56), some (qI i), some (qI (gLf L nn i))] []
              refine qJ.run hκ 2 (pc' := 12) (ls' := [some (qR 56), some (qI (i + 1)), some (qI (gLf L nn i))]) (st' := []) rfl ?_
              refine qJ.dl [true, true, false] ?_
              show qJ YX6_chooseBest κ _ (qLy u, (q_up (q_up (q_up (q_up m 56 1 p) 56 2 q) 56 1 (m 68 i.toNat)) 56 2 (gLf L nn i)), y) 0 0 12 [some (qR 56), some (qI (i + 1)), none] []
              exact qJ.cast (ih12  (i + 1) (m 68 i.toNat) (gLf L nn i) (by omega) (by rw [show (i + 1).toNat = i.toNat + 1 by omega]; unfold bst; rw [if_pos (Or.inr (by rw [q_tn v12_0.1]; omega))]; exact pi.1) (by rw [show (i + 1).toNat = i.toNat + 1 by omega]; unfold bst; rw [if_pos (Or.inr (by rw [q_tn v12_0.1]; omega)), q_tn v12_0.1]) (by omega) (by omega)) (by rw [q_uu12]) rfl rfl
  show qJ YX6_chooseBest κ _ (qLy u, m, y) 0 0 0 [some (qR 56), none, none] []
  refine qJ.run hκ 2 (pc' := 2) (ls' := [some (qR 56), none, none]) (st' := [qI (-1), qR 56]) rfl ?_
  refine qJ.putI hκ rfl rfl rfl rfl (Or.inl rfl) ?_
  show qJ YX6_chooseBest κ _ (qLy u, (q_up m 56 1 (-1)), y) 0 0 5 [some (qR 56), none, none] []
  refine qJ.run hκ 2 (pc' := 7) (ls' := [some (qR 56), none, none]) (st' := [qI (-1), qR 56]) rfl ?_
  refine qJ.putI hκ rfl rfl rfl rfl (Or.inl rfl) ?_
  show qJ YX6_chooseBest κ _ (qLy u, (q_up (q_up m 56 1 (-1)) 56 2 (-1)), y) 0 0 10 [some (qR 56), none, none] []
  refine qJ.run hκ 2 (pc' := 12) (ls' := [some (qR 56), some (qI 0), none]) (st' := []) rfl ?_
  exact qJ.cast (L12 13 0 (-1) (-1) (by omega) (rfl) (rfl) (by omega) (by omega)) (rfl) rfl rfl

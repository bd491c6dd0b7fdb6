/-! printed by p54.py: the model spells -/
theorem vc_x (c : Int) (h : ¬ vow c = -1) : cons c = 0 := by
  by_cases h1 : c = 97
  · subst h1; decide
  by_cases h2 : c = 101
  · subst h2; decide
  by_cases h3 : c = 105
  · subst h3; decide
  by_cases h4 : c = 111
  · subst h4; decide
  exfalso
  apply h
  unfold vow
  rw [if_neg h1, if_neg h2, if_neg h3, if_neg h4]
theorem lc_v {c : Int} (h : 0 ≤ lcode c) : vow c = (if lcode c < 4 then lcode c else -1) ∧ cons c = (if lcode c < 4 then 0 else lcode c - 3) := by
  have e := lc_vc c
  have v := vow_r c
  have k := cons_r c
  by_cases z : vow c = -1
  · rw [if_pos z] at e
    by_cases q : cons c = 0
    · rw [if_pos q] at e; omega
    · rw [if_neg q] at e
      rw [if_neg (by omega), if_neg (by omega)]; omega
  · rw [if_neg z] at e
    have := vc_x c z
    rw [if_pos (by omega), if_pos (by omega)]; omega
/-- a letter of the model; 0 behind the last one -/
def lt (m : qM) (a i : Int) : Int := if i < m 17 a.toNat then m 104 (10 * a + i).toNat else 0
theorem lt_v {m : qM} (h : rXn m) {a i : Int} (ha : 0 ≤ a ∧ a < m 15 0) (hi : 0 ≤ i ∧ i < m 17 a.toNat) : vow (lt m a i) = (if Lc m a i < 4 then Lc m a i else -1) ∧ cons (lt m a i) = (if Lc m a i < 4 then 0 else Lc m a i - 3) ∧ ¬ lt m a i = 0 ∧ (-128 ≤ lt m a i ∧ lt m a i ≤ 127) := by
  have e := (h.2.1 a ha.1 ha.2).2.2.2 i hi.1 hi.2
  have l1 : Lc m a i = lcode (m 104 (10 * a + i).toNat) := e.1
  have l2 : 0 ≤ Lc m a i := e.2.1
  unfold lt
  rw [if_pos hi.2]
  rw [l1] at l2
  rw [l1]
  have q := lc_v l2
  refine ⟨q.1, q.2, fun z => ?_, e.2.2⟩
  rw [z] at l2
  exact absurd l2 (by decide)
theorem ltr_0 {m : qM} {a i : Int} (hi : ¬ i < m 17 a.toNat) : lt m a i = 0 := if_neg hi
/-- the first line for a consonant and its stand -/
def LFn (m : qM) (c w : Int) : Int := q_fst (fun l => m 106 (4 * (l : Int)).toNat = c ∧ m 106 (4 * (l : Int) + 1).toNat = w) (m 15 4).toNat
abbrev aC (m : qM) (a i w : Int) : Int := m 19 (sl3 (Lc m a i - 3) w)
abbrev oC (m : qM) (a i w : Int) : Int := if m 19 (sl3 (Lc m a i - 3) w) = 3 then m 20 (sl3 (Lc m a i - 3) w) else Lc m a i - 3
theorem cV_0 {m : qM} {a i : Int} (hs : lxS m) (hc : 4 ≤ Lc m a i ∧ Lc m a i ≤ 9) : cV m a i 0 = if vB m a i = -1 then -1 else 4 * (if aC m a i 0 = 0 then 0 else oC m a i 0) + vB m a i := by
  have sl := hs (Lc m a i - 3) 0 (by omega) (by omega) (by omega) (by omega)
  unfold cV aC oC
  rw [if_neg (fun z => by omega)]
  by_cases z : m 19 (sl3 (Lc m a i - 3) 0) = 0
  · rw [if_pos z, if_pos rfl, if_pos z]
    split <;> omega
  · rw [if_neg z, if_neg z, if_neg (show ¬ ((0 : Int) = 2 ∨ m 19 (sl3 (Lc m a i - 3) 0) = 2) from fun q => q.elim (fun w => by omega) (fun w => sl.2.2.2 w rfl))]
theorem cV_1 {m : qM} {a i : Int} : cV m a i 1 = if aC m a i 1 = 0 then -1 else if (if aC m a i 1 = 2 then vA m a i else vB m a i) = -1 then -1 else 4 * oC m a i 1 + (if aC m a i 1 = 2 then vA m a i else vB m a i) := by
  unfold cV aC oC
  rw [if_neg (fun z => by omega)]
  by_cases z : m 19 (sl3 (Lc m a i - 3) 1) = 0
  · rw [if_pos z, if_pos z, if_neg (by omega)]
  · rw [if_neg z, if_neg z]
    by_cases q : m 19 (sl3 (Lc m a i - 3) 1) = 2
    · rw [if_pos (Or.inr q), if_pos q]
    · rw [if_neg (show ¬ ((1 : Int) = 2 ∨ m 19 (sl3 (Lc m a i - 3) 1) = 2) from fun w => w.elim (fun v => by omega) q), if_neg q]
theorem cV_2 {m : qM} {a i : Int} (hs : lxS m) (hc : 4 ≤ Lc m a i ∧ Lc m a i ≤ 9) : cV m a i 2 = if aC m a i 2 = 2 ∨ aC m a i 2 = 3 then (if vA m a i = -1 then -1 else 4 * oC m a i 2 + vA m a i) else -1 := by
  have sl := hs (Lc m a i - 3) 2 (by omega) (by omega) (by omega) (by omega)
  unfold cV aC oC
  by_cases z : m 19 (sl3 (Lc m a i - 3) 2) = 2 ∨ m 19 (sl3 (Lc m a i - 3) 2) = 3
  · rw [if_pos z, if_neg (by omega), if_neg (by omega), if_pos (Or.inl rfl)]
  · rw [if_neg z]
    by_cases q : m 19 (sl3 (Lc m a i - 3) 2) = -1
    · rw [if_pos ⟨q, rfl⟩]
    · have : m 19 (sl3 (Lc m a i - 3) 2) = 0 := by
        have := sl.1
        have := sl.2.2.1
        omega
      rw [if_neg (fun w => q w.1), if_pos this, if_neg (by omega)]
/-- the vowel right behind an open consonant -/
theorem vB_open {m : qM} {a i : Int} (hi : 0 ≤ i ∧ i + 1 < m 17 a.toNat) (hv : Lc m a (i + 1) < 4) : vB m a i = Lc m a (i + 1) := by
  have h0 : q_fst (fun j => i < (j : Int) ∧ Lc m a (j : Int) < 4) (i + 1).toNat = -1 := (q_fst_0 _ _).mpr ((q_cnt_no _).mpr fun j hj w => by have := w.1; omega)
  have hit := q_fst_hit (p := fun j => i < (j : Int) ∧ Lc m a (j : Int) < 4) (i := i + 1) (by omega) h0 ⟨by omega, by rw [q_tn (by omega)]; exact hv⟩ (m 17 a.toNat).toNat (by omega)
  have e : vBf m a i = i + 1 := hit
  unfold vB
  rw [e, if_neg (by omega)]
def STm (m : qM) (f0 g0 f g : Nat → Int) (a k : Int) : Prop := (∀ j : Nat, (j : Int) < a * 10 → f j = f0 j) ∧ (∀ b : Nat, ¬ b = a.toNat → g b = g0 b) ∧ g a.toNat = (vN m a k.toNat : Nat) ∧ SPv m f a k
theorem ST_no {m : qM} {f0 g0 f g : Nat → Int} {a k : Int} (h : STm m f0 g0 f g a k) (hk : 0 ≤ k) (hp : pV m a k = -1) : STm m f0 g0 f g a (k + 1) := by
  obtain ⟨h1, h2, h3, h4⟩ := h
  exact ⟨h1, h2, by rw [h3, vN_s hk, if_neg (fun q => q hp)]; rfl, SPv_n h4 hp⟩
theorem ST_say {m : qM} {f0 g0 f g f1 g1 : Nat → Int} {a k c v : Int} (h : STm m f0 g0 f g a k) (hk : 0 ≤ k ∧ k < 10) (ha : 0 ≤ a) (hs : (v = -1 ∧ f1 = f ∧ g1 = g) ∨ (¬ v = -1 ∧ f1 = q_fu f (10 * a + g a.toNat).toNat (4 * c + v) ∧ g1 = q_fu g a.toNat (g a.toNat + 1))) (hp : pV m a k = if v = -1 then -1 else 4 * c + v) (hcv : ¬ v = -1 → 0 ≤ 4 * c + v) : STm m f0 g0 f1 g1 a (k + 1) := by
  rcases hs with ⟨s1, s2, s3⟩ | ⟨s1, s2, s3⟩
  · subst s2; subst s3
    rw [if_pos s1] at hp
    exact ST_no h hk.1 hp
  · rw [if_neg s1] at hp
    have := hcv s1
    obtain ⟨h1, h2, h3, h4⟩ := h
    subst s2; subst s3
    rw [h3]
    have vl := vN_le m a k.toNat
    refine ⟨fun j hj => by rw [q_fu_ne (by omega)]; exact h1 j hj, fun b hb => by rw [q_fu_ne hb]; exact h2 b hb, by rw [q_fu_eq, vN_s hk.1, if_pos (by omega)]; omega, ?_⟩
    rw [show (10 * a + ((vN m a k.toNat : Nat) : Int)).toNat = (a * 10 + (vN m a k.toNat : Nat)).toNat by omega]
    exact SPv_y h4 hk ha hp

set_option maxRecDepth 100000 in
theorem m_letterAt (u : qU) (m y : qM) (a i : Int) (hX : rXn m) (ha : 0 ≤ a ∧ a < m 15 0) (hi : 0 ≤ i ∧ i ≤ 10) : qCt YX12_letterAt 1 0 0 [qR 77, qI a, qI i] (qLy u, m, y) (fun r h => r = some (qI (lt m a i)) ∧ h = (qLy u, m, y)) := by
  refine qCt.intro okX12_letterAt (Nat.le_of_ble_eq_true rfl) (fun κ hκ => ?_)
  have n0 := hX.1.1
  have e0 := hX.2.1 a ha.1 ha.2
  have e1 := e0.1
  have e2 := e0.2.1
  show qJ YX12_letterAt κ _ (qLy u, m, y) 0 0 0 [some (qR 77), some (qI a), some (qI i)] []
  refine qJ.run hκ 4 (pc' := 6) (ls' := [some (qR 77), some (qI a), some (qI i)]) (st' := [qI a, qR 102, qI i]) rfl ?_
  refine qJ.ald hκ rfl rfl rfl (by decide) (by omega) ?_
  show qJ YX12_letterAt κ _ (qLy u, m, y) 0 0 7 [some (qR 77), some (qI a), some (qI i)] [qI (m 102 a.toNat), qI i]
  refine qJ.icmp_ge hκ (tgt := 24) rfl rfl (by omega) (by omega) (fun c7 => ?_) (fun c7 => ?_)
  · show qJ YX12_letterAt κ _ (qLy u, m, y) 0 0 24 [some (qR 77), some (qI a), some (qI i)] []
    refine qJ.run hκ 1 (pc' := 25) (ls' := [some (qR 77), some (qI a), some (qI i)]) (st' := [qI 0]) rfl ?_
    exact qJ.iret hκ rfl rfl (by decide) (by decide) (⟨by unfold lt; rw [if_neg (by omega)], rfl⟩)
  · show qJ YX12_letterAt κ _ (qLy u, m, y) 0 0 10 [some (qR 77), some (qI a), some (qI i)] []
    refine qJ.run hκ 7 (pc' := 20) (ls' := [some (qR 77), some (qI a), some (qI i)]) (st' := [qI ((10 * a) + i), qR 104]) rfl ?_
    refine qJ.ald hκ rfl rfl rfl (by decide) (by omega) ?_
    show qJ YX12_letterAt κ _ (qLy u, m, y) 0 0 21 [some (qR 77), some (qI a), some (qI i)] [qI (m 104 (((10 * a) + i).toNat))]
    refine qJ.run hκ 1 (pc' := 25) (ls' := [some (qR 77), some (qI a), some (qI i)]) (st' := [qI (m 104 (((10 * a) + i).toNat))]) rfl ?_
    exact qJ.iret hκ rfl rfl (by decide) (by decide) (⟨by unfold lt; rw [if_pos (by omega)], rfl⟩)

set_option maxRecDepth 100000 in
theorem m_vB (u : qU) (m y : qM) (a i : Int) (hX : rXn m) (ha : 0 ≤ a ∧ a < m 15 0) (hi : 0 ≤ i ∧ i < m 17 a.toNat) : qCt YX12_vowelBehind 2 0 0 [qR 77, qI a, qI i] (qLy u, m, y) (fun r h => r = some (qI (vB m a i)) ∧ h = (qLy u, m, y)) := by
  refine qCt.intro okX12_vowelBehind (Nat.le_of_ble_eq_true rfl) (fun κ hκ => ?_)
  have n0 := hX.1.1
  have e0 := hX.2.1 a ha.1 ha.2
  have e1 := e0.1
  have e2 := e0.2.1
  have L4 : ∀ (n : Nat) (j : Int), (i + 1 ≤ j) → (j ≤ m 17 a.toNat) → (q_fst (fun j => i < (j : Int) ∧ Lc m a (j : Int) < 4) j.toNat = -1) → ((m 17 a.toNat - j).toNat) < n → qJ YX12_vowelBehind κ (qFin (fun r h => r = some (qI (vB m a i)) ∧ h = (qLy u, m, y)) 0 0 κ) (qLy u, m, y) 0 0 4 [some (qR 77), some (qI a), some (qI i), some (qI j)] [] := by
    intro n
    induction n with
    | zero => intro j _ _ _ hz0; omega
    | succ n ih4 =>
      intro j v4_0 v4_1 v4_2 v4_m
      refine qJ.run hκ 4 (pc' := 10) (ls' := [some (qR 77), some (qI a), some (qI i), some (qI j)]) (st' := [qI a, qR 102, qI j]) rfl ?_
      refine qJ.ald hκ rfl rfl rfl (by decide) (by omega) ?_
      show qJ YX12_vowelBehind κ _ (qLy u, m, y) 0 0 11 [some (qR 77), some (qI a), some (qI i), some (qI j)] [qI (m 102 a.toNat), qI j]
      refine qJ.icmp_ge hκ (tgt := 43) rfl rfl (by omega) (by omega) (fun c11 => ?_) (fun c11 => ?_)
      · show qJ YX12_vowelBehind κ _ (qLy u, m, y) 0 0 43 [some (qR 77), some (qI a), some (qI i), some (qI j)] []
        refine qJ.run hκ 1 (pc' := 44) (ls' := [some (qR 77), some (qI a), some (qI i), some (qI j)]) (st' := [qI (-1)]) rfl ?_
        exact qJ.iret hκ rfl rfl (by decide) (by decide) (⟨by unfold vB vBf; rw [show (m 17 a.toNat).toNat = j.toNat by omega, v4_2, if_pos rfl], rfl⟩)
      · show qJ YX12_vowelBehind κ _ (qLy u, m, y) 0 0 14 [some (qR 77), some (qI a), some (qI i), some (qI j)] []
        have tv := lt_v hX ha (i := j) (by omega)
        have vr := vow_r (lt m a j)
        refine qJ.run hκ 3 (pc' := 17) (ls' := [some (qR 77), some (qI a), some (qI i), some (qI j)]) (st' := [qI j, qI a, qR 77]) rfl ?_
        refine qJ.callV (As := [qI a, qI j]) (rest := []) hκ rfl kX12_336 (m_letterAt u m y a j (show rXn m from hX) ha (by omega)) rfl rfl (by decide) rfl rfl (Nat.le_of_ble_eq_true rfl) (Nat.le_of_ble_eq_true rfl) (Nat.le_of_ble_eq_true rfl) (Or.inl (fun r h' e => by obtain ⟨rfl, rfl⟩ := e; rfl)) (fun r h' e => ?_)
        obtain ⟨rfl, rfl⟩ := e
        show qJ YX12_vowelBehind κ _ (qLy u, m, y) 0 0 20 [some (qR 77), some (qI a), some (qI i), some (qI j)] [qI (lt m a j)]
        refine qJ.callS (As := [qI (lt m a j)]) (rest := []) hκ rfl kX12_261 (m_vow u m y (lt m a j) (by omega)) (by decide) rfl rfl (Nat.le_of_ble_eq_true rfl) (Nat.le_of_ble_eq_true rfl) (Nat.le_of_ble_eq_true rfl) (Or.inl (fun r h' e => by obtain ⟨rfl, rfl⟩ := e; rfl)) (fun r h' e => ?_)
        obtain ⟨rfl, rfl⟩ := e
        show qJ YX12_vowelBehind κ _ (qLy u, m, y) 0 0 23 [some (qR 77), some (qI a), some (qI i), some (qI j)] [qI (vow (lt m a j))]
        refine qJ.run hκ 1 (pc' := 24) (ls' := [some (qR 77), some (qI a), some (qI i), some (qI j)]) (st' := [qI (-1), qI (vow (lt m a j))]) rfl ?_
        refine qJ.icmp_eq hκ (tgt := 37) rfl rfl (by omega) (by omega) (fun c24 => ?_) (fun c24 => ?_)
        · show qJ YX12_vowelBehind κ _ (qLy u, m, y) 0 0 37 [some (qR 77), some (qI a), some (qI i), some (qI j)] []
          refine qJ.run hκ 2 (pc' := 4) (ls' := [some (qR 77), some (qI a), some (qI i), some (qI (j + 1))]) (st' := []) rfl ?_
          exact ih4  (j + 1) (by omega) (by omega) (q_fst_no (p := fun j => i < (j : Int) ∧ Lc m a (j : Int) < 4) (i := j) (by omega) v4_2 (fun w => by have w2 : Lc m a ((j.toNat : Nat) : Int) < 4 := w.2; rw [q_tn (by omega)] at w2; rw [tv.1, if_pos w2] at c24; have := (rX_lxA hX ha).2.2 j (by omega) (by omega); omega)) (by omega)
        · show qJ YX12_vowelBehind κ _ (qLy u, m, y) 0 0 27 [some (qR 77), some (qI a), some (qI i), some (qI j)] []
          refine qJ.run hκ 3 (pc' := 30) (ls' := [some (qR 77), some (qI a), some (qI i), some (qI j)]) (st' := [qI j, qI a, qR 77]) rfl ?_
          refine qJ.callV (As := [qI a, qI j]) (rest := []) hκ rfl kX12_336 (m_letterAt u m y a j (show rXn m from hX) ha (by omega)) rfl rfl (by decide) rfl rfl (Nat.le_of_ble_eq_true rfl) (Nat.le_of_ble_eq_true rfl) (Nat.le_of_ble_eq_true rfl) (Or.inl (fun r h' e => by obtain ⟨rfl, rfl⟩ := e; rfl)) (fun r h' e => ?_)
          obtain ⟨rfl, rfl⟩ := e
          show qJ YX12_vowelBehind κ _ (qLy u, m, y) 0 0 33 [some (qR 77), some (qI a), some (qI i), some (qI j)] [qI (lt m a j)]
          refine qJ.callS (As := [qI (lt m a j)]) (rest := []) hκ rfl kX12_261 (m_vow u m y (lt m a j) (by omega)) (by decide) rfl rfl (Nat.le_of_ble_eq_true rfl) (Nat.le_of_ble_eq_true rfl) (Nat.le_of_ble_eq_true rfl) (Or.inl (fun r h' e => by obtain ⟨rfl, rfl⟩ := e; rfl)) (fun r h' e => ?_)
          obtain ⟨rfl, rfl⟩ := e
          show qJ YX12_vowelBehind κ _ (qLy u, m, y) 0 0 36 [some (qR 77), some (qI a), some (qI i), some (qI j)] [qI (vow (lt m a j))]
          exact qJ.iret hκ rfl rfl (by decide) (by decide) (by have l4 : Lc m a j < 4 := (by by_cases q : Lc m a j < 4; exact q; rw [tv.1, if_neg q] at c24; exact absurd rfl c24); have hit := q_fst_hit (p := fun j => i < (j : Int) ∧ Lc m a (j : Int) < 4) (i := j) (by omega) v4_2 ⟨by omega, by show Lc m a ((j.toNat : Nat) : Int) < 4; rw [q_tn (by omega)]; exact l4⟩ (m 17 a.toNat).toNat (by omega); exact ⟨by unfold vB vBf; rw [hit, if_neg (by omega), tv.1, if_pos l4], rfl⟩)
  show qJ YX12_vowelBehind κ _ (qLy u, m, y) 0 0 0 [some (qR 77), some (qI a), some (qI i), none] []
  refine qJ.run hκ 4 (pc' := 4) (ls' := [some (qR 77), some (qI a), some (qI i), some (qI (i + 1))]) (st' := []) rfl ?_
  exact L4 12 (i + 1) (by omega) (by omega) ((q_fst_0 _ _).mpr ((q_cnt_no _).mpr fun q hq w => by have := w.1; omega)) (by omega)

set_option maxRecDepth 100000 in
theorem m_vA (u : qU) (m y : qM) (a i : Int) (hX : rXn m) (ha : 0 ≤ a ∧ a < m 15 0) (hi : 0 ≤ i ∧ i < m 17 a.toNat) : qCt YX12_vowelAhead 2 0 0 [qR 77, qI a, qI i] (qLy u, m, y) (fun r h => r = some (qI (vA m a i)) ∧ h = (qLy u, m, y)) := by
  refine qCt.intro okX12_vowelAhead (Nat.le_of_ble_eq_true rfl) (fun κ hκ => ?_)
  have n0 := hX.1.1
  have e0 := hX.2.1 a ha.1 ha.2
  have e1 := e0.1
  have e2 := e0.2.1
  have L4 : ∀ (n : Nat) (j : Int), (-1 ≤ j) → (j < i) → (vAf m a i = q_lst (fun j => Lc m a (j : Int) < 4) (j + 1).toNat) → ((j + 1).toNat) < n → qJ YX12_vowelAhead κ (qFin (fun r h => r = some (qI (vA m a i)) ∧ h = (qLy u, m, y)) 0 0 κ) (qLy u, m, y) 0 0 4 [some (qR 77), some (qI a), some (qI i), some (qI j)] [] := by
    intro n
    induction n with
    | zero => intro j _ _ _ hz0; omega
    | succ n ih4 =>
      intro j v4_0 v4_1 v4_2 v4_m
      refine qJ.run hκ 1 (pc' := 5) (ls' := [some (qR 77), some (qI a), some (qI i), some (qI j)]) (st' := [qI j]) rfl ?_
      refine qJ.if_lt hκ (tgt := 37) rfl rfl (by omega) (fun c5 => ?_) (fun c5 => ?_)
      · show qJ YX12_vowelAhead κ _ (qLy u, m, y) 0 0 37 [some (qR 77), some (qI a), some (qI i), some (qI j)] []
        refine qJ.run hκ 1 (pc' := 38) (ls' := [some (qR 77), some (qI a), some (qI i), some (qI j)]) (st' := [qI (-1)]) rfl ?_
        exact qJ.iret hκ rfl rfl (by decide) (by decide) (by have hit : vAf m a i = -1 := (by rw [v4_2, show (j + 1).toNat = 0 by omega]; rfl); exact ⟨by unfold vA; rw [hit, if_pos rfl], rfl⟩)
      · show qJ YX12_vowelAhead κ _ (qLy u, m, y) 0 0 8 [some (qR 77), some (qI a), some (qI i), some (qI j)] []
        have tv := lt_v hX ha (i := j) (by omega)
        have vr := vow_r (lt m a j)
        refine qJ.run hκ 3 (pc' := 11) (ls' := [some (qR 77), some (qI a), some (qI i), some (qI j)]) (st' := [qI j, qI a, qR 77]) rfl ?_
        refine qJ.callV (As := [qI a, qI j]) (rest := []) hκ rfl kX12_336 (m_letterAt u m y a j (show rXn m from hX) ha (by omega)) rfl rfl (by decide) rfl rfl (Nat.le_of_ble_eq_true rfl) (Nat.le_of_ble_eq_true rfl) (Nat.le_of_ble_eq_true rfl) (Or.inl (fun r h' e => by obtain ⟨rfl, rfl⟩ := e; rfl)) (fun r h' e => ?_)
        obtain ⟨rfl, rfl⟩ := e
        show qJ YX12_vowelAhead κ _ (qLy u, m, y) 0 0 14 [some (qR 77), some (qI a), some (qI i), some (qI j)] [qI (lt m a j)]
        refine qJ.callS (As := [qI (lt m a j)]) (rest := []) hκ rfl kX12_261 (m_vow u m y (lt m a j) (by omega)) (by decide) rfl rfl (Nat.le_of_ble_eq_true rfl) (Nat.le_of_ble_eq_true rfl) (Nat.le_of_ble_eq_true rfl) (Or.inl (fun r h' e => by obtain ⟨rfl, rfl⟩ := e; rfl)) (fun r h' e => ?_)
        obtain ⟨rfl, rfl⟩ := e
        show qJ YX12_vowelAhead κ _ (qLy u, m, y) 0 0 17 [some (qR 77), some (qI a), some (qI i), some (qI j)] [qI (vow (lt m a j))]
        refine qJ.run hκ 1 (pc' := 18) (ls' := [some (qR 77), some (qI a), some (qI i), some (qI j)]) (st' := [qI (-1), qI (vow (lt m a j))]) rfl ?_
        refine qJ.icmp_eq hκ (tgt := 31) rfl rfl (by omega) (by omega) (fun c18 => ?_) (fun c18 => ?_)
        · show qJ YX12_vowelAhead κ _ (qLy u, m, y) 0 0 31 [some (qR 77), some (qI a), some (qI i), some (qI j)] []
          refine qJ.run hκ 2 (pc' := 4) (ls' := [some (qR 77), some (qI a), some (qI i), some (qI (j + (-1)))]) (st' := []) rfl ?_
          exact ih4  (j + (-1)) (by omega) (by omega) (by rw [v4_2, q_lst_s (show 0 ≤ j by omega), q_tn (show 0 ≤ j by omega), if_neg (fun w2 => by rw [tv.1, if_pos w2] at c18; have := (rX_lxA hX ha).2.2 j (by omega) (by omega); omega), show (j + -1 + 1).toNat = j.toNat by omega]) (by omega)
        · show qJ YX12_vowelAhead κ _ (qLy u, m, y) 0 0 21 [some (qR 77), some (qI a), some (qI i), some (qI j)] []
          refine qJ.run hκ 3 (pc' := 24) (ls' := [some (qR 77), some (qI a), some (qI i), some (qI j)]) (st' := [qI j, qI a, qR 77]) rfl ?_
          refine qJ.callV (As := [qI a, qI j]) (rest := []) hκ rfl kX12_336 (m_letterAt u m y a j (show rXn m from hX) ha (by omega)) rfl rfl (by decide) rfl rfl (Nat.le_of_ble_eq_true rfl) (Nat.le_of_ble_eq_true rfl) (Nat.le_of_ble_eq_true rfl) (Or.inl (fun r h' e => by obtain ⟨rfl, rfl⟩ := e; rfl)) (fun r h' e => ?_)
          obtain ⟨rfl, rfl⟩ := e
          show qJ YX12_vowelAhead κ _ (qLy u, m, y) 0 0 27 [some (qR 77), some (qI a), some (qI i), some (qI j)] [qI (lt m a j)]
          refine qJ.callS (As := [qI (lt m a j)]) (rest := []) hκ rfl kX12_261 (m_vow u m y (lt m a j) (by omega)) (by decide) rfl rfl (Nat.le_of_ble_eq_true rfl) (Nat.le_of_ble_eq_true rfl) (Nat.le_of_ble_eq_true rfl) (Or.inl (fun r h' e => by obtain ⟨rfl, rfl⟩ := e; rfl)) (fun r h' e => ?_)
          obtain ⟨rfl, rfl⟩ := e
          show qJ YX12_vowelAhead κ _ (qLy u, m, y) 0 0 30 [some (qR 77), some (qI a), some (qI i), some (qI j)] [qI (vow (lt m a j))]
          exact qJ.iret hκ rfl rfl (by decide) (by decide) (by have l4 : Lc m a j < 4 := (by by_cases q : Lc m a j < 4; exact q; rw [tv.1, if_neg q] at c18; exact absurd rfl c18); have hit : vAf m a i = j := (by rw [v4_2, q_lst_s (show 0 ≤ j by omega), q_tn (show 0 ≤ j by omega), if_pos l4]); exact ⟨by unfold vA; rw [hit, if_neg (by omega), tv.1, if_pos l4], rfl⟩)
  show qJ YX12_vowelAhead κ _ (qLy u, m, y) 0 0 0 [some (qR 77), some (qI a), some (qI i), none] []
  refine qJ.run hκ 4 (pc' := 4) (ls' := [some (qR 77), some (qI a), some (qI i), some (qI (i - 1))]) (st' := []) rfl ?_
  exact L4 12 (i - 1) (by omega) (by omega) (by rw [show (i - 1 + 1).toNat = i.toNat by omega]; rfl) (by omega)

set_option maxRecDepth 100000 in
theorem m_lineFor (u : qU) (m y : qM) (c w : Int) (hl : rXl m) (hc : qr c) (hw : qr w) : qCt YX12_lineFor 1 0 0 [qR 77, qI c, qI w] (qLy u, m, y) (fun r h => r = some (qI (if LFn m c w = -1 then -1 else 4 * LFn m c w)) ∧ h = (qLy u, m, y)) := by
  refine qCt.intro okX12_lineFor (Nat.le_of_ble_eq_true rfl) (fun κ hκ => ?_)
  have l0 := hl.1
  have L2 : ∀ (n : Nat) (i : Int), (0 ≤ i) → (i ≤ m 15 4) → (q_fst (fun l => m 106 (4 * (l : Int)).toNat = c ∧ m 106 (4 * (l : Int) + 1).toNat = w) i.toNat = -1) → ((m 15 4 - i).toNat) < n → qJ YX12_lineFor κ (qFin (fun r h => r = some (qI (if LFn m c w = -1 then -1 else 4 * LFn m c w)) ∧ h = (qLy u, m, y)) 0 0 κ) (qLy u, m, y) 0 0 2 [some (qR 77), some (qI c), some (qI w), some (qI i)] [] := by
    intro n
    induction n with
    | zero => intro i _ _ _ hz0; omega
    | succ n ih2 =>
      intro i v2_0 v2_1 v2_2 v2_m
      refine qJ.run hκ 4 (pc' := 8) (ls' := [some (qR 77), some (qI c), some (qI w), some (qI i)]) (st' := [qI 0, qR 105, qI i]) rfl ?_
      refine qJ.ald hκ rfl rfl rfl (by decide) (by omega) ?_
      show qJ YX12_lineFor κ _ (qLy u, m, y) 0 0 9 [some (qR 77), some (qI c), some (qI w), some (qI i)] [qI (m 105 0), qI i]
      refine qJ.icmp_ge hκ (tgt := 48) rfl rfl (by omega) (by omega) (fun c9 => ?_) (fun c9 => ?_)
      · show qJ YX12_lineFor κ _ (qLy u, m, y) 0 0 48 [some (qR 77), some (qI c), some (qI w), some (qI i)] []
        refine qJ.run hκ 1 (pc' := 49) (ls' := [some (qR 77), some (qI c), some (qI w), some (qI i)]) (st' := [qI (-1)]) rfl ?_
        exact qJ.iret hκ rfl rfl (by decide) (by decide) (by have hit : LFn m c w = -1 := (by unfold LFn; rw [show (m 15 4).toNat = i.toNat by omega]; exact v2_2); exact ⟨by rw [hit, if_pos rfl], rfl⟩)
      · show qJ YX12_lineFor κ _ (qLy u, m, y) 0 0 12 [some (qR 77), some (qI c), some (qI w), some (qI i)] []
        have ll := hl.2.1 i (by omega) (by omega)
        refine qJ.run hκ 5 (pc' := 19) (ls' := [some (qR 77), some (qI c), some (qI w), some (qI i)]) (st' := [qI (4 * i), qR 106]) rfl ?_
        refine qJ.ald hκ rfl rfl rfl (by decide) (by omega) ?_
        show qJ YX12_lineFor κ _ (qLy u, m, y) 0 0 20 [some (qR 77), some (qI c), some (qI w), some (qI i)] [qI (m 106 ((4 * i).toNat))]
        refine qJ.run hκ 1 (pc' := 21) (ls' := [some (qR 77), some (qI c), some (qI w), some (qI i)]) (st' := [qI c, qI (m 106 ((4 * i).toNat))]) rfl ?_
        refine qJ.icmp_ne hκ (tgt := 42) rfl rfl (by omega) (by omega) (fun c21 => ?_) (fun c21 => ?_)
        · show qJ YX12_lineFor κ _ (qLy u, m, y) 0 0 42 [some (qR 77), some (qI c), some (qI w), some (qI i)] []
          refine qJ.run hκ 2 (pc' := 2) (ls' := [some (qR 77), some (qI c), some (qI w), some (qI (i + 1))]) (st' := []) rfl ?_
          exact ih2  (i + 1) (by omega) (by omega) (q_fst_no (p := fun l => m 106 (4 * (l : Int)).toNat = c ∧ m 106 (4 * (l : Int) + 1).toNat = w) v2_0 v2_2 (fun q => by have q1 : m 106 (4 * ((i.toNat : Nat) : Int)).toNat = c := q.1; rw [q_tn v2_0] at q1; exact c21 q1)) (by omega)
        · show qJ YX12_lineFor κ _ (qLy u, m, y) 0 0 24 [some (qR 77), some (qI c), some (qI w), some (qI i)] []
          refine qJ.run hκ 7 (pc' := 33) (ls' := [some (qR 77), some (qI c), some (qI w), some (qI i)]) (st' := [qI ((4 * i) + 1), qR 106]) rfl ?_
          refine qJ.ald hκ rfl rfl rfl (by decide) (by omega) ?_
          show qJ YX12_lineFor κ _ (qLy u, m, y) 0 0 34 [some (qR 77), some (qI c), some (qI w), some (qI i)] [qI (m 106 (((4 * i) + 1).toNat))]
          refine qJ.run hκ 1 (pc' := 35) (ls' := [some (qR 77), some (qI c), some (qI w), some (qI i)]) (st' := [qI w, qI (m 106 (((4 * i) + 1).toNat))]) rfl ?_
          refine qJ.icmp_ne hκ (tgt := 42) rfl rfl (by omega) (by omega) (fun c35 => ?_) (fun c35 => ?_)
          · show qJ YX12_lineFor κ _ (qLy u, m, y) 0 0 42 [some (qR 77), some (qI c), some (qI w), some (qI i)] []
            refine qJ.run hκ 2 (pc' := 2) (ls' := [some (qR 77), some (qI c), some (qI w), some (qI (i + 1))]) (st' := []) rfl ?_
            exact ih2  (i + 1) (by omega) (by omega) (q_fst_no (p := fun l => m 106 (4 * (l : Int)).toNat = c ∧ m 106 (4 * (l : Int) + 1).toNat = w) v2_0 v2_2 (fun q => by have q1 : m 106 (4 * ((i.toNat : Nat) : Int) + 1).toNat = w := q.2; rw [q_tn v2_0] at q1; exact c35 q1)) (by omega)
          · show qJ YX12_lineFor κ _ (qLy u, m, y) 0 0 38 [some (qR 77), some (qI c), some (qI w), some (qI i)] []
            refine qJ.run hκ 3 (pc' := 41) (ls' := [some (qR 77), some (qI c), some (qI w), some (qI i)]) (st' := [qI (4 * i)]) rfl ?_
            exact qJ.iret hκ rfl rfl (by decide) (by decide) (by have hit : LFn m c w = i := q_fst_hit (p := fun l => m 106 (4 * (l : Int)).toNat = c ∧ m 106 (4 * (l : Int) + 1).toNat = w) v2_0 v2_2 ⟨by rw [q_tn v2_0]; exact c21, by rw [q_tn v2_0]; exact c35⟩ (m 15 4).toNat (by omega); exact ⟨by rw [hit, if_neg (by omega)], rfl⟩)
  show qJ YX12_lineFor κ _ (qLy u, m, y) 0 0 0 [some (qR 77), some (qI c), some (qI w), none] []
  refine qJ.run hκ 2 (pc' := 2) (ls' := [some (qR 77), some (qI c), some (qI w), some (qI 0)]) (st' := []) rfl ?_
  exact L2 17 0 (by omega) (by omega) (rfl) (by omega)

set_option maxRecDepth 100000 in
theorem m_say (u : qU) (m y : qM) (f g : Nat → Int) (a c v : Int) (ha : 0 ≤ a ∧ a < 5) (hg : 0 ≤ g a.toNat ∧ g a.toNat < 10) (hv : qr v) : qCt YX12_say 1 0 0 [qR 77, qI a, qI c, qI v] (qLy u, (q_row (q_row m 117 f) 118 g), y) (fun r h => r = none ∧ ∃ f1 g1, h = (qLy u, q_row (q_row m 117 f1) 118 g1, y) ∧ ((v = -1 ∧ f1 = f ∧ g1 = g) ∨ (¬ v = -1 ∧ f1 = q_fu f (10 * a + g a.toNat).toNat (4 * c + v) ∧ g1 = q_fu g a.toNat (g a.toNat + 1)))) := by
  refine qCt.intro okX12_say (Nat.le_of_ble_eq_true rfl) (fun κ hκ => ?_)
  show qJ YX12_say κ _ (qLy u, (q_row (q_row m 117 f) 118 g), y) 0 0 0 [some (qR 77), some (qI a), some (qI c), some (qI v)] []
  refine qJ.run hκ 2 (pc' := 2) (ls' := [some (qR 77), some (qI a), some (qI c), some (qI v)]) (st' := [qI (-1), qI v]) rfl ?_
  refine qJ.icmp_eq hκ (tgt := 36) rfl rfl (by omega) (by omega) (fun c2 => ?_) (fun c2 => ?_)
  · show qJ YX12_say κ _ (qLy u, (q_row (q_row m 117 f) 118 g), y) 0 0 36 [some (qR 77), some (qI a), some (qI c), some (qI v)] []
    exact qJ.vret hκ rfl rfl (by decide) (by decide) (⟨rfl, f, g, rfl, Or.inl ⟨by omega, rfl, rfl⟩⟩)
  · show qJ YX12_say κ _ (qLy u, (q_row (q_row m 117 f) 118 g), y) 0 0 5 [some (qR 77), some (qI a), some (qI c), some (qI v)] []
    refine qJ.run hκ 8 (pc' := 18) (ls' := [some (qR 77), some (qI a), some (qI c), some (qI v)]) (st' := [qI a, qR 118, qI (10 * a), qR 117]) rfl ?_
    refine qJ.ald hκ rfl rfl rfl (by decide) (by omega) ?_
    show qJ YX12_say κ _ (qLy u, (q_row (q_row m 117 f) 118 g), y) 0 0 19 [some (qR 77), some (qI a), some (qI c), some (qI v)] [qI (g a.toNat), qI (10 * a), qR 117]
    refine qJ.run hκ 6 (pc' := 25) (ls' := [some (qR 77), some (qI a), some (qI c), some (qI v)]) (st' := [qI ((4 * c) + v), qI ((10 * a) + (g a.toNat)), qR 117]) rfl ?_
    refine qJ.ast hκ rfl rfl rfl (by decide) (by omega) ?_
    refine qJ.mc (m1 := (q_up (q_row (q_row m 117 f) 118 g) 117 (((10 * a) + (g a.toNat)).toNat) ((4 * c) + v))) (m2 := (q_row (q_row m 117 (q_fu f (((10 * a) + (g a.toNat)).toNat) ((4 * c) + v))) 118 g)) (by rw [q_up_row_ne (a := 117) (b := 118) (by decide), q_up_row_eq]) ?_
    show qJ YX12_say κ _ (qLy u, (q_row (q_row m 117 (q_fu f (((10 * a) + (g a.toNat)).toNat) ((4 * c) + v))) 118 g), y) 0 0 26 [some (qR 77), some (qI a), some (qI c), some (qI v)] []
    refine qJ.run hκ 4 (pc' := 32) (ls' := [some (qR 77), some (qI a), some (qI c), some (qI v)]) (st' := [qI a, qR 118, qI a, qR 118]) rfl ?_
    refine qJ.ald hκ rfl rfl rfl (by decide) (by omega) ?_
    show qJ YX12_say κ _ (qLy u, (q_row (q_row m 117 (q_fu f (((10 * a) + (g a.toNat)).toNat) ((4 * c) + v))) 118 g), y) 0 0 33 [some (qR 77), some (qI a), some (qI c), some (qI v)] [qI (g a.toNat), qI a, qR 118]
    refine qJ.run hκ 2 (pc' := 35) (ls' := [some (qR 77), some (qI a), some (qI c), some (qI v)]) (st' := [qI ((g a.toNat) + 1), qI a, qR 118]) rfl ?_
    refine qJ.ast hκ rfl rfl rfl (by decide) (by omega) ?_
    refine qJ.mc (m1 := (q_up (q_row (q_row m 117 (q_fu f (((10 * a) + (g a.toNat)).toNat) ((4 * c) + v))) 118 g) 118 a.toNat ((g a.toNat) + 1))) (m2 := (q_row (q_row m 117 (q_fu f (((10 * a) + (g a.toNat)).toNat) ((4 * c) + v))) 118 (q_fu g a.toNat ((g a.toNat) + 1)))) (by rw [q_up_row_eq]) ?_
    show qJ YX12_say κ _ (qLy u, (q_row (q_row m 117 (q_fu f (((10 * a) + (g a.toNat)).toNat) ((4 * c) + v))) 118 (q_fu g a.toNat ((g a.toNat) + 1))), y) 0 0 36 [some (qR 77), some (qI a), some (qI c), some (qI v)] []
    exact qJ.vret hκ rfl rfl (by decide) (by decide) (⟨rfl, _, _, rfl, Or.inr ⟨c2, rfl, rfl⟩⟩)

/-! printed by p51.py: Speller -/
/-- a letter's code; the vowel behind it, ahead of it; its stand -/
abbrev Lc (m : qM) (a i : Int) : Int := m 16 (a * 10 + i).toNat
def vBf (m : qM) (a i : Int) : Int := q_fst (fun j => i < (j : Int) ∧ Lc m a (j : Int) < 4) (m 17 a.toNat).toNat
def vB (m : qM) (a i : Int) : Int := if vBf m a i = -1 then -1 else Lc m a (vBf m a i)
def vAf (m : qM) (a i : Int) : Int := q_lst (fun j => Lc m a (j : Int) < 4) i.toNat
def vA (m : qM) (a i : Int) : Int := if vAf m a i = -1 then -1 else Lc m a (vAf m a i)
def stA (m : qM) (a i : Int) : Int := if m 17 a.toNat ≤ i + 1 then 2 else if Lc m a (i + 1) < 4 then 0 else 1
abbrev sl3 (c s : Int) : Nat := ((c - 1) * 3 + s).toNat
/-- what a consonant is spelled with -/
def cV (m : qM) (a i s : Int) : Int :=
  if m 19 (sl3 (Lc m a i - 3) s) = -1 ∧ s = 2 then -1
  else if m 19 (sl3 (Lc m a i - 3) s) = 0 then (if s = 0 then vB m a i else -1)
  else if (if s = 2 ∨ m 19 (sl3 (Lc m a i - 3) s) = 2 then vA m a i else vB m a i) = -1 then -1
  else 4 * (if m 19 (sl3 (Lc m a i - 3) s) = 3 then m 20 (sl3 (Lc m a i - 3) s) else Lc m a i - 3) + (if s = 2 ∨ m 19 (sl3 (Lc m a i - 3) s) = 2 then vA m a i else vB m a i)
/-- what a place of a name is spelled with; -1: with nothing -/
def pV (m : qM) (a i : Int) : Int := if Lc m a i < 4 then (if 0 < i ∧ ¬ Lc m a (i - 1) < 4 then -1 else Lc m a i) else cV m a i (stA m a i)
def vN (m : qM) (a : Int) (k : Nat) : Nat := q_cnt (fun j => ¬ pV m a (j : Int) = -1) k
theorem vN_s {m : qM} {a i : Int} (h : 0 ≤ i) : vN m a (i + 1).toNat = vN m a i.toNat + if ¬ pV m a i = -1 then 1 else 0 := by
  unfold vN
  rw [q_cnt_s h, q_tn h]
/-- a name's letters; the spelling's slots -/
def lxA (m : qM) (a : Int) : Prop := (0 ≤ a ∧ a < 5) ∧ (1 ≤ m 17 a.toNat ∧ m 17 a.toNat ≤ 10) ∧ ∀ i : Int, 0 ≤ i → i < m 17 a.toNat → 0 ≤ Lc m a i ∧ Lc m a i ≤ 9
def lxS (m : qM) : Prop := ∀ c s : Int, 1 ≤ c → c ≤ 6 → 0 ≤ s → s ≤ 2 → (-1 ≤ m 19 (sl3 c s) ∧ m 19 (sl3 c s) ≤ 3) ∧ (m 19 (sl3 c s) = 3 → 1 ≤ m 20 (sl3 c s) ∧ m 20 (sl3 c s) ≤ 6) ∧ (m 19 (sl3 c s) = 1 → s = 1) ∧ (m 19 (sl3 c s) = 2 → ¬ s = 0)
theorem vB_r {m : qM} {a i : Int} (h : lxA m a) : -1 ≤ vB m a i ∧ vB m a i ≤ 3 := by
  unfold vB
  by_cases z : vBf m a i = -1
  · rw [if_pos z]; omega
  · rw [if_neg z]
    obtain ⟨f1, f2, f3, -⟩ := fst_at (J := fun j => i < (j : Int) ∧ Lc m a (j : Int) < 4) (m 17 a.toNat).toNat z
    have f4 := f3.2
    rw [q_tn f1] at f4
    have := h.2.2 (vBf m a i) f1 (by have : (vBf m a i).toNat < (m 17 a.toNat).toNat := f2; omega)
    have f5 : Lc m a (vBf m a i) < 4 := f4
    omega
theorem vA_r {m : qM} {a i : Int} (h : lxA m a) (hi : i ≤ m 17 a.toNat) : -1 ≤ vA m a i ∧ vA m a i ≤ 3 := by
  unfold vA
  by_cases z : vAf m a i = -1
  · rw [if_pos z]; omega
  · rw [if_neg z]
    have r := q_lst_r (fun j => Lc m a (j : Int) < 4) i.toNat
    have r2 : -1 ≤ vAf m a i ∧ vAf m a i < (i.toNat : Int) := r
    have f3 := lst_p (p := fun j => Lc m a (j : Int) < 4) i.toNat z
    have f4 : Lc m a (((vAf m a i).toNat : Nat) : Int) < 4 := f3
    rw [q_tn (by omega)] at f4
    have := h.2.2 (vAf m a i) (by omega) (by omega)
    omega
theorem stA_r (m : qM) (a i : Int) : 0 ≤ stA m a i ∧ stA m a i ≤ 2 := by
  unfold stA
  repeat' split
  all_goals omega
theorem cV_r {m : qM} {a i s : Int} (h : lxA m a) (hs : lxS m) (h0 : 0 ≤ i ∧ i < m 17 a.toNat) (hc : 4 ≤ Lc m a i) (hs2 : 0 ≤ s ∧ s ≤ 2) : -1 ≤ cV m a i s ∧ cV m a i s ≤ 27 := by
  have b := vB_r (i := i) h
  have a2 := vA_r (i := i) h (by omega)
  have l := h.2.2 i h0.1 h0.2
  have sl := hs (Lc m a i - 3) s (by omega) (by omega) hs2.1 hs2.2
  have va : -1 ≤ (if s = 2 ∨ m 19 (sl3 (Lc m a i - 3) s) = 2 then vA m a i else vB m a i) ∧ (if s = 2 ∨ m 19 (sl3 (Lc m a i - 3) s) = 2 then vA m a i else vB m a i) ≤ 3 := by split <;> omega
  unfold cV
  split
  · omega
  · split
    · split <;> omega
    · split
      · omega
      · by_cases z : m 19 (sl3 (Lc m a i - 3) s) = 3
        · rw [if_pos z]
          have := sl.2.1 z
          omega
        · rw [if_neg z]; omega
theorem pV_r {m : qM} {a i : Int} (h : lxA m a) (hs : lxS m) (h0 : 0 ≤ i ∧ i < m 17 a.toNat) : -1 ≤ pV m a i ∧ pV m a i ≤ 27 := by
  have l := h.2.2 i h0.1 h0.2
  unfold pV
  by_cases z : Lc m a i < 4
  · rw [if_pos z]; split <;> omega
  · rw [if_neg z]; exact cV_r h hs h0 (by omega) (stA_r m a i)
/-- a name as it is spelled, in a row of values and one of sizes -/
def SPv (m : qM) (f : Nat → Int) (a : Int) (k : Int) : Prop := ∀ j : Int, 0 ≤ j → j < k → ¬ pV m a j = -1 → f (a * 10 + (vN m a j.toNat : Nat)).toNat = pV m a j
theorem SPv_y {m : qM} {f : Nat → Int} {a k v : Int} (h : SPv m f a k) (hk : 0 ≤ k ∧ k < 10) (ha : 0 ≤ a) (hv : pV m a k = v) : SPv m (q_fu f (a * 10 + (vN m a k.toNat : Nat)).toNat v) a (k + 1) := by
  intro j j0 j1 hp
  by_cases e : j = k
  · subst e; rw [q_fu_eq, hv]
  · have lt : vN m a j.toNat < vN m a k.toNat := by
      have h1 := q_cnt_mono (fun j => ¬ pV m a (j : Int) = -1) (a := (j + 1).toNat) k.toNat (by omega)
      have h2 := vN_s (m := m) (a := a) j0
      rw [if_pos hp] at h2
      unfold vN at *
      omega
    rw [q_fu_ne (by omega)]
    exact h j j0 (by omega) hp
theorem SPv_n {m : qM} {f : Nat → Int} {a k : Int} (h : SPv m f a k) (hv : pV m a k = -1) : SPv m f a (k + 1) := by
  intro j j0 j1 hp
  by_cases e : j = k
  · subst e; exact absurd hv hp
  · exact h j j0 (by omega) hp

set_option maxRecDepth 100000 in
theorem c_isVowel (u : qU) (m y : qM) (a i : Int) (hx : lxA m a) (hi : 0 ≤ i ∧ i < m 17 a.toNat) : qCt YX7_isVowel 1 0 0 [qR 15, qI a, qI i] (qLy u, m, y) (fun r h => ∃ z : Int, r = some (qI z) ∧ (z = 1 ∧ (Lc m a i < 4) ∨ z = 0 ∧ ¬ (Lc m a i < 4)) ∧ h = (qLy u, m, y)) := by
  refine qCt.intro okX7_isVowel (Nat.le_of_ble_eq_true rfl) (fun κ hκ => ?_)
  have l := hx.2.2 i hi.1 hi.2
  have l0 := hx.1
  have l1 := hx.2.1
  have lE : m 16 (a * 10 + i).toNat = Lc m a i := rfl
  show qJ YX7_isVowel κ _ (qLy u, m, y) 0 0 0 [some (qR 15), some (qI a), some (qI i)] []
  refine qJ.run hκ 7 (pc' := 10) (ls' := [some (qR 15), some (qI a), some (qI i)]) (st' := [qI ((a * 10) + i), qR 16]) rfl ?_
  refine qJ.ald hκ rfl rfl rfl (by decide) (by omega) ?_
  show qJ YX7_isVowel κ _ (qLy u, m, y) 0 0 11 [some (qR 15), some (qI a), some (qI i)] [qI (m 16 (((a * 10) + i).toNat))]
  refine qJ.run hκ 1 (pc' := 12) (ls' := [some (qR 15), some (qI a), some (qI i)]) (st' := [qI 4, qI (m 16 (((a * 10) + i).toNat))]) rfl ?_
  refine qJ.icmp_ge hκ (tgt := 19) rfl rfl (by omega) (by omega) (fun c12 => ?_) (fun c12 => ?_)
  · show qJ YX7_isVowel κ _ (qLy u, m, y) 0 0 19 [some (qR 15), some (qI a), some (qI i)] []
    refine qJ.run hκ 1 (pc' := 20) (ls' := [some (qR 15), some (qI a), some (qI i)]) (st' := [qI 0]) rfl ?_
    exact qJ.bret hκ rfl rfl (by omega) (by decide) (by decide) (⟨_, rfl, by omega, rfl⟩)
  · show qJ YX7_isVowel κ _ (qLy u, m, y) 0 0 15 [some (qR 15), some (qI a), some (qI i)] []
    refine qJ.run hκ 2 (pc' := 20) (ls' := [some (qR 15), some (qI a), some (qI i)]) (st' := [qI 1]) rfl ?_
    exact qJ.bret hκ rfl rfl (by omega) (by decide) (by decide) (⟨_, rfl, by omega, rfl⟩)

set_option maxRecDepth 100000 in
theorem c_standAt (u : qU) (m y : qM) (a i : Int) (hx : lxA m a) (hi : 0 ≤ i ∧ i < m 17 a.toNat) : qCt YX7_standAt 2 0 0 [qR 15, qI a, qI i] (qLy u, m, y) (fun r h => r = some (qI (stA m a i)) ∧ h = (qLy u, m, y)) := by
  refine qCt.intro okX7_standAt (Nat.le_of_ble_eq_true rfl) (fun κ hκ => ?_)
  have l0 := hx.1
  have l1 := hx.2.1
  show qJ YX7_standAt κ _ (qLy u, m, y) 0 0 0 [some (qR 15), some (qI a), some (qI i)] []
  refine qJ.run hκ 6 (pc' := 8) (ls' := [some (qR 15), some (qI a), some (qI i)]) (st' := [qI a, qR 17, qI (i + 1)]) rfl ?_
  refine qJ.ald hκ rfl rfl rfl (by decide) (by omega) ?_
  show qJ YX7_standAt κ _ (qLy u, m, y) 0 0 9 [some (qR 15), some (qI a), some (qI i)] [qI (m 17 a.toNat), qI (i + 1)]
  refine qJ.icmp_lt hκ (tgt := 14) rfl rfl (by omega) (by omega) (fun c9 => ?_) (fun c9 => ?_)
  · show qJ YX7_standAt κ _ (qLy u, m, y) 0 0 14 [some (qR 15), some (qI a), some (qI i)] []
    refine qJ.run hκ 5 (pc' := 19) (ls' := [some (qR 15), some (qI a), some (qI i)]) (st' := [qI (i + 1), qI a, qR 15]) rfl ?_
    refine qJ.callS (As := [qR 15, qI a, qI (i + 1)]) (rest := []) hκ rfl kX7_46 (c_isVowel u m y a (i + 1) hx (by omega)) (by decide) rfl rfl (Nat.le_of_ble_eq_true rfl) (Nat.le_of_ble_eq_true rfl) (Nat.le_of_ble_eq_true rfl) (Or.inl (fun r h' e => by obtain ⟨z19, rfl, hz19, rfl⟩ := e; rfl)) (fun r h' e => ?_)
    obtain ⟨z19, rfl, hz19, rfl⟩ := e
    show qJ YX7_standAt κ _ (qLy u, m, y) 0 0 22 [some (qR 15), some (qI a), some (qI i)] [qI z19]
    refine qJ.if_eq hκ (tgt := 29) rfl rfl (by omega) (fun c22 => ?_) (fun c22 => ?_)
    · show qJ YX7_standAt κ _ (qLy u, m, y) 0 0 29 [some (qR 15), some (qI a), some (qI i)] []
      refine qJ.run hκ 1 (pc' := 30) (ls' := [some (qR 15), some (qI a), some (qI i)]) (st' := [qI 1]) rfl ?_
      exact qJ.iret hκ rfl rfl (by decide) (by decide) (by first | exact ⟨by unfold stA; rw [if_neg (by omega), if_pos (by omega)], rfl⟩ | exact ⟨by unfold stA; rw [if_neg (by omega), if_neg (by omega)], rfl⟩)
    · show qJ YX7_standAt κ _ (qLy u, m, y) 0 0 25 [some (qR 15), some (qI a), some (qI i)] []
      refine qJ.run hκ 2 (pc' := 30) (ls' := [some (qR 15), some (qI a), some (qI i)]) (st' := [qI 0]) rfl ?_
      exact qJ.iret hκ rfl rfl (by decide) (by decide) (by first | exact ⟨by unfold stA; rw [if_neg (by omega), if_pos (by omega)], rfl⟩ | exact ⟨by unfold stA; rw [if_neg (by omega), if_neg (by omega)], rfl⟩)
  · show qJ YX7_standAt κ _ (qLy u, m, y) 0 0 12 [some (qR 15), some (qI a), some (qI i)] []
    refine qJ.run hκ 1 (pc' := 13) (ls' := [some (qR 15), some (qI a), some (qI i)]) (st' := [qI 2]) rfl ?_
    exact qJ.iret hκ rfl rfl (by decide) (by decide) (⟨by unfold stA; rw [if_pos (by omega)], rfl⟩)

set_option maxRecDepth 100000 in
theorem c_vB (u : qU) (m y : qM) (a i : Int) (hx : lxA m a) (hi : 0 ≤ i ∧ i < m 17 a.toNat) : qCt YX7_vowelBehind 2 0 0 [qR 15, qI a, qI i] (qLy u, m, y) (fun r h => r = some (qI (vB m a i)) ∧ h = (qLy u, m, y)) := by
  refine qCt.intro okX7_vowelBehind (Nat.le_of_ble_eq_true rfl) (fun κ hκ => ?_)
  have l0 := hx.1
  have l1 := hx.2.1
  have L4 : ∀ (n : Nat) (j : Int), (i + 1 ≤ j) → (j ≤ m 17 a.toNat) → (q_fst (fun j => i < (j : Int) ∧ Lc m a (j : Int) < 4) j.toNat = -1) → ((m 17 a.toNat - j).toNat) < n → qJ YX7_vowelBehind κ (qFin (fun r h => r = some (qI (vB m a i)) ∧ h = (qLy u, m, y)) 0 0 κ) (qLy u, m, y) 0 0 4 [some (qR 15), some (qI a), some (qI i), some (qI j)] [] := by
    intro n
    induction n with
    | zero => intro j _ _ _ hz0; omega
    | succ n ih4 =>
      intro j v4_0 v4_1 v4_2 v4_m
      refine qJ.run hκ 4 (pc' := 10) (ls' := [some (qR 15), some (qI a), some (qI i), some (qI j)]) (st' := [qI a, qR 17, qI j]) rfl ?_
      refine qJ.ald hκ rfl rfl rfl (by decide) (by omega) ?_
      show qJ YX7_vowelBehind κ _ (qLy u, m, y) 0 0 11 [some (qR 15), some (qI a), some (qI i), some (qI j)] [qI (m 17 a.toNat), qI j]
      refine qJ.icmp_ge hκ (tgt := 41) rfl rfl (by omega) (by omega) (fun c11 => ?_) (fun c11 => ?_)
      · show qJ YX7_vowelBehind κ _ (qLy u, m, y) 0 0 41 [some (qR 15), some (qI a), some (qI i), some (qI j)] []
        refine qJ.run hκ 1 (pc' := 42) (ls' := [some (qR 15), some (qI a), some (qI i), some (qI j)]) (st' := [qI (-1)]) rfl ?_
        exact qJ.iret hκ rfl rfl (by decide) (by decide) (⟨by unfold vB vBf; rw [show (m 17 a.toNat).toNat = j.toNat by omega, v4_2, if_pos rfl], rfl⟩)
      · show qJ YX7_vowelBehind κ _ (qLy u, m, y) 0 0 14 [some (qR 15), some (qI a), some (qI i), some (qI j)] []
        refine qJ.run hκ 3 (pc' := 17) (ls' := [some (qR 15), some (qI a), some (qI i), some (qI j)]) (st' := [qI j, qI a, qR 15]) rfl ?_
        refine qJ.callS (As := [qR 15, qI a, qI j]) (rest := []) hκ rfl kX7_46 (c_isVowel u m y a j hx (by omega)) (by decide) rfl rfl (Nat.le_of_ble_eq_true rfl) (Nat.le_of_ble_eq_true rfl) (Nat.le_of_ble_eq_true rfl) (Or.inl (fun r h' e => by obtain ⟨z17, rfl, hz17, rfl⟩ := e; rfl)) (fun r h' e => ?_)
        obtain ⟨z17, rfl, hz17, rfl⟩ := e
        show qJ YX7_vowelBehind κ _ (qLy u, m, y) 0 0 20 [some (qR 15), some (qI a), some (qI i), some (qI j)] [qI z17]
        refine qJ.if_eq hκ (tgt := 35) rfl rfl (by omega) (fun c20 => ?_) (fun c20 => ?_)
        · show qJ YX7_vowelBehind κ _ (qLy u, m, y) 0 0 35 [some (qR 15), some (qI a), some (qI i), some (qI j)] []
          refine qJ.run hκ 2 (pc' := 4) (ls' := [some (qR 15), some (qI a), some (qI i), some (qI (j + 1))]) (st' := []) rfl ?_
          exact ih4  (j + 1) (by omega) (by omega) (q_fst_no (p := fun j => i < (j : Int) ∧ Lc m a (j : Int) < 4) (i := j) (by omega) v4_2 (fun w => by have w2 : Lc m a ((j.toNat : Nat) : Int) < 4 := w.2; rw [q_tn (by omega)] at w2; omega)) (by omega)
        · show qJ YX7_vowelBehind κ _ (qLy u, m, y) 0 0 23 [some (qR 15), some (qI a), some (qI i), some (qI j)] []
          refine qJ.run hκ 7 (pc' := 33) (ls' := [some (qR 15), some (qI a), some (qI i), some (qI j)]) (st' := [qI ((a * 10) + j), qR 16]) rfl ?_
          refine qJ.ald hκ rfl rfl rfl (by decide) (by omega) ?_
          show qJ YX7_vowelBehind κ _ (qLy u, m, y) 0 0 34 [some (qR 15), some (qI a), some (qI i), some (qI j)] [qI (m 16 (((a * 10) + j).toNat))]
          exact qJ.iret hκ rfl rfl (by decide) (by decide) (by have hit := q_fst_hit (p := fun j => i < (j : Int) ∧ Lc m a (j : Int) < 4) (i := j) (by omega) v4_2 ⟨by omega, by show Lc m a ((j.toNat : Nat) : Int) < 4; rw [q_tn (by omega)]; omega⟩ (m 17 a.toNat).toNat (by omega); exact ⟨by unfold vB vBf; rw [hit, if_neg (by omega)], rfl⟩)
  show qJ YX7_vowelBehind κ _ (qLy u, m, y) 0 0 0 [some (qR 15), some (qI a), some (qI i), none] []
  refine qJ.run hκ 4 (pc' := 4) (ls' := [some (qR 15), some (qI a), some (qI i), some (qI (i + 1))]) (st' := []) rfl ?_
  exact L4 12 (i + 1) (by omega) (by omega) ((q_fst_0 _ _).mpr ((q_cnt_no _).mpr fun q hq w => by have := w.1; omega)) (by omega)

set_option maxRecDepth 100000 in
theorem c_vA (u : qU) (m y : qM) (a i : Int) (hx : lxA m a) (hi : 0 ≤ i ∧ i < m 17 a.toNat) : qCt YX7_vowelAhead 2 0 0 [qR 15, qI a, qI i] (qLy u, m, y) (fun r h => r = some (qI (vA m a i)) ∧ h = (qLy u, m, y)) := by
  refine qCt.intro okX7_vowelAhead (Nat.le_of_ble_eq_true rfl) (fun κ hκ => ?_)
  have l0 := hx.1
  have l1 := hx.2.1
  have L4 : ∀ (n : Nat) (j : Int), (-1 ≤ j) → (j < i) → (vAf m a i = q_lst (fun j => Lc m a (j : Int) < 4) (j + 1).toNat) → ((j + 1).toNat) < n → qJ YX7_vowelAhead κ (qFin (fun r h => r = some (qI (vA m a i)) ∧ h = (qLy u, m, y)) 0 0 κ) (qLy u, m, y) 0 0 4 [some (qR 15), some (qI a), some (qI i), some (qI j)] [] := by
    intro n
    induction n with
    | zero => intro j _ _ _ hz0; omega
    | succ n ih4 =>
      intro j v4_0 v4_1 v4_2 v4_m
      refine qJ.run hκ 1 (pc' := 5) (ls' := [some (qR 15), some (qI a), some (qI i), some (qI j)]) (st' := [qI j]) rfl ?_
      refine qJ.if_lt hκ (tgt := 35) rfl rfl (by omega) (fun c5 => ?_) (fun c5 => ?_)
      · show qJ YX7_vowelAhead κ _ (qLy u, m, y) 0 0 35 [some (qR 15), some (qI a), some (qI i), some (qI j)] []
        refine qJ.run hκ 1 (pc' := 36) (ls' := [some (qR 15), some (qI a), some (qI i), some (qI j)]) (st' := [qI (-1)]) rfl ?_
        exact qJ.iret hκ rfl rfl (by decide) (by decide) (by have hit : vAf m a i = -1 := (by rw [v4_2, show (j + 1).toNat = 0 by omega]; rfl); exact ⟨by unfold vA; rw [hit, if_pos rfl], rfl⟩)
      · show qJ YX7_vowelAhead κ _ (qLy u, m, y) 0 0 8 [some (qR 15), some (qI a), some (qI i), some (qI j)] []
        refine qJ.run hκ 3 (pc' := 11) (ls' := [some (qR 15), some (qI a), some (qI i), some (qI j)]) (st' := [qI j, qI a, qR 15]) rfl ?_
        refine qJ.callS (As := [qR 15, qI a, qI j]) (rest := []) hκ rfl kX7_46 (c_isVowel u m y a j hx (by omega)) (by decide) rfl rfl (Nat.le_of_ble_eq_true rfl) (Nat.le_of_ble_eq_true rfl) (Nat.le_of_ble_eq_true rfl) (Or.inl (fun r h' e => by obtain ⟨z11, rfl, hz11, rfl⟩ := e; rfl)) (fun r h' e => ?_)
        obtain ⟨z11, rfl, hz11, rfl⟩ := e
        show qJ YX7_vowelAhead κ _ (qLy u, m, y) 0 0 14 [some (qR 15), some (qI a), some (qI i), some (qI j)] [qI z11]
        refine qJ.if_eq hκ (tgt := 29) rfl rfl (by omega) (fun c14 => ?_) (fun c14 => ?_)
        · show qJ YX7_vowelAhead κ _ (qLy u, m, y) 0 0 29 [some (qR 15), some (qI a), some (qI i), some (qI j)] []
          refine qJ.run hκ 2 (pc' := 4) (ls' := [some (qR 15), some (qI a), some (qI i), some (qI (j + (-1)))]) (st' := []) rfl ?_
          exact ih4  (j + (-1)) (by omega) (by omega) (by rw [v4_2, q_lst_s (show 0 ≤ j by omega), q_tn (show 0 ≤ j by omega), if_neg (by omega), show (j + -1 + 1).toNat = j.toNat by omega]) (by omega)
        · show qJ YX7_vowelAhead κ _ (qLy u, m, y) 0 0 17 [some (qR 15), some (qI a), some (qI i), some (qI j)] []
          refine qJ.run hκ 7 (pc' := 27) (ls' := [some (qR 15), some (qI a), some (qI i), some (qI j)]) (st' := [qI ((a * 10) + j), qR 16]) rfl ?_
          refine qJ.ald hκ rfl rfl rfl (by decide) (by omega) ?_
          show qJ YX7_vowelAhead κ _ (qLy u, m, y) 0 0 28 [some (qR 15), some (qI a), some (qI i), some (qI j)] [qI (m 16 (((a * 10) + j).toNat))]
          exact qJ.iret hκ rfl rfl (by decide) (by decide) (by have hit : vAf m a i = j := (by rw [v4_2, q_lst_s (show 0 ≤ j by omega), q_tn (show 0 ≤ j by omega), if_pos (by omega)]); exact ⟨by unfold vA; rw [hit, if_neg (by omega)], rfl⟩)
  show qJ YX7_vowelAhead κ _ (qLy u, m, y) 0 0 0 [some (qR 15), some (qI a), some (qI i), none] []
  refine qJ.run hκ 4 (pc' := 4) (ls' := [some (qR 15), some (qI a), some (qI i), some (qI (i - 1))]) (st' := []) rfl ?_
  exact L4 12 (i - 1) (by omega) (by omega) (by rw [show (i - 1 + 1).toNat = i.toNat by omega]; rfl) (by omega)

set_option maxRecDepth 100000 in
theorem c_cV (u : qU) (m y : qM) (a i s : Int) (hx : lxA m a) (hs : lxS m) (hi : 0 ≤ i ∧ i < m 17 a.toNat) (hc : 4 ≤ Lc m a i) (hss : 0 ≤ s ∧ s ≤ 2) : qCt YX7_consonantValue 3 0 0 [qR 15, qI a, qI i, qI s] (qLy u, m, y) (fun r h => r = some (qI (cV m a i s)) ∧ h = (qLy u, m, y)) := by
  refine qCt.intro okX7_consonantValue (Nat.le_of_ble_eq_true rfl) (fun κ hκ => ?_)
  have l0 := hx.1
  have l1 := hx.2.1
  have l := hx.2.2 i hi.1 hi.2
  have sl := hs (Lc m a i - 3) s (by omega) (by omega) hss.1 hss.2
  have vb := vB_r (i := i) hx
  have va := vA_r (i := i) hx (by omega)
  have slr : ((Lc m a i - 3 - 1) * 3 + s).toNat < 18 := by omega
  have lE : m 16 (a * 10 + i).toNat = Lc m a i := rfl
  have aE : m 19 ((Lc m a i - 3 - 1) * 3 + s).toNat = m 19 (sl3 (Lc m a i - 3) s) := rfl
  have oE : m 20 ((Lc m a i - 3 - 1) * 3 + s).toNat = m 20 (sl3 (Lc m a i - 3) s) := rfl
  show qJ YX7_consonantValue κ _ (qLy u, m, y) 0 0 0 [some (qR 15), some (qI a), some (qI i), some (qI s), none, none, none, none, none, none] []
  refine qJ.run hκ 7 (pc' := 10) (ls' := [some (qR 15), some (qI a), some (qI i), some (qI s), none, none, none, none, none, none]) (st' := [qI ((a * 10) + i), qR 16]) rfl ?_
  refine qJ.ald hκ rfl rfl rfl (by decide) (by omega) ?_
  show qJ YX7_consonantValue κ _ (qLy u, m, y) 0 0 11 [some (qR 15), some (qI a), some (qI i), some (qI s), none, none, none, none, none, none] [qI (m 16 (((a * 10) + i).toNat))]
  refine qJ.run hκ 7 (pc' := 20) (ls' := [some (qR 15), some (qI a), some (qI i), some (qI s), some (qI (((m 16 (((a * 10) + i).toNat)) - 4) + 1)), none, none, none, none, none]) (st' := [qI s, qI (((m 16 (((a * 10) + i).toNat)) - 4) + 1)]) rfl ?_
  refine qJ.callS (As := [qI (((m 16 (((a * 10) + i).toNat)) - 4) + 1), qI s]) (rest := []) hκ rfl kX7_50 (c_slot u m y (Lc m a i - 4 + 1) s) (by decide) rfl rfl (Nat.le_of_ble_eq_true rfl) (Nat.le_of_ble_eq_true rfl) (Nat.le_of_ble_eq_true rfl) (Or.inl (fun r h' e => by obtain ⟨rfl, rfl⟩ := e; rfl)) (fun r h' e => ?_)
  obtain ⟨rfl, rfl⟩ := e
  rw [show (Lc m a i - 4 + 1 - 1) * 3 + s = (Lc m a i - 3 - 1) * 3 + s by omega]
  show qJ YX7_consonantValue κ _ (qLy u, m, y) 0 0 23 [some (qR 15), some (qI a), some (qI i), some (qI s), some (qI (((m 16 (((a * 10) + i).toNat)) - 4) + 1)), none, none, none, none, none] [qI ((Lc m a i - 3 - 1) * 3 + s)]
  refine qJ.run hκ 4 (pc' := 31) (ls' := [some (qR 15), some (qI a), some (qI i), some (qI s), some (qI (((m 16 (((a * 10) + i).toNat)) - 4) + 1)), some (qI ((Lc m a i - 3 - 1) * 3 + s)), none, none, none, none]) (st' := [qI ((Lc m a i - 3 - 1) * 3 + s), qR 19]) rfl ?_
  refine qJ.ald hκ rfl rfl rfl (by decide) (by omega) ?_
  show qJ YX7_consonantValue κ _ (qLy u, m, y) 0 0 32 [some (qR 15), some (qI a), some (qI i), some (qI s), some (qI (((m 16 (((a * 10) + i).toNat)) - 4) + 1)), some (qI ((Lc m a i - 3 - 1) * 3 + s)), none, none, none, none] [qI (m 19 (((Lc m a i - 3 - 1) * 3 + s).toNat))]
  refine qJ.run hκ 3 (pc' := 37) (ls' := [some (qR 15), some (qI a), some (qI i), some (qI s), some (qI (((m 16 (((a * 10) + i).toNat)) - 4) + 1)), some (qI ((Lc m a i - 3 - 1) * 3 + s)), some (qI (m 19 (((Lc m a i - 3 - 1) * 3 + s).toNat))), none, none, none]) (st' := [qI (-1), qI (m 19 (((Lc m a i - 3 - 1) * 3 + s).toNat))]) rfl ?_
  refine qJ.icmp_ne hκ (tgt := 47) rfl rfl (by omega) (by omega) (fun c37 => ?_) (fun c37 => ?_)
  · show qJ YX7_consonantValue κ _ (qLy u, m, y) 0 0 47 [some (qR 15), some (qI a), some (qI i), some (qI s), some (qI (((m 16 (((a * 10) + i).toNat)) - 4) + 1)), some (qI ((Lc m a i - 3 - 1) * 3 + s)), some (qI (m 19 (((Lc m a i - 3 - 1) * 3 + s).toNat))), none, none, none] []
    refine qJ.run hκ 1 (pc' := 49) (ls' := [some (qR 15), some (qI a), some (qI i), some (qI s), some (qI (((m 16 (((a * 10) + i).toNat)) - 4) + 1)), some (qI ((Lc m a i - 3 - 1) * 3 + s)), some (qI (m 19 (((Lc m a i - 3 - 1) * 3 + s).toNat))), none, none, none]) (st' := [qI (m 19 (((Lc m a i - 3 - 1) * 3 + s).toNat))]) rfl ?_
    refine qJ.if_ne hκ (tgt := 67) rfl rfl (by omega) (fun c49 => ?_) (fun c49 => ?_)
    · show qJ YX7_consonantValue κ _ (qLy u, m, y) 0 0 67 [some (qR 15), some (qI a), some (qI i), some (qI s), some (qI (((m 16 (((a * 10) + i).toNat)) - 4) + 1)), some (qI ((Lc m a i - 3 - 1) * 3 + s)), some (qI (m 19 (((Lc m a i - 3 - 1) * 3 + s).toNat))), none, none, none] []
      refine qJ.run hκ 2 (pc' := 70) (ls' := [some (qR 15), some (qI a), some (qI i), some (qI s), some (qI (((m 16 (((a * 10) + i).toNat)) - 4) + 1)), some (qI ((Lc m a i - 3 - 1) * 3 + s)), some (qI (m 19 (((Lc m a i - 3 - 1) * 3 + s).toNat))), none, none, none]) (st' := [qI 3, qI (m 19 (((Lc m a i - 3 - 1) * 3 + s).toNat))]) rfl ?_
      refine qJ.icmp_ne hκ (tgt := 83) rfl rfl (by omega) (by omega) (fun c70 => ?_) (fun c70 => ?_)
      · show qJ YX7_consonantValue κ _ (qLy u, m, y) 0 0 83 [some (qR 15), some (qI a), some (qI i), some (qI s), some (qI (((m 16 (((a * 10) + i).toNat)) - 4) + 1)), some (qI ((Lc m a i - 3 - 1) * 3 + s)), some (qI (m 19 (((Lc m a i - 3 - 1) * 3 + s).toNat))), none, none, none] []
        refine qJ.run hκ 4 (pc' := 89) (ls' := [some (qR 15), some (qI a), some (qI i), some (qI s), some (qI (((m 16 (((a * 10) + i).toNat)) - 4) + 1)), some (qI ((Lc m a i - 3 - 1) * 3 + s)), some (qI (m 19 (((Lc m a i - 3 - 1) * 3 + s).toNat))), some (qI (((m 16 (((a * 10) + i).toNat)) - 4) + 1)), none, none]) (st' := [qI 2, qI s]) rfl ?_
        refine qJ.icmp_eq hκ (tgt := 98) rfl rfl (by omega) (by omega) (fun c89 => ?_) (fun c89 => ?_)
        · show qJ YX7_consonantValue κ _ (qLy u, m, y) 0 0 98 [some (qR 15), some (qI a), some (qI i), some (qI s), some (qI (((m 16 (((a * 10) + i).toNat)) - 4) + 1)), some (qI ((Lc m a i - 3 - 1) * 3 + s)), some (qI (m 19 (((Lc m a i - 3 - 1) * 3 + s).toNat))), some (qI (((m 16 (((a * 10) + i).toNat)) - 4) + 1)), none, none] []
          refine qJ.run hκ 4 (pc' := 107) (ls' := [some (qR 15), some (qI a), some (qI i), some (qI s), some (qI (((m 16 (((a * 10) + i).toNat)) - 4) + 1)), some (qI ((Lc m a i - 3 - 1) * 3 + s)), some (qI (m 19 (((Lc m a i - 3 - 1) * 3 + s).toNat))), some (qI (((m 16 (((a * 10) + i).toNat)) - 4) + 1)), some (qI 1), none]) (st' := [qI 1]) rfl ?_
          refine qJ.if_eq hκ (tgt := 119) rfl rfl (by omega) (fun c107 => ?_) (fun c107 => ?_)
          · exact absurd c107 (by decide)
          · show qJ YX7_consonantValue κ _ (qLy u, m, y) 0 0 110 [some (qR 15), some (qI a), some (qI i), some (qI s), some (qI (((m 16 (((a * 10) + i).toNat)) - 4) + 1)), some (qI ((Lc m a i - 3 - 1) * 3 + s)), some (qI (m 19 (((Lc m a i - 3 - 1) * 3 + s).toNat))), some (qI (((m 16 (((a * 10) + i).toNat)) - 4) + 1)), some (qI 1), none] []
            refine qJ.run hκ 3 (pc' := 113) (ls' := [some (qR 15), some (qI a), some (qI i), some (qI s), some (qI (((m 16 (((a * 10) + i).toNat)) - 4) + 1)), some (qI ((Lc m a i - 3 - 1) * 3 + s)), some (qI (m 19 (((Lc m a i - 3 - 1) * 3 + s).toNat))), some (qI (((m 16 (((a * 10) + i).toNat)) - 4) + 1)), some (qI 1), none]) (st' := [qI i, qI a, qR 15]) rfl ?_
            refine qJ.callS (As := [qR 15, qI a, qI i]) (rest := []) hκ rfl kX7_63 (c_vA u m y a i hx (by omega)) (by decide) rfl rfl (Nat.le_of_ble_eq_true rfl) (Nat.le_of_ble_eq_true rfl) (Nat.le_of_ble_eq_true rfl) (Or.inl (fun r h' e => by obtain ⟨rfl, rfl⟩ := e; rfl)) (fun r h' e => ?_)
            obtain ⟨rfl, rfl⟩ := e
            show qJ YX7_consonantValue κ _ (qLy u, m, y) 0 0 116 [some (qR 15), some (qI a), some (qI i), some (qI s), some (qI (((m 16 (((a * 10) + i).toNat)) - 4) + 1)), some (qI ((Lc m a i - 3 - 1) * 3 + s)), some (qI (m 19 (((Lc m a i - 3 - 1) * 3 + s).toNat))), some (qI (((m 16 (((a * 10) + i).toNat)) - 4) + 1)), some (qI 1), none] [qI (vA m a i)]
            refine qJ.run hκ 4 (pc' := 130) (ls' := [some (qR 15), some (qI a), some (qI i), some (qI s), some (qI (((m 16 (((a * 10) + i).toNat)) - 4) + 1)), some (qI ((Lc m a i - 3 - 1) * 3 + s)), some (qI (m 19 (((Lc m a i - 3 - 1) * 3 + s).toNat))), some (qI (((m 16 (((a * 10) + i).toNat)) - 4) + 1)), some (qI 1), some (qI (vA m a i))]) (st' := [qI (-1), qI (vA m a i)]) rfl ?_
            refine qJ.icmp_ne hκ (tgt := 137) rfl rfl (by omega) (by omega) (fun c130 => ?_) (fun c130 => ?_)
            · show qJ YX7_consonantValue κ _ (qLy u, m, y) 0 0 137 [some (qR 15), some (qI a), some (qI i), some (qI s), some (qI (((m 16 (((a * 10) + i).toNat)) - 4) + 1)), some (qI ((Lc m a i - 3 - 1) * 3 + s)), some (qI (m 19 (((Lc m a i - 3 - 1) * 3 + s).toNat))), some (qI (((m 16 (((a * 10) + i).toNat)) - 4) + 1)), some (qI 1), some (qI (vA m a i))] []
              refine qJ.run hκ 5 (pc' := 144) (ls' := [some (qR 15), some (qI a), some (qI i), some (qI s), some (qI (((m 16 (((a * 10) + i).toNat)) - 4) + 1)), some (qI ((Lc m a i - 3 - 1) * 3 + s)), some (qI (m 19 (((Lc m a i - 3 - 1) * 3 + s).toNat))), some (qI (((m 16 (((a * 10) + i).toNat)) - 4) + 1)), some (qI 1), some (qI (vA m a i))]) (st' := [qI ((4 * (((m 16 (((a * 10) + i).toNat)) - 4) + 1)) + (vA m a i))]) rfl ?_
              exact qJ.iret hκ rfl rfl (by decide) (by decide) (by
      refine ⟨?_, rfl⟩
      congr 2
      unfold cV
      rw [if_neg (by omega), if_neg (by omega), if_pos (show s = 2 ∨ m 19 (sl3 (Lc m a i - 3) s) = 2 by omega), if_neg (by omega), if_neg (show ¬ m 19 (sl3 (Lc m a i - 3) s) = 3 by omega)]; omega)
            · show qJ YX7_consonantValue κ _ (qLy u, m, y) 0 0 133 [some (qR 15), some (qI a), some (qI i), some (qI s), some (qI (((m 16 (((a * 10) + i).toNat)) - 4) + 1)), some (qI ((Lc m a i - 3 - 1) * 3 + s)), some (qI (m 19 (((Lc m a i - 3 - 1) * 3 + s).toNat))), some (qI (((m 16 (((a * 10) + i).toNat)) - 4) + 1)), some (qI 1), some (qI (vA m a i))] []
              refine qJ.run hκ 2 (pc' := 144) (ls' := [some (qR 15), some (qI a), some (qI i), some (qI s), some (qI (((m 16 (((a * 10) + i).toNat)) - 4) + 1)), some (qI ((Lc m a i - 3 - 1) * 3 + s)), some (qI (m 19 (((Lc m a i - 3 - 1) * 3 + s).toNat))), some (qI (((m 16 (((a * 10) + i).toNat)) - 4) + 1)), some (qI 1), some (qI (vA m a i))]) (st' := [qI (-1)]) rfl ?_
              exact qJ.iret hκ rfl rfl (by decide) (by decide) (by
      refine ⟨?_, rfl⟩
      congr 2
      unfold cV
      rw [if_neg (by omega), if_neg (by omega), if_pos (show s = 2 ∨ m 19 (sl3 (Lc m a i - 3) s) = 2 by omega), if_pos (by omega)])
        · show qJ YX7_consonantValue κ _ (qLy u, m, y) 0 0 92 [some (qR 15), some (qI a), some (qI i), some (qI s), some (qI (((m 16 (((a * 10) + i).toNat)) - 4) + 1)), some (qI ((Lc m a i - 3 - 1) * 3 + s)), some (qI (m 19 (((Lc m a i - 3 - 1) * 3 + s).toNat))), some (qI (((m 16 (((a * 10) + i).toNat)) - 4) + 1)), none, none] []
          refine qJ.run hκ 2 (pc' := 95) (ls' := [some (qR 15), some (qI a), some (qI i), some (qI s), some (qI (((m 16 (((a * 10) + i).toNat)) - 4) + 1)), some (qI ((Lc m a i - 3 - 1) * 3 + s)), some (qI (m 19 (((Lc m a i - 3 - 1) * 3 + s).toNat))), some (qI (((m 16 (((a * 10) + i).toNat)) - 4) + 1)), none, none]) (st' := [qI 2, qI (m 19 (((Lc m a i - 3 - 1) * 3 + s).toNat))]) rfl ?_
          refine qJ.icmp_ne hκ (tgt := 102) rfl rfl (by omega) (by omega) (fun c95 => ?_) (fun c95 => ?_)
          · show qJ YX7_consonantValue κ _ (qLy u, m, y) 0 0 102 [some (qR 15), some (qI a), some (qI i), some (qI s), some (qI (((m 16 (((a * 10) + i).toNat)) - 4) + 1)), some (qI ((Lc m a i - 3 - 1) * 3 + s)), some (qI (m 19 (((Lc m a i - 3 - 1) * 3 + s).toNat))), some (qI (((m 16 (((a * 10) + i).toNat)) - 4) + 1)), none, none] []
            refine qJ.run hκ 3 (pc' := 107) (ls' := [some (qR 15), some (qI a), some (qI i), some (qI s), some (qI (((m 16 (((a * 10) + i).toNat)) - 4) + 1)), some (qI ((Lc m a i - 3 - 1) * 3 + s)), some (qI (m 19 (((Lc m a i - 3 - 1) * 3 + s).toNat))), some (qI (((m 16 (((a * 10) + i).toNat)) - 4) + 1)), some (qI 0), none]) (st' := [qI 0]) rfl ?_
            refine qJ.if_eq hκ (tgt := 119) rfl rfl (by omega) (fun c107 => ?_) (fun c107 => ?_)
            · show qJ YX7_consonantValue κ _ (qLy u, m, y) 0 0 119 [some (qR 15), some (qI a), some (qI i), some (qI s), some (qI (((m 16 (((a * 10) + i).toNat)) - 4) + 1)), some (qI ((Lc m a i - 3 - 1) * 3 + s)), some (qI (m 19 (((Lc m a i - 3 - 1) * 3 + s).toNat))), some (qI (((m 16 (((a * 10) + i).toNat)) - 4) + 1)), some (qI 0), none] []
              refine qJ.run hκ 3 (pc' := 122) (ls' := [some (qR 15), some (qI a), some (qI i), some (qI s), some (qI (((m 16 (((a * 10) + i).toNat)) - 4) + 1)), some (qI ((Lc m a i - 3 - 1) * 3 + s)), some (qI (m 19 (((Lc m a i - 3 - 1) * 3 + s).toNat))), some (qI (((m 16 (((a * 10) + i).toNat)) - 4) + 1)), some (qI 0), none]) (st' := [qI i, qI a, qR 15]) rfl ?_
              refine qJ.callS (As := [qR 15, qI a, qI i]) (rest := []) hκ rfl kX7_57 (c_vB u m y a i hx (by omega)) (by decide) rfl rfl (Nat.le_of_ble_eq_true rfl) (Nat.le_of_ble_eq_true rfl) (Nat.le_of_ble_eq_true rfl) (Or.inl (fun r h' e => by obtain ⟨rfl, rfl⟩ := e; rfl)) (fun r h' e => ?_)
              obtain ⟨rfl, rfl⟩ := e
              show qJ YX7_consonantValue κ _ (qLy u, m, y) 0 0 125 [some (qR 15), some (qI a), some (qI i), some (qI s), some (qI (((m 16 (((a * 10) + i).toNat)) - 4) + 1)), some (qI ((Lc m a i - 3 - 1) * 3 + s)), some (qI (m 19 (((Lc m a i - 3 - 1) * 3 + s).toNat))), some (qI (((m 16 (((a * 10) + i).toNat)) - 4) + 1)), some (qI 0), none] [qI (vB m a i)]
              refine qJ.run hκ 3 (pc' := 130) (ls' := [some (qR 15), some (qI a), some (qI i), some (qI s), some (qI (((m 16 (((a * 10) + i).toNat)) - 4) + 1)), some (qI ((Lc m a i - 3 - 1) * 3 + s)), some (qI (m 19 (((Lc m a i - 3 - 1) * 3 + s).toNat))), some (qI (((m 16 (((a * 10) + i).toNat)) - 4) + 1)), some (qI 0), some (qI (vB m a i))]) (st' := [qI (-1), qI (vB m a i)]) rfl ?_
              refine qJ.icmp_ne hκ (tgt := 137) rfl rfl (by omega) (by omega) (fun c130 => ?_) (fun c130 => ?_)
              · show qJ YX7_consonantValue κ _ (qLy u, m, y) 0 0 137 [some (qR 15), some (qI a), some (qI i), some (qI s), some (qI (((m 16 (((a * 10) + i).toNat)) - 4) + 1)), some (qI ((Lc m a i - 3 - 1) * 3 + s)), some (qI (m 19 (((Lc m a i - 3 - 1) * 3 + s).toNat))), some (qI (((m 16 (((a * 10) + i).toNat)) - 4) + 1)), some (qI 0), some (qI (vB m a i))] []
                refine qJ.run hκ 5 (pc' := 144) (ls' := [some (qR 15), some (qI a), some (qI i), some (qI s), some (qI (((m 16 (((a * 10) + i).toNat)) - 4) + 1)), some (qI ((Lc m a i - 3 - 1) * 3 + s)), some (qI (m 19 (((Lc m a i - 3 - 1) * 3 + s).toNat))), some (qI (((m 16 (((a * 10) + i).toNat)) - 4) + 1)), some (qI 0), some (qI (vB m a i))]) (st' := [qI ((4 * (((m 16 (((a * 10) + i).toNat)) - 4) + 1)) + (vB m a i))]) rfl ?_
                exact qJ.iret hκ rfl rfl (by decide) (by decide) (by
      refine ⟨?_, rfl⟩
      congr 2
      unfold cV
      rw [if_neg (by omega), if_neg (by omega), if_neg (show ¬ (s = 2 ∨ m 19 (sl3 (Lc m a i - 3) s) = 2) by omega), if_neg (by omega), if_neg (show ¬ m 19 (sl3 (Lc m a i - 3) s) = 3 by omega)]; omega)
              · show qJ YX7_consonantValue κ _ (qLy u, m, y) 0 0 133 [some (qR 15), some (qI a), some (qI i), some (qI s), some (qI (((m 16 (((a * 10) + i).toNat)) - 4) + 1)), some (qI ((Lc m a i - 3 - 1) * 3 + s)), some (qI (m 19 (((Lc m a i - 3 - 1) * 3 + s).toNat))), some (qI (((m 16 (((a * 10) + i).toNat)) - 4) + 1)), some (qI 0), some (qI (vB m a i))] []
                refine qJ.run hκ 2 (pc' := 144) (ls' := [some (qR 15), some (qI a), some (qI i), some (qI s), some (qI (((m 16 (((a * 10) + i).toNat)) - 4) + 1)), some (qI ((Lc m a i - 3 - 1) * 3 + s)), some (qI (m 19 (((Lc m a i - 3 - 1) * 3 + s).toNat))), some (qI (((m 16 (((a * 10) + i).toNat)) - 4) + 1)), some (qI 0), some (qI (vB m a i))]) (st' := [qI (-1)]) rfl ?_
                exact qJ.iret hκ rfl rfl (by decide) (by decide) (by
      refine ⟨?_, rfl⟩
      congr 2
      unfold cV
      rw [if_neg (by omega), if_neg (by omega), if_neg (show ¬ (s = 2 ∨ m 19 (sl3 (Lc m a i - 3) s) = 2) by omega), if_pos (by omega)])
            · exact absurd c107 (by decide)
          · show qJ YX7_consonantValue κ _ (qLy u, m, y) 0 0 98 [some (qR 15), some (qI a), some (qI i), some (qI s), some (qI (((m 16 (((a * 10) + i).toNat)) - 4) + 1)), some (qI ((Lc m a i - 3 - 1) * 3 + s)), some (qI (m 19 (((Lc m a i - 3 - 1) * 3 + s).toNat))), some (qI (((m 16 (((a * 10) + i).toNat)) - 4) + 1)), none, none] []
            refine qJ.run hκ 4 (pc' := 107) (ls' := [some (qR 15), some (qI a), some (qI i), some (qI s), some (qI (((m 16 (((a * 10) + i).toNat)) - 4) + 1)), some (qI ((Lc m a i - 3 - 1) * 3 + s)), some (qI (m 19 (((Lc m a i - 3 - 1) * 3 + s).toNat))), some (qI (((m 16 (((a * 10) + i).toNat)) - 4) + 1)), some (qI 1), none]) (st' := [qI 1]) rfl ?_
            refine qJ.if_eq hκ (tgt := 119) rfl rfl (by omega) (fun c107 => ?_) (fun c107 => ?_)
            · exact absurd c107 (by decide)
            · show qJ YX7_consonantValue κ _ (qLy u, m, y) 0 0 110 [some (qR 15), some (qI a), some (qI i), some (qI s), some (qI (((m 16 (((a * 10) + i).toNat)) - 4) + 1)), some (qI ((Lc m a i - 3 - 1) * 3 + s)), some (qI (m 19 (((Lc m a i - 3 - 1) * 3 + s).toNat))), some (qI (((m 16 (((a * 10) + i).toNat)) - 4) + 1)), some (qI 1), none] []
              refine qJ.run hκ 3 (pc' := 113) (ls' := [some (qR 15), some (qI a), some (qI i), some (qI s), some (qI (((m 16 (((a * 10) + i).toNat)) - 4) + 1)), some (qI ((Lc m a i - 3 - 1) * 3 + s)), some (qI (m 19 (((Lc m a i - 3 - 1) * 3 + s).toNat))), some (qI (((m 16 (((a * 10) + i).toNat)) - 4) + 1)), some (qI 1), none]) (st' := [qI i, qI a, qR 15]) rfl ?_
              refine qJ.callS (As := [qR 15, qI a, qI i]) (rest := []) hκ rfl kX7_63 (c_vA u m y a i hx (by omega)) (by decide) rfl rfl (Nat.le_of_ble_eq_true rfl) (Nat.le_of_ble_eq_true rfl) (Nat.le_of_ble_eq_true rfl) (Or.inl (fun r h' e => by obtain ⟨rfl, rfl⟩ := e; rfl)) (fun r h' e => ?_)
              obtain ⟨rfl, rfl⟩ := e
              show qJ YX7_consonantValue κ _ (qLy u, m, y) 0 0 116 [some (qR 15), some (qI a), some (qI i), some (qI s), some (qI (((m 16 (((a * 10) + i).toNat)) - 4) + 1)), some (qI ((Lc m a i - 3 - 1) * 3 + s)), some (qI (m 19 (((Lc m a i - 3 - 1) * 3 + s).toNat))), some (qI (((m 16 (((a * 10) + i).toNat)) - 4) + 1)), some (qI 1), none] [qI (vA m a i)]
              refine qJ.run hκ 4 (pc' := 130) (ls' := [some (qR 15), some (qI a), some (qI i), some (qI s), some (qI (((m 16 (((a * 10) + i).toNat)) - 4) + 1)), some (qI ((Lc m a i - 3 - 1) * 3 + s)), some (qI (m 19 (((Lc m a i - 3 - 1) * 3 + s).toNat))), some (qI (((m 16 (((a * 10) + i).toNat)) - 4) + 1)), some (qI 1), some (qI (vA m a i))]) (st' := [qI (-1), qI (vA m a i)]) rfl ?_
              refine qJ.icmp_ne hκ (tgt := 137) rfl rfl (by omega) (by omega) (fun c130 => ?_) (fun c130 => ?_)
              · show qJ YX7_consonantValue κ _ (qLy u, m, y) 0 0 137 [some (qR 15), some (qI a), some (qI i), some (qI s), some (qI (((m 16 (((a * 10) + i).toNat)) - 4) + 1)), some (qI ((Lc m a i - 3 - 1) * 3 + s)), some (qI (m 19 (((Lc m a i - 3 - 1) * 3 + s).toNat))), some (qI (((m 16 (((a * 10) + i).toNat)) - 4) + 1)), some (qI 1), some (qI (vA m a i))] []
                refine qJ.run hκ 5 (pc' := 144) (ls' := [some (qR 15), some (qI a), some (qI i), some (qI s), some (qI (((m 16 (((a * 10) + i).toNat)) - 4) + 1)), some (qI ((Lc m a i - 3 - 1) * 3 + s)), some (qI (m 19 (((Lc m a i - 3 - 1) * 3 + s).toNat))), some (qI (((m 16 (((a * 10) + i).toNat)) - 4) + 1)), some (qI 1), some (qI (vA m a i))]) (st' := [qI ((4 * (((m 16 (((a * 10) + i).toNat)) - 4) + 1)) + (vA m a i))]) rfl ?_
                exact qJ.iret hκ rfl rfl (by decide) (by decide) (by
      refine ⟨?_, rfl⟩
      congr 2
      unfold cV
      rw [if_neg (by omega), if_neg (by omega), if_pos (show s = 2 ∨ m 19 (sl3 (Lc m a i - 3) s) = 2 by omega), if_neg (by omega), if_neg (show ¬ m 19 (sl3 (Lc m a i - 3) s) = 3 by omega)]; omega)
              · show qJ YX7_consonantValue κ _ (qLy u, m, y) 0 0 133 [some (qR 15), some (qI a), some (qI i), some (qI s), some (qI (((m 16 (((a * 10) + i).toNat)) - 4) + 1)), some (qI ((Lc m a i - 3 - 1) * 3 + s)), some (qI (m 19 (((Lc m a i - 3 - 1) * 3 + s).toNat))), some (qI (((m 16 (((a * 10) + i).toNat)) - 4) + 1)), some (qI 1), some (qI (vA m a i))] []
                refine qJ.run hκ 2 (pc' := 144) (ls' := [some (qR 15), some (qI a), some (qI i), some (qI s), some (qI (((m 16 (((a * 10) + i).toNat)) - 4) + 1)), some (qI ((Lc m a i - 3 - 1) * 3 + s)), some (qI (m 19 (((Lc m a i - 3 - 1) * 3 + s).toNat))), some (qI (((m 16 (((a * 10) + i).toNat)) - 4) + 1)), some (qI 1), some (qI (vA m a i))]) (st' := [qI (-1)]) rfl ?_
                exact qJ.iret hκ rfl rfl (by decide) (by decide) (by
      refine ⟨?_, rfl⟩
      congr 2
      unfold cV
      rw [if_neg (by omega), if_neg (by omega), if_pos (show s = 2 ∨ m 19 (sl3 (Lc m a i - 3) s) = 2 by omega), if_pos (by omega)])
      · show qJ YX7_consonantValue κ _ (qLy u, m, y) 0 0 73 [some (qR 15), some (qI a), some (qI i), some (qI s), some (qI (((m 16 (((a * 10) + i).toNat)) - 4) + 1)), some (qI ((Lc m a i - 3 - 1) * 3 + s)), some (qI (m 19 (((Lc m a i - 3 - 1) * 3 + s).toNat))), none, none, none] []
        refine qJ.run hκ 3 (pc' := 79) (ls' := [some (qR 15), some (qI a), some (qI i), some (qI s), some (qI (((m 16 (((a * 10) + i).toNat)) - 4) + 1)), some (qI ((Lc m a i - 3 - 1) * 3 + s)), some (qI (m 19 (((Lc m a i - 3 - 1) * 3 + s).toNat))), none, none, none]) (st' := [qI ((Lc m a i - 3 - 1) * 3 + s), qR 20]) rfl ?_
        refine qJ.ald hκ rfl rfl rfl (by decide) (by omega) ?_
        show qJ YX7_consonantValue κ _ (qLy u, m, y) 0 0 80 [some (qR 15), some (qI a), some (qI i), some (qI s), some (qI (((m 16 (((a * 10) + i).toNat)) - 4) + 1)), some (qI ((Lc m a i - 3 - 1) * 3 + s)), some (qI (m 19 (((Lc m a i - 3 - 1) * 3 + s).toNat))), none, none, none] [qI (m 20 (((Lc m a i - 3 - 1) * 3 + s).toNat))]
        refine qJ.run hκ 4 (pc' := 89) (ls' := [some (qR 15), some (qI a), some (qI i), some (qI s), some (qI (((m 16 (((a * 10) + i).toNat)) - 4) + 1)), some (qI ((Lc m a i - 3 - 1) * 3 + s)), some (qI (m 19 (((Lc m a i - 3 - 1) * 3 + s).toNat))), some (qI (m 20 (((Lc m a i - 3 - 1) * 3 + s).toNat))), none, none]) (st' := [qI 2, qI s]) rfl ?_
        refine qJ.icmp_eq hκ (tgt := 98) rfl rfl (by omega) (by omega) (fun c89 => ?_) (fun c89 => ?_)
        · show qJ YX7_consonantValue κ _ (qLy u, m, y) 0 0 98 [some (qR 15), some (qI a), some (qI i), some (qI s), some (qI (((m 16 (((a * 10) + i).toNat)) - 4) + 1)), some (qI ((Lc m a i - 3 - 1) * 3 + s)), some (qI (m 19 (((Lc m a i - 3 - 1) * 3 + s).toNat))), some (qI (m 20 (((Lc m a i - 3 - 1) * 3 + s).toNat))), none, none] []
          refine qJ.run hκ 4 (pc' := 107) (ls' := [some (qR 15), some (qI a), some (qI i), some (qI s), some (qI (((m 16 (((a * 10) + i).toNat)) - 4) + 1)), some (qI ((Lc m a i - 3 - 1) * 3 + s)), some (qI (m 19 (((Lc m a i - 3 - 1) * 3 + s).toNat))), some (qI (m 20 (((Lc m a i - 3 - 1) * 3 + s).toNat))), some (qI 1), none]) (st' := [qI 1]) rfl ?_
          refine qJ.if_eq hκ (tgt := 119) rfl rfl (by omega) (fun c107 => ?_) (fun c107 => ?_)
          · exact absurd c107 (by decide)
          · show qJ YX7_consonantValue κ _ (qLy u, m, y) 0 0 110 [some (qR 15), some (qI a), some (qI i), some (qI s), some (qI (((m 16 (((a * 10) + i).toNat)) - 4) + 1)), some (qI ((Lc m a i - 3 - 1) * 3 + s)), some (qI (m 19 (((Lc m a i - 3 - 1) * 3 + s).toNat))), some (qI (m 20 (((Lc m a i - 3 - 1) * 3 + s).toNat))), some (qI 1), none] []
            refine qJ.run hκ 3 (pc' := 113) (ls' := [some (qR 15), some (qI a), some (qI i), some (qI s), some (qI (((m 16 (((a * 10) + i).toNat)) - 4) + 1)), some (qI ((Lc m a i - 3 - 1) * 3 + s)), some (qI (m 19 (((Lc m a i - 3 - 1) * 3 + s).toNat))), some (qI (m 20 (((Lc m a i - 3 - 1) * 3 + s).toNat))), some (qI 1), none]) (st' := [qI i, qI a, qR 15]) rfl ?_
            refine qJ.callS (As := [qR 15, qI a, qI i]) (rest := []) hκ rfl kX7_63 (c_vA u m y a i hx (by omega)) (by decide) rfl rfl (Nat.le_of_ble_eq_true rfl) (Nat.le_of_ble_eq_true rfl) (Nat.le_of_ble_eq_true rfl) (Or.inl (fun r h' e => by obtain ⟨rfl, rfl⟩ := e; rfl)) (fun r h' e => ?_)
            obtain ⟨rfl, rfl⟩ := e
            show qJ YX7_consonantValue κ _ (qLy u, m, y) 0 0 116 [some (qR 15), some (qI a), some (qI i), some (qI s), some (qI (((m 16 (((a * 10) + i).toNat)) - 4) + 1)), some (qI ((Lc m a i - 3 - 1) * 3 + s)), some (qI (m 19 (((Lc m a i - 3 - 1) * 3 + s).toNat))), some (qI (m 20 (((Lc m a i - 3 - 1) * 3 + s).toNat))), some (qI 1), none] [qI (vA m a i)]
            refine qJ.run hκ 4 (pc' := 130) (ls' := [some (qR 15), some (qI a), some (qI i), some (qI s), some (qI (((m 16 (((a * 10) + i).toNat)) - 4) + 1)), some (qI ((Lc m a i - 3 - 1) * 3 + s)), some (qI (m 19 (((Lc m a i - 3 - 1) * 3 + s).toNat))), some (qI (m 20 (((Lc m a i - 3 - 1) * 3 + s).toNat))), some (qI 1), some (qI (vA m a i))]) (st' := [qI (-1), qI (vA m a i)]) rfl ?_
            refine qJ.icmp_ne hκ (tgt := 137) rfl rfl (by omega) (by omega) (fun c130 => ?_) (fun c130 => ?_)
            · show qJ YX7_consonantValue κ _ (qLy u, m, y) 0 0 137 [some (qR 15), some (qI a), some (qI i), some (qI s), some (qI (((m 16 (((a * 10) + i).toNat)) - 4) + 1)), some (qI ((Lc m a i - 3 - 1) * 3 + s)), some (qI (m 19 (((Lc m a i - 3 - 1) * 3 + s).toNat))), some (qI (m 20 (((Lc m a i - 3 - 1) * 3 + s).toNat))), some (qI 1), some (qI (vA m a i))] []
              refine qJ.run hκ 5 (pc' := 144) (ls' := [some (qR 15), some (qI a), some (qI i), some (qI s), some (qI (((m 16 (((a * 10) + i).toNat)) - 4) + 1)), some (qI ((Lc m a i - 3 - 1) * 3 + s)), some (qI (m 19 (((Lc m a i - 3 - 1) * 3 + s).toNat))), some (qI (m 20 (((Lc m a i - 3 - 1) * 3 + s).toNat))), some (qI 1), some (qI (vA m a i))]) (st' := [qI ((4 * (m 20 (((Lc m a i - 3 - 1) * 3 + s).toNat))) + (vA m a i))]) rfl ?_
              exact qJ.iret hκ rfl rfl (by decide) (by decide) (by
      refine ⟨?_, rfl⟩
      congr 2
      unfold cV
      rw [if_neg (by omega), if_neg (by omega), if_pos (show s = 2 ∨ m 19 (sl3 (Lc m a i - 3) s) = 2 by omega), if_neg (by omega), if_pos (show m 19 (sl3 (Lc m a i - 3) s) = 3 by omega)])
            · show qJ YX7_consonantValue κ _ (qLy u, m, y) 0 0 133 [some (qR 15), some (qI a), some (qI i), some (qI s), some (qI (((m 16 (((a * 10) + i).toNat)) - 4) + 1)), some (qI ((Lc m a i - 3 - 1) * 3 + s)), some (qI (m 19 (((Lc m a i - 3 - 1) * 3 + s).toNat))), some (qI (m 20 (((Lc m a i - 3 - 1) * 3 + s).toNat))), some (qI 1), some (qI (vA m a i))] []
              refine qJ.run hκ 2 (pc' := 144) (ls' := [some (qR 15), some (qI a), some (qI i), some (qI s), some (qI (((m 16 (((a * 10) + i).toNat)) - 4) + 1)), some (qI ((Lc m a i - 3 - 1) * 3 + s)), some (qI (m 19 (((Lc m a i - 3 - 1) * 3 + s).toNat))), some (qI (m 20 (((Lc m a i - 3 - 1) * 3 + s).toNat))), some (qI 1), some (qI (vA m a i))]) (st' := [qI (-1)]) rfl ?_
              exact qJ.iret hκ rfl rfl (by decide) (by decide) (by
      refine ⟨?_, rfl⟩
      congr 2
      unfold cV
      rw [if_neg (by omega), if_neg (by omega), if_pos (show s = 2 ∨ m 19 (sl3 (Lc m a i - 3) s) = 2 by omega), if_pos (by omega)])
        · show qJ YX7_consonantValue κ _ (qLy u, m, y) 0 0 92 [some (qR 15), some (qI a), some (qI i), some (qI s), some (qI (((m 16 (((a * 10) + i).toNat)) - 4) + 1)), some (qI ((Lc m a i - 3 - 1) * 3 + s)), some (qI (m 19 (((Lc m a i - 3 - 1) * 3 + s).toNat))), some (qI (m 20 (((Lc m a i - 3 - 1) * 3 + s).toNat))), none, none] []
          refine qJ.run hκ 2 (pc' := 95) (ls' := [some (qR 15), some (qI a), some (qI i), some (qI s), some (qI (((m 16 (((a * 10) + i).toNat)) - 4) + 1)), some (qI ((Lc m a i - 3 - 1) * 3 + s)), some (qI (m 19 (((Lc m a i - 3 - 1) * 3 + s).toNat))), some (qI (m 20 (((Lc m a i - 3 - 1) * 3 + s).toNat))), none, none]) (st' := [qI 2, qI (m 19 (((Lc m a i - 3 - 1) * 3 + s).toNat))]) rfl ?_
          refine qJ.icmp_ne hκ (tgt := 102) rfl rfl (by omega) (by omega) (fun c95 => ?_) (fun c95 => ?_)
          · show qJ YX7_consonantValue κ _ (qLy u, m, y) 0 0 102 [some (qR 15), some (qI a), some (qI i), some (qI s), some (qI (((m 16 (((a * 10) + i).toNat)) - 4) + 1)), some (qI ((Lc m a i - 3 - 1) * 3 + s)), some (qI (m 19 (((Lc m a i - 3 - 1) * 3 + s).toNat))), some (qI (m 20 (((Lc m a i - 3 - 1) * 3 + s).toNat))), none, none] []
            refine qJ.run hκ 3 (pc' := 107) (ls' := [some (qR 15), some (qI a), some (qI i), some (qI s), some (qI (((m 16 (((a * 10) + i).toNat)) - 4) + 1)), some (qI ((Lc m a i - 3 - 1) * 3 + s)), some (qI (m 19 (((Lc m a i - 3 - 1) * 3 + s).toNat))), some (qI (m 20 (((Lc m a i - 3 - 1) * 3 + s).toNat))), some (qI 0), none]) (st' := [qI 0]) rfl ?_
            refine qJ.if_eq hκ (tgt := 119) rfl rfl (by omega) (fun c107 => ?_) (fun c107 => ?_)
            · show qJ YX7_consonantValue κ _ (qLy u, m, y) 0 0 119 [some (qR 15), some (qI a), some (qI i), some (qI s), some (qI (((m 16 (((a * 10) + i).toNat)) - 4) + 1)), some (qI ((Lc m a i - 3 - 1) * 3 + s)), some (qI (m 19 (((Lc m a i - 3 - 1) * 3 + s).toNat))), some (qI (m 20 (((Lc m a i - 3 - 1) * 3 + s).toNat))), some (qI 0), none] []
              refine qJ.run hκ 3 (pc' := 122) (ls' := [some (qR 15), some (qI a), some (qI i), some (qI s), some (qI (((m 16 (((a * 10) + i).toNat)) - 4) + 1)), some (qI ((Lc m a i - 3 - 1) * 3 + s)), some (qI (m 19 (((Lc m a i - 3 - 1) * 3 + s).toNat))), some (qI (m 20 (((Lc m a i - 3 - 1) * 3 + s).toNat))), some (qI 0), none]) (st' := [qI i, qI a, qR 15]) rfl ?_
              refine qJ.callS (As := [qR 15, qI a, qI i]) (rest := []) hκ rfl kX7_57 (c_vB u m y a i hx (by omega)) (by decide) rfl rfl (Nat.le_of_ble_eq_true rfl) (Nat.le_of_ble_eq_true rfl) (Nat.le_of_ble_eq_true rfl) (Or.inl (fun r h' e => by obtain ⟨rfl, rfl⟩ := e; rfl)) (fun r h' e => ?_)
              obtain ⟨rfl, rfl⟩ := e
              show qJ YX7_consonantValue κ _ (qLy u, m, y) 0 0 125 [some (qR 15), some (qI a), some (qI i), some (qI s), some (qI (((m 16 (((a * 10) + i).toNat)) - 4) + 1)), some (qI ((Lc m a i - 3 - 1) * 3 + s)), some (qI (m 19 (((Lc m a i - 3 - 1) * 3 + s).toNat))), some (qI (m 20 (((Lc m a i - 3 - 1) * 3 + s).toNat))), some (qI 0), none] [qI (vB m a i)]
              refine qJ.run hκ 3 (pc' := 130) (ls' := [some (qR 15), some (qI a), some (qI i), some (qI s), some (qI (((m 16 (((a * 10) + i).toNat)) - 4) + 1)), some (qI ((Lc m a i - 3 - 1) * 3 + s)), some (qI (m 19 (((Lc m a i - 3 - 1) * 3 + s).toNat))), some (qI (m 20 (((Lc m a i - 3 - 1) * 3 + s).toNat))), some (qI 0), some (qI (vB m a i))]) (st' := [qI (-1), qI (vB m a i)]) rfl ?_
              refine qJ.icmp_ne hκ (tgt := 137) rfl rfl (by omega) (by omega) (fun c130 => ?_) (fun c130 => ?_)
              · show qJ YX7_consonantValue κ _ (qLy u, m, y) 0 0 137 [some (qR 15), some (qI a), some (qI i), some (qI s), some (qI (((m 16 (((a * 10) + i).toNat)) - 4) + 1)), some (qI ((Lc m a i - 3 - 1) * 3 + s)), some (qI (m 19 (((Lc m a i - 3 - 1) * 3 + s).toNat))), some (qI (m 20 (((Lc m a i - 3 - 1) * 3 + s).toNat))), some (qI 0), some (qI (vB m a i))] []
                refine qJ.run hκ 5 (pc' := 144) (ls' := [some (qR 15), some (qI a), some (qI i), some (qI s), some (qI (((m 16 (((a * 10) + i).toNat)) - 4) + 1)), some (qI ((Lc m a i - 3 - 1) * 3 + s)), some (qI (m 19 (((Lc m a i - 3 - 1) * 3 + s).toNat))), some (qI (m 20 (((Lc m a i - 3 - 1) * 3 + s).toNat))), some (qI 0), some (qI (vB m a i))]) (st' := [qI ((4 * (m 20 (((Lc m a i - 3 - 1) * 3 + s).toNat))) + (vB m a i))]) rfl ?_
                exact qJ.iret hκ rfl rfl (by decide) (by decide) (by
      refine ⟨?_, rfl⟩
      congr 2
      unfold cV
      rw [if_neg (by omega), if_neg (by omega), if_neg (show ¬ (s = 2 ∨ m 19 (sl3 (Lc m a i - 3) s) = 2) by omega), if_neg (by omega), if_pos (show m 19 (sl3 (Lc m a i - 3) s) = 3 by omega)])
              · show qJ YX7_consonantValue κ _ (qLy u, m, y) 0 0 133 [some (qR 15), some (qI a), some (qI i), some (qI s), some (qI (((m 16 (((a * 10) + i).toNat)) - 4) + 1)), some (qI ((Lc m a i - 3 - 1) * 3 + s)), some (qI (m 19 (((Lc m a i - 3 - 1) * 3 + s).toNat))), some (qI (m 20 (((Lc m a i - 3 - 1) * 3 + s).toNat))), some (qI 0), some (qI (vB m a i))] []
                refine qJ.run hκ 2 (pc' := 144) (ls' := [some (qR 15), some (qI a), some (qI i), some (qI s), some (qI (((m 16 (((a * 10) + i).toNat)) - 4) + 1)), some (qI ((Lc m a i - 3 - 1) * 3 + s)), some (qI (m 19 (((Lc m a i - 3 - 1) * 3 + s).toNat))), some (qI (m 20 (((Lc m a i - 3 - 1) * 3 + s).toNat))), some (qI 0), some (qI (vB m a i))]) (st' := [qI (-1)]) rfl ?_
                exact qJ.iret hκ rfl rfl (by decide) (by decide) (by
      refine ⟨?_, rfl⟩
      congr 2
      unfold cV
      rw [if_neg (by omega), if_neg (by omega), if_neg (show ¬ (s = 2 ∨ m 19 (sl3 (Lc m a i - 3) s) = 2) by omega), if_pos (by omega)])
            · exact absurd c107 (by decide)
          · show qJ YX7_consonantValue κ _ (qLy u, m, y) 0 0 98 [some (qR 15), some (qI a), some (qI i), some (qI s), some (qI (((m 16 (((a * 10) + i).toNat)) - 4) + 1)), some (qI ((Lc m a i - 3 - 1) * 3 + s)), some (qI (m 19 (((Lc m a i - 3 - 1) * 3 + s).toNat))), some (qI (m 20 (((Lc m a i - 3 - 1) * 3 + s).toNat))), none, none] []
            refine qJ.run hκ 4 (pc' := 107) (ls' := [some (qR 15), some (qI a), some (qI i), some (qI s), some (qI (((m 16 (((a * 10) + i).toNat)) - 4) + 1)), some (qI ((Lc m a i - 3 - 1) * 3 + s)), some (qI (m 19 (((Lc m a i - 3 - 1) * 3 + s).toNat))), some (qI (m 20 (((Lc m a i - 3 - 1) * 3 + s).toNat))), some (qI 1), none]) (st' := [qI 1]) rfl ?_
            refine qJ.if_eq hκ (tgt := 119) rfl rfl (by omega) (fun c107 => ?_) (fun c107 => ?_)
            · exact absurd c107 (by decide)
            · show qJ YX7_consonantValue κ _ (qLy u, m, y) 0 0 110 [some (qR 15), some (qI a), some (qI i), some (qI s), some (qI (((m 16 (((a * 10) + i).toNat)) - 4) + 1)), some (qI ((Lc m a i - 3 - 1) * 3 + s)), some (qI (m 19 (((Lc m a i - 3 - 1) * 3 + s).toNat))), some (qI (m 20 (((Lc m a i - 3 - 1) * 3 + s).toNat))), some (qI 1), none] []
              refine qJ.run hκ 3 (pc' := 113) (ls' := [some (qR 15), some (qI a), some (qI i), some (qI s), some (qI (((m 16 (((a * 10) + i).toNat)) - 4) + 1)), some (qI ((Lc m a i - 3 - 1) * 3 + s)), some (qI (m 19 (((Lc m a i - 3 - 1) * 3 + s).toNat))), some (qI (m 20 (((Lc m a i - 3 - 1) * 3 + s).toNat))), some (qI 1), none]) (st' := [qI i, qI a, qR 15]) rfl ?_
              refine qJ.callS (As := [qR 15, qI a, qI i]) (rest := []) hκ rfl kX7_63 (c_vA u m y a i hx (by omega)) (by decide) rfl rfl (Nat.le_of_ble_eq_true rfl) (Nat.le_of_ble_eq_true rfl) (Nat.le_of_ble_eq_true rfl) (Or.inl (fun r h' e => by obtain ⟨rfl, rfl⟩ := e; rfl)) (fun r h' e => ?_)
              obtain ⟨rfl, rfl⟩ := e
              show qJ YX7_consonantValue κ _ (qLy u, m, y) 0 0 116 [some (qR 15), some (qI a), some (qI i), some (qI s), some (qI (((m 16 (((a * 10) + i).toNat)) - 4) + 1)), some (qI ((Lc m a i - 3 - 1) * 3 + s)), some (qI (m 19 (((Lc m a i - 3 - 1) * 3 + s).toNat))), some (qI (m 20 (((Lc m a i - 3 - 1) * 3 + s).toNat))), some (qI 1), none] [qI (vA m a i)]
              refine qJ.run hκ 4 (pc' := 130) (ls' := [some (qR 15), some (qI a), some (qI i), some (qI s), some (qI (((m 16 (((a * 10) + i).toNat)) - 4) + 1)), some (qI ((Lc m a i - 3 - 1) * 3 + s)), some (qI (m 19 (((Lc m a i - 3 - 1) * 3 + s).toNat))), some (qI (m 20 (((Lc m a i - 3 - 1) * 3 + s).toNat))), some (qI 1), some (qI (vA m a i))]) (st' := [qI (-1), qI (vA m a i)]) rfl ?_
              refine qJ.icmp_ne hκ (tgt := 137) rfl rfl (by omega) (by omega) (fun c130 => ?_) (fun c130 => ?_)
              · show qJ YX7_consonantValue κ _ (qLy u, m, y) 0 0 137 [some (qR 15), some (qI a), some (qI i), some (qI s), some (qI (((m 16 (((a * 10) + i).toNat)) - 4) + 1)), some (qI ((Lc m a i - 3 - 1) * 3 + s)), some (qI (m 19 (((Lc m a i - 3 - 1) * 3 + s).toNat))), some (qI (m 20 (((Lc m a i - 3 - 1) * 3 + s).toNat))), some (qI 1), some (qI (vA m a i))] []
                refine qJ.run hκ 5 (pc' := 144) (ls' := [some (qR 15), some (qI a), some (qI i), some (qI s), some (qI (((m 16 (((a * 10) + i).toNat)) - 4) + 1)), some (qI ((Lc m a i - 3 - 1) * 3 + s)), some (qI (m 19 (((Lc m a i - 3 - 1) * 3 + s).toNat))), some (qI (m 20 (((Lc m a i - 3 - 1) * 3 + s).toNat))), some (qI 1), some (qI (vA m a i))]) (st' := [qI ((4 * (m 20 (((Lc m a i - 3 - 1) * 3 + s).toNat))) + (vA m a i))]) rfl ?_
                exact qJ.iret hκ rfl rfl (by decide) (by decide) (by
      refine ⟨?_, rfl⟩
      congr 2
      unfold cV
      rw [if_neg (by omega), if_neg (by omega), if_pos (show s = 2 ∨ m 19 (sl3 (Lc m a i - 3) s) = 2 by omega), if_neg (by omega), if_pos (show m 19 (sl3 (Lc m a i - 3) s) = 3 by omega)])
              · show qJ YX7_consonantValue κ _ (qLy u, m, y) 0 0 133 [some (qR 15), some (qI a), some (qI i), some (qI s), some (qI (((m 16 (((a * 10) + i).toNat)) - 4) + 1)), some (qI ((Lc m a i - 3 - 1) * 3 + s)), some (qI (m 19 (((Lc m a i - 3 - 1) * 3 + s).toNat))), some (qI (m 20 (((Lc m a i - 3 - 1) * 3 + s).toNat))), some (qI 1), some (qI (vA m a i))] []
                refine qJ.run hκ 2 (pc' := 144) (ls' := [some (qR 15), some (qI a), some (qI i), some (qI s), some (qI (((m 16 (((a * 10) + i).toNat)) - 4) + 1)), some (qI ((Lc m a i - 3 - 1) * 3 + s)), some (qI (m 19 (((Lc m a i - 3 - 1) * 3 + s).toNat))), some (qI (m 20 (((Lc m a i - 3 - 1) * 3 + s).toNat))), some (qI 1), some (qI (vA m a i))]) (st' := [qI (-1)]) rfl ?_
                exact qJ.iret hκ rfl rfl (by decide) (by decide) (by
      refine ⟨?_, rfl⟩
      congr 2
      unfold cV
      rw [if_neg (by omega), if_neg (by omega), if_pos (show s = 2 ∨ m 19 (sl3 (Lc m a i - 3) s) = 2 by omega), if_pos (by omega)])
    · show qJ YX7_consonantValue κ _ (qLy u, m, y) 0 0 52 [some (qR 15), some (qI a), some (qI i), some (qI s), some (qI (((m 16 (((a * 10) + i).toNat)) - 4) + 1)), some (qI ((Lc m a i - 3 - 1) * 3 + s)), some (qI (m 19 (((Lc m a i - 3 - 1) * 3 + s).toNat))), none, none, none] []
      refine qJ.run hκ 1 (pc' := 53) (ls' := [some (qR 15), some (qI a), some (qI i), some (qI s), some (qI (((m 16 (((a * 10) + i).toNat)) - 4) + 1)), some (qI ((Lc m a i - 3 - 1) * 3 + s)), some (qI (m 19 (((Lc m a i - 3 - 1) * 3 + s).toNat))), none, none, none]) (st' := [qI s]) rfl ?_
      refine qJ.if_ne hκ (tgt := 65) rfl rfl (by omega) (fun c53 => ?_) (fun c53 => ?_)
      · show qJ YX7_consonantValue κ _ (qLy u, m, y) 0 0 65 [some (qR 15), some (qI a), some (qI i), some (qI s), some (qI (((m 16 (((a * 10) + i).toNat)) - 4) + 1)), some (qI ((Lc m a i - 3 - 1) * 3 + s)), some (qI (m 19 (((Lc m a i - 3 - 1) * 3 + s).toNat))), none, none, none] []
        refine qJ.run hκ 1 (pc' := 66) (ls' := [some (qR 15), some (qI a), some (qI i), some (qI s), some (qI (((m 16 (((a * 10) + i).toNat)) - 4) + 1)), some (qI ((Lc m a i - 3 - 1) * 3 + s)), some (qI (m 19 (((Lc m a i - 3 - 1) * 3 + s).toNat))), none, none, none]) (st' := [qI (-1)]) rfl ?_
        exact qJ.iret hκ rfl rfl (by decide) (by decide) (by
      refine ⟨?_, rfl⟩
      congr 2
      unfold cV
      rw [if_neg (by omega), if_pos (by omega), if_neg (by omega)])
      · show qJ YX7_consonantValue κ _ (qLy u, m, y) 0 0 56 [some (qR 15), some (qI a), some (qI i), some (qI s), some (qI (((m 16 (((a * 10) + i).toNat)) - 4) + 1)), some (qI ((Lc m a i - 3 - 1) * 3 + s)), some (qI (m 19 (((Lc m a i - 3 - 1) * 3 + s).toNat))), none, none, none] []
        refine qJ.run hκ 3 (pc' := 59) (ls' := [some (qR 15), some (qI a), some (qI i), some (qI s), some (qI (((m 16 (((a * 10) + i).toNat)) - 4) + 1)), some (qI ((Lc m a i - 3 - 1) * 3 + s)), some (qI (m 19 (((Lc m a i - 3 - 1) * 3 + s).toNat))), none, none, none]) (st' := [qI i, qI a, qR 15]) rfl ?_
        refine qJ.callS (As := [qR 15, qI a, qI i]) (rest := []) hκ rfl kX7_57 (c_vB u m y a i hx (by omega)) (by decide) rfl rfl (Nat.le_of_ble_eq_true rfl) (Nat.le_of_ble_eq_true rfl) (Nat.le_of_ble_eq_true rfl) (Or.inl (fun r h' e => by obtain ⟨rfl, rfl⟩ := e; rfl)) (fun r h' e => ?_)
        obtain ⟨rfl, rfl⟩ := e
        show qJ YX7_consonantValue κ _ (qLy u, m, y) 0 0 62 [some (qR 15), some (qI a), some (qI i), some (qI s), some (qI (((m 16 (((a * 10) + i).toNat)) - 4) + 1)), some (qI ((Lc m a i - 3 - 1) * 3 + s)), some (qI (m 19 (((Lc m a i - 3 - 1) * 3 + s).toNat))), none, none, none] [qI (vB m a i)]
        refine qJ.run hκ 1 (pc' := 66) (ls' := [some (qR 15), some (qI a), some (qI i), some (qI s), some (qI (((m 16 (((a * 10) + i).toNat)) - 4) + 1)), some (qI ((Lc m a i - 3 - 1) * 3 + s)), some (qI (m 19 (((Lc m a i - 3 - 1) * 3 + s).toNat))), none, none, none]) (st' := [qI (vB m a i)]) rfl ?_
        exact qJ.iret hκ rfl rfl (by decide) (by decide) (by
      refine ⟨?_, rfl⟩
      congr 2
      unfold cV
      rw [if_neg (by omega), if_pos (by omega), if_pos (by omega)])
  · show qJ YX7_consonantValue κ _ (qLy u, m, y) 0 0 40 [some (qR 15), some (qI a), some (qI i), some (qI s), some (qI (((m 16 (((a * 10) + i).toNat)) - 4) + 1)), some (qI ((Lc m a i - 3 - 1) * 3 + s)), some (qI (m 19 (((Lc m a i - 3 - 1) * 3 + s).toNat))), none, none, none] []
    refine qJ.run hκ 2 (pc' := 42) (ls' := [some (qR 15), some (qI a), some (qI i), some (qI s), some (qI (((m 16 (((a * 10) + i).toNat)) - 4) + 1)), some (qI ((Lc m a i - 3 - 1) * 3 + s)), some (qI (m 19 (((Lc m a i - 3 - 1) * 3 + s).toNat))), none, none, none]) (st' := [qI 2, qI s]) rfl ?_
    refine qJ.icmp_ne hκ (tgt := 47) rfl rfl (by omega) (by omega) (fun c42 => ?_) (fun c42 => ?_)
    · show qJ YX7_consonantValue κ _ (qLy u, m, y) 0 0 47 [some (qR 15), some (qI a), some (qI i), some (qI s), some (qI (((m 16 (((a * 10) + i).toNat)) - 4) + 1)), some (qI ((Lc m a i - 3 - 1) * 3 + s)), some (qI (m 19 (((Lc m a i - 3 - 1) * 3 + s).toNat))), none, none, none] []
      refine qJ.run hκ 1 (pc' := 49) (ls' := [some (qR 15), some (qI a), some (qI i), some (qI s), some (qI (((m 16 (((a * 10) + i).toNat)) - 4) + 1)), some (qI ((Lc m a i - 3 - 1) * 3 + s)), some (qI (m 19 (((Lc m a i - 3 - 1) * 3 + s).toNat))), none, none, none]) (st' := [qI (m 19 (((Lc m a i - 3 - 1) * 3 + s).toNat))]) rfl ?_
      refine qJ.if_ne hκ (tgt := 67) rfl rfl (by omega) (fun c49 => ?_) (fun c49 => ?_)
      · show qJ YX7_consonantValue κ _ (qLy u, m, y) 0 0 67 [some (qR 15), some (qI a), some (qI i), some (qI s), some (qI (((m 16 (((a * 10) + i).toNat)) - 4) + 1)), some (qI ((Lc m a i - 3 - 1) * 3 + s)), some (qI (m 19 (((Lc m a i - 3 - 1) * 3 + s).toNat))), none, none, none] []
        refine qJ.run hκ 2 (pc' := 70) (ls' := [some (qR 15), some (qI a), some (qI i), some (qI s), some (qI (((m 16 (((a * 10) + i).toNat)) - 4) + 1)), some (qI ((Lc m a i - 3 - 1) * 3 + s)), some (qI (m 19 (((Lc m a i - 3 - 1) * 3 + s).toNat))), none, none, none]) (st' := [qI 3, qI (m 19 (((Lc m a i - 3 - 1) * 3 + s).toNat))]) rfl ?_
        refine qJ.icmp_ne hκ (tgt := 83) rfl rfl (by omega) (by omega) (fun c70 => ?_) (fun c70 => ?_)
        · show qJ YX7_consonantValue κ _ (qLy u, m, y) 0 0 83 [some (qR 15), some (qI a), some (qI i), some (qI s), some (qI (((m 16 (((a * 10) + i).toNat)) - 4) + 1)), some (qI ((Lc m a i - 3 - 1) * 3 + s)), some (qI (m 19 (((Lc m a i - 3 - 1) * 3 + s).toNat))), none, none, none] []
          refine qJ.run hκ 4 (pc' := 89) (ls' := [some (qR 15), some (qI a), some (qI i), some (qI s), some (qI (((m 16 (((a * 10) + i).toNat)) - 4) + 1)), some (qI ((Lc m a i - 3 - 1) * 3 + s)), some (qI (m 19 (((Lc m a i - 3 - 1) * 3 + s).toNat))), some (qI (((m 16 (((a * 10) + i).toNat)) - 4) + 1)), none, none]) (st' := [qI 2, qI s]) rfl ?_
          refine qJ.icmp_eq hκ (tgt := 98) rfl rfl (by omega) (by omega) (fun c89 => ?_) (fun c89 => ?_)
          · show qJ YX7_consonantValue κ _ (qLy u, m, y) 0 0 98 [some (qR 15), some (qI a), some (qI i), some (qI s), some (qI (((m 16 (((a * 10) + i).toNat)) - 4) + 1)), some (qI ((Lc m a i - 3 - 1) * 3 + s)), some (qI (m 19 (((Lc m a i - 3 - 1) * 3 + s).toNat))), some (qI (((m 16 (((a * 10) + i).toNat)) - 4) + 1)), none, none] []
            refine qJ.run hκ 4 (pc' := 107) (ls' := [some (qR 15), some (qI a), some (qI i), some (qI s), some (qI (((m 16 (((a * 10) + i).toNat)) - 4) + 1)), some (qI ((Lc m a i - 3 - 1) * 3 + s)), some (qI (m 19 (((Lc m a i - 3 - 1) * 3 + s).toNat))), some (qI (((m 16 (((a * 10) + i).toNat)) - 4) + 1)), some (qI 1), none]) (st' := [qI 1]) rfl ?_
            refine qJ.if_eq hκ (tgt := 119) rfl rfl (by omega) (fun c107 => ?_) (fun c107 => ?_)
            · exact absurd c107 (by decide)
            · show qJ YX7_consonantValue κ _ (qLy u, m, y) 0 0 110 [some (qR 15), some (qI a), some (qI i), some (qI s), some (qI (((m 16 (((a * 10) + i).toNat)) - 4) + 1)), some (qI ((Lc m a i - 3 - 1) * 3 + s)), some (qI (m 19 (((Lc m a i - 3 - 1) * 3 + s).toNat))), some (qI (((m 16 (((a * 10) + i).toNat)) - 4) + 1)), some (qI 1), none] []
              refine qJ.run hκ 3 (pc' := 113) (ls' := [some (qR 15), some (qI a), some (qI i), some (qI s), some (qI (((m 16 (((a * 10) + i).toNat)) - 4) + 1)), some (qI ((Lc m a i - 3 - 1) * 3 + s)), some (qI (m 19 (((Lc m a i - 3 - 1) * 3 + s).toNat))), some (qI (((m 16 (((a * 10) + i).toNat)) - 4) + 1)), some (qI 1), none]) (st' := [qI i, qI a, qR 15]) rfl ?_
              refine qJ.callS (As := [qR 15, qI a, qI i]) (rest := []) hκ rfl kX7_63 (c_vA u m y a i hx (by omega)) (by decide) rfl rfl (Nat.le_of_ble_eq_true rfl) (Nat.le_of_ble_eq_true rfl) (Nat.le_of_ble_eq_true rfl) (Or.inl (fun r h' e => by obtain ⟨rfl, rfl⟩ := e; rfl)) (fun r h' e => ?_)
              obtain ⟨rfl, rfl⟩ := e
              show qJ YX7_consonantValue κ _ (qLy u, m, y) 0 0 116 [some (qR 15), some (qI a), some (qI i), some (qI s), some (qI (((m 16 (((a * 10) + i).toNat)) - 4) + 1)), some (qI ((Lc m a i - 3 - 1) * 3 + s)), some (qI (m 19 (((Lc m a i - 3 - 1) * 3 + s).toNat))), some (qI (((m 16 (((a * 10) + i).toNat)) - 4) + 1)), some (qI 1), none] [qI (vA m a i)]
              refine qJ.run hκ 4 (pc' := 130) (ls' := [some (qR 15), some (qI a), some (qI i), some (qI s), some (qI (((m 16 (((a * 10) + i).toNat)) - 4) + 1)), some (qI ((Lc m a i - 3 - 1) * 3 + s)), some (qI (m 19 (((Lc m a i - 3 - 1) * 3 + s).toNat))), some (qI (((m 16 (((a * 10) + i).toNat)) - 4) + 1)), some (qI 1), some (qI (vA m a i))]) (st' := [qI (-1), qI (vA m a i)]) rfl ?_
              refine qJ.icmp_ne hκ (tgt := 137) rfl rfl (by omega) (by omega) (fun c130 => ?_) (fun c130 => ?_)
              · show qJ YX7_consonantValue κ _ (qLy u, m, y) 0 0 137 [some (qR 15), some (qI a), some (qI i), some (qI s), some (qI (((m 16 (((a * 10) + i).toNat)) - 4) + 1)), some (qI ((Lc m a i - 3 - 1) * 3 + s)), some (qI (m 19 (((Lc m a i - 3 - 1) * 3 + s).toNat))), some (qI (((m 16 (((a * 10) + i).toNat)) - 4) + 1)), some (qI 1), some (qI (vA m a i))] []
                refine qJ.run hκ 5 (pc' := 144) (ls' := [some (qR 15), some (qI a), some (qI i), some (qI s), some (qI (((m 16 (((a * 10) + i).toNat)) - 4) + 1)), some (qI ((Lc m a i - 3 - 1) * 3 + s)), some (qI (m 19 (((Lc m a i - 3 - 1) * 3 + s).toNat))), some (qI (((m 16 (((a * 10) + i).toNat)) - 4) + 1)), some (qI 1), some (qI (vA m a i))]) (st' := [qI ((4 * (((m 16 (((a * 10) + i).toNat)) - 4) + 1)) + (vA m a i))]) rfl ?_
                exact qJ.iret hκ rfl rfl (by decide) (by decide) (by
      refine ⟨?_, rfl⟩
      congr 2
      unfold cV
      rw [if_neg (by omega), if_neg (by omega), if_pos (show s = 2 ∨ m 19 (sl3 (Lc m a i - 3) s) = 2 by omega), if_neg (by omega), if_neg (show ¬ m 19 (sl3 (Lc m a i - 3) s) = 3 by omega)]; omega)
              · show qJ YX7_consonantValue κ _ (qLy u, m, y) 0 0 133 [some (qR 15), some (qI a), some (qI i), some (qI s), some (qI (((m 16 (((a * 10) + i).toNat)) - 4) + 1)), some (qI ((Lc m a i - 3 - 1) * 3 + s)), some (qI (m 19 (((Lc m a i - 3 - 1) * 3 + s).toNat))), some (qI (((m 16 (((a * 10) + i).toNat)) - 4) + 1)), some (qI 1), some (qI (vA m a i))] []
                refine qJ.run hκ 2 (pc' := 144) (ls' := [some (qR 15), some (qI a), some (qI i), some (qI s), some (qI (((m 16 (((a * 10) + i).toNat)) - 4) + 1)), some (qI ((Lc m a i - 3 - 1) * 3 + s)), some (qI (m 19 (((Lc m a i - 3 - 1) * 3 + s).toNat))), some (qI (((m 16 (((a * 10) + i).toNat)) - 4) + 1)), some (qI 1), some (qI (vA m a i))]) (st' := [qI (-1)]) rfl ?_
                exact qJ.iret hκ rfl rfl (by decide) (by decide) (by
      refine ⟨?_, rfl⟩
      congr 2
      unfold cV
      rw [if_neg (by omega), if_neg (by omega), if_pos (show s = 2 ∨ m 19 (sl3 (Lc m a i - 3) s) = 2 by omega), if_pos (by omega)])
          · show qJ YX7_consonantValue κ _ (qLy u, m, y) 0 0 92 [some (qR 15), some (qI a), some (qI i), some (qI s), some (qI (((m 16 (((a * 10) + i).toNat)) - 4) + 1)), some (qI ((Lc m a i - 3 - 1) * 3 + s)), some (qI (m 19 (((Lc m a i - 3 - 1) * 3 + s).toNat))), some (qI (((m 16 (((a * 10) + i).toNat)) - 4) + 1)), none, none] []
            refine qJ.run hκ 2 (pc' := 95) (ls' := [some (qR 15), some (qI a), some (qI i), some (qI s), some (qI (((m 16 (((a * 10) + i).toNat)) - 4) + 1)), some (qI ((Lc m a i - 3 - 1) * 3 + s)), some (qI (m 19 (((Lc m a i - 3 - 1) * 3 + s).toNat))), some (qI (((m 16 (((a * 10) + i).toNat)) - 4) + 1)), none, none]) (st' := [qI 2, qI (m 19 (((Lc m a i - 3 - 1) * 3 + s).toNat))]) rfl ?_
            refine qJ.icmp_ne hκ (tgt := 102) rfl rfl (by omega) (by omega) (fun c95 => ?_) (fun c95 => ?_)
            · show qJ YX7_consonantValue κ _ (qLy u, m, y) 0 0 102 [some (qR 15), some (qI a), some (qI i), some (qI s), some (qI (((m 16 (((a * 10) + i).toNat)) - 4) + 1)), some (qI ((Lc m a i - 3 - 1) * 3 + s)), some (qI (m 19 (((Lc m a i - 3 - 1) * 3 + s).toNat))), some (qI (((m 16 (((a * 10) + i).toNat)) - 4) + 1)), none, none] []
              refine qJ.run hκ 3 (pc' := 107) (ls' := [some (qR 15), some (qI a), some (qI i), some (qI s), some (qI (((m 16 (((a * 10) + i).toNat)) - 4) + 1)), some (qI ((Lc m a i - 3 - 1) * 3 + s)), some (qI (m 19 (((Lc m a i - 3 - 1) * 3 + s).toNat))), some (qI (((m 16 (((a * 10) + i).toNat)) - 4) + 1)), some (qI 0), none]) (st' := [qI 0]) rfl ?_
              refine qJ.if_eq hκ (tgt := 119) rfl rfl (by omega) (fun c107 => ?_) (fun c107 => ?_)
              · show qJ YX7_consonantValue κ _ (qLy u, m, y) 0 0 119 [some (qR 15), some (qI a), some (qI i), some (qI s), some (qI (((m 16 (((a * 10) + i).toNat)) - 4) + 1)), some (qI ((Lc m a i - 3 - 1) * 3 + s)), some (qI (m 19 (((Lc m a i - 3 - 1) * 3 + s).toNat))), some (qI (((m 16 (((a * 10) + i).toNat)) - 4) + 1)), some (qI 0), none] []
                refine qJ.run hκ 3 (pc' := 122) (ls' := [some (qR 15), some (qI a), some (qI i), some (qI s), some (qI (((m 16 (((a * 10) + i).toNat)) - 4) + 1)), some (qI ((Lc m a i - 3 - 1) * 3 + s)), some (qI (m 19 (((Lc m a i - 3 - 1) * 3 + s).toNat))), some (qI (((m 16 (((a * 10) + i).toNat)) - 4) + 1)), some (qI 0), none]) (st' := [qI i, qI a, qR 15]) rfl ?_
                refine qJ.callS (As := [qR 15, qI a, qI i]) (rest := []) hκ rfl kX7_57 (c_vB u m y a i hx (by omega)) (by decide) rfl rfl (Nat.le_of_ble_eq_true rfl) (Nat.le_of_ble_eq_true rfl) (Nat.le_of_ble_eq_true rfl) (Or.inl (fun r h' e => by obtain ⟨rfl, rfl⟩ := e; rfl)) (fun r h' e => ?_)
                obtain ⟨rfl, rfl⟩ := e
                show qJ YX7_consonantValue κ _ (qLy u, m, y) 0 0 125 [some (qR 15), some (qI a), some (qI i), some (qI s), some (qI (((m 16 (((a * 10) + i).toNat)) - 4) + 1)), some (qI ((Lc m a i - 3 - 1) * 3 + s)), some (qI (m 19 (((Lc m a i - 3 - 1) * 3 + s).toNat))), some (qI (((m 16 (((a * 10) + i).toNat)) - 4) + 1)), some (qI 0), none] [qI (vB m a i)]
                refine qJ.run hκ 3 (pc' := 130) (ls' := [some (qR 15), some (qI a), some (qI i), some (qI s), some (qI (((m 16 (((a * 10) + i).toNat)) - 4) + 1)), some (qI ((Lc m a i - 3 - 1) * 3 + s)), some (qI (m 19 (((Lc m a i - 3 - 1) * 3 + s).toNat))), some (qI (((m 16 (((a * 10) + i).toNat)) - 4) + 1)), some (qI 0), some (qI (vB m a i))]) (st' := [qI (-1), qI (vB m a i)]) rfl ?_
                refine qJ.icmp_ne hκ (tgt := 137) rfl rfl (by omega) (by omega) (fun c130 => ?_) (fun c130 => ?_)
                · show qJ YX7_consonantValue κ _ (qLy u, m, y) 0 0 137 [some (qR 15), some (qI a), some (qI i), some (qI s), some (qI (((m 16 (((a * 10) + i).toNat)) - 4) + 1)), some (qI ((Lc m a i - 3 - 1) * 3 + s)), some (qI (m 19 (((Lc m a i - 3 - 1) * 3 + s).toNat))), some (qI (((m 16 (((a * 10) + i).toNat)) - 4) + 1)), some (qI 0), some (qI (vB m a i))] []
                  refine qJ.run hκ 5 (pc' := 144) (ls' := [some (qR 15), some (qI a), some (qI i), some (qI s), some (qI (((m 16 (((a * 10) + i).toNat)) - 4) + 1)), some (qI ((Lc m a i - 3 - 1) * 3 + s)), some (qI (m 19 (((Lc m a i - 3 - 1) * 3 + s).toNat))), some (qI (((m 16 (((a * 10) + i).toNat)) - 4) + 1)), some (qI 0), some (qI (vB m a i))]) (st' := [qI ((4 * (((m 16 (((a * 10) + i).toNat)) - 4) + 1)) + (vB m a i))]) rfl ?_
                  exact qJ.iret hκ rfl rfl (by decide) (by decide) (by
      refine ⟨?_, rfl⟩
      congr 2
      unfold cV
      rw [if_neg (by omega), if_neg (by omega), if_neg (show ¬ (s = 2 ∨ m 19 (sl3 (Lc m a i - 3) s) = 2) by omega), if_neg (by omega), if_neg (show ¬ m 19 (sl3 (Lc m a i - 3) s) = 3 by omega)]; omega)
                · show qJ YX7_consonantValue κ _ (qLy u, m, y) 0 0 133 [some (qR 15), some (qI a), some (qI i), some (qI s), some (qI (((m 16 (((a * 10) + i).toNat)) - 4) + 1)), some (qI ((Lc m a i - 3 - 1) * 3 + s)), some (qI (m 19 (((Lc m a i - 3 - 1) * 3 + s).toNat))), some (qI (((m 16 (((a * 10) + i).toNat)) - 4) + 1)), some (qI 0), some (qI (vB m a i))] []
                  refine qJ.run hκ 2 (pc' := 144) (ls' := [some (qR 15), some (qI a), some (qI i), some (qI s), some (qI (((m 16 (((a * 10) + i).toNat)) - 4) + 1)), some (qI ((Lc m a i - 3 - 1) * 3 + s)), some (qI (m 19 (((Lc m a i - 3 - 1) * 3 + s).toNat))), some (qI (((m 16 (((a * 10) + i).toNat)) - 4) + 1)), some (qI 0), some (qI (vB m a i))]) (st' := [qI (-1)]) rfl ?_
                  exact qJ.iret hκ rfl rfl (by decide) (by decide) (by
      refine ⟨?_, rfl⟩
      congr 2
      unfold cV
      rw [if_neg (by omega), if_neg (by omega), if_neg (show ¬ (s = 2 ∨ m 19 (sl3 (Lc m a i - 3) s) = 2) by omega), if_pos (by omega)])
              · exact absurd c107 (by decide)
            · show qJ YX7_consonantValue κ _ (qLy u, m, y) 0 0 98 [some (qR 15), some (qI a), some (qI i), some (qI s), some (qI (((m 16 (((a * 10) + i).toNat)) - 4) + 1)), some (qI ((Lc m a i - 3 - 1) * 3 + s)), some (qI (m 19 (((Lc m a i - 3 - 1) * 3 + s).toNat))), some (qI (((m 16 (((a * 10) + i).toNat)) - 4) + 1)), none, none] []
              refine qJ.run hκ 4 (pc' := 107) (ls' := [some (qR 15), some (qI a), some (qI i), some (qI s), some (qI (((m 16 (((a * 10) + i).toNat)) - 4) + 1)), some (qI ((Lc m a i - 3 - 1) * 3 + s)), some (qI (m 19 (((Lc m a i - 3 - 1) * 3 + s).toNat))), some (qI (((m 16 (((a * 10) + i).toNat)) - 4) + 1)), some (qI 1), none]) (st' := [qI 1]) rfl ?_
              refine qJ.if_eq hκ (tgt := 119) rfl rfl (by omega) (fun c107 => ?_) (fun c107 => ?_)
              · exact absurd c107 (by decide)
              · show qJ YX7_consonantValue κ _ (qLy u, m, y) 0 0 110 [some (qR 15), some (qI a), some (qI i), some (qI s), some (qI (((m 16 (((a * 10) + i).toNat)) - 4) + 1)), some (qI ((Lc m a i - 3 - 1) * 3 + s)), some (qI (m 19 (((Lc m a i - 3 - 1) * 3 + s).toNat))), some (qI (((m 16 (((a * 10) + i).toNat)) - 4) + 1)), some (qI 1), none] []
                refine qJ.run hκ 3 (pc' := 113) (ls' := [some (qR 15), some (qI a), some (qI i), some (qI s), some (qI (((m 16 (((a * 10) + i).toNat)) - 4) + 1)), some (qI ((Lc m a i - 3 - 1) * 3 + s)), some (qI (m 19 (((Lc m a i - 3 - 1) * 3 + s).toNat))), some (qI (((m 16 (((a * 10) + i).toNat)) - 4) + 1)), some (qI 1), none]) (st' := [qI i, qI a, qR 15]) rfl ?_
                refine qJ.callS (As := [qR 15, qI a, qI i]) (rest := []) hκ rfl kX7_63 (c_vA u m y a i hx (by omega)) (by decide) rfl rfl (Nat.le_of_ble_eq_true rfl) (Nat.le_of_ble_eq_true rfl) (Nat.le_of_ble_eq_true rfl) (Or.inl (fun r h' e => by obtain ⟨rfl, rfl⟩ := e; rfl)) (fun r h' e => ?_)
                obtain ⟨rfl, rfl⟩ := e
                show qJ YX7_consonantValue κ _ (qLy u, m, y) 0 0 116 [some (qR 15), some (qI a), some (qI i), some (qI s), some (qI (((m 16 (((a * 10) + i).toNat)) - 4) + 1)), some (qI ((Lc m a i - 3 - 1) * 3 + s)), some (qI (m 19 (((Lc m a i - 3 - 1) * 3 + s).toNat))), some (qI (((m 16 (((a * 10) + i).toNat)) - 4) + 1)), some (qI 1), none] [qI (vA m a i)]
                refine qJ.run hκ 4 (pc' := 130) (ls' := [some (qR 15), some (qI a), some (qI i), some (qI s), some (qI (((m 16 (((a * 10) + i).toNat)) - 4) + 1)), some (qI ((Lc m a i - 3 - 1) * 3 + s)), some (qI (m 19 (((Lc m a i - 3 - 1) * 3 + s).toNat))), some (qI (((m 16 (((a * 10) + i).toNat)) - 4) + 1)), some (qI 1), some (qI (vA m a i))]) (st' := [qI (-1), qI (vA m a i)]) rfl ?_
                refine qJ.icmp_ne hκ (tgt := 137) rfl rfl (by omega) (by omega) (fun c130 => ?_) (fun c130 => ?_)
                · show qJ YX7_consonantValue κ _ (qLy u, m, y) 0 0 137 [some (qR 15), some (qI a), some (qI i), some (qI s), some (qI (((m 16 (((a * 10) + i).toNat)) - 4) + 1)), some (qI ((Lc m a i - 3 - 1) * 3 + s)), some (qI (m 19 (((Lc m a i - 3 - 1) * 3 + s).toNat))), some (qI (((m 16 (((a * 10) + i).toNat)) - 4) + 1)), some (qI 1), some (qI (vA m a i))] []
                  refine qJ.run hκ 5 (pc' := 144) (ls' := [some (qR 15), some (qI a), some (qI i), some (qI s), some (qI (((m 16 (((a * 10) + i).toNat)) - 4) + 1)), some (qI ((Lc m a i - 3 - 1) * 3 + s)), some (qI (m 19 (((Lc m a i - 3 - 1) * 3 + s).toNat))), some (qI (((m 16 (((a * 10) + i).toNat)) - 4) + 1)), some (qI 1), some (qI (vA m a i))]) (st' := [qI ((4 * (((m 16 (((a * 10) + i).toNat)) - 4) + 1)) + (vA m a i))]) rfl ?_
                  exact qJ.iret hκ rfl rfl (by decide) (by decide) (by
      refine ⟨?_, rfl⟩
      congr 2
      unfold cV
      rw [if_neg (by omega), if_neg (by omega), if_pos (show s = 2 ∨ m 19 (sl3 (Lc m a i - 3) s) = 2 by omega), if_neg (by omega), if_neg (show ¬ m 19 (sl3 (Lc m a i - 3) s) = 3 by omega)]; omega)
                · show qJ YX7_consonantValue κ _ (qLy u, m, y) 0 0 133 [some (qR 15), some (qI a), some (qI i), some (qI s), some (qI (((m 16 (((a * 10) + i).toNat)) - 4) + 1)), some (qI ((Lc m a i - 3 - 1) * 3 + s)), some (qI (m 19 (((Lc m a i - 3 - 1) * 3 + s).toNat))), some (qI (((m 16 (((a * 10) + i).toNat)) - 4) + 1)), some (qI 1), some (qI (vA m a i))] []
                  refine qJ.run hκ 2 (pc' := 144) (ls' := [some (qR 15), some (qI a), some (qI i), some (qI s), some (qI (((m 16 (((a * 10) + i).toNat)) - 4) + 1)), some (qI ((Lc m a i - 3 - 1) * 3 + s)), some (qI (m 19 (((Lc m a i - 3 - 1) * 3 + s).toNat))), some (qI (((m 16 (((a * 10) + i).toNat)) - 4) + 1)), some (qI 1), some (qI (vA m a i))]) (st' := [qI (-1)]) rfl ?_
                  exact qJ.iret hκ rfl rfl (by decide) (by decide) (by
      refine ⟨?_, rfl⟩
      congr 2
      unfold cV
      rw [if_neg (by omega), if_neg (by omega), if_pos (show s = 2 ∨ m 19 (sl3 (Lc m a i - 3) s) = 2 by omega), if_pos (by omega)])
        · show qJ YX7_consonantValue κ _ (qLy u, m, y) 0 0 73 [some (qR 15), some (qI a), some (qI i), some (qI s), some (qI (((m 16 (((a * 10) + i).toNat)) - 4) + 1)), some (qI ((Lc m a i - 3 - 1) * 3 + s)), some (qI (m 19 (((Lc m a i - 3 - 1) * 3 + s).toNat))), none, none, none] []
          refine qJ.run hκ 3 (pc' := 79) (ls' := [some (qR 15), some (qI a), some (qI i), some (qI s), some (qI (((m 16 (((a * 10) + i).toNat)) - 4) + 1)), some (qI ((Lc m a i - 3 - 1) * 3 + s)), some (qI (m 19 (((Lc m a i - 3 - 1) * 3 + s).toNat))), none, none, none]) (st' := [qI ((Lc m a i - 3 - 1) * 3 + s), qR 20]) rfl ?_
          refine qJ.ald hκ rfl rfl rfl (by decide) (by omega) ?_
          show qJ YX7_consonantValue κ _ (qLy u, m, y) 0 0 80 [some (qR 15), some (qI a), some (qI i), some (qI s), some (qI (((m 16 (((a * 10) + i).toNat)) - 4) + 1)), some (qI ((Lc m a i - 3 - 1) * 3 + s)), some (qI (m 19 (((Lc m a i - 3 - 1) * 3 + s).toNat))), none, none, none] [qI (m 20 (((Lc m a i - 3 - 1) * 3 + s).toNat))]
          refine qJ.run hκ 4 (pc' := 89) (ls' := [some (qR 15), some (qI a), some (qI i), some (qI s), some (qI (((m 16 (((a * 10) + i).toNat)) - 4) + 1)), some (qI ((Lc m a i - 3 - 1) * 3 + s)), some (qI (m 19 (((Lc m a i - 3 - 1) * 3 + s).toNat))), some (qI (m 20 (((Lc m a i - 3 - 1) * 3 + s).toNat))), none, none]) (st' := [qI 2, qI s]) rfl ?_
          refine qJ.icmp_eq hκ (tgt := 98) rfl rfl (by omega) (by omega) (fun c89 => ?_) (fun c89 => ?_)
          · show qJ YX7_consonantValue κ _ (qLy u, m, y) 0 0 98 [some (qR 15), some (qI a), some (qI i), some (qI s), some (qI (((m 16 (((a * 10) + i).toNat)) - 4) + 1)), some (qI ((Lc m a i - 3 - 1) * 3 + s)), some (qI (m 19 (((Lc m a i - 3 - 1) * 3 + s).toNat))), some (qI (m 20 (((Lc m a i - 3 - 1) * 3 + s).toNat))), none, none] []
            refine qJ.run hκ 4 (pc' := 107) (ls' := [some (qR 15), some (qI a), some (qI i), some (qI s), some (qI (((m 16 (((a * 10) + i).toNat)) - 4) + 1)), some (qI ((Lc m a i - 3 - 1) * 3 + s)), some (qI (m 19 (((Lc m a i - 3 - 1) * 3 + s).toNat))), some (qI (m 20 (((Lc m a i - 3 - 1) * 3 + s).toNat))), some (qI 1), none]) (st' := [qI 1]) rfl ?_
            refine qJ.if_eq hκ (tgt := 119) rfl rfl (by omega) (fun c107 => ?_) (fun c107 => ?_)
            · exact absurd c107 (by decide)
            · show qJ YX7_consonantValue κ _ (qLy u, m, y) 0 0 110 [some (qR 15), some (qI a), some (qI i), some (qI s), some (qI (((m 16 (((a * 10) + i).toNat)) - 4) + 1)), some (qI ((Lc m a i - 3 - 1) * 3 + s)), some (qI (m 19 (((Lc m a i - 3 - 1) * 3 + s).toNat))), some (qI (m 20 (((Lc m a i - 3 - 1) * 3 + s).toNat))), some (qI 1), none] []
              refine qJ.run hκ 3 (pc' := 113) (ls' := [some (qR 15), some (qI a), some (qI i), some (qI s), some (qI (((m 16 (((a * 10) + i).toNat)) - 4) + 1)), some (qI ((Lc m a i - 3 - 1) * 3 + s)), some (qI (m 19 (((Lc m a i - 3 - 1) * 3 + s).toNat))), some (qI (m 20 (((Lc m a i - 3 - 1) * 3 + s).toNat))), some (qI 1), none]) (st' := [qI i, qI a, qR 15]) rfl ?_
              refine qJ.callS (As := [qR 15, qI a, qI i]) (rest := []) hκ rfl kX7_63 (c_vA u m y a i hx (by omega)) (by decide) rfl rfl (Nat.le_of_ble_eq_true rfl) (Nat.le_of_ble_eq_true rfl) (Nat.le_of_ble_eq_true rfl) (Or.inl (fun r h' e => by obtain ⟨rfl, rfl⟩ := e; rfl)) (fun r h' e => ?_)
              obtain ⟨rfl, rfl⟩ := e
              show qJ YX7_consonantValue κ _ (qLy u, m, y) 0 0 116 [some (qR 15), some (qI a), some (qI i), some (qI s), some (qI (((m 16 (((a * 10) + i).toNat)) - 4) + 1)), some (qI ((Lc m a i - 3 - 1) * 3 + s)), some (qI (m 19 (((Lc m a i - 3 - 1) * 3 + s).toNat))), some (qI (m 20 (((Lc m a i - 3 - 1) * 3 + s).toNat))), some (qI 1), none] [qI (vA m a i)]
              refine qJ.run hκ 4 (pc' := 130) (ls' := [some (qR 15), some (qI a), some (qI i), some (qI s), some (qI (((m 16 (((a * 10) + i).toNat)) - 4) + 1)), some (qI ((Lc m a i - 3 - 1) * 3 + s)), some (qI (m 19 (((Lc m a i - 3 - 1) * 3 + s).toNat))), some (qI (m 20 (((Lc m a i - 3 - 1) * 3 + s).toNat))), some (qI 1), some (qI (vA m a i))]) (st' := [qI (-1), qI (vA m a i)]) rfl ?_
              refine qJ.icmp_ne hκ (tgt := 137) rfl rfl (by omega) (by omega) (fun c130 => ?_) (fun c130 => ?_)
              · show qJ YX7_consonantValue κ _ (qLy u, m, y) 0 0 137 [some (qR 15), some (qI a), some (qI i), some (qI s), some (qI (((m 16 (((a * 10) + i).toNat)) - 4) + 1)), some (qI ((Lc m a i - 3 - 1) * 3 + s)), some (qI (m 19 (((Lc m a i - 3 - 1) * 3 + s).toNat))), some (qI (m 20 (((Lc m a i - 3 - 1) * 3 + s).toNat))), some (qI 1), some (qI (vA m a i))] []
                refine qJ.run hκ 5 (pc' := 144) (ls' := [some (qR 15), some (qI a), some (qI i), some (qI s), some (qI (((m 16 (((a * 10) + i).toNat)) - 4) + 1)), some (qI ((Lc m a i - 3 - 1) * 3 + s)), some (qI (m 19 (((Lc m a i - 3 - 1) * 3 + s).toNat))), some (qI (m 20 (((Lc m a i - 3 - 1) * 3 + s).toNat))), some (qI 1), some (qI (vA m a i))]) (st' := [qI ((4 * (m 20 (((Lc m a i - 3 - 1) * 3 + s).toNat))) + (vA m a i))]) rfl ?_
                exact qJ.iret hκ rfl rfl (by decide) (by decide) (by
      refine ⟨?_, rfl⟩
      congr 2
      unfold cV
      rw [if_neg (by omega), if_neg (by omega), if_pos (show s = 2 ∨ m 19 (sl3 (Lc m a i - 3) s) = 2 by omega), if_neg (by omega), if_pos (show m 19 (sl3 (Lc m a i - 3) s) = 3 by omega)])
              · show qJ YX7_consonantValue κ _ (qLy u, m, y) 0 0 133 [some (qR 15), some (qI a), some (qI i), some (qI s), some (qI (((m 16 (((a * 10) + i).toNat)) - 4) + 1)), some (qI ((Lc m a i - 3 - 1) * 3 + s)), some (qI (m 19 (((Lc m a i - 3 - 1) * 3 + s).toNat))), some (qI (m 20 (((Lc m a i - 3 - 1) * 3 + s).toNat))), some (qI 1), some (qI (vA m a i))] []
                refine qJ.run hκ 2 (pc' := 144) (ls' := [some (qR 15), some (qI a), some (qI i), some (qI s), some (qI (((m 16 (((a * 10) + i).toNat)) - 4) + 1)), some (qI ((Lc m a i - 3 - 1) * 3 + s)), some (qI (m 19 (((Lc m a i - 3 - 1) * 3 + s).toNat))), some (qI (m 20 (((Lc m a i - 3 - 1) * 3 + s).toNat))), some (qI 1), some (qI (vA m a i))]) (st' := [qI (-1)]) rfl ?_
                exact qJ.iret hκ rfl rfl (by decide) (by decide) (by
      refine ⟨?_, rfl⟩
      congr 2
      unfold cV
      rw [if_neg (by omega), if_neg (by omega), if_pos (show s = 2 ∨ m 19 (sl3 (Lc m a i - 3) s) = 2 by omega), if_pos (by omega)])
          · show qJ YX7_consonantValue κ _ (qLy u, m, y) 0 0 92 [some (qR 15), some (qI a), some (qI i), some (qI s), some (qI (((m 16 (((a * 10) + i).toNat)) - 4) + 1)), some (qI ((Lc m a i - 3 - 1) * 3 + s)), some (qI (m 19 (((Lc m a i - 3 - 1) * 3 + s).toNat))), some (qI (m 20 (((Lc m a i - 3 - 1) * 3 + s).toNat))), none, none] []
            refine qJ.run hκ 2 (pc' := 95) (ls' := [some (qR 15), some (qI a), some (qI i), some (qI s), some (qI (((m 16 (((a * 10) + i).toNat)) - 4) + 1)), some (qI ((Lc m a i - 3 - 1) * 3 + s)), some (qI (m 19 (((Lc m a i - 3 - 1) * 3 + s).toNat))), some (qI (m 20 (((Lc m a i - 3 - 1) * 3 + s).toNat))), none, none]) (st' := [qI 2, qI (m 19 (((Lc m a i - 3 - 1) * 3 + s).toNat))]) rfl ?_
            refine qJ.icmp_ne hκ (tgt := 102) rfl rfl (by omega) (by omega) (fun c95 => ?_) (fun c95 => ?_)
            · show qJ YX7_consonantValue κ _ (qLy u, m, y) 0 0 102 [some (qR 15), some (qI a), some (qI i), some (qI s), some (qI (((m 16 (((a * 10) + i).toNat)) - 4) + 1)), some (qI ((Lc m a i - 3 - 1) * 3 + s)), some (qI (m 19 (((Lc m a i - 3 - 1) * 3 + s).toNat))), some (qI (m 20 (((Lc m a i - 3 - 1) * 3 + s).toNat))), none, none] []
              refine qJ.run hκ 3 (pc' := 107) (ls' := [some (qR 15), some (qI a), some (qI i), some (qI s), some (qI (((m 16 (((a * 10) + i).toNat)) - 4) + 1)), some (qI ((Lc m a i - 3 - 1) * 3 + s)), some (qI (m 19 (((Lc m a i - 3 - 1) * 3 + s).toNat))), some (qI (m 20 (((Lc m a i - 3 - 1) * 3 + s).toNat))), some (qI 0), none]) (st' := [qI 0]) rfl ?_
              refine qJ.if_eq hκ (tgt := 119) rfl rfl (by omega) (fun c107 => ?_) (fun c107 => ?_)
              · show qJ YX7_consonantValue κ _ (qLy u, m, y) 0 0 119 [some (qR 15), some (qI a), some (qI i), some (qI s), some (qI (((m 16 (((a * 10) + i).toNat)) - 4) + 1)), some (qI ((Lc m a i - 3 - 1) * 3 + s)), some (qI (m 19 (((Lc m a i - 3 - 1) * 3 + s).toNat))), some (qI (m 20 (((Lc m a i - 3 - 1) * 3 + s).toNat))), some (qI 0), none] []
                refine qJ.run hκ 3 (pc' := 122) (ls' := [some (qR 15), some (qI a), some (qI i), some (qI s), some (qI (((m 16 (((a * 10) + i).toNat)) - 4) + 1)), some (qI ((Lc m a i - 3 - 1) * 3 + s)), some (qI (m 19 (((Lc m a i - 3 - 1) * 3 + s).toNat))), some (qI (m 20 (((Lc m a i - 3 - 1) * 3 + s).toNat))), some (qI 0), none]) (st' := [qI i, qI a, qR 15]) rfl ?_
                refine qJ.callS (As := [qR 15, qI a, qI i]) (rest := []) hκ rfl kX7_57 (c_vB u m y a i hx (by omega)) (by decide) rfl rfl (Nat.le_of_ble_eq_true rfl) (Nat.le_of_ble_eq_true rfl) (Nat.le_of_ble_eq_true rfl) (Or.inl (fun r h' e => by obtain ⟨rfl, rfl⟩ := e; rfl)) (fun r h' e => ?_)
                obtain ⟨rfl, rfl⟩ := e
                show qJ YX7_consonantValue κ _ (qLy u, m, y) 0 0 125 [some (qR 15), some (qI a), some (qI i), some (qI s), some (qI (((m 16 (((a * 10) + i).toNat)) - 4) + 1)), some (qI ((Lc m a i - 3 - 1) * 3 + s)), some (qI (m 19 (((Lc m a i - 3 - 1) * 3 + s).toNat))), some (qI (m 20 (((Lc m a i - 3 - 1) * 3 + s).toNat))), some (qI 0), none] [qI (vB m a i)]
                refine qJ.run hκ 3 (pc' := 130) (ls' := [some (qR 15), some (qI a), some (qI i), some (qI s), some (qI (((m 16 (((a * 10) + i).toNat)) - 4) + 1)), some (qI ((Lc m a i - 3 - 1) * 3 + s)), some (qI (m 19 (((Lc m a i - 3 - 1) * 3 + s).toNat))), some (qI (m 20 (((Lc m a i - 3 - 1) * 3 + s).toNat))), some (qI 0), some (qI (vB m a i))]) (st' := [qI (-1), qI (vB m a i)]) rfl ?_
                refine qJ.icmp_ne hκ (tgt := 137) rfl rfl (by omega) (by omega) (fun c130 => ?_) (fun c130 => ?_)
                · show qJ YX7_consonantValue κ _ (qLy u, m, y) 0 0 137 [some (qR 15), some (qI a), some (qI i), some (qI s), some (qI (((m 16 (((a * 10) + i).toNat)) - 4) + 1)), some (qI ((Lc m a i - 3 - 1) * 3 + s)), some (qI (m 19 (((Lc m a i - 3 - 1) * 3 + s).toNat))), some (qI (m 20 (((Lc m a i - 3 - 1) * 3 + s).toNat))), some (qI 0), some (qI (vB m a i))] []
                  refine qJ.run hκ 5 (pc' := 144) (ls' := [some (qR 15), some (qI a), some (qI i), some (qI s), some (qI (((m 16 (((a * 10) + i).toNat)) - 4) + 1)), some (qI ((Lc m a i - 3 - 1) * 3 + s)), some (qI (m 19 (((Lc m a i - 3 - 1) * 3 + s).toNat))), some (qI (m 20 (((Lc m a i - 3 - 1) * 3 + s).toNat))), some (qI 0), some (qI (vB m a i))]) (st' := [qI ((4 * (m 20 (((Lc m a i - 3 - 1) * 3 + s).toNat))) + (vB m a i))]) rfl ?_
                  exact qJ.iret hκ rfl rfl (by decide) (by decide) (by
      refine ⟨?_, rfl⟩
      congr 2
      unfold cV
      rw [if_neg (by omega), if_neg (by omega), if_neg (show ¬ (s = 2 ∨ m 19 (sl3 (Lc m a i - 3) s) = 2) by omega), if_neg (by omega), if_pos (show m 19 (sl3 (Lc m a i - 3) s) = 3 by omega)])
                · show qJ YX7_consonantValue κ _ (qLy u, m, y) 0 0 133 [some (qR 15), some (qI a), some (qI i), some (qI s), some (qI (((m 16 (((a * 10) + i).toNat)) - 4) + 1)), some (qI ((Lc m a i - 3 - 1) * 3 + s)), some (qI (m 19 (((Lc m a i - 3 - 1) * 3 + s).toNat))), some (qI (m 20 (((Lc m a i - 3 - 1) * 3 + s).toNat))), some (qI 0), some (qI (vB m a i))] []
                  refine qJ.run hκ 2 (pc' := 144) (ls' := [some (qR 15), some (qI a), some (qI i), some (qI s), some (qI (((m 16 (((a * 10) + i).toNat)) - 4) + 1)), some (qI ((Lc m a i - 3 - 1) * 3 + s)), some (qI (m 19 (((Lc m a i - 3 - 1) * 3 + s).toNat))), some (qI (m 20 (((Lc m a i - 3 - 1) * 3 + s).toNat))), some (qI 0), some (qI (vB m a i))]) (st' := [qI (-1)]) rfl ?_
                  exact qJ.iret hκ rfl rfl (by decide) (by decide) (by
      refine ⟨?_, rfl⟩
      congr 2
      unfold cV
      rw [if_neg (by omega), if_neg (by omega), if_neg (show ¬ (s = 2 ∨ m 19 (sl3 (Lc m a i - 3) s) = 2) by omega), if_pos (by omega)])
              · exact absurd c107 (by decide)
            · show qJ YX7_consonantValue κ _ (qLy u, m, y) 0 0 98 [some (qR 15), some (qI a), some (qI i), some (qI s), some (qI (((m 16 (((a * 10) + i).toNat)) - 4) + 1)), some (qI ((Lc m a i - 3 - 1) * 3 + s)), some (qI (m 19 (((Lc m a i - 3 - 1) * 3 + s).toNat))), some (qI (m 20 (((Lc m a i - 3 - 1) * 3 + s).toNat))), none, none] []
              refine qJ.run hκ 4 (pc' := 107) (ls' := [some (qR 15), some (qI a), some (qI i), some (qI s), some (qI (((m 16 (((a * 10) + i).toNat)) - 4) + 1)), some (qI ((Lc m a i - 3 - 1) * 3 + s)), some (qI (m 19 (((Lc m a i - 3 - 1) * 3 + s).toNat))), some (qI (m 20 (((Lc m a i - 3 - 1) * 3 + s).toNat))), some (qI 1), none]) (st' := [qI 1]) rfl ?_
              refine qJ.if_eq hκ (tgt := 119) rfl rfl (by omega) (fun c107 => ?_) (fun c107 => ?_)
              · exact absurd c107 (by decide)
              · show qJ YX7_consonantValue κ _ (qLy u, m, y) 0 0 110 [some (qR 15), some (qI a), some (qI i), some (qI s), some (qI (((m 16 (((a * 10) + i).toNat)) - 4) + 1)), some (qI ((Lc m a i - 3 - 1) * 3 + s)), some (qI (m 19 (((Lc m a i - 3 - 1) * 3 + s).toNat))), some (qI (m 20 (((Lc m a i - 3 - 1) * 3 + s).toNat))), some (qI 1), none] []
                refine qJ.run hκ 3 (pc' := 113) (ls' := [some (qR 15), some (qI a), some (qI i), some (qI s), some (qI (((m 16 (((a * 10) + i).toNat)) - 4) + 1)), some (qI ((Lc m a i - 3 - 1) * 3 + s)), some (qI (m 19 (((Lc m a i - 3 - 1) * 3 + s).toNat))), some (qI (m 20 (((Lc m a i - 3 - 1) * 3 + s).toNat))), some (qI 1), none]) (st' := [qI i, qI a, qR 15]) rfl ?_
                refine qJ.callS (As := [qR 15, qI a, qI i]) (rest := []) hκ rfl kX7_63 (c_vA u m y a i hx (by omega)) (by decide) rfl rfl (Nat.le_of_ble_eq_true rfl) (Nat.le_of_ble_eq_true rfl) (Nat.le_of_ble_eq_true rfl) (Or.inl (fun r h' e => by obtain ⟨rfl, rfl⟩ := e; rfl)) (fun r h' e => ?_)
                obtain ⟨rfl, rfl⟩ := e
                show qJ YX7_consonantValue κ _ (qLy u, m, y) 0 0 116 [some (qR 15), some (qI a), some (qI i), some (qI s), some (qI (((m 16 (((a * 10) + i).toNat)) - 4) + 1)), some (qI ((Lc m a i - 3 - 1) * 3 + s)), some (qI (m 19 (((Lc m a i - 3 - 1) * 3 + s).toNat))), some (qI (m 20 (((Lc m a i - 3 - 1) * 3 + s).toNat))), some (qI 1), none] [qI (vA m a i)]
                refine qJ.run hκ 4 (pc' := 130) (ls' := [some (qR 15), some (qI a), some (qI i), some (qI s), some (qI (((m 16 (((a * 10) + i).toNat)) - 4) + 1)), some (qI ((Lc m a i - 3 - 1) * 3 + s)), some (qI (m 19 (((Lc m a i - 3 - 1) * 3 + s).toNat))), some (qI (m 20 (((Lc m a i - 3 - 1) * 3 + s).toNat))), some (qI 1), some (qI (vA m a i))]) (st' := [qI (-1), qI (vA m a i)]) rfl ?_
                refine qJ.icmp_ne hκ (tgt := 137) rfl rfl (by omega) (by omega) (fun c130 => ?_) (fun c130 => ?_)
                · show qJ YX7_consonantValue κ _ (qLy u, m, y) 0 0 137 [some (qR 15), some (qI a), some (qI i), some (qI s), some (qI (((m 16 (((a * 10) + i).toNat)) - 4) + 1)), some (qI ((Lc m a i - 3 - 1) * 3 + s)), some (qI (m 19 (((Lc m a i - 3 - 1) * 3 + s).toNat))), some (qI (m 20 (((Lc m a i - 3 - 1) * 3 + s).toNat))), some (qI 1), some (qI (vA m a i))] []
                  refine qJ.run hκ 5 (pc' := 144) (ls' := [some (qR 15), some (qI a), some (qI i), some (qI s), some (qI (((m 16 (((a * 10) + i).toNat)) - 4) + 1)), some (qI ((Lc m a i - 3 - 1) * 3 + s)), some (qI (m 19 (((Lc m a i - 3 - 1) * 3 + s).toNat))), some (qI (m 20 (((Lc m a i - 3 - 1) * 3 + s).toNat))), some (qI 1), some (qI (vA m a i))]) (st' := [qI ((4 * (m 20 (((Lc m a i - 3 - 1) * 3 + s).toNat))) + (vA m a i))]) rfl ?_
                  exact qJ.iret hκ rfl rfl (by decide) (by decide) (by
      refine ⟨?_, rfl⟩
      congr 2
      unfold cV
      rw [if_neg (by omega), if_neg (by omega), if_pos (show s = 2 ∨ m 19 (sl3 (Lc m a i - 3) s) = 2 by omega), if_neg (by omega), if_pos (show m 19 (sl3 (Lc m a i - 3) s) = 3 by omega)])
                · show qJ YX7_consonantValue κ _ (qLy u, m, y) 0 0 133 [some (qR 15), some (qI a), some (qI i), some (qI s), some (qI (((m 16 (((a * 10) + i).toNat)) - 4) + 1)), some (qI ((Lc m a i - 3 - 1) * 3 + s)), some (qI (m 19 (((Lc m a i - 3 - 1) * 3 + s).toNat))), some (qI (m 20 (((Lc m a i - 3 - 1) * 3 + s).toNat))), some (qI 1), some (qI (vA m a i))] []
                  refine qJ.run hκ 2 (pc' := 144) (ls' := [some (qR 15), some (qI a), some (qI i), some (qI s), some (qI (((m 16 (((a * 10) + i).toNat)) - 4) + 1)), some (qI ((Lc m a i - 3 - 1) * 3 + s)), some (qI (m 19 (((Lc m a i - 3 - 1) * 3 + s).toNat))), some (qI (m 20 (((Lc m a i - 3 - 1) * 3 + s).toNat))), some (qI 1), some (qI (vA m a i))]) (st' := [qI (-1)]) rfl ?_
                  exact qJ.iret hκ rfl rfl (by decide) (by decide) (by
      refine ⟨?_, rfl⟩
      congr 2
      unfold cV
      rw [if_neg (by omega), if_neg (by omega), if_pos (show s = 2 ∨ m 19 (sl3 (Lc m a i - 3) s) = 2 by omega), if_pos (by omega)])
      · show qJ YX7_consonantValue κ _ (qLy u, m, y) 0 0 52 [some (qR 15), some (qI a), some (qI i), some (qI s), some (qI (((m 16 (((a * 10) + i).toNat)) - 4) + 1)), some (qI ((Lc m a i - 3 - 1) * 3 + s)), some (qI (m 19 (((Lc m a i - 3 - 1) * 3 + s).toNat))), none, none, none] []
        refine qJ.run hκ 1 (pc' := 53) (ls' := [some (qR 15), some (qI a), some (qI i), some (qI s), some (qI (((m 16 (((a * 10) + i).toNat)) - 4) + 1)), some (qI ((Lc m a i - 3 - 1) * 3 + s)), some (qI (m 19 (((Lc m a i - 3 - 1) * 3 + s).toNat))), none, none, none]) (st' := [qI s]) rfl ?_
        refine qJ.if_ne hκ (tgt := 65) rfl rfl (by omega) (fun c53 => ?_) (fun c53 => ?_)
        · show qJ YX7_consonantValue κ _ (qLy u, m, y) 0 0 65 [some (qR 15), some (qI a), some (qI i), some (qI s), some (qI (((m 16 (((a * 10) + i).toNat)) - 4) + 1)), some (qI ((Lc m a i - 3 - 1) * 3 + s)), some (qI (m 19 (((Lc m a i - 3 - 1) * 3 + s).toNat))), none, none, none] []
          refine qJ.run hκ 1 (pc' := 66) (ls' := [some (qR 15), some (qI a), some (qI i), some (qI s), some (qI (((m 16 (((a * 10) + i).toNat)) - 4) + 1)), some (qI ((Lc m a i - 3 - 1) * 3 + s)), some (qI (m 19 (((Lc m a i - 3 - 1) * 3 + s).toNat))), none, none, none]) (st' := [qI (-1)]) rfl ?_
          exact qJ.iret hκ rfl rfl (by decide) (by decide) (by
      refine ⟨?_, rfl⟩
      congr 2
      unfold cV
      rw [if_neg (by omega), if_pos (by omega), if_neg (by omega)])
        · show qJ YX7_consonantValue κ _ (qLy u, m, y) 0 0 56 [some (qR 15), some (qI a), some (qI i), some (qI s), some (qI (((m 16 (((a * 10) + i).toNat)) - 4) + 1)), some (qI ((Lc m a i - 3 - 1) * 3 + s)), some (qI (m 19 (((Lc m a i - 3 - 1) * 3 + s).toNat))), none, none, none] []
          refine qJ.run hκ 3 (pc' := 59) (ls' := [some (qR 15), some (qI a), some (qI i), some (qI s), some (qI (((m 16 (((a * 10) + i).toNat)) - 4) + 1)), some (qI ((Lc m a i - 3 - 1) * 3 + s)), some (qI (m 19 (((Lc m a i - 3 - 1) * 3 + s).toNat))), none, none, none]) (st' := [qI i, qI a, qR 15]) rfl ?_
          refine qJ.callS (As := [qR 15, qI a, qI i]) (rest := []) hκ rfl kX7_57 (c_vB u m y a i hx (by omega)) (by decide) rfl rfl (Nat.le_of_ble_eq_true rfl) (Nat.le_of_ble_eq_true rfl) (Nat.le_of_ble_eq_true rfl) (Or.inl (fun r h' e => by obtain ⟨rfl, rfl⟩ := e; rfl)) (fun r h' e => ?_)
          obtain ⟨rfl, rfl⟩ := e
          show qJ YX7_consonantValue κ _ (qLy u, m, y) 0 0 62 [some (qR 15), some (qI a), some (qI i), some (qI s), some (qI (((m 16 (((a * 10) + i).toNat)) - 4) + 1)), some (qI ((Lc m a i - 3 - 1) * 3 + s)), some (qI (m 19 (((Lc m a i - 3 - 1) * 3 + s).toNat))), none, none, none] [qI (vB m a i)]
          refine qJ.run hκ 1 (pc' := 66) (ls' := [some (qR 15), some (qI a), some (qI i), some (qI s), some (qI (((m 16 (((a * 10) + i).toNat)) - 4) + 1)), some (qI ((Lc m a i - 3 - 1) * 3 + s)), some (qI (m 19 (((Lc m a i - 3 - 1) * 3 + s).toNat))), none, none, none]) (st' := [qI (vB m a i)]) rfl ?_
          exact qJ.iret hκ rfl rfl (by decide) (by decide) (by
      refine ⟨?_, rfl⟩
      congr 2
      unfold cV
      rw [if_neg (by omega), if_pos (by omega), if_pos (by omega)])
    · show qJ YX7_consonantValue κ _ (qLy u, m, y) 0 0 45 [some (qR 15), some (qI a), some (qI i), some (qI s), some (qI (((m 16 (((a * 10) + i).toNat)) - 4) + 1)), some (qI ((Lc m a i - 3 - 1) * 3 + s)), some (qI (m 19 (((Lc m a i - 3 - 1) * 3 + s).toNat))), none, none, none] []
      refine qJ.run hκ 1 (pc' := 46) (ls' := [some (qR 15), some (qI a), some (qI i), some (qI s), some (qI (((m 16 (((a * 10) + i).toNat)) - 4) + 1)), some (qI ((Lc m a i - 3 - 1) * 3 + s)), some (qI (m 19 (((Lc m a i - 3 - 1) * 3 + s).toNat))), none, none, none]) (st' := [qI (-1)]) rfl ?_
      exact qJ.iret hκ rfl rfl (by decide) (by decide) (by
      refine ⟨?_, rfl⟩
      congr 2
      unfold cV
      rw [if_pos ⟨by omega, by omega⟩])

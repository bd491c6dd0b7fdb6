/-! printed by p63.py: a line of the class, the walk -/
theorem d_tCons (u : qU) (m y : qM) (t : Nat → Int) (L p k : Int) (ht : m 52 = t) (hl : m 49 4 = L) (hS : rdS m p k) : qCt YX5_takeConsonant 6 0 0 [qR 49] (qLy u, m, y) (fun r h => r = some (qI (tC t L p)) ∧ ∃ m' p' k', h = (qLy u, m', y) ∧ nx3 t L m p k (¬ tC t L p = -1) m' p' k') := by
  subst ht; subst hl
  refine (c_tCons u m y p k hS).weak ?_
  rintro r h ⟨e1, m', p', k', e2, e3⟩
  exact ⟨e1, m', p', k', e2, nxt_3 rfl rfl e3⟩

theorem d_tStand (u : qU) (m y : qM) (t : Nat → Int) (L p k : Int) (ht : m 52 = t) (hl : m 49 4 = L) (hS : rdS m p k) : qCt YX5_takeStand 6 0 0 [qR 49] (qLy u, m, y) (fun r h => r = some (qI (tD t L p)) ∧ ∃ m' p' k', h = (qLy u, m', y) ∧ nx3 t L m p k (¬ tD t L p = -1) m' p' k') := by
  subst ht; subst hl
  refine (c_tStand u m y p k hS).weak ?_
  rintro r h ⟨e1, m', p', k', e2, e3⟩
  exact ⟨e1, m', p', k', e2, nxt_3 rfl rfl e3⟩

theorem d_tAct (u : qU) (m y : qM) (t : Nat → Int) (L p k : Int) (ht : m 52 = t) (hl : m 49 4 = L) (hS : rdS m p k) : qCt YX5_takeAction 6 0 0 [qR 49] (qLy u, m, y) (fun r h => r = some (qI (tA t L p)) ∧ ∃ m' p' k', h = (qLy u, m', y) ∧ nx3 t L m p k (¬ tA t L p = -1) m' p' k') := by
  subst ht; subst hl
  refine (c_tAct u m y p k hS).weak ?_
  rintro r h ⟨e1, m', p', k', e2, e3⟩
  exact ⟨e1, m', p', k', e2, nxt_3 rfl rfl e3⟩

theorem d_tMark (u : qU) (m y : qM) (t : Nat → Int) (L p k c : Int) (ht : m 52 = t) (hl : m 49 4 = L) (hS : rdS m p k) (h1 : 0 ≤ c ∧ c ≤ 255) : qCt YX5_takeMark 4 0 0 [qR 49, qI c] (qLy u, m, y) (fun r h => r = none ∧ ∃ m' p' k', h = (qLy u, m', y) ∧ nx3 t L m p k (tMk c t L p) m' p' k') := by
  subst ht; subst hl
  refine (c_tMark u m y p k c hS h1).weak ?_
  rintro r h ⟨e1, m', p', k', e2, e3⟩
  exact ⟨e1, m', p', k', e2, nxt_3 rfl rfl e3⟩

theorem tC_r (t : Nat → Int) (L p : Int) : tC t L p = -1 ∨ (1 ≤ tC t L p ∧ tC t L p ≤ 6) := by
  unfold tC
  have := lcode_r (q_i2c (sB t L (tS t L p)))
  split
  · split <;> omega
  · omega
theorem tD_r (t : Nat → Int) (L p : Int) : -1 ≤ tD t L p ∧ tD t L p ≤ 2 := by
  unfold tD
  split
  · omega
  · split
    · omega
    · split <;> omega
theorem tA_r (t : Nat → Int) (L p : Int) : -1 ≤ tA t L p ∧ tA t L p ≤ 3 := by
  unfold tA
  split
  · omega
  · split
    · omega
    · split
      · omega
      · split <;> omega
abbrev lBad (a w : Int) : Prop := (a = 1 ∧ ¬ w = 1) ∨ (a = 2 ∧ w = 0)
/-- what is noted of a line -/
def m9a (m : qM) : Int := if m 49 9 = 0 ∧ 16 < m 49 0 + 1 then 3 else m 49 9
def m10a (m : qM) (s : Int) : Int := if m 49 9 = 0 ∧ 16 < m 49 0 + 1 then s else m 49 10
def lnGood (t : Nat → Int) (L : Int) (m : qM) (p : Int) (m' : qM) : Prop := rdS m' (q6 t L p) (-1) ∧ m' 49 0 = m 49 0 + 1 ∧ (m' 49 9 = (if m9a m = 0 ∧ lBad (tA t L (q3 t L p)) (tD t L (tE t L p)) then 2 else m9a m) ∧ m' 49 10 = (if m9a m = 0 ∧ lBad (tA t L (q3 t L p)) (tD t L (tE t L p)) then tS t L (q3 t L p) else m10a m (tS t L p))) ∧ ((m 50 (sl3 (tC t L p) (tD t L (tE t L p))) = -1 ∧ m' 50 = q_fu (m 50) (sl3 (tC t L p) (tD t L (tE t L p))) (tA t L (q3 t L p)) ∧ m' 51 = q_fu (m 51) (sl3 (tC t L p) (tD t L (tE t L p))) (lO t L p)) ∨ (¬ m 50 (sl3 (tC t L p) (tD t L (tE t L p))) = -1 ∧ m' 50 = m 50 ∧ m' 51 = m 51))

set_option maxRecDepth 100000 in
theorem c_note (u : qU) (m y : qM) (a b : Int) (h9 : 0 ≤ m 49 9 ∧ m 49 9 ≤ 3) : qCt YX5_noteMisuse 1 0 0 [qR 49, qI a, qI b] (qLy u, m, y) (fun r h => r = none ∧ ∃ c d, h = (qLy u, q_up (q_up m 49 9 c) 49 10 d, y) ∧ ((m 49 9 = 0 ∧ c = a ∧ d = b) ∨ (¬ m 49 9 = 0 ∧ c = m 49 9 ∧ d = m 49 10))) := by
  refine qCt.intro okX5_noteMisuse (Nat.le_of_ble_eq_true rfl) (fun κ hκ => ?_)
  show qJ YX5_noteMisuse κ _ (qLy u, m, y) 0 0 0 [some (qR 49), some (qI a), some (qI b)] []
  refine qJ.run hκ 2 (pc' := 4) (ls' := [some (qR 49), some (qI a), some (qI b)]) (st' := [qI (m 49 9)]) rfl ?_
  refine qJ.if_ne hκ (tgt := 17) rfl rfl (by omega) (fun c4 => ?_) (fun c4 => ?_)
  · show qJ YX5_noteMisuse κ _ (qLy u, m, y) 0 0 17 [some (qR 49), some (qI a), some (qI b)] []
    exact qJ.vret hκ rfl rfl (by decide) (by decide) (⟨rfl, m 49 9, m 49 10, by rw [q_up_id (m := m) (a := 49) (k := 9) rfl, q_up_id rfl], Or.inr ⟨by omega, rfl, rfl⟩⟩)
  · show qJ YX5_noteMisuse κ _ (qLy u, m, y) 0 0 7 [some (qR 49), some (qI a), some (qI b)] []
    refine qJ.run hκ 2 (pc' := 9) (ls' := [some (qR 49), some (qI a), some (qI b)]) (st' := [qI a, qR 49]) rfl ?_
    refine qJ.putI hκ rfl rfl rfl rfl (Or.inl rfl) ?_
    show qJ YX5_noteMisuse κ _ (qLy u, (q_up m 49 9 a), y) 0 0 12 [some (qR 49), some (qI a), some (qI b)] []
    refine qJ.run hκ 2 (pc' := 14) (ls' := [some (qR 49), some (qI a), some (qI b)]) (st' := [qI b, qR 49]) rfl ?_
    refine qJ.putI hκ rfl rfl rfl rfl (Or.inl rfl) ?_
    show qJ YX5_noteMisuse κ _ (qLy u, (q_up (q_up m 49 9 a) 49 10 b), y) 0 0 17 [some (qR 49), some (qI a), some (qI b)] []
    exact qJ.vret hκ rfl rfl (by decide) (by decide) (⟨rfl, a, b, rfl, Or.inl ⟨by omega, rfl, rfl⟩⟩)

set_option maxRecDepth 100000 in
theorem c_line (u : qU) (m y : qM) (t : Nat → Int) (L p : Int) (ht : m 52 = t) (hl : m 49 4 = L) (hS : rdS m p (-1)) (h9 : 0 ≤ m 49 9 ∧ m 49 9 ≤ 3) (h0 : 0 ≤ m 49 0 ∧ m 49 0 ≤ 500) (h50 : ∀ j : Nat, j < 18 → -1 ≤ m 50 j ∧ m 50 j ≤ 3) : qCt YX5_readLine 7 0 0 [qR 49] (qLy u, m, y) (fun r h => r = none ∧ ∃ m', h = (qLy u, m', y) ∧ keep (kN kRl) m' = keep (kN kRl) m ∧ ((¬ lnX t L p = -1 ∧ m' 49 8 = lnX t L p ∧ m' 49 9 = m 49 9) ∨ (lnX t L p = -1 ∧ lnGood t L m p m'))) := by
  refine qCt.intro okX5_readLine (Nat.le_of_ble_eq_true rfl) (fun κ hκ => ?_)
  have hp : 0 ≤ p ∧ p ≤ L := by have := hS.2.2.1; rw [hl] at this; exact this
  have L117 : ∀ (n : Nat) (M6 : qM) (lc : Int) (lw : Int) (la : Int) (lo : Int), (lc = tC t L p) → (lw = tD t L (tE t L p)) → (la = tA t L (q3 t L p)) → (lo = lO t L p) → (lnX t L p = -1) → (1 ≤ lc ∧ lc ≤ 6) → (0 ≤ lw ∧ lw ≤ 2) → (keep (kN kRl) M6 = keep (kN kRl) m) → (rdS M6 (q6 t L p) (-1) ∧ M6 49 0 = m 49 0 + 1 ∧ (M6 49 9 = (if m9a m = 0 ∧ lBad (tA t L (q3 t L p)) (tD t L (tE t L p)) then 2 else m9a m) ∧ M6 49 10 = (if m9a m = 0 ∧ lBad (tA t L (q3 t L p)) (tD t L (tE t L p)) then tS t L (q3 t L p) else m10a m (tS t L p)))) → (M6 50 = m 50 ∧ M6 51 = m 51) → (0) < n → qJ YX5_readLine κ (qFin (fun r h => r = none ∧ ∃ m', h = (qLy u, m', y) ∧ keep (kN kRl) m' = keep (kN kRl) m ∧ ((¬ lnX t L p = -1 ∧ m' 49 8 = lnX t L p ∧ m' 49 9 = m 49 9) ∨ (lnX t L p = -1 ∧ lnGood t L m p m'))) 0 0 κ) (qLy u, M6, y) 0 0 117 [some (qR 49), none, some (qI lc), some (qI lw), none, some (qI la), some (qI lo), none] [] := by
    intro n
    induction n with
    | zero => intro M6 lc lw la lo _ _ _ _ _ _ _ _ _ _ hz0; omega
    | succ n ih117 =>
      intro M6 lc lw la lo v117_0 v117_1 v117_2 v117_3 v117_4 v117_5 v117_6 v117_7 v117_8 v117_9 v117_m
      refine qJ.run hκ 2 (pc' := 119) (ls' := [some (qR 49), none, some (qI lc), some (qI lw), none, some (qI la), some (qI lo), none]) (st' := [qI lw, qI lc]) rfl ?_
      refine qJ.callS (As := [qI lc, qI lw]) (rest := []) hκ rfl kX5_89 (c_slot u M6 y lc lw) (by decide) rfl rfl (Nat.le_of_ble_eq_true rfl) (Nat.le_of_ble_eq_true rfl) (Nat.le_of_ble_eq_true rfl) (Or.inl (fun r h' e => by obtain ⟨rfl, rfl⟩ := e; rfl)) (fun r h' e => ?_)
      obtain ⟨rfl, rfl⟩ := e
      show qJ YX5_readLine κ _ (qLy u, M6, y) 0 0 122 [some (qR 49), none, some (qI lc), some (qI lw), none, some (qI la), some (qI lo), none] [qI ((lc - 1) * 3 + lw)]
      have sl1 : 0 ≤ (lc - 1) * 3 + lw ∧ (lc - 1) * 3 + lw < 18 := by omega
      have r50 := h50 ((lc - 1) * 3 + lw).toNat (by omega)
      rw [← v117_9.1] at r50
      refine qJ.run hκ 4 (pc' := 130) (ls' := [some (qR 49), none, some (qI lc), some (qI lw), none, some (qI la), some (qI lo), some (qI ((lc - 1) * 3 + lw))]) (st' := [qI ((lc - 1) * 3 + lw), qR 50]) rfl ?_
      refine qJ.ald hκ rfl rfl rfl (by decide) (by omega) ?_
      show qJ YX5_readLine κ _ (qLy u, M6, y) 0 0 131 [some (qR 49), none, some (qI lc), some (qI lw), none, some (qI la), some (qI lo), some (qI ((lc - 1) * 3 + lw))] [qI (M6 50 (((lc - 1) * 3 + lw).toNat))]
      refine qJ.run hκ 1 (pc' := 132) (ls' := [some (qR 49), none, some (qI lc), some (qI lw), none, some (qI la), some (qI lo), some (qI ((lc - 1) * 3 + lw))]) (st' := [qI (-1), qI (M6 50 (((lc - 1) * 3 + lw).toNat))]) rfl ?_
      refine qJ.icmp_ne hκ (tgt := 153) rfl rfl (by omega) (by omega) (fun c132 => ?_) (fun c132 => ?_)
      · show qJ YX5_readLine κ _ (qLy u, M6, y) 0 0 153 [some (qR 49), none, some (qI lc), some (qI lw), none, some (qI la), some (qI lo), some (qI ((lc - 1) * 3 + lw))] []
        exact qJ.vret hκ rfl rfl (by decide) (by decide) (by
      refine ⟨rfl, _, rfl, Eq.trans rfl v117_7, Or.inr ⟨v117_4, v117_8.1, v117_8.2.1, v117_8.2.2, ?_⟩⟩
      rw [← v117_0, ← v117_1]
      exact Or.inr ⟨by rw [← v117_9.1]; omega, v117_9.1, v117_9.2⟩)
      · show qJ YX5_readLine κ _ (qLy u, M6, y) 0 0 135 [some (qR 49), none, some (qI lc), some (qI lw), none, some (qI la), some (qI lo), some (qI ((lc - 1) * 3 + lw))] []
        refine qJ.run hκ 4 (pc' := 143) (ls' := [some (qR 49), none, some (qI lc), some (qI lw), none, some (qI la), some (qI lo), some (qI ((lc - 1) * 3 + lw))]) (st' := [qI la, qI ((lc - 1) * 3 + lw), qR 50]) rfl ?_
        refine qJ.ast hκ rfl rfl rfl (by decide) (by omega) ?_
        show qJ YX5_readLine κ _ (qLy u, (q_up M6 50 (((lc - 1) * 3 + lw).toNat) la), y) 0 0 144 [some (qR 49), none, some (qI lc), some (qI lw), none, some (qI la), some (qI lo), some (qI ((lc - 1) * 3 + lw))] []
        refine qJ.run hκ 4 (pc' := 152) (ls' := [some (qR 49), none, some (qI lc), some (qI lw), none, some (qI la), some (qI lo), some (qI ((lc - 1) * 3 + lw))]) (st' := [qI lo, qI ((lc - 1) * 3 + lw), qR 51]) rfl ?_
        refine qJ.ast hκ rfl rfl rfl (by decide) (by omega) ?_
        show qJ YX5_readLine κ _ (qLy u, (q_up (q_up M6 50 (((lc - 1) * 3 + lw).toNat) la) 51 (((lc - 1) * 3 + lw).toNat) lo), y) 0 0 153 [some (qR 49), none, some (qI lc), some (qI lw), none, some (qI la), some (qI lo), some (qI ((lc - 1) * 3 + lw))] []
        exact qJ.vret hκ rfl rfl (by decide) (by decide) (by
      refine ⟨rfl, _, rfl, Eq.trans (Eq.trans (keep_up (by rfl)) (Eq.trans (keep_up (by rfl)) rfl)) v117_7, Or.inr ⟨v117_4, v117_8.1, v117_8.2.1, v117_8.2.2, ?_⟩⟩
      rw [← v117_0, ← v117_1]
      exact Or.inl ⟨by rw [← v117_9.1]; omega, by rw [← v117_9.1, ← v117_2]; exact q_up_fu, by rw [← v117_9.2, ← v117_3]; exact q_up_fu⟩)
  show qJ YX5_readLine κ _ (qLy u, m, y) 0 0 0 [some (qR 49), none, none, none, none, none, none, none] []
  refine qJ.run hκ 4 (pc' := 6) (ls' := [some (qR 49), some (qI (m 49 6)), none, none, none, none, none, none]) (st' := [qR 49]) rfl ?_
  refine qJ.callV (As := []) (rest := []) hκ rfl kX5_71 (d_tCons u m y t L p (-1) ht hl hS) rfl rfl (by decide) rfl rfl (Nat.le_of_ble_eq_true rfl) (Nat.le_of_ble_eq_true rfl) (Nat.le_of_ble_eq_true rfl) (Or.inl (fun r h' e => by obtain ⟨rfl, m1, p1, k1, rfl, N1⟩ := e; rfl)) (fun r h' e => ?_)
  obtain ⟨rfl, m1, p1, k1, rfl, N1⟩ := e
  have Q1 := N1.1.2.1.2.1
  show qJ YX5_readLine κ _ (qLy u, m1, y) 0 0 9 [some (qR 49), some (qI (m 49 6)), none, none, none, none, none, none] [qI (tC t L p)]
  refine qJ.run hκ 2 (pc' := 11) (ls' := [some (qR 49), some (qI (m 49 6)), some (qI (tC t L p)), none, none, none, none, none]) (st' := [qR 49]) rfl ?_
  refine qJ.callV (As := []) (rest := []) hκ rfl kX5_75 (d_tStand u m1 y t L p1 k1 N1.1.2.2.1 N1.1.2.2.2 N1.1.2.1) rfl rfl (by decide) rfl rfl (Nat.le_of_ble_eq_true rfl) (Nat.le_of_ble_eq_true rfl) (Nat.le_of_ble_eq_true rfl) (Or.inl (fun r h' e => by obtain ⟨rfl, m2, p2, k2, rfl, N2⟩ := e; rfl)) (fun r h' e => ?_)
  obtain ⟨rfl, m2, p2, k2, rfl, N2⟩ := e
  have Q2 := N2.1.2.1.2.1
  have dr := tD_r t L p1
  show qJ YX5_readLine κ _ (qLy u, m2, y) 0 0 14 [some (qR 49), some (qI (m 49 6)), some (qI (tC t L p)), none, none, none, none, none] [qI (tD t L p1)]
  refine qJ.run hκ 3 (pc' := 18) (ls' := [some (qR 49), some (qI (m 49 6)), some (qI (tC t L p)), some (qI (tD t L p1)), none, none, none, none]) (st' := [qI 58, qR 49]) rfl ?_
  refine qJ.callV (As := [qI 58]) (rest := []) hκ rfl kX5_78 (d_tMark u m2 y t L p2 k2 58 N2.1.2.2.1 N2.1.2.2.2 N2.1.2.1 (by decide)) rfl rfl (by decide) rfl rfl (Nat.le_of_ble_eq_true rfl) (Nat.le_of_ble_eq_true rfl) (Nat.le_of_ble_eq_true rfl) (Or.inl (fun r h' e => by obtain ⟨rfl, m3, p3, k3, rfl, N3⟩ := e; rfl)) (fun r h' e => ?_)
  obtain ⟨rfl, m3, p3, k3, rfl, N3⟩ := e
  have Q3 := N3.1.2.1.2.1
  show qJ YX5_readLine κ _ (qLy u, m3, y) 0 0 21 [some (qR 49), some (qI (m 49 6)), some (qI (tC t L p)), some (qI (tD t L p1)), none, none, none, none] []
  refine qJ.run hκ 4 (pc' := 28) (ls' := [some (qR 49), some (qI (m 49 6)), some (qI (tC t L p)), some (qI (tD t L p1)), some (qI (m3 49 6)), none, none, none]) (st' := [qR 49]) rfl ?_
  refine qJ.callV (As := []) (rest := []) hκ rfl kX5_82 (d_tAct u m3 y t L p3 k3 N3.1.2.2.1 N3.1.2.2.2 N3.1.2.1) rfl rfl (by decide) rfl rfl (Nat.le_of_ble_eq_true rfl) (Nat.le_of_ble_eq_true rfl) (Nat.le_of_ble_eq_true rfl) (Or.inl (fun r h' e => by obtain ⟨rfl, m4, p4, k4, rfl, N4⟩ := e; rfl)) (fun r h' e => ?_)
  obtain ⟨rfl, m4, p4, k4, rfl, N4⟩ := e
  have Q4 := N4.1.2.1.2.1
  have ar := tA_r t L p3
  show qJ YX5_readLine κ _ (qLy u, m4, y) 0 0 31 [some (qR 49), some (qI (m 49 6)), some (qI (tC t L p)), some (qI (tD t L p1)), some (qI (m3 49 6)), none, none, none] [qI (tA t L p3)]
  refine qJ.run hκ 3 (pc' := 36) (ls' := [some (qR 49), some (qI (m 49 6)), some (qI (tC t L p)), some (qI (tD t L p1)), some (qI (m3 49 6)), some (qI (tA t L p3)), none, none]) (st' := [qI 3, qI (tA t L p3)]) rfl ?_
  refine qJ.icmp_ne hκ (tgt := 46) rfl rfl (by omega) (by omega) (fun c36 => ?_) (fun c36 => ?_)
  · show qJ YX5_readLine κ _ (qLy u, m4, y) 0 0 46 [some (qR 49), some (qI (m 49 6)), some (qI (tC t L p)), some (qI (tD t L p1)), some (qI (m3 49 6)), some (qI (tA t L p3)), none, none] []
    refine qJ.run hκ 4 (pc' := 52) (ls' := [some (qR 49), some (qI (m 49 6)), some (qI (tC t L p)), some (qI (tD t L p1)), some (qI (m3 49 6)), some (qI (tA t L p3)), some (qI (-1)), none]) (st' := [qI 59, qR 49]) rfl ?_
    refine qJ.callV (As := [qI 59]) (rest := []) hκ rfl kX5_78 (d_tMark u m4 y t L p4 k4 59 N4.1.2.2.1 N4.1.2.2.2 N4.1.2.1 (by decide)) rfl rfl (by decide) rfl rfl (Nat.le_of_ble_eq_true rfl) (Nat.le_of_ble_eq_true rfl) (Nat.le_of_ble_eq_true rfl) (Or.inl (fun r h' e => by obtain ⟨rfl, m5, p5, k5, rfl, N5⟩ := e; rfl)) (fun r h' e => ?_)
    obtain ⟨rfl, m5, p5, k5, rfl, N5⟩ := e
    have Q5 := N5.1.2.1.2.1
    show qJ YX5_readLine κ _ (qLy u, m5, y) 0 0 55 [some (qR 49), some (qI (m 49 6)), some (qI (tC t L p)), some (qI (tD t L p1)), some (qI (m3 49 6)), some (qI (tA t L p3)), some (qI (-1)), none] []
    refine qJ.run hκ 3 (pc' := 60) (ls' := [some (qR 49), some (qI (m 49 6)), some (qI (tC t L p)), some (qI (tD t L p1)), some (qI (m3 49 6)), some (qI (tA t L p3)), some (qI (-1)), none]) (st' := [qI (-1), qI (m5 49 8)]) rfl ?_
    refine qJ.icmp_eq hκ (tgt := 64) rfl rfl (by omega) (by omega) (fun c60 => ?_) (fun c60 => ?_)
    · show qJ YX5_readLine κ _ (qLy u, m5, y) 0 0 64 [some (qR 49), some (qI (m 49 6)), some (qI (tC t L p)), some (qI (tD t L p1)), some (qI (m3 49 6)), some (qI (tA t L p3)), some (qI (-1)), none] []
      have CH := ln_no hp N1.2 N2.2 N3.2 N4.2 N5.2 c36
      have k8 := N5.1.2.1.2.1.1
      have KP : keep (kN kRd) m5 = keep (kN kRd) m := ((((N5.1.1.trans N4.1.1).trans N3.1.1).trans N2.1.1).trans N1.1.1)
      have G : lnX t L p = -1 ∧ p5 = q6 t L p ∧ p1 = tE t L p ∧ p3 = q3 t L p ∧ ¬ tC t L p = -1 ∧ ¬ tD t L p1 = -1 ∧ ¬ tA t L p3 = -1 := by rcases CH with q | q; exact q.2; exact absurd (k8.symm.trans c60) q.1
      have e0 : m5 49 0 = m 49 0 := congrFun (congrFun KP 49) 0
      have e9 : m5 49 9 = m 49 9 := congrFun (congrFun KP 49) 9
      have e10 : m5 49 10 = m 49 10 := congrFun (congrFun KP 49) 10
      have e50 : m5 50 = m 50 := congrFun KP 50
      have e51 : m5 51 = m 51 := congrFun KP 51
      have cr := tC_r t L p
      have gp1 := G.2.2.1
      have gp3 := G.2.2.2.1
      have RD : rdS m5 (q6 t L p) (-1) := by have := N5.1.2.1; rw [G.2.1, k8.symm.trans c60] at this; exact this
      have s6 : m 49 6 = tS t L p := by have := hS.1.2.1; rw [ht, hl] at this; exact this
      have s63 : m3 49 6 = tS t L p3 := by have := N3.1.2.1.1.2.1; rw [N3.1.2.2.1, N3.1.2.2.2] at this; exact this
      refine qJ.run hκ 5 (pc' := 71) (ls' := [some (qR 49), some (qI (m 49 6)), some (qI (tC t L p)), some (qI (tD t L p1)), some (qI (m3 49 6)), some (qI (tA t L p3)), some (qI (-1)), none]) (st' := [qI ((m5 49 0) + 1), qR 49]) rfl ?_
      refine qJ.putI hκ rfl rfl rfl rfl (Or.inl rfl) ?_
      show qJ YX5_readLine κ _ (qLy u, (q_up m5 49 0 ((m5 49 0) + 1)), y) 0 0 74 [some (qR 49), some (qI (m 49 6)), some (qI (tC t L p)), some (qI (tD t L p1)), some (qI (m3 49 6)), some (qI (tA t L p3)), some (qI (-1)), none] []
      refine qJ.run hκ 3 (pc' := 80) (ls' := [some (qR 49), some (qI (m 49 6)), some (qI (tC t L p)), some (qI (tD t L p1)), some (qI (m3 49 6)), some (qI (tA t L p3)), some (qI (-1)), none]) (st' := [qI 16, qI ((m5 49 0) + 1)]) rfl ?_
      refine qJ.icmp_le hκ (tgt := 89) rfl rfl (by omega) (by omega) (fun c80 => ?_) (fun c80 => ?_)
      · show qJ YX5_readLine κ _ (qLy u, (q_up m5 49 0 ((m5 49 0) + 1)), y) 0 0 89 [some (qR 49), some (qI (m 49 6)), some (qI (tC t L p)), some (qI (tD t L p1)), some (qI (m3 49 6)), some (qI (tA t L p3)), some (qI (-1)), none] []
        refine qJ.run hκ 2 (pc' := 92) (ls' := [some (qR 49), some (qI (m 49 6)), some (qI (tC t L p)), some (qI (tD t L p1)), some (qI (m3 49 6)), some (qI (tA t L p3)), some (qI (-1)), none]) (st' := [qI 1, qI (tA t L p3)]) rfl ?_
        refine qJ.icmp_ne hκ (tgt := 100) rfl rfl (by omega) (by omega) (fun c92 => ?_) (fun c92 => ?_)
        · show qJ YX5_readLine κ _ (qLy u, (q_up m5 49 0 ((m5 49 0) + 1)), y) 0 0 100 [some (qR 49), some (qI (m 49 6)), some (qI (tC t L p)), some (qI (tD t L p1)), some (qI (m3 49 6)), some (qI (tA t L p3)), some (qI (-1)), none] []
          refine qJ.run hκ 2 (pc' := 103) (ls' := [some (qR 49), some (qI (m 49 6)), some (qI (tC t L p)), some (qI (tD t L p1)), some (qI (m3 49 6)), some (qI (tA t L p3)), some (qI (-1)), none]) (st' := [qI 2, qI (tA t L p3)]) rfl ?_
          refine qJ.icmp_ne hκ (tgt := 117) rfl rfl (by omega) (by omega) (fun c103 => ?_) (fun c103 => ?_)
          · show qJ YX5_readLine κ _ (qLy u, (q_up m5 49 0 ((m5 49 0) + 1)), y) 0 0 117 [some (qR 49), some (qI (m 49 6)), some (qI (tC t L p)), some (qI (tD t L p1)), some (qI (m3 49 6)), some (qI (tA t L p3)), some (qI (-1)), none] []
            refine qJ.dl [true, false, true, true, false, true, true, false] ?_
            show qJ YX5_readLine κ _ (qLy u, (q_up m5 49 0 ((m5 49 0) + 1)), y) 0 0 117 [some (qR 49), none, some (qI (tC t L p)), some (qI (tD t L p1)), none, some (qI (tA t L p3)), some (qI (-1)), none] []
            exact L117 1 (q_up m5 49 0 ((m5 49 0) + 1)) (tC t L p) (tD t L p1) (tA t L p3) (-1) (rfl) (by rw [gp1]) (by rw [gp3]) (Eq.symm (by unfold lO; rw [← gp3, if_neg c36])) (G.1) (by omega) (by omega) (Eq.trans (Eq.trans (keep_up (by rfl)) rfl) (keep_of kRdl KP)) (by
      have A9 : m9a m = m5 49 9 := by unfold m9a; rw [← e0, ← e9]; rw [if_neg (fun z => by omega)]
      have A10 : m10a m (tS t L p) = m5 49 10 := by unfold m10a; rw [← e0, ← e9, ← e10]; rw [if_neg (fun z => by omega)]
      have bd : ¬ lBad (tA t L p3) (tD t L p1) := fun z => by rcases z with z | z <;> omega
      rw [← gp3, ← gp1, A9, A10]
      refine ⟨RD, by show m5 49 0 + 1 = _; rw [e0], ⟨?_, ?_⟩⟩
      · show m5 49 9 = _
        rw [if_neg (fun z => bd z.2)]
      · show m5 49 10 = _
        rw [if_neg (fun z => bd z.2)]) (⟨e50, e51⟩) (by omega)
          · show qJ YX5_readLine κ _ (qLy u, (q_up m5 49 0 ((m5 49 0) + 1)), y) 0 0 106 [some (qR 49), some (qI (m 49 6)), some (qI (tC t L p)), some (qI (tD t L p1)), some (qI (m3 49 6)), some (qI (tA t L p3)), some (qI (-1)), none] []
            refine qJ.run hκ 1 (pc' := 107) (ls' := [some (qR 49), some (qI (m 49 6)), some (qI (tC t L p)), some (qI (tD t L p1)), some (qI (m3 49 6)), some (qI (tA t L p3)), some (qI (-1)), none]) (st' := [qI (tD t L p1)]) rfl ?_
            refine qJ.if_ne hκ (tgt := 117) rfl rfl (by omega) (fun c107 => ?_) (fun c107 => ?_)
            · show qJ YX5_readLine κ _ (qLy u, (q_up m5 49 0 ((m5 49 0) + 1)), y) 0 0 117 [some (qR 49), some (qI (m 49 6)), some (qI (tC t L p)), some (qI (tD t L p1)), some (qI (m3 49 6)), some (qI (tA t L p3)), some (qI (-1)), none] []
              refine qJ.dl [true, false, true, true, false, true, true, false] ?_
              show qJ YX5_readLine κ _ (qLy u, (q_up m5 49 0 ((m5 49 0) + 1)), y) 0 0 117 [some (qR 49), none, some (qI (tC t L p)), some (qI (tD t L p1)), none, some (qI (tA t L p3)), some (qI (-1)), none] []
              exact L117 1 (q_up m5 49 0 ((m5 49 0) + 1)) (tC t L p) (tD t L p1) (tA t L p3) (-1) (rfl) (by rw [gp1]) (by rw [gp3]) (Eq.symm (by unfold lO; rw [← gp3, if_neg c36])) (G.1) (by omega) (by omega) (Eq.trans (Eq.trans (keep_up (by rfl)) rfl) (keep_of kRdl KP)) (by
      have A9 : m9a m = m5 49 9 := by unfold m9a; rw [← e0, ← e9]; rw [if_neg (fun z => by omega)]
      have A10 : m10a m (tS t L p) = m5 49 10 := by unfold m10a; rw [← e0, ← e9, ← e10]; rw [if_neg (fun z => by omega)]
      have bd : ¬ lBad (tA t L p3) (tD t L p1) := fun z => by rcases z with z | z <;> omega
      rw [← gp3, ← gp1, A9, A10]
      refine ⟨RD, by show m5 49 0 + 1 = _; rw [e0], ⟨?_, ?_⟩⟩
      · show m5 49 9 = _
        rw [if_neg (fun z => bd z.2)]
      · show m5 49 10 = _
        rw [if_neg (fun z => bd z.2)]) (⟨e50, e51⟩) (by omega)
            · show qJ YX5_readLine κ _ (qLy u, (q_up m5 49 0 ((m5 49 0) + 1)), y) 0 0 110 [some (qR 49), some (qI (m 49 6)), some (qI (tC t L p)), some (qI (tD t L p1)), some (qI (m3 49 6)), some (qI (tA t L p3)), some (qI (-1)), none] []
              refine qJ.run hκ 3 (pc' := 114) (ls' := [some (qR 49), some (qI (m 49 6)), some (qI (tC t L p)), some (qI (tD t L p1)), some (qI (m3 49 6)), some (qI (tA t L p3)), some (qI (-1)), none]) (st' := [qI (m3 49 6), qI 2, qR 49]) rfl ?_
              refine qJ.callV (As := [qI 2, qI (m3 49 6)]) (rest := []) hκ rfl kX5_85 (c_note u (q_up m5 49 0 ((m5 49 0) + 1)) y 2 (m3 49 6) (show 0 ≤ m5 49 9 ∧ m5 49 9 ≤ 3 from by omega)) rfl rfl (by decide) rfl rfl (Nat.le_of_ble_eq_true rfl) (Nat.le_of_ble_eq_true rfl) (Nat.le_of_ble_eq_true rfl) (Or.inl (fun r h' e => by obtain ⟨rfl, c114_, d114_, rfl, H114⟩ := e; rfl)) (fun r h' e => ?_)
              obtain ⟨rfl, c114_, d114_, rfl, H114⟩ := e
              have G114 : (m5 49 9 = 0 ∧ c114_ = 2 ∧ d114_ = m3 49 6) ∨ (¬ m5 49 9 = 0 ∧ c114_ = m5 49 9 ∧ d114_ = m5 49 10) := H114
              show qJ YX5_readLine κ _ (qLy u, (q_up (q_up (q_up m5 49 0 ((m5 49 0) + 1)) 49 9 c114_) 49 10 d114_), y) 0 0 117 [some (qR 49), some (qI (m 49 6)), some (qI (tC t L p)), some (qI (tD t L p1)), some (qI (m3 49 6)), some (qI (tA t L p3)), some (qI (-1)), none] []
              refine qJ.dl [true, false, true, true, false, true, true, false] ?_
              show qJ YX5_readLine κ _ (qLy u, (q_up (q_up (q_up m5 49 0 ((m5 49 0) + 1)) 49 9 c114_) 49 10 d114_), y) 0 0 117 [some (qR 49), none, some (qI (tC t L p)), some (qI (tD t L p1)), none, some (qI (tA t L p3)), some (qI (-1)), none] []
              exact L117 1 (q_up (q_up (q_up m5 49 0 ((m5 49 0) + 1)) 49 9 c114_) 49 10 d114_) (tC t L p) (tD t L p1) (tA t L p3) (-1) (rfl) (by rw [gp1]) (by rw [gp3]) (Eq.symm (by unfold lO; rw [← gp3, if_neg c36])) (G.1) (by omega) (by omega) (Eq.trans (Eq.trans (keep_up (by rfl)) (Eq.trans (keep_up (by rfl)) (Eq.trans (keep_up (by rfl)) rfl))) (keep_of kRdl KP)) (by
      have A9 : m9a m = m5 49 9 := by unfold m9a; rw [← e0, ← e9]; rw [if_neg (fun z => by omega)]
      have A10 : m10a m (tS t L p) = m5 49 10 := by unfold m10a; rw [← e0, ← e9, ← e10]; rw [if_neg (fun z => by omega)]
      have bd : lBad (tA t L p3) (tD t L p1) := by show (_ ∧ _) ∨ _; omega
      rw [← gp3, ← gp1, A9, A10]
      refine ⟨RD, by show m5 49 0 + 1 = _; rw [e0], ⟨?_, ?_⟩⟩
      · show c114_ = _
        rcases G114 with q | q; (rw [if_pos ⟨q.1, bd⟩]; exact q.2.1); (rw [if_neg (fun z => q.1 z.1)]; exact q.2.1)
      · show d114_ = _
        rcases G114 with q | q; (rw [if_pos ⟨q.1, bd⟩, ← s63]; exact q.2.2); (rw [if_neg (fun z => q.1 z.1)]; exact q.2.2)) (⟨e50, e51⟩) (by omega)
        · show qJ YX5_readLine κ _ (qLy u, (q_up m5 49 0 ((m5 49 0) + 1)), y) 0 0 95 [some (qR 49), some (qI (m 49 6)), some (qI (tC t L p)), some (qI (tD t L p1)), some (qI (m3 49 6)), some (qI (tA t L p3)), some (qI (-1)), none] []
          refine qJ.run hκ 2 (pc' := 97) (ls' := [some (qR 49), some (qI (m 49 6)), some (qI (tC t L p)), some (qI (tD t L p1)), some (qI (m3 49 6)), some (qI (tA t L p3)), some (qI (-1)), none]) (st' := [qI 1, qI (tD t L p1)]) rfl ?_
          refine qJ.icmp_ne hκ (tgt := 110) rfl rfl (by omega) (by omega) (fun c97 => ?_) (fun c97 => ?_)
          · show qJ YX5_readLine κ _ (qLy u, (q_up m5 49 0 ((m5 49 0) + 1)), y) 0 0 110 [some (qR 49), some (qI (m 49 6)), some (qI (tC t L p)), some (qI (tD t L p1)), some (qI (m3 49 6)), some (qI (tA t L p3)), some (qI (-1)), none] []
            refine qJ.run hκ 3 (pc' := 114) (ls' := [some (qR 49), some (qI (m 49 6)), some (qI (tC t L p)), some (qI (tD t L p1)), some (qI (m3 49 6)), some (qI (tA t L p3)), some (qI (-1)), none]) (st' := [qI (m3 49 6), qI 2, qR 49]) rfl ?_
            refine qJ.callV (As := [qI 2, qI (m3 49 6)]) (rest := []) hκ rfl kX5_85 (c_note u (q_up m5 49 0 ((m5 49 0) + 1)) y 2 (m3 49 6) (show 0 ≤ m5 49 9 ∧ m5 49 9 ≤ 3 from by omega)) rfl rfl (by decide) rfl rfl (Nat.le_of_ble_eq_true rfl) (Nat.le_of_ble_eq_true rfl) (Nat.le_of_ble_eq_true rfl) (Or.inl (fun r h' e => by obtain ⟨rfl, c114_, d114_, rfl, H114⟩ := e; rfl)) (fun r h' e => ?_)
            obtain ⟨rfl, c114_, d114_, rfl, H114⟩ := e
            have G114 : (m5 49 9 = 0 ∧ c114_ = 2 ∧ d114_ = m3 49 6) ∨ (¬ m5 49 9 = 0 ∧ c114_ = m5 49 9 ∧ d114_ = m5 49 10) := H114
            show qJ YX5_readLine κ _ (qLy u, (q_up (q_up (q_up m5 49 0 ((m5 49 0) + 1)) 49 9 c114_) 49 10 d114_), y) 0 0 117 [some (qR 49), some (qI (m 49 6)), some (qI (tC t L p)), some (qI (tD t L p1)), some (qI (m3 49 6)), some (qI (tA t L p3)), some (qI (-1)), none] []
            refine qJ.dl [true, false, true, true, false, true, true, false] ?_
            show qJ YX5_readLine κ _ (qLy u, (q_up (q_up (q_up m5 49 0 ((m5 49 0) + 1)) 49 9 c114_) 49 10 d114_), y) 0 0 117 [some (qR 49), none, some (qI (tC t L p)), some (qI (tD t L p1)), none, some (qI (tA t L p3)), some (qI (-1)), none] []
            exact L117 1 (q_up (q_up (q_up m5 49 0 ((m5 49 0) + 1)) 49 9 c114_) 49 10 d114_) (tC t L p) (tD t L p1) (tA t L p3) (-1) (rfl) (by rw [gp1]) (by rw [gp3]) (Eq.symm (by unfold lO; rw [← gp3, if_neg c36])) (G.1) (by omega) (by omega) (Eq.trans (Eq.trans (keep_up (by rfl)) (Eq.trans (keep_up (by rfl)) (Eq.trans (keep_up (by rfl)) rfl))) (keep_of kRdl KP)) (by
      have A9 : m9a m = m5 49 9 := by unfold m9a; rw [← e0, ← e9]; rw [if_neg (fun z => by omega)]
      have A10 : m10a m (tS t L p) = m5 49 10 := by unfold m10a; rw [← e0, ← e9, ← e10]; rw [if_neg (fun z => by omega)]
      have bd : lBad (tA t L p3) (tD t L p1) := by show (_ ∧ _) ∨ _; omega
      rw [← gp3, ← gp1, A9, A10]
      refine ⟨RD, by show m5 49 0 + 1 = _; rw [e0], ⟨?_, ?_⟩⟩
      · show c114_ = _
        rcases G114 with q | q; (rw [if_pos ⟨q.1, bd⟩]; exact q.2.1); (rw [if_neg (fun z => q.1 z.1)]; exact q.2.1)
      · show d114_ = _
        rcases G114 with q | q; (rw [if_pos ⟨q.1, bd⟩, ← s63]; exact q.2.2); (rw [if_neg (fun z => q.1 z.1)]; exact q.2.2)) (⟨e50, e51⟩) (by omega)
          · show qJ YX5_readLine κ _ (qLy u, (q_up m5 49 0 ((m5 49 0) + 1)), y) 0 0 100 [some (qR 49), some (qI (m 49 6)), some (qI (tC t L p)), some (qI (tD t L p1)), some (qI (m3 49 6)), some (qI (tA t L p3)), some (qI (-1)), none] []
            refine qJ.run hκ 2 (pc' := 103) (ls' := [some (qR 49), some (qI (m 49 6)), some (qI (tC t L p)), some (qI (tD t L p1)), some (qI (m3 49 6)), some (qI (tA t L p3)), some (qI (-1)), none]) (st' := [qI 2, qI (tA t L p3)]) rfl ?_
            refine qJ.icmp_ne hκ (tgt := 117) rfl rfl (by omega) (by omega) (fun c103 => ?_) (fun c103 => ?_)
            · show qJ YX5_readLine κ _ (qLy u, (q_up m5 49 0 ((m5 49 0) + 1)), y) 0 0 117 [some (qR 49), some (qI (m 49 6)), some (qI (tC t L p)), some (qI (tD t L p1)), some (qI (m3 49 6)), some (qI (tA t L p3)), some (qI (-1)), none] []
              refine qJ.dl [true, false, true, true, false, true, true, false] ?_
              show qJ YX5_readLine κ _ (qLy u, (q_up m5 49 0 ((m5 49 0) + 1)), y) 0 0 117 [some (qR 49), none, some (qI (tC t L p)), some (qI (tD t L p1)), none, some (qI (tA t L p3)), some (qI (-1)), none] []
              exact L117 1 (q_up m5 49 0 ((m5 49 0) + 1)) (tC t L p) (tD t L p1) (tA t L p3) (-1) (rfl) (by rw [gp1]) (by rw [gp3]) (Eq.symm (by unfold lO; rw [← gp3, if_neg c36])) (G.1) (by omega) (by omega) (Eq.trans (Eq.trans (keep_up (by rfl)) rfl) (keep_of kRdl KP)) (by
      have A9 : m9a m = m5 49 9 := by unfold m9a; rw [← e0, ← e9]; rw [if_neg (fun z => by omega)]
      have A10 : m10a m (tS t L p) = m5 49 10 := by unfold m10a; rw [← e0, ← e9, ← e10]; rw [if_neg (fun z => by omega)]
      have bd : ¬ lBad (tA t L p3) (tD t L p1) := fun z => by rcases z with z | z <;> omega
      rw [← gp3, ← gp1, A9, A10]
      refine ⟨RD, by show m5 49 0 + 1 = _; rw [e0], ⟨?_, ?_⟩⟩
      · show m5 49 9 = _
        rw [if_neg (fun z => bd z.2)]
      · show m5 49 10 = _
        rw [if_neg (fun z => bd z.2)]) (⟨e50, e51⟩) (by omega)
            · show qJ YX5_readLine κ _ (qLy u, (q_up m5 49 0 ((m5 49 0) + 1)), y) 0 0 106 [some (qR 49), some (qI (m 49 6)), some (qI (tC t L p)), some (qI (tD t L p1)), some (qI (m3 49 6)), some (qI (tA t L p3)), some (qI (-1)), none] []
              refine qJ.run hκ 1 (pc' := 107) (ls' := [some (qR 49), some (qI (m 49 6)), some (qI (tC t L p)), some (qI (tD t L p1)), some (qI (m3 49 6)), some (qI (tA t L p3)), some (qI (-1)), none]) (st' := [qI (tD t L p1)]) rfl ?_
              refine qJ.if_ne hκ (tgt := 117) rfl rfl (by omega) (fun c107 => ?_) (fun c107 => ?_)
              · show qJ YX5_readLine κ _ (qLy u, (q_up m5 49 0 ((m5 49 0) + 1)), y) 0 0 117 [some (qR 49), some (qI (m 49 6)), some (qI (tC t L p)), some (qI (tD t L p1)), some (qI (m3 49 6)), some (qI (tA t L p3)), some (qI (-1)), none] []
                refine qJ.dl [true, false, true, true, false, true, true, false] ?_
                show qJ YX5_readLine κ _ (qLy u, (q_up m5 49 0 ((m5 49 0) + 1)), y) 0 0 117 [some (qR 49), none, some (qI (tC t L p)), some (qI (tD t L p1)), none, some (qI (tA t L p3)), some (qI (-1)), none] []
                exact L117 1 (q_up m5 49 0 ((m5 49 0) + 1)) (tC t L p) (tD t L p1) (tA t L p3) (-1) (rfl) (by rw [gp1]) (by rw [gp3]) (Eq.symm (by unfold lO; rw [← gp3, if_neg c36])) (G.1) (by omega) (by omega) (Eq.trans (Eq.trans (keep_up (by rfl)) rfl) (keep_of kRdl KP)) (by
      have A9 : m9a m = m5 49 9 := by unfold m9a; rw [← e0, ← e9]; rw [if_neg (fun z => by omega)]
      have A10 : m10a m (tS t L p) = m5 49 10 := by unfold m10a; rw [← e0, ← e9, ← e10]; rw [if_neg (fun z => by omega)]
      have bd : ¬ lBad (tA t L p3) (tD t L p1) := fun z => by rcases z with z | z <;> omega
      rw [← gp3, ← gp1, A9, A10]
      refine ⟨RD, by show m5 49 0 + 1 = _; rw [e0], ⟨?_, ?_⟩⟩
      · show m5 49 9 = _
        rw [if_neg (fun z => bd z.2)]
      · show m5 49 10 = _
        rw [if_neg (fun z => bd z.2)]) (⟨e50, e51⟩) (by omega)
              · show qJ YX5_readLine κ _ (qLy u, (q_up m5 49 0 ((m5 49 0) + 1)), y) 0 0 110 [some (qR 49), some (qI (m 49 6)), some (qI (tC t L p)), some (qI (tD t L p1)), some (qI (m3 49 6)), some (qI (tA t L p3)), some (qI (-1)), none] []
                refine qJ.run hκ 3 (pc' := 114) (ls' := [some (qR 49), some (qI (m 49 6)), some (qI (tC t L p)), some (qI (tD t L p1)), some (qI (m3 49 6)), some (qI (tA t L p3)), some (qI (-1)), none]) (st' := [qI (m3 49 6), qI 2, qR 49]) rfl ?_
                refine qJ.callV (As := [qI 2, qI (m3 49 6)]) (rest := []) hκ rfl kX5_85 (c_note u (q_up m5 49 0 ((m5 49 0) + 1)) y 2 (m3 49 6) (show 0 ≤ m5 49 9 ∧ m5 49 9 ≤ 3 from by omega)) rfl rfl (by decide) rfl rfl (Nat.le_of_ble_eq_true rfl) (Nat.le_of_ble_eq_true rfl) (Nat.le_of_ble_eq_true rfl) (Or.inl (fun r h' e => by obtain ⟨rfl, c114_, d114_, rfl, H114⟩ := e; rfl)) (fun r h' e => ?_)
                obtain ⟨rfl, c114_, d114_, rfl, H114⟩ := e
                have G114 : (m5 49 9 = 0 ∧ c114_ = 2 ∧ d114_ = m3 49 6) ∨ (¬ m5 49 9 = 0 ∧ c114_ = m5 49 9 ∧ d114_ = m5 49 10) := H114
                show qJ YX5_readLine κ _ (qLy u, (q_up (q_up (q_up m5 49 0 ((m5 49 0) + 1)) 49 9 c114_) 49 10 d114_), y) 0 0 117 [some (qR 49), some (qI (m 49 6)), some (qI (tC t L p)), some (qI (tD t L p1)), some (qI (m3 49 6)), some (qI (tA t L p3)), some (qI (-1)), none] []
                refine qJ.dl [true, false, true, true, false, true, true, false] ?_
                show qJ YX5_readLine κ _ (qLy u, (q_up (q_up (q_up m5 49 0 ((m5 49 0) + 1)) 49 9 c114_) 49 10 d114_), y) 0 0 117 [some (qR 49), none, some (qI (tC t L p)), some (qI (tD t L p1)), none, some (qI (tA t L p3)), some (qI (-1)), none] []
                exact L117 1 (q_up (q_up (q_up m5 49 0 ((m5 49 0) + 1)) 49 9 c114_) 49 10 d114_) (tC t L p) (tD t L p1) (tA t L p3) (-1) (rfl) (by rw [gp1]) (by rw [gp3]) (Eq.symm (by unfold lO; rw [← gp3, if_neg c36])) (G.1) (by omega) (by omega) (Eq.trans (Eq.trans (keep_up (by rfl)) (Eq.trans (keep_up (by rfl)) (Eq.trans (keep_up (by rfl)) rfl))) (keep_of kRdl KP)) (by
      have A9 : m9a m = m5 49 9 := by unfold m9a; rw [← e0, ← e9]; rw [if_neg (fun z => by omega)]
      have A10 : m10a m (tS t L p) = m5 49 10 := by unfold m10a; rw [← e0, ← e9, ← e10]; rw [if_neg (fun z => by omega)]
      have bd : lBad (tA t L p3) (tD t L p1) := by show (_ ∧ _) ∨ _; omega
      rw [← gp3, ← gp1, A9, A10]
      refine ⟨RD, by show m5 49 0 + 1 = _; rw [e0], ⟨?_, ?_⟩⟩
      · show c114_ = _
        rcases G114 with q | q; (rw [if_pos ⟨q.1, bd⟩]; exact q.2.1); (rw [if_neg (fun z => q.1 z.1)]; exact q.2.1)
      · show d114_ = _
        rcases G114 with q | q; (rw [if_pos ⟨q.1, bd⟩, ← s63]; exact q.2.2); (rw [if_neg (fun z => q.1 z.1)]; exact q.2.2)) (⟨e50, e51⟩) (by omega)
      · show qJ YX5_readLine κ _ (qLy u, (q_up m5 49 0 ((m5 49 0) + 1)), y) 0 0 83 [some (qR 49), some (qI (m 49 6)), some (qI (tC t L p)), some (qI (tD t L p1)), some (qI (m3 49 6)), some (qI (tA t L p3)), some (qI (-1)), none] []
        refine qJ.run hκ 3 (pc' := 86) (ls' := [some (qR 49), some (qI (m 49 6)), some (qI (tC t L p)), some (qI (tD t L p1)), some (qI (m3 49 6)), some (qI (tA t L p3)), some (qI (-1)), none]) (st' := [qI (m 49 6), qI 3, qR 49]) rfl ?_
        refine qJ.callV (As := [qI 3, qI (m 49 6)]) (rest := []) hκ rfl kX5_85 (c_note u (q_up m5 49 0 ((m5 49 0) + 1)) y 3 (m 49 6) (show 0 ≤ m5 49 9 ∧ m5 49 9 ≤ 3 from by omega)) rfl rfl (by decide) rfl rfl (Nat.le_of_ble_eq_true rfl) (Nat.le_of_ble_eq_true rfl) (Nat.le_of_ble_eq_true rfl) (Or.inl (fun r h' e => by obtain ⟨rfl, c86_, d86_, rfl, H86⟩ := e; rfl)) (fun r h' e => ?_)
        obtain ⟨rfl, c86_, d86_, rfl, H86⟩ := e
        have G86 : (m5 49 9 = 0 ∧ c86_ = 3 ∧ d86_ = m 49 6) ∨ (¬ m5 49 9 = 0 ∧ c86_ = m5 49 9 ∧ d86_ = m5 49 10) := H86
        show qJ YX5_readLine κ _ (qLy u, (q_up (q_up (q_up m5 49 0 ((m5 49 0) + 1)) 49 9 c86_) 49 10 d86_), y) 0 0 89 [some (qR 49), some (qI (m 49 6)), some (qI (tC t L p)), some (qI (tD t L p1)), some (qI (m3 49 6)), some (qI (tA t L p3)), some (qI (-1)), none] []
        refine qJ.run hκ 2 (pc' := 92) (ls' := [some (qR 49), some (qI (m 49 6)), some (qI (tC t L p)), some (qI (tD t L p1)), some (qI (m3 49 6)), some (qI (tA t L p3)), some (qI (-1)), none]) (st' := [qI 1, qI (tA t L p3)]) rfl ?_
        refine qJ.icmp_ne hκ (tgt := 100) rfl rfl (by omega) (by omega) (fun c92 => ?_) (fun c92 => ?_)
        · show qJ YX5_readLine κ _ (qLy u, (q_up (q_up (q_up m5 49 0 ((m5 49 0) + 1)) 49 9 c86_) 49 10 d86_), y) 0 0 100 [some (qR 49), some (qI (m 49 6)), some (qI (tC t L p)), some (qI (tD t L p1)), some (qI (m3 49 6)), some (qI (tA t L p3)), some (qI (-1)), none] []
          refine qJ.run hκ 2 (pc' := 103) (ls' := [some (qR 49), some (qI (m 49 6)), some (qI (tC t L p)), some (qI (tD t L p1)), some (qI (m3 49 6)), some (qI (tA t L p3)), some (qI (-1)), none]) (st' := [qI 2, qI (tA t L p3)]) rfl ?_
          refine qJ.icmp_ne hκ (tgt := 117) rfl rfl (by omega) (by omega) (fun c103 => ?_) (fun c103 => ?_)
          · show qJ YX5_readLine κ _ (qLy u, (q_up (q_up (q_up m5 49 0 ((m5 49 0) + 1)) 49 9 c86_) 49 10 d86_), y) 0 0 117 [some (qR 49), some (qI (m 49 6)), some (qI (tC t L p)), some (qI (tD t L p1)), some (qI (m3 49 6)), some (qI (tA t L p3)), some (qI (-1)), none] []
            refine qJ.dl [true, false, true, true, false, true, true, false] ?_
            show qJ YX5_readLine κ _ (qLy u, (q_up (q_up (q_up m5 49 0 ((m5 49 0) + 1)) 49 9 c86_) 49 10 d86_), y) 0 0 117 [some (qR 49), none, some (qI (tC t L p)), some (qI (tD t L p1)), none, some (qI (tA t L p3)), some (qI (-1)), none] []
            exact L117 1 (q_up (q_up (q_up m5 49 0 ((m5 49 0) + 1)) 49 9 c86_) 49 10 d86_) (tC t L p) (tD t L p1) (tA t L p3) (-1) (rfl) (by rw [gp1]) (by rw [gp3]) (Eq.symm (by unfold lO; rw [← gp3, if_neg c36])) (G.1) (by omega) (by omega) (Eq.trans (Eq.trans (keep_up (by rfl)) (Eq.trans (keep_up (by rfl)) (Eq.trans (keep_up (by rfl)) rfl))) (keep_of kRdl KP)) (by
      have A9 : m9a m = c86_ := by unfold m9a; rw [← e0, ← e9]; rcases G86 with q | q; (rw [if_pos ⟨q.1, by omega⟩]; exact q.2.1.symm); (rw [if_neg (fun z => q.1 z.1)]; exact q.2.1.symm)
      have A10 : m10a m (tS t L p) = d86_ := by unfold m10a; rw [← e0, ← e9, ← e10]; rcases G86 with q | q; (rw [if_pos ⟨q.1, by omega⟩, ← s6]; exact q.2.2.symm); (rw [if_neg (fun z => q.1 z.1)]; exact q.2.2.symm)
      have bd : ¬ lBad (tA t L p3) (tD t L p1) := fun z => by rcases z with z | z <;> omega
      rw [← gp3, ← gp1, A9, A10]
      refine ⟨RD, by show m5 49 0 + 1 = _; rw [e0], ⟨?_, ?_⟩⟩
      · show c86_ = _
        rw [if_neg (fun z => bd z.2)]
      · show d86_ = _
        rw [if_neg (fun z => bd z.2)]) (⟨e50, e51⟩) (by omega)
          · show qJ YX5_readLine κ _ (qLy u, (q_up (q_up (q_up m5 49 0 ((m5 49 0) + 1)) 49 9 c86_) 49 10 d86_), y) 0 0 106 [some (qR 49), some (qI (m 49 6)), some (qI (tC t L p)), some (qI (tD t L p1)), some (qI (m3 49 6)), some (qI (tA t L p3)), some (qI (-1)), none] []
            refine qJ.run hκ 1 (pc' := 107) (ls' := [some (qR 49), some (qI (m 49 6)), some (qI (tC t L p)), some (qI (tD t L p1)), some (qI (m3 49 6)), some (qI (tA t L p3)), some (qI (-1)), none]) (st' := [qI (tD t L p1)]) rfl ?_
            refine qJ.if_ne hκ (tgt := 117) rfl rfl (by omega) (fun c107 => ?_) (fun c107 => ?_)
            · show qJ YX5_readLine κ _ (qLy u, (q_up (q_up (q_up m5 49 0 ((m5 49 0) + 1)) 49 9 c86_) 49 10 d86_), y) 0 0 117 [some (qR 49), some (qI (m 49 6)), some (qI (tC t L p)), some (qI (tD t L p1)), some (qI (m3 49 6)), some (qI (tA t L p3)), some (qI (-1)), none] []
              refine qJ.dl [true, false, true, true, false, true, true, false] ?_
              show qJ YX5_readLine κ _ (qLy u, (q_up (q_up (q_up m5 49 0 ((m5 49 0) + 1)) 49 9 c86_) 49 10 d86_), y) 0 0 117 [some (qR 49), none, some (qI (tC t L p)), some (qI (tD t L p1)), none, some (qI (tA t L p3)), some (qI (-1)), none] []
              exact L117 1 (q_up (q_up (q_up m5 49 0 ((m5 49 0) + 1)) 49 9 c86_) 49 10 d86_) (tC t L p) (tD t L p1) (tA t L p3) (-1) (rfl) (by rw [gp1]) (by rw [gp3]) (Eq.symm (by unfold lO; rw [← gp3, if_neg c36])) (G.1) (by omega) (by omega) (Eq.trans (Eq.trans (keep_up (by rfl)) (Eq.trans (keep_up (by rfl)) (Eq.trans (keep_up (by rfl)) rfl))) (keep_of kRdl KP)) (by
      have A9 : m9a m = c86_ := by unfold m9a; rw [← e0, ← e9]; rcases G86 with q | q; (rw [if_pos ⟨q.1, by omega⟩]; exact q.2.1.symm); (rw [if_neg (fun z => q.1 z.1)]; exact q.2.1.symm)
      have A10 : m10a m (tS t L p) = d86_ := by unfold m10a; rw [← e0, ← e9, ← e10]; rcases G86 with q | q; (rw [if_pos ⟨q.1, by omega⟩, ← s6]; exact q.2.2.symm); (rw [if_neg (fun z => q.1 z.1)]; exact q.2.2.symm)
      have bd : ¬ lBad (tA t L p3) (tD t L p1) := fun z => by rcases z with z | z <;> omega
      rw [← gp3, ← gp1, A9, A10]
      refine ⟨RD, by show m5 49 0 + 1 = _; rw [e0], ⟨?_, ?_⟩⟩
      · show c86_ = _
        rw [if_neg (fun z => bd z.2)]
      · show d86_ = _
        rw [if_neg (fun z => bd z.2)]) (⟨e50, e51⟩) (by omega)
            · show qJ YX5_readLine κ _ (qLy u, (q_up (q_up (q_up m5 49 0 ((m5 49 0) + 1)) 49 9 c86_) 49 10 d86_), y) 0 0 110 [some (qR 49), some (qI (m 49 6)), some (qI (tC t L p)), some (qI (tD t L p1)), some (qI (m3 49 6)), some (qI (tA t L p3)), some (qI (-1)), none] []
              refine qJ.run hκ 3 (pc' := 114) (ls' := [some (qR 49), some (qI (m 49 6)), some (qI (tC t L p)), some (qI (tD t L p1)), some (qI (m3 49 6)), some (qI (tA t L p3)), some (qI (-1)), none]) (st' := [qI (m3 49 6), qI 2, qR 49]) rfl ?_
              refine qJ.callV (As := [qI 2, qI (m3 49 6)]) (rest := []) hκ rfl kX5_85 (c_note u (q_up (q_up (q_up m5 49 0 ((m5 49 0) + 1)) 49 9 c86_) 49 10 d86_) y 2 (m3 49 6) (show 0 ≤ c86_ ∧ c86_ ≤ 3 from by omega)) rfl rfl (by decide) rfl rfl (Nat.le_of_ble_eq_true rfl) (Nat.le_of_ble_eq_true rfl) (Nat.le_of_ble_eq_true rfl) (Or.inl (fun r h' e => by obtain ⟨rfl, c114_, d114_, rfl, H114⟩ := e; rfl)) (fun r h' e => ?_)
              obtain ⟨rfl, c114_, d114_, rfl, H114⟩ := e
              have G114 : (c86_ = 0 ∧ c114_ = 2 ∧ d114_ = m3 49 6) ∨ (¬ c86_ = 0 ∧ c114_ = c86_ ∧ d114_ = d86_) := H114
              show qJ YX5_readLine κ _ (qLy u, (q_up (q_up (q_up (q_up (q_up m5 49 0 ((m5 49 0) + 1)) 49 9 c86_) 49 10 d86_) 49 9 c114_) 49 10 d114_), y) 0 0 117 [some (qR 49), some (qI (m 49 6)), some (qI (tC t L p)), some (qI (tD t L p1)), some (qI (m3 49 6)), some (qI (tA t L p3)), some (qI (-1)), none] []
              refine qJ.dl [true, false, true, true, false, true, true, false] ?_
              show qJ YX5_readLine κ _ (qLy u, (q_up (q_up (q_up (q_up (q_up m5 49 0 ((m5 49 0) + 1)) 49 9 c86_) 49 10 d86_) 49 9 c114_) 49 10 d114_), y) 0 0 117 [some (qR 49), none, some (qI (tC t L p)), some (qI (tD t L p1)), none, some (qI (tA t L p3)), some (qI (-1)), none] []
              exact L117 1 (q_up (q_up (q_up (q_up (q_up m5 49 0 ((m5 49 0) + 1)) 49 9 c86_) 49 10 d86_) 49 9 c114_) 49 10 d114_) (tC t L p) (tD t L p1) (tA t L p3) (-1) (rfl) (by rw [gp1]) (by rw [gp3]) (Eq.symm (by unfold lO; rw [← gp3, if_neg c36])) (G.1) (by omega) (by omega) (Eq.trans (Eq.trans (keep_up (by rfl)) (Eq.trans (keep_up (by rfl)) (Eq.trans (keep_up (by rfl)) (Eq.trans (keep_up (by rfl)) (Eq.trans (keep_up (by rfl)) rfl))))) (keep_of kRdl KP)) (by
      have A9 : m9a m = c86_ := by unfold m9a; rw [← e0, ← e9]; rcases G86 with q | q; (rw [if_pos ⟨q.1, by omega⟩]; exact q.2.1.symm); (rw [if_neg (fun z => q.1 z.1)]; exact q.2.1.symm)
      have A10 : m10a m (tS t L p) = d86_ := by unfold m10a; rw [← e0, ← e9, ← e10]; rcases G86 with q | q; (rw [if_pos ⟨q.1, by omega⟩, ← s6]; exact q.2.2.symm); (rw [if_neg (fun z => q.1 z.1)]; exact q.2.2.symm)
      have bd : lBad (tA t L p3) (tD t L p1) := by show (_ ∧ _) ∨ _; omega
      rw [← gp3, ← gp1, A9, A10]
      refine ⟨RD, by show m5 49 0 + 1 = _; rw [e0], ⟨?_, ?_⟩⟩
      · show c114_ = _
        rcases G114 with q | q; (rw [if_pos ⟨q.1, bd⟩]; exact q.2.1); (rw [if_neg (fun z => q.1 z.1)]; exact q.2.1)
      · show d114_ = _
        rcases G114 with q | q; (rw [if_pos ⟨q.1, bd⟩, ← s63]; exact q.2.2); (rw [if_neg (fun z => q.1 z.1)]; exact q.2.2)) (⟨e50, e51⟩) (by omega)
        · show qJ YX5_readLine κ _ (qLy u, (q_up (q_up (q_up m5 49 0 ((m5 49 0) + 1)) 49 9 c86_) 49 10 d86_), y) 0 0 95 [some (qR 49), some (qI (m 49 6)), some (qI (tC t L p)), some (qI (tD t L p1)), some (qI (m3 49 6)), some (qI (tA t L p3)), some (qI (-1)), none] []
          refine qJ.run hκ 2 (pc' := 97) (ls' := [some (qR 49), some (qI (m 49 6)), some (qI (tC t L p)), some (qI (tD t L p1)), some (qI (m3 49 6)), some (qI (tA t L p3)), some (qI (-1)), none]) (st' := [qI 1, qI (tD t L p1)]) rfl ?_
          refine qJ.icmp_ne hκ (tgt := 110) rfl rfl (by omega) (by omega) (fun c97 => ?_) (fun c97 => ?_)
          · show qJ YX5_readLine κ _ (qLy u, (q_up (q_up (q_up m5 49 0 ((m5 49 0) + 1)) 49 9 c86_) 49 10 d86_), y) 0 0 110 [some (qR 49), some (qI (m 49 6)), some (qI (tC t L p)), some (qI (tD t L p1)), some (qI (m3 49 6)), some (qI (tA t L p3)), some (qI (-1)), none] []
            refine qJ.run hκ 3 (pc' := 114) (ls' := [some (qR 49), some (qI (m 49 6)), some (qI (tC t L p)), some (qI (tD t L p1)), some (qI (m3 49 6)), some (qI (tA t L p3)), some (qI (-1)), none]) (st' := [qI (m3 49 6), qI 2, qR 49]) rfl ?_
            refine qJ.callV (As := [qI 2, qI (m3 49 6)]) (rest := []) hκ rfl kX5_85 (c_note u (q_up (q_up (q_up m5 49 0 ((m5 49 0) + 1)) 49 9 c86_) 49 10 d86_) y 2 (m3 49 6) (show 0 ≤ c86_ ∧ c86_ ≤ 3 from by omega)) rfl rfl (by decide) rfl rfl (Nat.le_of_ble_eq_true rfl) (Nat.le_of_ble_eq_true rfl) (Nat.le_of_ble_eq_true rfl) (Or.inl (fun r h' e => by obtain ⟨rfl, c114_, d114_, rfl, H114⟩ := e; rfl)) (fun r h' e => ?_)
            obtain ⟨rfl, c114_, d114_, rfl, H114⟩ := e
            have G114 : (c86_ = 0 ∧ c114_ = 2 ∧ d114_ = m3 49 6) ∨ (¬ c86_ = 0 ∧ c114_ = c86_ ∧ d114_ = d86_) := H114
            show qJ YX5_readLine κ _ (qLy u, (q_up (q_up (q_up (q_up (q_up m5 49 0 ((m5 49 0) + 1)) 49 9 c86_) 49 10 d86_) 49 9 c114_) 49 10 d114_), y) 0 0 117 [some (qR 49), some (qI (m 49 6)), some (qI (tC t L p)), some (qI (tD t L p1)), some (qI (m3 49 6)), some (qI (tA t L p3)), some (qI (-1)), none] []
            refine qJ.dl [true, false, true, true, false, true, true, false] ?_
            show qJ YX5_readLine κ _ (qLy u, (q_up (q_up (q_up (q_up (q_up m5 49 0 ((m5 49 0) + 1)) 49 9 c86_) 49 10 d86_) 49 9 c114_) 49 10 d114_), y) 0 0 117 [some (qR 49), none, some (qI (tC t L p)), some (qI (tD t L p1)), none, some (qI (tA t L p3)), some (qI (-1)), none] []
            exact L117 1 (q_up (q_up (q_up (q_up (q_up m5 49 0 ((m5 49 0) + 1)) 49 9 c86_) 49 10 d86_) 49 9 c114_) 49 10 d114_) (tC t L p) (tD t L p1) (tA t L p3) (-1) (rfl) (by rw [gp1]) (by rw [gp3]) (Eq.symm (by unfold lO; rw [← gp3, if_neg c36])) (G.1) (by omega) (by omega) (Eq.trans (Eq.trans (keep_up (by rfl)) (Eq.trans (keep_up (by rfl)) (Eq.trans (keep_up (by rfl)) (Eq.trans (keep_up (by rfl)) (Eq.trans (keep_up (by rfl)) rfl))))) (keep_of kRdl KP)) (by
      have A9 : m9a m = c86_ := by unfold m9a; rw [← e0, ← e9]; rcases G86 with q | q; (rw [if_pos ⟨q.1, by omega⟩]; exact q.2.1.symm); (rw [if_neg (fun z => q.1 z.1)]; exact q.2.1.symm)
      have A10 : m10a m (tS t L p) = d86_ := by unfold m10a; rw [← e0, ← e9, ← e10]; rcases G86 with q | q; (rw [if_pos ⟨q.1, by omega⟩, ← s6]; exact q.2.2.symm); (rw [if_neg (fun z => q.1 z.1)]; exact q.2.2.symm)
      have bd : lBad (tA t L p3) (tD t L p1) := by show (_ ∧ _) ∨ _; omega
      rw [← gp3, ← gp1, A9, A10]
      refine ⟨RD, by show m5 49 0 + 1 = _; rw [e0], ⟨?_, ?_⟩⟩
      · show c114_ = _
        rcases G114 with q | q; (rw [if_pos ⟨q.1, bd⟩]; exact q.2.1); (rw [if_neg (fun z => q.1 z.1)]; exact q.2.1)
      · show d114_ = _
        rcases G114 with q | q; (rw [if_pos ⟨q.1, bd⟩, ← s63]; exact q.2.2); (rw [if_neg (fun z => q.1 z.1)]; exact q.2.2)) (⟨e50, e51⟩) (by omega)
          · show qJ YX5_readLine κ _ (qLy u, (q_up (q_up (q_up m5 49 0 ((m5 49 0) + 1)) 49 9 c86_) 49 10 d86_), y) 0 0 100 [some (qR 49), some (qI (m 49 6)), some (qI (tC t L p)), some (qI (tD t L p1)), some (qI (m3 49 6)), some (qI (tA t L p3)), some (qI (-1)), none] []
            refine qJ.run hκ 2 (pc' := 103) (ls' := [some (qR 49), some (qI (m 49 6)), some (qI (tC t L p)), some (qI (tD t L p1)), some (qI (m3 49 6)), some (qI (tA t L p3)), some (qI (-1)), none]) (st' := [qI 2, qI (tA t L p3)]) rfl ?_
            refine qJ.icmp_ne hκ (tgt := 117) rfl rfl (by omega) (by omega) (fun c103 => ?_) (fun c103 => ?_)
            · show qJ YX5_readLine κ _ (qLy u, (q_up (q_up (q_up m5 49 0 ((m5 49 0) + 1)) 49 9 c86_) 49 10 d86_), y) 0 0 117 [some (qR 49), some (qI (m 49 6)), some (qI (tC t L p)), some (qI (tD t L p1)), some (qI (m3 49 6)), some (qI (tA t L p3)), some (qI (-1)), none] []
              refine qJ.dl [true, false, true, true, false, true, true, false] ?_
              show qJ YX5_readLine κ _ (qLy u, (q_up (q_up (q_up m5 49 0 ((m5 49 0) + 1)) 49 9 c86_) 49 10 d86_), y) 0 0 117 [some (qR 49), none, some (qI (tC t L p)), some (qI (tD t L p1)), none, some (qI (tA t L p3)), some (qI (-1)), none] []
              exact L117 1 (q_up (q_up (q_up m5 49 0 ((m5 49 0) + 1)) 49 9 c86_) 49 10 d86_) (tC t L p) (tD t L p1) (tA t L p3) (-1) (rfl) (by rw [gp1]) (by rw [gp3]) (Eq.symm (by unfold lO; rw [← gp3, if_neg c36])) (G.1) (by omega) (by omega) (Eq.trans (Eq.trans (keep_up (by rfl)) (Eq.trans (keep_up (by rfl)) (Eq.trans (keep_up (by rfl)) rfl))) (keep_of kRdl KP)) (by
      have A9 : m9a m = c86_ := by unfold m9a; rw [← e0, ← e9]; rcases G86 with q | q; (rw [if_pos ⟨q.1, by omega⟩]; exact q.2.1.symm); (rw [if_neg (fun z => q.1 z.1)]; exact q.2.1.symm)
      have A10 : m10a m (tS t L p) = d86_ := by unfold m10a; rw [← e0, ← e9, ← e10]; rcases G86 with q | q; (rw [if_pos ⟨q.1, by omega⟩, ← s6]; exact q.2.2.symm); (rw [if_neg (fun z => q.1 z.1)]; exact q.2.2.symm)
      have bd : ¬ lBad (tA t L p3) (tD t L p1) := fun z => by rcases z with z | z <;> omega
      rw [← gp3, ← gp1, A9, A10]
      refine ⟨RD, by show m5 49 0 + 1 = _; rw [e0], ⟨?_, ?_⟩⟩
      · show c86_ = _
        rw [if_neg (fun z => bd z.2)]
      · show d86_ = _
        rw [if_neg (fun z => bd z.2)]) (⟨e50, e51⟩) (by omega)
            · show qJ YX5_readLine κ _ (qLy u, (q_up (q_up (q_up m5 49 0 ((m5 49 0) + 1)) 49 9 c86_) 49 10 d86_), y) 0 0 106 [some (qR 49), some (qI (m 49 6)), some (qI (tC t L p)), some (qI (tD t L p1)), some (qI (m3 49 6)), some (qI (tA t L p3)), some (qI (-1)), none] []
              refine qJ.run hκ 1 (pc' := 107) (ls' := [some (qR 49), some (qI (m 49 6)), some (qI (tC t L p)), some (qI (tD t L p1)), some (qI (m3 49 6)), some (qI (tA t L p3)), some (qI (-1)), none]) (st' := [qI (tD t L p1)]) rfl ?_
              refine qJ.if_ne hκ (tgt := 117) rfl rfl (by omega) (fun c107 => ?_) (fun c107 => ?_)
              · show qJ YX5_readLine κ _ (qLy u, (q_up (q_up (q_up m5 49 0 ((m5 49 0) + 1)) 49 9 c86_) 49 10 d86_), y) 0 0 117 [some (qR 49), some (qI (m 49 6)), some (qI (tC t L p)), some (qI (tD t L p1)), some (qI (m3 49 6)), some (qI (tA t L p3)), some (qI (-1)), none] []
                refine qJ.dl [true, false, true, true, false, true, true, false] ?_
                show qJ YX5_readLine κ _ (qLy u, (q_up (q_up (q_up m5 49 0 ((m5 49 0) + 1)) 49 9 c86_) 49 10 d86_), y) 0 0 117 [some (qR 49), none, some (qI (tC t L p)), some (qI (tD t L p1)), none, some (qI (tA t L p3)), some (qI (-1)), none] []
                exact L117 1 (q_up (q_up (q_up m5 49 0 ((m5 49 0) + 1)) 49 9 c86_) 49 10 d86_) (tC t L p) (tD t L p1) (tA t L p3) (-1) (rfl) (by rw [gp1]) (by rw [gp3]) (Eq.symm (by unfold lO; rw [← gp3, if_neg c36])) (G.1) (by omega) (by omega) (Eq.trans (Eq.trans (keep_up (by rfl)) (Eq.trans (keep_up (by rfl)) (Eq.trans (keep_up (by rfl)) rfl))) (keep_of kRdl KP)) (by
      have A9 : m9a m = c86_ := by unfold m9a; rw [← e0, ← e9]; rcases G86 with q | q; (rw [if_pos ⟨q.1, by omega⟩]; exact q.2.1.symm); (rw [if_neg (fun z => q.1 z.1)]; exact q.2.1.symm)
      have A10 : m10a m (tS t L p) = d86_ := by unfold m10a; rw [← e0, ← e9, ← e10]; rcases G86 with q | q; (rw [if_pos ⟨q.1, by omega⟩, ← s6]; exact q.2.2.symm); (rw [if_neg (fun z => q.1 z.1)]; exact q.2.2.symm)
      have bd : ¬ lBad (tA t L p3) (tD t L p1) := fun z => by rcases z with z | z <;> omega
      rw [← gp3, ← gp1, A9, A10]
      refine ⟨RD, by show m5 49 0 + 1 = _; rw [e0], ⟨?_, ?_⟩⟩
      · show c86_ = _
        rw [if_neg (fun z => bd z.2)]
      · show d86_ = _
        rw [if_neg (fun z => bd z.2)]) (⟨e50, e51⟩) (by omega)
              · show qJ YX5_readLine κ _ (qLy u, (q_up (q_up (q_up m5 49 0 ((m5 49 0) + 1)) 49 9 c86_) 49 10 d86_), y) 0 0 110 [some (qR 49), some (qI (m 49 6)), some (qI (tC t L p)), some (qI (tD t L p1)), some (qI (m3 49 6)), some (qI (tA t L p3)), some (qI (-1)), none] []
                refine qJ.run hκ 3 (pc' := 114) (ls' := [some (qR 49), some (qI (m 49 6)), some (qI (tC t L p)), some (qI (tD t L p1)), some (qI (m3 49 6)), some (qI (tA t L p3)), some (qI (-1)), none]) (st' := [qI (m3 49 6), qI 2, qR 49]) rfl ?_
                refine qJ.callV (As := [qI 2, qI (m3 49 6)]) (rest := []) hκ rfl kX5_85 (c_note u (q_up (q_up (q_up m5 49 0 ((m5 49 0) + 1)) 49 9 c86_) 49 10 d86_) y 2 (m3 49 6) (show 0 ≤ c86_ ∧ c86_ ≤ 3 from by omega)) rfl rfl (by decide) rfl rfl (Nat.le_of_ble_eq_true rfl) (Nat.le_of_ble_eq_true rfl) (Nat.le_of_ble_eq_true rfl) (Or.inl (fun r h' e => by obtain ⟨rfl, c114_, d114_, rfl, H114⟩ := e; rfl)) (fun r h' e => ?_)
                obtain ⟨rfl, c114_, d114_, rfl, H114⟩ := e
                have G114 : (c86_ = 0 ∧ c114_ = 2 ∧ d114_ = m3 49 6) ∨ (¬ c86_ = 0 ∧ c114_ = c86_ ∧ d114_ = d86_) := H114
                show qJ YX5_readLine κ _ (qLy u, (q_up (q_up (q_up (q_up (q_up m5 49 0 ((m5 49 0) + 1)) 49 9 c86_) 49 10 d86_) 49 9 c114_) 49 10 d114_), y) 0 0 117 [some (qR 49), some (qI (m 49 6)), some (qI (tC t L p)), some (qI (tD t L p1)), some (qI (m3 49 6)), some (qI (tA t L p3)), some (qI (-1)), none] []
                refine qJ.dl [true, false, true, true, false, true, true, false] ?_
                show qJ YX5_readLine κ _ (qLy u, (q_up (q_up (q_up (q_up (q_up m5 49 0 ((m5 49 0) + 1)) 49 9 c86_) 49 10 d86_) 49 9 c114_) 49 10 d114_), y) 0 0 117 [some (qR 49), none, some (qI (tC t L p)), some (qI (tD t L p1)), none, some (qI (tA t L p3)), some (qI (-1)), none] []
                exact L117 1 (q_up (q_up (q_up (q_up (q_up m5 49 0 ((m5 49 0) + 1)) 49 9 c86_) 49 10 d86_) 49 9 c114_) 49 10 d114_) (tC t L p) (tD t L p1) (tA t L p3) (-1) (rfl) (by rw [gp1]) (by rw [gp3]) (Eq.symm (by unfold lO; rw [← gp3, if_neg c36])) (G.1) (by omega) (by omega) (Eq.trans (Eq.trans (keep_up (by rfl)) (Eq.trans (keep_up (by rfl)) (Eq.trans (keep_up (by rfl)) (Eq.trans (keep_up (by rfl)) (Eq.trans (keep_up (by rfl)) rfl))))) (keep_of kRdl KP)) (by
      have A9 : m9a m = c86_ := by unfold m9a; rw [← e0, ← e9]; rcases G86 with q | q; (rw [if_pos ⟨q.1, by omega⟩]; exact q.2.1.symm); (rw [if_neg (fun z => q.1 z.1)]; exact q.2.1.symm)
      have A10 : m10a m (tS t L p) = d86_ := by unfold m10a; rw [← e0, ← e9, ← e10]; rcases G86 with q | q; (rw [if_pos ⟨q.1, by omega⟩, ← s6]; exact q.2.2.symm); (rw [if_neg (fun z => q.1 z.1)]; exact q.2.2.symm)
      have bd : lBad (tA t L p3) (tD t L p1) := by show (_ ∧ _) ∨ _; omega
      rw [← gp3, ← gp1, A9, A10]
      refine ⟨RD, by show m5 49 0 + 1 = _; rw [e0], ⟨?_, ?_⟩⟩
      · show c114_ = _
        rcases G114 with q | q; (rw [if_pos ⟨q.1, bd⟩]; exact q.2.1); (rw [if_neg (fun z => q.1 z.1)]; exact q.2.1)
      · show d114_ = _
        rcases G114 with q | q; (rw [if_pos ⟨q.1, bd⟩, ← s63]; exact q.2.2); (rw [if_neg (fun z => q.1 z.1)]; exact q.2.2)) (⟨e50, e51⟩) (by omega)
    · show qJ YX5_readLine κ _ (qLy u, m5, y) 0 0 63 [some (qR 49), some (qI (m 49 6)), some (qI (tC t L p)), some (qI (tD t L p1)), some (qI (m3 49 6)), some (qI (tA t L p3)), some (qI (-1)), none] []
      have CH := ln_no hp N1.2 N2.2 N3.2 N4.2 N5.2 c36
      have k8 := N5.1.2.1.2.1.1
      have KP : keep (kN kRd) m5 = keep (kN kRd) m := ((((N5.1.1.trans N4.1.1).trans N3.1.1).trans N2.1.1).trans N1.1.1)
      exact qJ.vret hκ rfl rfl (by decide) (by decide) (⟨rfl, _, rfl, keep_of kRdl KP, Or.inl (by rcases CH with q | q; exact absurd (k8.trans q.1) c60; exact ⟨by rw [← q.2]; exact q.1, k8.trans q.2, congrFun (congrFun KP 49) 9⟩)⟩)
  · show qJ YX5_readLine κ _ (qLy u, m4, y) 0 0 39 [some (qR 49), some (qI (m 49 6)), some (qI (tC t L p)), some (qI (tD t L p1)), some (qI (m3 49 6)), some (qI (tA t L p3)), none, none] []
    refine qJ.run hκ 1 (pc' := 40) (ls' := [some (qR 49), some (qI (m 49 6)), some (qI (tC t L p)), some (qI (tD t L p1)), some (qI (m3 49 6)), some (qI (tA t L p3)), none, none]) (st' := [qR 49]) rfl ?_
    refine qJ.callV (As := []) (rest := []) hκ rfl kX5_71 (d_tCons u m4 y t L p4 k4 N4.1.2.2.1 N4.1.2.2.2 N4.1.2.1) rfl rfl (by decide) rfl rfl (Nat.le_of_ble_eq_true rfl) (Nat.le_of_ble_eq_true rfl) (Nat.le_of_ble_eq_true rfl) (Or.inl (fun r h' e => by obtain ⟨rfl, m5, p5, k5, rfl, N5⟩ := e; rfl)) (fun r h' e => ?_)
    obtain ⟨rfl, m5, p5, k5, rfl, N5⟩ := e
    have Q5 := N5.1.2.1.2.1
    show qJ YX5_readLine κ _ (qLy u, m5, y) 0 0 43 [some (qR 49), some (qI (m 49 6)), some (qI (tC t L p)), some (qI (tD t L p1)), some (qI (m3 49 6)), some (qI (tA t L p3)), none, none] [qI (tC t L p4)]
    refine qJ.run hκ 4 (pc' := 52) (ls' := [some (qR 49), some (qI (m 49 6)), some (qI (tC t L p)), some (qI (tD t L p1)), some (qI (m3 49 6)), some (qI (tA t L p3)), some (qI (tC t L p4)), none]) (st' := [qI 59, qR 49]) rfl ?_
    refine qJ.callV (As := [qI 59]) (rest := []) hκ rfl kX5_78 (d_tMark u m5 y t L p5 k5 59 N5.1.2.2.1 N5.1.2.2.2 N5.1.2.1 (by decide)) rfl rfl (by decide) rfl rfl (Nat.le_of_ble_eq_true rfl) (Nat.le_of_ble_eq_true rfl) (Nat.le_of_ble_eq_true rfl) (Or.inl (fun r h' e => by obtain ⟨rfl, m6, p6, k6, rfl, N6⟩ := e; rfl)) (fun r h' e => ?_)
    obtain ⟨rfl, m6, p6, k6, rfl, N6⟩ := e
    have Q6 := N6.1.2.1.2.1
    show qJ YX5_readLine κ _ (qLy u, m6, y) 0 0 55 [some (qR 49), some (qI (m 49 6)), some (qI (tC t L p)), some (qI (tD t L p1)), some (qI (m3 49 6)), some (qI (tA t L p3)), some (qI (tC t L p4)), none] []
    refine qJ.run hκ 3 (pc' := 60) (ls' := [some (qR 49), some (qI (m 49 6)), some (qI (tC t L p)), some (qI (tD t L p1)), some (qI (m3 49 6)), some (qI (tA t L p3)), some (qI (tC t L p4)), none]) (st' := [qI (-1), qI (m6 49 8)]) rfl ?_
    refine qJ.icmp_eq hκ (tgt := 64) rfl rfl (by omega) (by omega) (fun c60 => ?_) (fun c60 => ?_)
    · show qJ YX5_readLine κ _ (qLy u, m6, y) 0 0 64 [some (qR 49), some (qI (m 49 6)), some (qI (tC t L p)), some (qI (tD t L p1)), some (qI (m3 49 6)), some (qI (tA t L p3)), some (qI (tC t L p4)), none] []
      have CH := ln_as hp N1.2 N2.2 N3.2 N4.2 N5.2 N6.2 c36
      have k8 := N6.1.2.1.2.1.1
      have KP : keep (kN kRd) m6 = keep (kN kRd) m := (((((N6.1.1.trans N5.1.1).trans N4.1.1).trans N3.1.1).trans N2.1.1).trans N1.1.1)
      have G : lnX t L p = -1 ∧ p6 = q6 t L p ∧ p1 = tE t L p ∧ p3 = q3 t L p ∧ p4 = tE t L (q3 t L p) ∧ ¬ tC t L p = -1 ∧ ¬ tD t L p1 = -1 ∧ ¬ tA t L p3 = -1 ∧ ¬ tC t L p4 = -1 := by rcases CH with q | q; exact q.2; exact absurd (k8.symm.trans c60) q.1
      have e0 : m6 49 0 = m 49 0 := congrFun (congrFun KP 49) 0
      have e9 : m6 49 9 = m 49 9 := congrFun (congrFun KP 49) 9
      have e10 : m6 49 10 = m 49 10 := congrFun (congrFun KP 49) 10
      have e50 : m6 50 = m 50 := congrFun KP 50
      have e51 : m6 51 = m 51 := congrFun KP 51
      have cr := tC_r t L p
      have gp1 := G.2.2.1
      have gp3 := G.2.2.2.1
      have RD : rdS m6 (q6 t L p) (-1) := by have := N6.1.2.1; rw [G.2.1, k8.symm.trans c60] at this; exact this
      have s6 : m 49 6 = tS t L p := by have := hS.1.2.1; rw [ht, hl] at this; exact this
      have s63 : m3 49 6 = tS t L p3 := by have := N3.1.2.1.1.2.1; rw [N3.1.2.2.1, N3.1.2.2.2] at this; exact this
      refine qJ.run hκ 5 (pc' := 71) (ls' := [some (qR 49), some (qI (m 49 6)), some (qI (tC t L p)), some (qI (tD t L p1)), some (qI (m3 49 6)), some (qI (tA t L p3)), some (qI (tC t L p4)), none]) (st' := [qI ((m6 49 0) + 1), qR 49]) rfl ?_
      refine qJ.putI hκ rfl rfl rfl rfl (Or.inl rfl) ?_
      show qJ YX5_readLine κ _ (qLy u, (q_up m6 49 0 ((m6 49 0) + 1)), y) 0 0 74 [some (qR 49), some (qI (m 49 6)), some (qI (tC t L p)), some (qI (tD t L p1)), some (qI (m3 49 6)), some (qI (tA t L p3)), some (qI (tC t L p4)), none] []
      refine qJ.run hκ 3 (pc' := 80) (ls' := [some (qR 49), some (qI (m 49 6)), some (qI (tC t L p)), some (qI (tD t L p1)), some (qI (m3 49 6)), some (qI (tA t L p3)), some (qI (tC t L p4)), none]) (st' := [qI 16, qI ((m6 49 0) + 1)]) rfl ?_
      refine qJ.icmp_le hκ (tgt := 89) rfl rfl (by omega) (by omega) (fun c80 => ?_) (fun c80 => ?_)
      · show qJ YX5_readLine κ _ (qLy u, (q_up m6 49 0 ((m6 49 0) + 1)), y) 0 0 89 [some (qR 49), some (qI (m 49 6)), some (qI (tC t L p)), some (qI (tD t L p1)), some (qI (m3 49 6)), some (qI (tA t L p3)), some (qI (tC t L p4)), none] []
        refine qJ.run hκ 2 (pc' := 92) (ls' := [some (qR 49), some (qI (m 49 6)), some (qI (tC t L p)), some (qI (tD t L p1)), some (qI (m3 49 6)), some (qI (tA t L p3)), some (qI (tC t L p4)), none]) (st' := [qI 1, qI (tA t L p3)]) rfl ?_
        refine qJ.icmp_ne hκ (tgt := 100) rfl rfl (by omega) (by omega) (fun c92 => ?_) (fun c92 => ?_)
        · show qJ YX5_readLine κ _ (qLy u, (q_up m6 49 0 ((m6 49 0) + 1)), y) 0 0 100 [some (qR 49), some (qI (m 49 6)), some (qI (tC t L p)), some (qI (tD t L p1)), some (qI (m3 49 6)), some (qI (tA t L p3)), some (qI (tC t L p4)), none] []
          refine qJ.run hκ 2 (pc' := 103) (ls' := [some (qR 49), some (qI (m 49 6)), some (qI (tC t L p)), some (qI (tD t L p1)), some (qI (m3 49 6)), some (qI (tA t L p3)), some (qI (tC t L p4)), none]) (st' := [qI 2, qI (tA t L p3)]) rfl ?_
          refine qJ.icmp_ne hκ (tgt := 117) rfl rfl (by omega) (by omega) (fun c103 => ?_) (fun c103 => ?_)
          · show qJ YX5_readLine κ _ (qLy u, (q_up m6 49 0 ((m6 49 0) + 1)), y) 0 0 117 [some (qR 49), some (qI (m 49 6)), some (qI (tC t L p)), some (qI (tD t L p1)), some (qI (m3 49 6)), some (qI (tA t L p3)), some (qI (tC t L p4)), none] []
            refine qJ.dl [true, false, true, true, false, true, true, false] ?_
            show qJ YX5_readLine κ _ (qLy u, (q_up m6 49 0 ((m6 49 0) + 1)), y) 0 0 117 [some (qR 49), none, some (qI (tC t L p)), some (qI (tD t L p1)), none, some (qI (tA t L p3)), some (qI (tC t L p4)), none] []
            exact L117 1 (q_up m6 49 0 ((m6 49 0) + 1)) (tC t L p) (tD t L p1) (tA t L p3) (tC t L p4) (rfl) (by rw [gp1]) (by rw [gp3]) (Eq.symm (by unfold lO; rw [← gp3, if_pos c36, G.2.2.2.2.1, gp3])) (G.1) (by omega) (by omega) (Eq.trans (Eq.trans (keep_up (by rfl)) rfl) (keep_of kRdl KP)) (by
      have A9 : m9a m = m6 49 9 := by unfold m9a; rw [← e0, ← e9]; rw [if_neg (fun z => by omega)]
      have A10 : m10a m (tS t L p) = m6 49 10 := by unfold m10a; rw [← e0, ← e9, ← e10]; rw [if_neg (fun z => by omega)]
      have bd : ¬ lBad (tA t L p3) (tD t L p1) := fun z => by rcases z with z | z <;> omega
      rw [← gp3, ← gp1, A9, A10]
      refine ⟨RD, by show m6 49 0 + 1 = _; rw [e0], ⟨?_, ?_⟩⟩
      · show m6 49 9 = _
        rw [if_neg (fun z => bd z.2)]
      · show m6 49 10 = _
        rw [if_neg (fun z => bd z.2)]) (⟨e50, e51⟩) (by omega)
          · show qJ YX5_readLine κ _ (qLy u, (q_up m6 49 0 ((m6 49 0) + 1)), y) 0 0 106 [some (qR 49), some (qI (m 49 6)), some (qI (tC t L p)), some (qI (tD t L p1)), some (qI (m3 49 6)), some (qI (tA t L p3)), some (qI (tC t L p4)), none] []
            refine qJ.run hκ 1 (pc' := 107) (ls' := [some (qR 49), some (qI (m 49 6)), some (qI (tC t L p)), some (qI (tD t L p1)), some (qI (m3 49 6)), some (qI (tA t L p3)), some (qI (tC t L p4)), none]) (st' := [qI (tD t L p1)]) rfl ?_
            refine qJ.if_ne hκ (tgt := 117) rfl rfl (by omega) (fun c107 => ?_) (fun c107 => ?_)
            · show qJ YX5_readLine κ _ (qLy u, (q_up m6 49 0 ((m6 49 0) + 1)), y) 0 0 117 [some (qR 49), some (qI (m 49 6)), some (qI (tC t L p)), some (qI (tD t L p1)), some (qI (m3 49 6)), some (qI (tA t L p3)), some (qI (tC t L p4)), none] []
              refine qJ.dl [true, false, true, true, false, true, true, false] ?_
              show qJ YX5_readLine κ _ (qLy u, (q_up m6 49 0 ((m6 49 0) + 1)), y) 0 0 117 [some (qR 49), none, some (qI (tC t L p)), some (qI (tD t L p1)), none, some (qI (tA t L p3)), some (qI (tC t L p4)), none] []
              exact L117 1 (q_up m6 49 0 ((m6 49 0) + 1)) (tC t L p) (tD t L p1) (tA t L p3) (tC t L p4) (rfl) (by rw [gp1]) (by rw [gp3]) (Eq.symm (by unfold lO; rw [← gp3, if_pos c36, G.2.2.2.2.1, gp3])) (G.1) (by omega) (by omega) (Eq.trans (Eq.trans (keep_up (by rfl)) rfl) (keep_of kRdl KP)) (by
      have A9 : m9a m = m6 49 9 := by unfold m9a; rw [← e0, ← e9]; rw [if_neg (fun z => by omega)]
      have A10 : m10a m (tS t L p) = m6 49 10 := by unfold m10a; rw [← e0, ← e9, ← e10]; rw [if_neg (fun z => by omega)]
      have bd : ¬ lBad (tA t L p3) (tD t L p1) := fun z => by rcases z with z | z <;> omega
      rw [← gp3, ← gp1, A9, A10]
      refine ⟨RD, by show m6 49 0 + 1 = _; rw [e0], ⟨?_, ?_⟩⟩
      · show m6 49 9 = _
        rw [if_neg (fun z => bd z.2)]
      · show m6 49 10 = _
        rw [if_neg (fun z => bd z.2)]) (⟨e50, e51⟩) (by omega)
            · show qJ YX5_readLine κ _ (qLy u, (q_up m6 49 0 ((m6 49 0) + 1)), y) 0 0 110 [some (qR 49), some (qI (m 49 6)), some (qI (tC t L p)), some (qI (tD t L p1)), some (qI (m3 49 6)), some (qI (tA t L p3)), some (qI (tC t L p4)), none] []
              refine qJ.run hκ 3 (pc' := 114) (ls' := [some (qR 49), some (qI (m 49 6)), some (qI (tC t L p)), some (qI (tD t L p1)), some (qI (m3 49 6)), some (qI (tA t L p3)), some (qI (tC t L p4)), none]) (st' := [qI (m3 49 6), qI 2, qR 49]) rfl ?_
              refine qJ.callV (As := [qI 2, qI (m3 49 6)]) (rest := []) hκ rfl kX5_85 (c_note u (q_up m6 49 0 ((m6 49 0) + 1)) y 2 (m3 49 6) (show 0 ≤ m6 49 9 ∧ m6 49 9 ≤ 3 from by omega)) rfl rfl (by decide) rfl rfl (Nat.le_of_ble_eq_true rfl) (Nat.le_of_ble_eq_true rfl) (Nat.le_of_ble_eq_true rfl) (Or.inl (fun r h' e => by obtain ⟨rfl, c114_, d114_, rfl, H114⟩ := e; rfl)) (fun r h' e => ?_)
              obtain ⟨rfl, c114_, d114_, rfl, H114⟩ := e
              have G114 : (m6 49 9 = 0 ∧ c114_ = 2 ∧ d114_ = m3 49 6) ∨ (¬ m6 49 9 = 0 ∧ c114_ = m6 49 9 ∧ d114_ = m6 49 10) := H114
              show qJ YX5_readLine κ _ (qLy u, (q_up (q_up (q_up m6 49 0 ((m6 49 0) + 1)) 49 9 c114_) 49 10 d114_), y) 0 0 117 [some (qR 49), some (qI (m 49 6)), some (qI (tC t L p)), some (qI (tD t L p1)), some (qI (m3 49 6)), some (qI (tA t L p3)), some (qI (tC t L p4)), none] []
              refine qJ.dl [true, false, true, true, false, true, true, false] ?_
              show qJ YX5_readLine κ _ (qLy u, (q_up (q_up (q_up m6 49 0 ((m6 49 0) + 1)) 49 9 c114_) 49 10 d114_), y) 0 0 117 [some (qR 49), none, some (qI (tC t L p)), some (qI (tD t L p1)), none, some (qI (tA t L p3)), some (qI (tC t L p4)), none] []
              exact L117 1 (q_up (q_up (q_up m6 49 0 ((m6 49 0) + 1)) 49 9 c114_) 49 10 d114_) (tC t L p) (tD t L p1) (tA t L p3) (tC t L p4) (rfl) (by rw [gp1]) (by rw [gp3]) (Eq.symm (by unfold lO; rw [← gp3, if_pos c36, G.2.2.2.2.1, gp3])) (G.1) (by omega) (by omega) (Eq.trans (Eq.trans (keep_up (by rfl)) (Eq.trans (keep_up (by rfl)) (Eq.trans (keep_up (by rfl)) rfl))) (keep_of kRdl KP)) (by
      have A9 : m9a m = m6 49 9 := by unfold m9a; rw [← e0, ← e9]; rw [if_neg (fun z => by omega)]
      have A10 : m10a m (tS t L p) = m6 49 10 := by unfold m10a; rw [← e0, ← e9, ← e10]; rw [if_neg (fun z => by omega)]
      have bd : lBad (tA t L p3) (tD t L p1) := by show (_ ∧ _) ∨ _; omega
      rw [← gp3, ← gp1, A9, A10]
      refine ⟨RD, by show m6 49 0 + 1 = _; rw [e0], ⟨?_, ?_⟩⟩
      · show c114_ = _
        rcases G114 with q | q; (rw [if_pos ⟨q.1, bd⟩]; exact q.2.1); (rw [if_neg (fun z => q.1 z.1)]; exact q.2.1)
      · show d114_ = _
        rcases G114 with q | q; (rw [if_pos ⟨q.1, bd⟩, ← s63]; exact q.2.2); (rw [if_neg (fun z => q.1 z.1)]; exact q.2.2)) (⟨e50, e51⟩) (by omega)
        · show qJ YX5_readLine κ _ (qLy u, (q_up m6 49 0 ((m6 49 0) + 1)), y) 0 0 95 [some (qR 49), some (qI (m 49 6)), some (qI (tC t L p)), some (qI (tD t L p1)), some (qI (m3 49 6)), some (qI (tA t L p3)), some (qI (tC t L p4)), none] []
          refine qJ.run hκ 2 (pc' := 97) (ls' := [some (qR 49), some (qI (m 49 6)), some (qI (tC t L p)), some (qI (tD t L p1)), some (qI (m3 49 6)), some (qI (tA t L p3)), some (qI (tC t L p4)), none]) (st' := [qI 1, qI (tD t L p1)]) rfl ?_
          refine qJ.icmp_ne hκ (tgt := 110) rfl rfl (by omega) (by omega) (fun c97 => ?_) (fun c97 => ?_)
          · show qJ YX5_readLine κ _ (qLy u, (q_up m6 49 0 ((m6 49 0) + 1)), y) 0 0 110 [some (qR 49), some (qI (m 49 6)), some (qI (tC t L p)), some (qI (tD t L p1)), some (qI (m3 49 6)), some (qI (tA t L p3)), some (qI (tC t L p4)), none] []
            refine qJ.run hκ 3 (pc' := 114) (ls' := [some (qR 49), some (qI (m 49 6)), some (qI (tC t L p)), some (qI (tD t L p1)), some (qI (m3 49 6)), some (qI (tA t L p3)), some (qI (tC t L p4)), none]) (st' := [qI (m3 49 6), qI 2, qR 49]) rfl ?_
            refine qJ.callV (As := [qI 2, qI (m3 49 6)]) (rest := []) hκ rfl kX5_85 (c_note u (q_up m6 49 0 ((m6 49 0) + 1)) y 2 (m3 49 6) (show 0 ≤ m6 49 9 ∧ m6 49 9 ≤ 3 from by omega)) rfl rfl (by decide) rfl rfl (Nat.le_of_ble_eq_true rfl) (Nat.le_of_ble_eq_true rfl) (Nat.le_of_ble_eq_true rfl) (Or.inl (fun r h' e => by obtain ⟨rfl, c114_, d114_, rfl, H114⟩ := e; rfl)) (fun r h' e => ?_)
            obtain ⟨rfl, c114_, d114_, rfl, H114⟩ := e
            have G114 : (m6 49 9 = 0 ∧ c114_ = 2 ∧ d114_ = m3 49 6) ∨ (¬ m6 49 9 = 0 ∧ c114_ = m6 49 9 ∧ d114_ = m6 49 10) := H114
            show qJ YX5_readLine κ _ (qLy u, (q_up (q_up (q_up m6 49 0 ((m6 49 0) + 1)) 49 9 c114_) 49 10 d114_), y) 0 0 117 [some (qR 49), some (qI (m 49 6)), some (qI (tC t L p)), some (qI (tD t L p1)), some (qI (m3 49 6)), some (qI (tA t L p3)), some (qI (tC t L p4)), none] []
            refine qJ.dl [true, false, true, true, false, true, true, false] ?_
            show qJ YX5_readLine κ _ (qLy u, (q_up (q_up (q_up m6 49 0 ((m6 49 0) + 1)) 49 9 c114_) 49 10 d114_), y) 0 0 117 [some (qR 49), none, some (qI (tC t L p)), some (qI (tD t L p1)), none, some (qI (tA t L p3)), some (qI (tC t L p4)), none] []
            exact L117 1 (q_up (q_up (q_up m6 49 0 ((m6 49 0) + 1)) 49 9 c114_) 49 10 d114_) (tC t L p) (tD t L p1) (tA t L p3) (tC t L p4) (rfl) (by rw [gp1]) (by rw [gp3]) (Eq.symm (by unfold lO; rw [← gp3, if_pos c36, G.2.2.2.2.1, gp3])) (G.1) (by omega) (by omega) (Eq.trans (Eq.trans (keep_up (by rfl)) (Eq.trans (keep_up (by rfl)) (Eq.trans (keep_up (by rfl)) rfl))) (keep_of kRdl KP)) (by
      have A9 : m9a m = m6 49 9 := by unfold m9a; rw [← e0, ← e9]; rw [if_neg (fun z => by omega)]
      have A10 : m10a m (tS t L p) = m6 49 10 := by unfold m10a; rw [← e0, ← e9, ← e10]; rw [if_neg (fun z => by omega)]
      have bd : lBad (tA t L p3) (tD t L p1) := by show (_ ∧ _) ∨ _; omega
      rw [← gp3, ← gp1, A9, A10]
      refine ⟨RD, by show m6 49 0 + 1 = _; rw [e0], ⟨?_, ?_⟩⟩
      · show c114_ = _
        rcases G114 with q | q; (rw [if_pos ⟨q.1, bd⟩]; exact q.2.1); (rw [if_neg (fun z => q.1 z.1)]; exact q.2.1)
      · show d114_ = _
        rcases G114 with q | q; (rw [if_pos ⟨q.1, bd⟩, ← s63]; exact q.2.2); (rw [if_neg (fun z => q.1 z.1)]; exact q.2.2)) (⟨e50, e51⟩) (by omega)
          · show qJ YX5_readLine κ _ (qLy u, (q_up m6 49 0 ((m6 49 0) + 1)), y) 0 0 100 [some (qR 49), some (qI (m 49 6)), some (qI (tC t L p)), some (qI (tD t L p1)), some (qI (m3 49 6)), some (qI (tA t L p3)), some (qI (tC t L p4)), none] []
            refine qJ.run hκ 2 (pc' := 103) (ls' := [some (qR 49), some (qI (m 49 6)), some (qI (tC t L p)), some (qI (tD t L p1)), some (qI (m3 49 6)), some (qI (tA t L p3)), some (qI (tC t L p4)), none]) (st' := [qI 2, qI (tA t L p3)]) rfl ?_
            refine qJ.icmp_ne hκ (tgt := 117) rfl rfl (by omega) (by omega) (fun c103 => ?_) (fun c103 => ?_)
            · show qJ YX5_readLine κ _ (qLy u, (q_up m6 49 0 ((m6 49 0) + 1)), y) 0 0 117 [some (qR 49), some (qI (m 49 6)), some (qI (tC t L p)), some (qI (tD t L p1)), some (qI (m3 49 6)), some (qI (tA t L p3)), some (qI (tC t L p4)), none] []
              refine qJ.dl [true, false, true, true, false, true, true, false] ?_
              show qJ YX5_readLine κ _ (qLy u, (q_up m6 49 0 ((m6 49 0) + 1)), y) 0 0 117 [some (qR 49), none, some (qI (tC t L p)), some (qI (tD t L p1)), none, some (qI (tA t L p3)), some (qI (tC t L p4)), none] []
              exact L117 1 (q_up m6 49 0 ((m6 49 0) + 1)) (tC t L p) (tD t L p1) (tA t L p3) (tC t L p4) (rfl) (by rw [gp1]) (by rw [gp3]) (Eq.symm (by unfold lO; rw [← gp3, if_pos c36, G.2.2.2.2.1, gp3])) (G.1) (by omega) (by omega) (Eq.trans (Eq.trans (keep_up (by rfl)) rfl) (keep_of kRdl KP)) (by
      have A9 : m9a m = m6 49 9 := by unfold m9a; rw [← e0, ← e9]; rw [if_neg (fun z => by omega)]
      have A10 : m10a m (tS t L p) = m6 49 10 := by unfold m10a; rw [← e0, ← e9, ← e10]; rw [if_neg (fun z => by omega)]
      have bd : ¬ lBad (tA t L p3) (tD t L p1) := fun z => by rcases z with z | z <;> omega
      rw [← gp3, ← gp1, A9, A10]
      refine ⟨RD, by show m6 49 0 + 1 = _; rw [e0], ⟨?_, ?_⟩⟩
      · show m6 49 9 = _
        rw [if_neg (fun z => bd z.2)]
      · show m6 49 10 = _
        rw [if_neg (fun z => bd z.2)]) (⟨e50, e51⟩) (by omega)
            · show qJ YX5_readLine κ _ (qLy u, (q_up m6 49 0 ((m6 49 0) + 1)), y) 0 0 106 [some (qR 49), some (qI (m 49 6)), some (qI (tC t L p)), some (qI (tD t L p1)), some (qI (m3 49 6)), some (qI (tA t L p3)), some (qI (tC t L p4)), none] []
              refine qJ.run hκ 1 (pc' := 107) (ls' := [some (qR 49), some (qI (m 49 6)), some (qI (tC t L p)), some (qI (tD t L p1)), some (qI (m3 49 6)), some (qI (tA t L p3)), some (qI (tC t L p4)), none]) (st' := [qI (tD t L p1)]) rfl ?_
              refine qJ.if_ne hκ (tgt := 117) rfl rfl (by omega) (fun c107 => ?_) (fun c107 => ?_)
              · show qJ YX5_readLine κ _ (qLy u, (q_up m6 49 0 ((m6 49 0) + 1)), y) 0 0 117 [some (qR 49), some (qI (m 49 6)), some (qI (tC t L p)), some (qI (tD t L p1)), some (qI (m3 49 6)), some (qI (tA t L p3)), some (qI (tC t L p4)), none] []
                refine qJ.dl [true, false, true, true, false, true, true, false] ?_
                show qJ YX5_readLine κ _ (qLy u, (q_up m6 49 0 ((m6 49 0) + 1)), y) 0 0 117 [some (qR 49), none, some (qI (tC t L p)), some (qI (tD t L p1)), none, some (qI (tA t L p3)), some (qI (tC t L p4)), none] []
                exact L117 1 (q_up m6 49 0 ((m6 49 0) + 1)) (tC t L p) (tD t L p1) (tA t L p3) (tC t L p4) (rfl) (by rw [gp1]) (by rw [gp3]) (Eq.symm (by unfold lO; rw [← gp3, if_pos c36, G.2.2.2.2.1, gp3])) (G.1) (by omega) (by omega) (Eq.trans (Eq.trans (keep_up (by rfl)) rfl) (keep_of kRdl KP)) (by
      have A9 : m9a m = m6 49 9 := by unfold m9a; rw [← e0, ← e9]; rw [if_neg (fun z => by omega)]
      have A10 : m10a m (tS t L p) = m6 49 10 := by unfold m10a; rw [← e0, ← e9, ← e10]; rw [if_neg (fun z => by omega)]
      have bd : ¬ lBad (tA t L p3) (tD t L p1) := fun z => by rcases z with z | z <;> omega
      rw [← gp3, ← gp1, A9, A10]
      refine ⟨RD, by show m6 49 0 + 1 = _; rw [e0], ⟨?_, ?_⟩⟩
      · show m6 49 9 = _
        rw [if_neg (fun z => bd z.2)]
      · show m6 49 10 = _
        rw [if_neg (fun z => bd z.2)]) (⟨e50, e51⟩) (by omega)
              · show qJ YX5_readLine κ _ (qLy u, (q_up m6 49 0 ((m6 49 0) + 1)), y) 0 0 110 [some (qR 49), some (qI (m 49 6)), some (qI (tC t L p)), some (qI (tD t L p1)), some (qI (m3 49 6)), some (qI (tA t L p3)), some (qI (tC t L p4)), none] []
                refine qJ.run hκ 3 (pc' := 114) (ls' := [some (qR 49), some (qI (m 49 6)), some (qI (tC t L p)), some (qI (tD t L p1)), some (qI (m3 49 6)), some (qI (tA t L p3)), some (qI (tC t L p4)), none]) (st' := [qI (m3 49 6), qI 2, qR 49]) rfl ?_
                refine qJ.callV (As := [qI 2, qI (m3 49 6)]) (rest := []) hκ rfl kX5_85 (c_note u (q_up m6 49 0 ((m6 49 0) + 1)) y 2 (m3 49 6) (show 0 ≤ m6 49 9 ∧ m6 49 9 ≤ 3 from by omega)) rfl rfl (by decide) rfl rfl (Nat.le_of_ble_eq_true rfl) (Nat.le_of_ble_eq_true rfl) (Nat.le_of_ble_eq_true rfl) (Or.inl (fun r h' e => by obtain ⟨rfl, c114_, d114_, rfl, H114⟩ := e; rfl)) (fun r h' e => ?_)
                obtain ⟨rfl, c114_, d114_, rfl, H114⟩ := e
                have G114 : (m6 49 9 = 0 ∧ c114_ = 2 ∧ d114_ = m3 49 6) ∨ (¬ m6 49 9 = 0 ∧ c114_ = m6 49 9 ∧ d114_ = m6 49 10) := H114
                show qJ YX5_readLine κ _ (qLy u, (q_up (q_up (q_up m6 49 0 ((m6 49 0) + 1)) 49 9 c114_) 49 10 d114_), y) 0 0 117 [some (qR 49), some (qI (m 49 6)), some (qI (tC t L p)), some (qI (tD t L p1)), some (qI (m3 49 6)), some (qI (tA t L p3)), some (qI (tC t L p4)), none] []
                refine qJ.dl [true, false, true, true, false, true, true, false] ?_
                show qJ YX5_readLine κ _ (qLy u, (q_up (q_up (q_up m6 49 0 ((m6 49 0) + 1)) 49 9 c114_) 49 10 d114_), y) 0 0 117 [some (qR 49), none, some (qI (tC t L p)), some (qI (tD t L p1)), none, some (qI (tA t L p3)), some (qI (tC t L p4)), none] []
                exact L117 1 (q_up (q_up (q_up m6 49 0 ((m6 49 0) + 1)) 49 9 c114_) 49 10 d114_) (tC t L p) (tD t L p1) (tA t L p3) (tC t L p4) (rfl) (by rw [gp1]) (by rw [gp3]) (Eq.symm (by unfold lO; rw [← gp3, if_pos c36, G.2.2.2.2.1, gp3])) (G.1) (by omega) (by omega) (Eq.trans (Eq.trans (keep_up (by rfl)) (Eq.trans (keep_up (by rfl)) (Eq.trans (keep_up (by rfl)) rfl))) (keep_of kRdl KP)) (by
      have A9 : m9a m = m6 49 9 := by unfold m9a; rw [← e0, ← e9]; rw [if_neg (fun z => by omega)]
      have A10 : m10a m (tS t L p) = m6 49 10 := by unfold m10a; rw [← e0, ← e9, ← e10]; rw [if_neg (fun z => by omega)]
      have bd : lBad (tA t L p3) (tD t L p1) := by show (_ ∧ _) ∨ _; omega
      rw [← gp3, ← gp1, A9, A10]
      refine ⟨RD, by show m6 49 0 + 1 = _; rw [e0], ⟨?_, ?_⟩⟩
      · show c114_ = _
        rcases G114 with q | q; (rw [if_pos ⟨q.1, bd⟩]; exact q.2.1); (rw [if_neg (fun z => q.1 z.1)]; exact q.2.1)
      · show d114_ = _
        rcases G114 with q | q; (rw [if_pos ⟨q.1, bd⟩, ← s63]; exact q.2.2); (rw [if_neg (fun z => q.1 z.1)]; exact q.2.2)) (⟨e50, e51⟩) (by omega)
      · show qJ YX5_readLine κ _ (qLy u, (q_up m6 49 0 ((m6 49 0) + 1)), y) 0 0 83 [some (qR 49), some (qI (m 49 6)), some (qI (tC t L p)), some (qI (tD t L p1)), some (qI (m3 49 6)), some (qI (tA t L p3)), some (qI (tC t L p4)), none] []
        refine qJ.run hκ 3 (pc' := 86) (ls' := [some (qR 49), some (qI (m 49 6)), some (qI (tC t L p)), some (qI (tD t L p1)), some (qI (m3 49 6)), some (qI (tA t L p3)), some (qI (tC t L p4)), none]) (st' := [qI (m 49 6), qI 3, qR 49]) rfl ?_
        refine qJ.callV (As := [qI 3, qI (m 49 6)]) (rest := []) hκ rfl kX5_85 (c_note u (q_up m6 49 0 ((m6 49 0) + 1)) y 3 (m 49 6) (show 0 ≤ m6 49 9 ∧ m6 49 9 ≤ 3 from by omega)) rfl rfl (by decide) rfl rfl (Nat.le_of_ble_eq_true rfl) (Nat.le_of_ble_eq_true rfl) (Nat.le_of_ble_eq_true rfl) (Or.inl (fun r h' e => by obtain ⟨rfl, c86_, d86_, rfl, H86⟩ := e; rfl)) (fun r h' e => ?_)
        obtain ⟨rfl, c86_, d86_, rfl, H86⟩ := e
        have G86 : (m6 49 9 = 0 ∧ c86_ = 3 ∧ d86_ = m 49 6) ∨ (¬ m6 49 9 = 0 ∧ c86_ = m6 49 9 ∧ d86_ = m6 49 10) := H86
        show qJ YX5_readLine κ _ (qLy u, (q_up (q_up (q_up m6 49 0 ((m6 49 0) + 1)) 49 9 c86_) 49 10 d86_), y) 0 0 89 [some (qR 49), some (qI (m 49 6)), some (qI (tC t L p)), some (qI (tD t L p1)), some (qI (m3 49 6)), some (qI (tA t L p3)), some (qI (tC t L p4)), none] []
        refine qJ.run hκ 2 (pc' := 92) (ls' := [some (qR 49), some (qI (m 49 6)), some (qI (tC t L p)), some (qI (tD t L p1)), some (qI (m3 49 6)), some (qI (tA t L p3)), some (qI (tC t L p4)), none]) (st' := [qI 1, qI (tA t L p3)]) rfl ?_
        refine qJ.icmp_ne hκ (tgt := 100) rfl rfl (by omega) (by omega) (fun c92 => ?_) (fun c92 => ?_)
        · show qJ YX5_readLine κ _ (qLy u, (q_up (q_up (q_up m6 49 0 ((m6 49 0) + 1)) 49 9 c86_) 49 10 d86_), y) 0 0 100 [some (qR 49), some (qI (m 49 6)), some (qI (tC t L p)), some (qI (tD t L p1)), some (qI (m3 49 6)), some (qI (tA t L p3)), some (qI (tC t L p4)), none] []
          refine qJ.run hκ 2 (pc' := 103) (ls' := [some (qR 49), some (qI (m 49 6)), some (qI (tC t L p)), some (qI (tD t L p1)), some (qI (m3 49 6)), some (qI (tA t L p3)), some (qI (tC t L p4)), none]) (st' := [qI 2, qI (tA t L p3)]) rfl ?_
          refine qJ.icmp_ne hκ (tgt := 117) rfl rfl (by omega) (by omega) (fun c103 => ?_) (fun c103 => ?_)
          · show qJ YX5_readLine κ _ (qLy u, (q_up (q_up (q_up m6 49 0 ((m6 49 0) + 1)) 49 9 c86_) 49 10 d86_), y) 0 0 117 [some (qR 49), some (qI (m 49 6)), some (qI (tC t L p)), some (qI (tD t L p1)), some (qI (m3 49 6)), some (qI (tA t L p3)), some (qI (tC t L p4)), none] []
            refine qJ.dl [true, false, true, true, false, true, true, false] ?_
            show qJ YX5_readLine κ _ (qLy u, (q_up (q_up (q_up m6 49 0 ((m6 49 0) + 1)) 49 9 c86_) 49 10 d86_), y) 0 0 117 [some (qR 49), none, some (qI (tC t L p)), some (qI (tD t L p1)), none, some (qI (tA t L p3)), some (qI (tC t L p4)), none] []
            exact L117 1 (q_up (q_up (q_up m6 49 0 ((m6 49 0) + 1)) 49 9 c86_) 49 10 d86_) (tC t L p) (tD t L p1) (tA t L p3) (tC t L p4) (rfl) (by rw [gp1]) (by rw [gp3]) (Eq.symm (by unfold lO; rw [← gp3, if_pos c36, G.2.2.2.2.1, gp3])) (G.1) (by omega) (by omega) (Eq.trans (Eq.trans (keep_up (by rfl)) (Eq.trans (keep_up (by rfl)) (Eq.trans (keep_up (by rfl)) rfl))) (keep_of kRdl KP)) (by
      have A9 : m9a m = c86_ := by unfold m9a; rw [← e0, ← e9]; rcases G86 with q | q; (rw [if_pos ⟨q.1, by omega⟩]; exact q.2.1.symm); (rw [if_neg (fun z => q.1 z.1)]; exact q.2.1.symm)
      have A10 : m10a m (tS t L p) = d86_ := by unfold m10a; rw [← e0, ← e9, ← e10]; rcases G86 with q | q; (rw [if_pos ⟨q.1, by omega⟩, ← s6]; exact q.2.2.symm); (rw [if_neg (fun z => q.1 z.1)]; exact q.2.2.symm)
      have bd : ¬ lBad (tA t L p3) (tD t L p1) := fun z => by rcases z with z | z <;> omega
      rw [← gp3, ← gp1, A9, A10]
      refine ⟨RD, by show m6 49 0 + 1 = _; rw [e0], ⟨?_, ?_⟩⟩
      · show c86_ = _
        rw [if_neg (fun z => bd z.2)]
      · show d86_ = _
        rw [if_neg (fun z => bd z.2)]) (⟨e50, e51⟩) (by omega)
          · show qJ YX5_readLine κ _ (qLy u, (q_up (q_up (q_up m6 49 0 ((m6 49 0) + 1)) 49 9 c86_) 49 10 d86_), y) 0 0 106 [some (qR 49), some (qI (m 49 6)), some (qI (tC t L p)), some (qI (tD t L p1)), some (qI (m3 49 6)), some (qI (tA t L p3)), some (qI (tC t L p4)), none] []
            refine qJ.run hκ 1 (pc' := 107) (ls' := [some (qR 49), some (qI (m 49 6)), some (qI (tC t L p)), some (qI (tD t L p1)), some (qI (m3 49 6)), some (qI (tA t L p3)), some (qI (tC t L p4)), none]) (st' := [qI (tD t L p1)]) rfl ?_
            refine qJ.if_ne hκ (tgt := 117) rfl rfl (by omega) (fun c107 => ?_) (fun c107 => ?_)
            · show qJ YX5_readLine κ _ (qLy u, (q_up (q_up (q_up m6 49 0 ((m6 49 0) + 1)) 49 9 c86_) 49 10 d86_), y) 0 0 117 [some (qR 49), some (qI (m 49 6)), some (qI (tC t L p)), some (qI (tD t L p1)), some (qI (m3 49 6)), some (qI (tA t L p3)), some (qI (tC t L p4)), none] []
              refine qJ.dl [true, false, true, true, false, true, true, false] ?_
              show qJ YX5_readLine κ _ (qLy u, (q_up (q_up (q_up m6 49 0 ((m6 49 0) + 1)) 49 9 c86_) 49 10 d86_), y) 0 0 117 [some (qR 49), none, some (qI (tC t L p)), some (qI (tD t L p1)), none, some (qI (tA t L p3)), some (qI (tC t L p4)), none] []
              exact L117 1 (q_up (q_up (q_up m6 49 0 ((m6 49 0) + 1)) 49 9 c86_) 49 10 d86_) (tC t L p) (tD t L p1) (tA t L p3) (tC t L p4) (rfl) (by rw [gp1]) (by rw [gp3]) (Eq.symm (by unfold lO; rw [← gp3, if_pos c36, G.2.2.2.2.1, gp3])) (G.1) (by omega) (by omega) (Eq.trans (Eq.trans (keep_up (by rfl)) (Eq.trans (keep_up (by rfl)) (Eq.trans (keep_up (by rfl)) rfl))) (keep_of kRdl KP)) (by
      have A9 : m9a m = c86_ := by unfold m9a; rw [← e0, ← e9]; rcases G86 with q | q; (rw [if_pos ⟨q.1, by omega⟩]; exact q.2.1.symm); (rw [if_neg (fun z => q.1 z.1)]; exact q.2.1.symm)
      have A10 : m10a m (tS t L p) = d86_ := by unfold m10a; rw [← e0, ← e9, ← e10]; rcases G86 with q | q; (rw [if_pos ⟨q.1, by omega⟩, ← s6]; exact q.2.2.symm); (rw [if_neg (fun z => q.1 z.1)]; exact q.2.2.symm)
      have bd : ¬ lBad (tA t L p3) (tD t L p1) := fun z => by rcases z with z | z <;> omega
      rw [← gp3, ← gp1, A9, A10]
      refine ⟨RD, by show m6 49 0 + 1 = _; rw [e0], ⟨?_, ?_⟩⟩
      · show c86_ = _
        rw [if_neg (fun z => bd z.2)]
      · show d86_ = _
        rw [if_neg (fun z => bd z.2)]) (⟨e50, e51⟩) (by omega)
            · show qJ YX5_readLine κ _ (qLy u, (q_up (q_up (q_up m6 49 0 ((m6 49 0) + 1)) 49 9 c86_) 49 10 d86_), y) 0 0 110 [some (qR 49), some (qI (m 49 6)), some (qI (tC t L p)), some (qI (tD t L p1)), some (qI (m3 49 6)), some (qI (tA t L p3)), some (qI (tC t L p4)), none] []
              refine qJ.run hκ 3 (pc' := 114) (ls' := [some (qR 49), some (qI (m 49 6)), some (qI (tC t L p)), some (qI (tD t L p1)), some (qI (m3 49 6)), some (qI (tA t L p3)), some (qI (tC t L p4)), none]) (st' := [qI (m3 49 6), qI 2, qR 49]) rfl ?_
              refine qJ.callV (As := [qI 2, qI (m3 49 6)]) (rest := []) hκ rfl kX5_85 (c_note u (q_up (q_up (q_up m6 49 0 ((m6 49 0) + 1)) 49 9 c86_) 49 10 d86_) y 2 (m3 49 6) (show 0 ≤ c86_ ∧ c86_ ≤ 3 from by omega)) rfl rfl (by decide) rfl rfl (Nat.le_of_ble_eq_true rfl) (Nat.le_of_ble_eq_true rfl) (Nat.le_of_ble_eq_true rfl) (Or.inl (fun r h' e => by obtain ⟨rfl, c114_, d114_, rfl, H114⟩ := e; rfl)) (fun r h' e => ?_)
              obtain ⟨rfl, c114_, d114_, rfl, H114⟩ := e
              have G114 : (c86_ = 0 ∧ c114_ = 2 ∧ d114_ = m3 49 6) ∨ (¬ c86_ = 0 ∧ c114_ = c86_ ∧ d114_ = d86_) := H114
              show qJ YX5_readLine κ _ (qLy u, (q_up (q_up (q_up (q_up (q_up m6 49 0 ((m6 49 0) + 1)) 49 9 c86_) 49 10 d86_) 49 9 c114_) 49 10 d114_), y) 0 0 117 [some (qR 49), some (qI (m 49 6)), some (qI (tC t L p)), some (qI (tD t L p1)), some (qI (m3 49 6)), some (qI (tA t L p3)), some (qI (tC t L p4)), none] []
              refine qJ.dl [true, false, true, true, false, true, true, false] ?_
              show qJ YX5_readLine κ _ (qLy u, (q_up (q_up (q_up (q_up (q_up m6 49 0 ((m6 49 0) + 1)) 49 9 c86_) 49 10 d86_) 49 9 c114_) 49 10 d114_), y) 0 0 117 [some (qR 49), none, some (qI (tC t L p)), some (qI (tD t L p1)), none, some (qI (tA t L p3)), some (qI (tC t L p4)), none] []
              exact L117 1 (q_up (q_up (q_up (q_up (q_up m6 49 0 ((m6 49 0) + 1)) 49 9 c86_) 49 10 d86_) 49 9 c114_) 49 10 d114_) (tC t L p) (tD t L p1) (tA t L p3) (tC t L p4) (rfl) (by rw [gp1]) (by rw [gp3]) (Eq.symm (by unfold lO; rw [← gp3, if_pos c36, G.2.2.2.2.1, gp3])) (G.1) (by omega) (by omega) (Eq.trans (Eq.trans (keep_up (by rfl)) (Eq.trans (keep_up (by rfl)) (Eq.trans (keep_up (by rfl)) (Eq.trans (keep_up (by rfl)) (Eq.trans (keep_up (by rfl)) rfl))))) (keep_of kRdl KP)) (by
      have A9 : m9a m = c86_ := by unfold m9a; rw [← e0, ← e9]; rcases G86 with q | q; (rw [if_pos ⟨q.1, by omega⟩]; exact q.2.1.symm); (rw [if_neg (fun z => q.1 z.1)]; exact q.2.1.symm)
      have A10 : m10a m (tS t L p) = d86_ := by unfold m10a; rw [← e0, ← e9, ← e10]; rcases G86 with q | q; (rw [if_pos ⟨q.1, by omega⟩, ← s6]; exact q.2.2.symm); (rw [if_neg (fun z => q.1 z.1)]; exact q.2.2.symm)
      have bd : lBad (tA t L p3) (tD t L p1) := by show (_ ∧ _) ∨ _; omega
      rw [← gp3, ← gp1, A9, A10]
      refine ⟨RD, by show m6 49 0 + 1 = _; rw [e0], ⟨?_, ?_⟩⟩
      · show c114_ = _
        rcases G114 with q | q; (rw [if_pos ⟨q.1, bd⟩]; exact q.2.1); (rw [if_neg (fun z => q.1 z.1)]; exact q.2.1)
      · show d114_ = _
        rcases G114 with q | q; (rw [if_pos ⟨q.1, bd⟩, ← s63]; exact q.2.2); (rw [if_neg (fun z => q.1 z.1)]; exact q.2.2)) (⟨e50, e51⟩) (by omega)
        · show qJ YX5_readLine κ _ (qLy u, (q_up (q_up (q_up m6 49 0 ((m6 49 0) + 1)) 49 9 c86_) 49 10 d86_), y) 0 0 95 [some (qR 49), some (qI (m 49 6)), some (qI (tC t L p)), some (qI (tD t L p1)), some (qI (m3 49 6)), some (qI (tA t L p3)), some (qI (tC t L p4)), none] []
          refine qJ.run hκ 2 (pc' := 97) (ls' := [some (qR 49), some (qI (m 49 6)), some (qI (tC t L p)), some (qI (tD t L p1)), some (qI (m3 49 6)), some (qI (tA t L p3)), some (qI (tC t L p4)), none]) (st' := [qI 1, qI (tD t L p1)]) rfl ?_
          refine qJ.icmp_ne hκ (tgt := 110) rfl rfl (by omega) (by omega) (fun c97 => ?_) (fun c97 => ?_)
          · show qJ YX5_readLine κ _ (qLy u, (q_up (q_up (q_up m6 49 0 ((m6 49 0) + 1)) 49 9 c86_) 49 10 d86_), y) 0 0 110 [some (qR 49), some (qI (m 49 6)), some (qI (tC t L p)), some (qI (tD t L p1)), some (qI (m3 49 6)), some (qI (tA t L p3)), some (qI (tC t L p4)), none] []
            refine qJ.run hκ 3 (pc' := 114) (ls' := [some (qR 49), some (qI (m 49 6)), some (qI (tC t L p)), some (qI (tD t L p1)), some (qI (m3 49 6)), some (qI (tA t L p3)), some (qI (tC t L p4)), none]) (st' := [qI (m3 49 6), qI 2, qR 49]) rfl ?_
            refine qJ.callV (As := [qI 2, qI (m3 49 6)]) (rest := []) hκ rfl kX5_85 (c_note u (q_up (q_up (q_up m6 49 0 ((m6 49 0) + 1)) 49 9 c86_) 49 10 d86_) y 2 (m3 49 6) (show 0 ≤ c86_ ∧ c86_ ≤ 3 from by omega)) rfl rfl (by decide) rfl rfl (Nat.le_of_ble_eq_true rfl) (Nat.le_of_ble_eq_true rfl) (Nat.le_of_ble_eq_true rfl) (Or.inl (fun r h' e => by obtain ⟨rfl, c114_, d114_, rfl, H114⟩ := e; rfl)) (fun r h' e => ?_)
            obtain ⟨rfl, c114_, d114_, rfl, H114⟩ := e
            have G114 : (c86_ = 0 ∧ c114_ = 2 ∧ d114_ = m3 49 6) ∨ (¬ c86_ = 0 ∧ c114_ = c86_ ∧ d114_ = d86_) := H114
            show qJ YX5_readLine κ _ (qLy u, (q_up (q_up (q_up (q_up (q_up m6 49 0 ((m6 49 0) + 1)) 49 9 c86_) 49 10 d86_) 49 9 c114_) 49 10 d114_), y) 0 0 117 [some (qR 49), some (qI (m 49 6)), some (qI (tC t L p)), some (qI (tD t L p1)), some (qI (m3 49 6)), some (qI (tA t L p3)), some (qI (tC t L p4)), none] []
            refine qJ.dl [true, false, true, true, false, true, true, false] ?_
            show qJ YX5_readLine κ _ (qLy u, (q_up (q_up (q_up (q_up (q_up m6 49 0 ((m6 49 0) + 1)) 49 9 c86_) 49 10 d86_) 49 9 c114_) 49 10 d114_), y) 0 0 117 [some (qR 49), none, some (qI (tC t L p)), some (qI (tD t L p1)), none, some (qI (tA t L p3)), some (qI (tC t L p4)), none] []
            exact L117 1 (q_up (q_up (q_up (q_up (q_up m6 49 0 ((m6 49 0) + 1)) 49 9 c86_) 49 10 d86_) 49 9 c114_) 49 10 d114_) (tC t L p) (tD t L p1) (tA t L p3) (tC t L p4) (rfl) (by rw [gp1]) (by rw [gp3]) (Eq.symm (by unfold lO; rw [← gp3, if_pos c36, G.2.2.2.2.1, gp3])) (G.1) (by omega) (by omega) (Eq.trans (Eq.trans (keep_up (by rfl)) (Eq.trans (keep_up (by rfl)) (Eq.trans (keep_up (by rfl)) (Eq.trans (keep_up (by rfl)) (Eq.trans (keep_up (by rfl)) rfl))))) (keep_of kRdl KP)) (by
      have A9 : m9a m = c86_ := by unfold m9a; rw [← e0, ← e9]; rcases G86 with q | q; (rw [if_pos ⟨q.1, by omega⟩]; exact q.2.1.symm); (rw [if_neg (fun z => q.1 z.1)]; exact q.2.1.symm)
      have A10 : m10a m (tS t L p) = d86_ := by unfold m10a; rw [← e0, ← e9, ← e10]; rcases G86 with q | q; (rw [if_pos ⟨q.1, by omega⟩, ← s6]; exact q.2.2.symm); (rw [if_neg (fun z => q.1 z.1)]; exact q.2.2.symm)
      have bd : lBad (tA t L p3) (tD t L p1) := by show (_ ∧ _) ∨ _; omega
      rw [← gp3, ← gp1, A9, A10]
      refine ⟨RD, by show m6 49 0 + 1 = _; rw [e0], ⟨?_, ?_⟩⟩
      · show c114_ = _
        rcases G114 with q | q; (rw [if_pos ⟨q.1, bd⟩]; exact q.2.1); (rw [if_neg (fun z => q.1 z.1)]; exact q.2.1)
      · show d114_ = _
        rcases G114 with q | q; (rw [if_pos ⟨q.1, bd⟩, ← s63]; exact q.2.2); (rw [if_neg (fun z => q.1 z.1)]; exact q.2.2)) (⟨e50, e51⟩) (by omega)
          · show qJ YX5_readLine κ _ (qLy u, (q_up (q_up (q_up m6 49 0 ((m6 49 0) + 1)) 49 9 c86_) 49 10 d86_), y) 0 0 100 [some (qR 49), some (qI (m 49 6)), some (qI (tC t L p)), some (qI (tD t L p1)), some (qI (m3 49 6)), some (qI (tA t L p3)), some (qI (tC t L p4)), none] []
            refine qJ.run hκ 2 (pc' := 103) (ls' := [some (qR 49), some (qI (m 49 6)), some (qI (tC t L p)), some (qI (tD t L p1)), some (qI (m3 49 6)), some (qI (tA t L p3)), some (qI (tC t L p4)), none]) (st' := [qI 2, qI (tA t L p3)]) rfl ?_
            refine qJ.icmp_ne hκ (tgt := 117) rfl rfl (by omega) (by omega) (fun c103 => ?_) (fun c103 => ?_)
            · show qJ YX5_readLine κ _ (qLy u, (q_up (q_up (q_up m6 49 0 ((m6 49 0) + 1)) 49 9 c86_) 49 10 d86_), y) 0 0 117 [some (qR 49), some (qI (m 49 6)), some (qI (tC t L p)), some (qI (tD t L p1)), some (qI (m3 49 6)), some (qI (tA t L p3)), some (qI (tC t L p4)), none] []
              refine qJ.dl [true, false, true, true, false, true, true, false] ?_
              show qJ YX5_readLine κ _ (qLy u, (q_up (q_up (q_up m6 49 0 ((m6 49 0) + 1)) 49 9 c86_) 49 10 d86_), y) 0 0 117 [some (qR 49), none, some (qI (tC t L p)), some (qI (tD t L p1)), none, some (qI (tA t L p3)), some (qI (tC t L p4)), none] []
              exact L117 1 (q_up (q_up (q_up m6 49 0 ((m6 49 0) + 1)) 49 9 c86_) 49 10 d86_) (tC t L p) (tD t L p1) (tA t L p3) (tC t L p4) (rfl) (by rw [gp1]) (by rw [gp3]) (Eq.symm (by unfold lO; rw [← gp3, if_pos c36, G.2.2.2.2.1, gp3])) (G.1) (by omega) (by omega) (Eq.trans (Eq.trans (keep_up (by rfl)) (Eq.trans (keep_up (by rfl)) (Eq.trans (keep_up (by rfl)) rfl))) (keep_of kRdl KP)) (by
      have A9 : m9a m = c86_ := by unfold m9a; rw [← e0, ← e9]; rcases G86 with q | q; (rw [if_pos ⟨q.1, by omega⟩]; exact q.2.1.symm); (rw [if_neg (fun z => q.1 z.1)]; exact q.2.1.symm)
      have A10 : m10a m (tS t L p) = d86_ := by unfold m10a; rw [← e0, ← e9, ← e10]; rcases G86 with q | q; (rw [if_pos ⟨q.1, by omega⟩, ← s6]; exact q.2.2.symm); (rw [if_neg (fun z => q.1 z.1)]; exact q.2.2.symm)
      have bd : ¬ lBad (tA t L p3) (tD t L p1) := fun z => by rcases z with z | z <;> omega
      rw [← gp3, ← gp1, A9, A10]
      refine ⟨RD, by show m6 49 0 + 1 = _; rw [e0], ⟨?_, ?_⟩⟩
      · show c86_ = _
        rw [if_neg (fun z => bd z.2)]
      · show d86_ = _
        rw [if_neg (fun z => bd z.2)]) (⟨e50, e51⟩) (by omega)
            · show qJ YX5_readLine κ _ (qLy u, (q_up (q_up (q_up m6 49 0 ((m6 49 0) + 1)) 49 9 c86_) 49 10 d86_), y) 0 0 106 [some (qR 49), some (qI (m 49 6)), some (qI (tC t L p)), some (qI (tD t L p1)), some (qI (m3 49 6)), some (qI (tA t L p3)), some (qI (tC t L p4)), none] []
              refine qJ.run hκ 1 (pc' := 107) (ls' := [some (qR 49), some (qI (m 49 6)), some (qI (tC t L p)), some (qI (tD t L p1)), some (qI (m3 49 6)), some (qI (tA t L p3)), some (qI (tC t L p4)), none]) (st' := [qI (tD t L p1)]) rfl ?_
              refine qJ.if_ne hκ (tgt := 117) rfl rfl (by omega) (fun c107 => ?_) (fun c107 => ?_)
              · show qJ YX5_readLine κ _ (qLy u, (q_up (q_up (q_up m6 49 0 ((m6 49 0) + 1)) 49 9 c86_) 49 10 d86_), y) 0 0 117 [some (qR 49), some (qI (m 49 6)), some (qI (tC t L p)), some (qI (tD t L p1)), some (qI (m3 49 6)), some (qI (tA t L p3)), some (qI (tC t L p4)), none] []
                refine qJ.dl [true, false, true, true, false, true, true, false] ?_
                show qJ YX5_readLine κ _ (qLy u, (q_up (q_up (q_up m6 49 0 ((m6 49 0) + 1)) 49 9 c86_) 49 10 d86_), y) 0 0 117 [some (qR 49), none, some (qI (tC t L p)), some (qI (tD t L p1)), none, some (qI (tA t L p3)), some (qI (tC t L p4)), none] []
                exact L117 1 (q_up (q_up (q_up m6 49 0 ((m6 49 0) + 1)) 49 9 c86_) 49 10 d86_) (tC t L p) (tD t L p1) (tA t L p3) (tC t L p4) (rfl) (by rw [gp1]) (by rw [gp3]) (Eq.symm (by unfold lO; rw [← gp3, if_pos c36, G.2.2.2.2.1, gp3])) (G.1) (by omega) (by omega) (Eq.trans (Eq.trans (keep_up (by rfl)) (Eq.trans (keep_up (by rfl)) (Eq.trans (keep_up (by rfl)) rfl))) (keep_of kRdl KP)) (by
      have A9 : m9a m = c86_ := by unfold m9a; rw [← e0, ← e9]; rcases G86 with q | q; (rw [if_pos ⟨q.1, by omega⟩]; exact q.2.1.symm); (rw [if_neg (fun z => q.1 z.1)]; exact q.2.1.symm)
      have A10 : m10a m (tS t L p) = d86_ := by unfold m10a; rw [← e0, ← e9, ← e10]; rcases G86 with q | q; (rw [if_pos ⟨q.1, by omega⟩, ← s6]; exact q.2.2.symm); (rw [if_neg (fun z => q.1 z.1)]; exact q.2.2.symm)
      have bd : ¬ lBad (tA t L p3) (tD t L p1) := fun z => by rcases z with z | z <;> omega
      rw [← gp3, ← gp1, A9, A10]
      refine ⟨RD, by show m6 49 0 + 1 = _; rw [e0], ⟨?_, ?_⟩⟩
      · show c86_ = _
        rw [if_neg (fun z => bd z.2)]
      · show d86_ = _
        rw [if_neg (fun z => bd z.2)]) (⟨e50, e51⟩) (by omega)
              · show qJ YX5_readLine κ _ (qLy u, (q_up (q_up (q_up m6 49 0 ((m6 49 0) + 1)) 49 9 c86_) 49 10 d86_), y) 0 0 110 [some (qR 49), some (qI (m 49 6)), some (qI (tC t L p)), some (qI (tD t L p1)), some (qI (m3 49 6)), some (qI (tA t L p3)), some (qI (tC t L p4)), none] []
                refine qJ.run hκ 3 (pc' := 114) (ls' := [some (qR 49), some (qI (m 49 6)), some (qI (tC t L p)), some (qI (tD t L p1)), some (qI (m3 49 6)), some (qI (tA t L p3)), some (qI (tC t L p4)), none]) (st' := [qI (m3 49 6), qI 2, qR 49]) rfl ?_
                refine qJ.callV (As := [qI 2, qI (m3 49 6)]) (rest := []) hκ rfl kX5_85 (c_note u (q_up (q_up (q_up m6 49 0 ((m6 49 0) + 1)) 49 9 c86_) 49 10 d86_) y 2 (m3 49 6) (show 0 ≤ c86_ ∧ c86_ ≤ 3 from by omega)) rfl rfl (by decide) rfl rfl (Nat.le_of_ble_eq_true rfl) (Nat.le_of_ble_eq_true rfl) (Nat.le_of_ble_eq_true rfl) (Or.inl (fun r h' e => by obtain ⟨rfl, c114_, d114_, rfl, H114⟩ := e; rfl)) (fun r h' e => ?_)
                obtain ⟨rfl, c114_, d114_, rfl, H114⟩ := e
                have G114 : (c86_ = 0 ∧ c114_ = 2 ∧ d114_ = m3 49 6) ∨ (¬ c86_ = 0 ∧ c114_ = c86_ ∧ d114_ = d86_) := H114
                show qJ YX5_readLine κ _ (qLy u, (q_up (q_up (q_up (q_up (q_up m6 49 0 ((m6 49 0) + 1)) 49 9 c86_) 49 10 d86_) 49 9 c114_) 49 10 d114_), y) 0 0 117 [some (qR 49), some (qI (m 49 6)), some (qI (tC t L p)), some (qI (tD t L p1)), some (qI (m3 49 6)), some (qI (tA t L p3)), some (qI (tC t L p4)), none] []
                refine qJ.dl [true, false, true, true, false, true, true, false] ?_
                show qJ YX5_readLine κ _ (qLy u, (q_up (q_up (q_up (q_up (q_up m6 49 0 ((m6 49 0) + 1)) 49 9 c86_) 49 10 d86_) 49 9 c114_) 49 10 d114_), y) 0 0 117 [some (qR 49), none, some (qI (tC t L p)), some (qI (tD t L p1)), none, some (qI (tA t L p3)), some (qI (tC t L p4)), none] []
                exact L117 1 (q_up (q_up (q_up (q_up (q_up m6 49 0 ((m6 49 0) + 1)) 49 9 c86_) 49 10 d86_) 49 9 c114_) 49 10 d114_) (tC t L p) (tD t L p1) (tA t L p3) (tC t L p4) (rfl) (by rw [gp1]) (by rw [gp3]) (Eq.symm (by unfold lO; rw [← gp3, if_pos c36, G.2.2.2.2.1, gp3])) (G.1) (by omega) (by omega) (Eq.trans (Eq.trans (keep_up (by rfl)) (Eq.trans (keep_up (by rfl)) (Eq.trans (keep_up (by rfl)) (Eq.trans (keep_up (by rfl)) (Eq.trans (keep_up (by rfl)) rfl))))) (keep_of kRdl KP)) (by
      have A9 : m9a m = c86_ := by unfold m9a; rw [← e0, ← e9]; rcases G86 with q | q; (rw [if_pos ⟨q.1, by omega⟩]; exact q.2.1.symm); (rw [if_neg (fun z => q.1 z.1)]; exact q.2.1.symm)
      have A10 : m10a m (tS t L p) = d86_ := by unfold m10a; rw [← e0, ← e9, ← e10]; rcases G86 with q | q; (rw [if_pos ⟨q.1, by omega⟩, ← s6]; exact q.2.2.symm); (rw [if_neg (fun z => q.1 z.1)]; exact q.2.2.symm)
      have bd : lBad (tA t L p3) (tD t L p1) := by show (_ ∧ _) ∨ _; omega
      rw [← gp3, ← gp1, A9, A10]
      refine ⟨RD, by show m6 49 0 + 1 = _; rw [e0], ⟨?_, ?_⟩⟩
      · show c114_ = _
        rcases G114 with q | q; (rw [if_pos ⟨q.1, bd⟩]; exact q.2.1); (rw [if_neg (fun z => q.1 z.1)]; exact q.2.1)
      · show d114_ = _
        rcases G114 with q | q; (rw [if_pos ⟨q.1, bd⟩, ← s63]; exact q.2.2); (rw [if_neg (fun z => q.1 z.1)]; exact q.2.2)) (⟨e50, e51⟩) (by omega)
    · show qJ YX5_readLine κ _ (qLy u, m6, y) 0 0 63 [some (qR 49), some (qI (m 49 6)), some (qI (tC t L p)), some (qI (tD t L p1)), some (qI (m3 49 6)), some (qI (tA t L p3)), some (qI (tC t L p4)), none] []
      have CH := ln_as hp N1.2 N2.2 N3.2 N4.2 N5.2 N6.2 c36
      have k8 := N6.1.2.1.2.1.1
      have KP : keep (kN kRd) m6 = keep (kN kRd) m := (((((N6.1.1.trans N5.1.1).trans N4.1.1).trans N3.1.1).trans N2.1.1).trans N1.1.1)
      exact qJ.vret hκ rfl rfl (by decide) (by decide) (⟨rfl, _, rfl, keep_of kRdl KP, Or.inl (by rcases CH with q | q; exact absurd (k8.trans q.1) c60; exact ⟨by rw [← q.2]; exact q.1, k8.trans q.2, congrFun (congrFun KP 49) 9⟩)⟩)

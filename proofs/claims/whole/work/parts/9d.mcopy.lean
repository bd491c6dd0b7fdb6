/-! printed by p102.py: copy of the model -/
def cpA (f t : Int) (m M : qM) : Prop := cpQ 1 400 f t (m 78) (M 78) ∧ cpR 1 f t (m 79) (M 79) ∧ cpR 1 f t (m 80) (M 80) ∧ cpR 1 f t (m 81) (M 81) ∧ cpR 1 f t (m 82) (M 82) ∧ cpR 1 f t (m 83) (M 83) ∧ cpR 1 f t (m 84) (M 84) ∧ cpR 1 f t (m 85) (M 85) ∧ cpR 1 f t (m 86) (M 86) ∧ cpR 300 f t (m 87) (M 87) ∧ cpR 60 f t (m 88) (M 88) ∧ cpR 60 f t (m 89) (M 89) ∧ cpR 60 f t (m 90) (M 90)

def cpC (f t : Int) (m M : qM) : Prop := cpQ 2 60 f t (m 91) (M 91) ∧ cpR 1 f t (m 92) (M 92) ∧ cpR 150 f t (m 93) (M 93) ∧ cpR 150 f t (m 94) (M 94) ∧ cpR 150 f t (m 95) (M 95) ∧ cpR 1 f t (m 96) (M 96) ∧ cpR 10 f t (m 97) (M 97) ∧ cpR 300 f t (m 98) (M 98) ∧ cpR 10 f t (m 99) (M 99)

def cpE (f t : Int) (m M : qM) : Prop := cpR 1 f t (m 101) (M 101) ∧ cpR 5 f t (m 102) (M 102) ∧ cpR 5 f t (m 103) (M 103) ∧ cpQ 1 50 f t (m 104) (M 104) ∧ cpR 1 f t (m 105) (M 105) ∧ cpR 64 f t (m 106) (M 106)

/-- the totals: an account's first cells -/
def cpT (f t : Int) (m M : qM) : Prop := (∀ a : Int, 0 ≤ a → a < 10 → ∀ j : Int, 0 ≤ j → j < 5 * m 99 (10 * f + a).toNat → M 100 (5000 * (10 * t + a) + j).toNat = q_nar 3 (m 100 (5000 * (10 * f + a) + j).toNat)) ∧ ∀ j : Nat, ¬ (50000 * t ≤ (j : Int) ∧ (j : Int) < 50000 * t + 50000) → M 100 j = m 100 j
def kC1 : Nat → Nat → Bool := fun i _ => decide (78 ≤ i ∧ i ≤ 90)
def kC2 : Nat → Nat → Bool := fun i _ => decide (78 ≤ i ∧ i ≤ 99)
def kC3 : Nat → Nat → Bool := fun i _ => decide (78 ≤ i ∧ i ≤ 100)
def kCp : Nat → Nat → Bool := fun i _ => decide (78 ≤ i ∧ i ≤ 106)
theorem kC21 : ∀ i j, kN kC2 i j = true → kN kC1 i j = true := by
  intro i j h
  refine kN_t.mpr fun z => kN_t.mp h ?_
  unfold kC1 at z
  unfold kC2
  rw [decide_eq_true_eq] at z ⊢
  omega
theorem kC32 : ∀ i j, kN kC3 i j = true → kN kC2 i j = true := by
  intro i j h
  refine kN_t.mpr fun z => kN_t.mp h ?_
  unfold kC2 at z
  unfold kC3
  rw [decide_eq_true_eq] at z ⊢
  omega
theorem kCp3 : ∀ i j, kN kCp i j = true → kN kC3 i j = true := by
  intro i j h
  refine kN_t.mpr fun z => kN_t.mp h ?_
  unfold kC3 at z
  unfold kCp
  rw [decide_eq_true_eq] at z ⊢
  omega

set_option maxRecDepth 100000 in
theorem m_copy (u : qU) (m y : qM) (f t : Int) (hf : 0 ≤ f ∧ f ≤ 3) (ht : 0 ≤ t ∧ t ≤ 3) (hft : ¬ f = t) (h99 : ∀ a : Int, 0 ≤ a → a < 10 → 0 ≤ m 99 (10 * f + a).toNat ∧ m 99 (10 * f + a).toNat ≤ 1000) : qCt YX12_copy 2 0 0 [qR 77, qI f, qI t] (qLy u, m, y) (fun r h => r = none ∧ ∃ m', h = (qLy u, m', y) ∧ keep (kN kCp) m' = keep (kN kCp) m ∧ cpA f t m m' ∧ cpC f t m m' ∧ cpT f t m m' ∧ cpE f t m m') := by
  refine qCt.intro okX12_copy (Nat.le_of_ble_eq_true rfl) (fun κ hκ => ?_)
  have L265 : ∀ (n : Nat) (a : Int) (M6 : qM) (r : Nat → Int), (0 ≤ a ∧ a ≤ 10) → (keep (kN kC2) M6 = keep (kN kC2) m) → (cpA f t m M6) → (cpC f t m M6) → ((∀ b : Int, 0 ≤ b → b < a → ∀ j : Int, 0 ≤ j → j < 5 * m 99 (10 * f + b).toNat → r (5000 * (10 * t + b) + j).toNat = q_nar 3 (m 100 (5000 * (10 * f + b) + j).toNat)) ∧ ∀ j : Nat, ¬ (50000 * t ≤ (j : Int) ∧ (j : Int) < 50000 * t + 5000 * a) → r j = m 100 j) → ((10 - a).toNat) < n → qJ YX12_copy κ (qFin (fun r h => r = none ∧ ∃ m', h = (qLy u, m', y) ∧ keep (kN kCp) m' = keep (kN kCp) m ∧ cpA f t m m' ∧ cpC f t m m' ∧ cpT f t m m' ∧ cpE f t m m') 0 0 κ) (qLy u, (q_row M6 100 r), y) 0 0 265 [some (qR 77), some (qI f), some (qI t), some (qI a), none] [] := by
    intro n
    induction n with
    | zero => intro a M6 r _ _ _ _ _ hz0; omega
    | succ n ih265 =>
      intro a M6 r v265_0 v265_1 v265_2 v265_3 v265_4 v265_m
      have L274 : ∀ (n : Nat) (k : Int) (r : Nat → Int), (0 ≤ k ∧ k ≤ 5 * m 99 (10 * f + a).toNat) → (a < 10) → ((∀ b : Int, 0 ≤ b → b < a → ∀ j : Int, 0 ≤ j → j < 5 * m 99 (10 * f + b).toNat → r (5000 * (10 * t + b) + j).toNat = q_nar 3 (m 100 (5000 * (10 * f + b) + j).toNat)) ∧ ∀ j : Nat, ¬ (50000 * t ≤ (j : Int) ∧ (j : Int) < 50000 * t + 5000 * a + k) → r j = m 100 j) → (∀ j : Int, 0 ≤ j → j < k → r (5000 * (10 * t + a) + j).toNat = q_nar 3 (m 100 (5000 * (10 * f + a) + j).toNat)) → ((5 * m 99 (10 * f + a).toNat - k).toNat) < n → qJ YX12_copy κ (qFin (fun r h => r = none ∧ ∃ m', h = (qLy u, m', y) ∧ keep (kN kCp) m' = keep (kN kCp) m ∧ cpA f t m m' ∧ cpC f t m m' ∧ cpT f t m m' ∧ cpE f t m m') 0 0 κ) (qLy u, (q_row M6 100 r), y) 0 0 274 [some (qR 77), some (qI f), some (qI t), some (qI a), some (qI k)] [] := by
        intro n
        induction n with
        | zero => intro k r _ _ _ _ hz0; omega
        | succ n ih274 =>
          intro k r v274_0 v274_1 v274_2 v274_3 v274_m
          have t9 : M6 99 ((10 * f) + a).toNat = m 99 (10 * f + a).toNat := (v265_3.2.2.2.2.2.2.2.2).2 _ (by omega)
          have t8 := h99 a (by omega) (by omega)
          refine qJ.run hκ 9 (pc' := 287) (ls' := [some (qR 77), some (qI f), some (qI t), some (qI a), some (qI k)]) (st' := [qI ((10 * f) + a), qR 99, qI 5, qI k]) rfl ?_
          refine qJ.ald hκ rfl rfl rfl (by decide) (by omega) ?_
          show qJ YX12_copy κ _ (qLy u, (q_row M6 100 r), y) 0 0 288 [some (qR 77), some (qI f), some (qI t), some (qI a), some (qI k)] [qI (M6 99 (((10 * f) + a).toNat)), qI 5, qI k]
          refine qJ.run hκ 1 (pc' := 289) (ls' := [some (qR 77), some (qI f), some (qI t), some (qI a), some (qI k)]) (st' := [qI (5 * (M6 99 (((10 * f) + a).toNat))), qI k]) rfl ?_
          refine qJ.icmp_ge hκ (tgt := 334) rfl rfl (by omega) (by omega) (fun c289 => ?_) (fun c289 => ?_)
          · show qJ YX12_copy κ _ (qLy u, (q_row M6 100 r), y) 0 0 334 [some (qR 77), some (qI f), some (qI t), some (qI a), some (qI k)] []
            refine qJ.run hκ 2 (pc' := 265) (ls' := [some (qR 77), some (qI f), some (qI t), some (qI (a + 1)), some (qI k)]) (st' := []) rfl ?_
            refine qJ.dl [true, true, true, true, false] ?_
            show qJ YX12_copy κ _ (qLy u, (q_row M6 100 r), y) 0 0 265 [some (qR 77), some (qI f), some (qI t), some (qI (a + 1)), none] []
            exact qJ.cast (ih265  (a + 1) M6 r (by omega) (v265_1) (v265_2) (v265_3) (⟨fun b b0 b1 j j0 j1 => by
          by_cases e : b = a
          · rw [e] at j1 ⊢; exact v274_3 j j0 (by omega)
          · exact v274_2.1 b b0 (by omega) j j0 j1, fun j hj => v274_2.2 j (by omega)⟩) (by omega)) (rfl) rfl rfl
          · show qJ YX12_copy κ _ (qLy u, (q_row M6 100 r), y) 0 0 292 [some (qR 77), some (qI f), some (qI t), some (qI a), some (qI k)] []
            refine qJ.run hκ 22 (pc' := 326) (ls' := [some (qR 77), some (qI f), some (qI t), some (qI a), some (qI k)]) (st' := [qI ((5000 * ((10 * f) + a)) + k), qR 100, qI ((5000 * ((10 * t) + a)) + k), qR 100]) rfl ?_
            refine qJ.ald hκ rfl rfl rfl (by decide) (by omega) ?_
            show qJ YX12_copy κ _ (qLy u, (q_row M6 100 r), y) 0 0 327 [some (qR 77), some (qI f), some (qI t), some (qI a), some (qI k)] [qI (r (((5000 * ((10 * f) + a)) + k).toNat)), qI ((5000 * ((10 * t) + a)) + k), qR 100]
            refine qJ.ast hκ rfl rfl rfl (by decide) (by omega) ?_
            refine qJ.mc (m1 := (q_up (q_row M6 100 r) 100 (((5000 * ((10 * t) + a)) + k).toNat) (q_nar 3 (r (((5000 * ((10 * f) + a)) + k).toNat))))) (m2 := (q_row M6 100 (q_fu r (((5000 * ((10 * t) + a)) + k).toNat) (q_nar 3 (r (((5000 * ((10 * f) + a)) + k).toNat)))))) (by rw [q_up_row_eq]) ?_
            show qJ YX12_copy κ _ (qLy u, (q_row M6 100 (q_fu r (((5000 * ((10 * t) + a)) + k).toNat) (q_nar 3 (r (((5000 * ((10 * f) + a)) + k).toNat))))), y) 0 0 328 [some (qR 77), some (qI f), some (qI t), some (qI a), some (qI k)] []
            refine qJ.run hκ 2 (pc' := 274) (ls' := [some (qR 77), some (qI f), some (qI t), some (qI a), some (qI (k + 1))]) (st' := []) rfl ?_
            exact ih274  (k + 1) (q_fu r (((5000 * ((10 * t) + a)) + k).toNat) (q_nar 3 (r (((5000 * ((10 * f) + a)) + k).toNat)))) (by omega) (v274_1) (⟨fun b b0 b1 j j0 j1 => by
          have := h99 b b0 (by omega)
          rw [q_fu_ne (by omega)]; exact v274_2.1 b b0 b1 j j0 j1, fun j hj => by rw [q_fu_ne (by omega)]; exact v274_2.2 j (by omega)⟩) (fun j j0 j1 => by
          by_cases e : j = k
          · rw [e, q_fu_eq, v274_2.2 (5000 * (10 * f + a) + k).toNat (by omega)]
          · rw [q_fu_ne (by omega)]; exact v274_3 j j0 (by omega)) (by omega)
      refine qJ.run hκ 2 (pc' := 268) (ls' := [some (qR 77), some (qI f), some (qI t), some (qI a), none]) (st' := [qI 10, qI a]) rfl ?_
      refine qJ.icmp_ge hκ (tgt := 340) rfl rfl (by omega) (by omega) (fun c268 => ?_) (fun c268 => ?_)
      · show qJ YX12_copy κ _ (qLy u, (q_row M6 100 r), y) 0 0 340 [some (qR 77), some (qI f), some (qI t), some (qI a), none] []
        refine qJ.run hκ 5 (pc' := 347) (ls' := [some (qR 77), some (qI f), some (qI t), some (qI a), none]) (st' := [qI t, qI f, qI 1, qR 101]) rfl ?_
        refine qJ.callS (As := [qR 101, qI 1, qI f, qI t]) (rest := []) hκ rfl kX12_163 (c_mv101 u (q_row M6 100 r) y f t hf ht hft) (by decide) rfl rfl (Nat.le_of_ble_eq_true rfl) (Nat.le_of_ble_eq_true rfl) (Nat.le_of_ble_eq_true rfl) (Or.inl (fun r h' e => by obtain ⟨rfl, g101, rfl, G101⟩ := e; rfl)) (fun r h' e => ?_)
        obtain ⟨rfl, g101, rfl, G101⟩ := e
        show qJ YX12_copy κ _ (qLy u, (q_row (q_row M6 100 r) 101 g101), y) 0 0 350 [some (qR 77), some (qI f), some (qI t), some (qI a), none] []
        refine qJ.run hκ 5 (pc' := 357) (ls' := [some (qR 77), some (qI f), some (qI t), some (qI a), none]) (st' := [qI t, qI f, qI 5, qR 102]) rfl ?_
        refine qJ.callS (As := [qR 102, qI 5, qI f, qI t]) (rest := []) hκ rfl kX12_163 (c_mv102 u (q_row (q_row M6 100 r) 101 g101) y f t hf ht hft) (by decide) rfl rfl (Nat.le_of_ble_eq_true rfl) (Nat.le_of_ble_eq_true rfl) (Nat.le_of_ble_eq_true rfl) (Or.inl (fun r h' e => by obtain ⟨rfl, g102, rfl, G102⟩ := e; rfl)) (fun r h' e => ?_)
        obtain ⟨rfl, g102, rfl, G102⟩ := e
        show qJ YX12_copy κ _ (qLy u, (q_row (q_row (q_row M6 100 r) 101 g101) 102 g102), y) 0 0 360 [some (qR 77), some (qI f), some (qI t), some (qI a), none] []
        refine qJ.run hκ 5 (pc' := 367) (ls' := [some (qR 77), some (qI f), some (qI t), some (qI a), none]) (st' := [qI t, qI f, qI 5, qR 103]) rfl ?_
        refine qJ.callS (As := [qR 103, qI 5, qI f, qI t]) (rest := []) hκ rfl kX12_163 (c_mv103 u (q_row (q_row (q_row M6 100 r) 101 g101) 102 g102) y f t hf ht hft) (by decide) rfl rfl (Nat.le_of_ble_eq_true rfl) (Nat.le_of_ble_eq_true rfl) (Nat.le_of_ble_eq_true rfl) (Or.inl (fun r h' e => by obtain ⟨rfl, g103, rfl, G103⟩ := e; rfl)) (fun r h' e => ?_)
        obtain ⟨rfl, g103, rfl, G103⟩ := e
        show qJ YX12_copy κ _ (qLy u, (q_row (q_row (q_row (q_row M6 100 r) 101 g101) 102 g102) 103 g103), y) 0 0 370 [some (qR 77), some (qI f), some (qI t), some (qI a), none] []
        refine qJ.run hκ 5 (pc' := 378) (ls' := [some (qR 77), some (qI f), some (qI t), some (qI a), none]) (st' := [qI t, qI f, qI 50, qR 104]) rfl ?_
        refine qJ.callS (As := [qR 104, qI 50, qI f, qI t]) (rest := []) hκ rfl kX12_159 (c_mv104 u (q_row (q_row (q_row (q_row M6 100 r) 101 g101) 102 g102) 103 g103) y f t hf ht hft) (by decide) rfl rfl (Nat.le_of_ble_eq_true rfl) (Nat.le_of_ble_eq_true rfl) (Nat.le_of_ble_eq_true rfl) (Or.inl (fun r h' e => by obtain ⟨rfl, g104, rfl, G104⟩ := e; rfl)) (fun r h' e => ?_)
        obtain ⟨rfl, g104, rfl, G104⟩ := e
        show qJ YX12_copy κ _ (qLy u, (q_row (q_row (q_row (q_row (q_row M6 100 r) 101 g101) 102 g102) 103 g103) 104 g104), y) 0 0 381 [some (qR 77), some (qI f), some (qI t), some (qI a), none] []
        refine qJ.run hκ 5 (pc' := 388) (ls' := [some (qR 77), some (qI f), some (qI t), some (qI a), none]) (st' := [qI t, qI f, qI 1, qR 105]) rfl ?_
        refine qJ.callS (As := [qR 105, qI 1, qI f, qI t]) (rest := []) hκ rfl kX12_163 (c_mv105 u (q_row (q_row (q_row (q_row (q_row M6 100 r) 101 g101) 102 g102) 103 g103) 104 g104) y f t hf ht hft) (by decide) rfl rfl (Nat.le_of_ble_eq_true rfl) (Nat.le_of_ble_eq_true rfl) (Nat.le_of_ble_eq_true rfl) (Or.inl (fun r h' e => by obtain ⟨rfl, g105, rfl, G105⟩ := e; rfl)) (fun r h' e => ?_)
        obtain ⟨rfl, g105, rfl, G105⟩ := e
        show qJ YX12_copy κ _ (qLy u, (q_row (q_row (q_row (q_row (q_row (q_row M6 100 r) 101 g101) 102 g102) 103 g103) 104 g104) 105 g105), y) 0 0 391 [some (qR 77), some (qI f), some (qI t), some (qI a), none] []
        refine qJ.run hκ 5 (pc' := 399) (ls' := [some (qR 77), some (qI f), some (qI t), some (qI a), none]) (st' := [qI t, qI f, qI 64, qR 106]) rfl ?_
        refine qJ.callS (As := [qR 106, qI 64, qI f, qI t]) (rest := []) hκ rfl kX12_163 (c_mv106 u (q_row (q_row (q_row (q_row (q_row (q_row M6 100 r) 101 g101) 102 g102) 103 g103) 104 g104) 105 g105) y f t hf ht hft) (by decide) rfl rfl (Nat.le_of_ble_eq_true rfl) (Nat.le_of_ble_eq_true rfl) (Nat.le_of_ble_eq_true rfl) (Or.inl (fun r h' e => by obtain ⟨rfl, g106, rfl, G106⟩ := e; rfl)) (fun r h' e => ?_)
        obtain ⟨rfl, g106, rfl, G106⟩ := e
        show qJ YX12_copy κ _ (qLy u, (q_row (q_row (q_row (q_row (q_row (q_row (q_row M6 100 r) 101 g101) 102 g102) 103 g103) 104 g104) 105 g105) 106 g106), y) 0 0 402 [some (qR 77), some (qI f), some (qI t), some (qI a), none] []
        exact qJ.vret hκ rfl rfl (by decide) (by decide) (by
      have f1 : ∀ a, 101 ≤ a → M6 a = m a := fun a ha => funext fun j => keep_at v265_1 (by unfold kN kC2; rw [decide_eq_false (by omega)]; rfl)
      refine ⟨rfl, _, rfl, (Eq.trans (keep_row (by intro j; rfl)) (Eq.trans (keep_row (by intro j; rfl)) (Eq.trans (keep_row (by intro j; rfl)) (Eq.trans (keep_row (by intro j; rfl)) (Eq.trans (keep_row (by intro j; rfl)) (Eq.trans (keep_row (by intro j; rfl)) (Eq.trans (keep_row (by intro j; rfl)) (keep_of kCp3 (keep_of kC32 v265_1))))))))), v265_2, v265_3, ⟨fun b b0 b1 => v265_4.1 b b0 (by omega), fun j hj => v265_4.2 j (by omega)⟩, ?_, ?_, ?_, ?_, ?_, ?_⟩
      · have G := G101
        rw [show (q_row M6 100 r) 101 = m 101 from f1 101 (by decide)] at G
        exact G
      · have G := G102
        rw [show (q_row (q_row M6 100 r) 101 g101) 102 = m 102 from f1 102 (by decide)] at G
        exact G
      · have G := G103
        rw [show (q_row (q_row (q_row M6 100 r) 101 g101) 102 g102) 103 = m 103 from f1 103 (by decide)] at G
        exact G
      · have G := G104
        rw [show (q_row (q_row (q_row (q_row M6 100 r) 101 g101) 102 g102) 103 g103) 104 = m 104 from f1 104 (by decide)] at G
        exact G
      · have G := G105
        rw [show (q_row (q_row (q_row (q_row (q_row M6 100 r) 101 g101) 102 g102) 103 g103) 104 g104) 105 = m 105 from f1 105 (by decide)] at G
        exact G
      · have G := G106
        rw [show (q_row (q_row (q_row (q_row (q_row (q_row M6 100 r) 101 g101) 102 g102) 103 g103) 104 g104) 105 g105) 106 = m 106 from f1 106 (by decide)] at G
        exact G)
      · show qJ YX12_copy κ _ (qLy u, (q_row M6 100 r), y) 0 0 271 [some (qR 77), some (qI f), some (qI t), some (qI a), none] []
        refine qJ.run hκ 2 (pc' := 274) (ls' := [some (qR 77), some (qI f), some (qI t), some (qI a), some (qI 0)]) (st' := []) rfl ?_
        exact L274 5001 0 r (⟨Int.le_refl 0, by have := h99 a (by omega) (by omega); omega⟩) (by omega) (⟨v265_4.1, fun j hj => v265_4.2 j (by omega)⟩) (fun j j0 j1 => by omega) (by have := h99 a (by omega) (by omega); omega)
  have L139 : ∀ (n : Nat) (k : Int) (M6 : qM) (r : Nat → Int), (0 ≤ k ∧ k ≤ 60) → (keep (kN kC1) M6 = keep (kN kC1) m) → (cpA f t m M6) → ((∀ j : Int, 0 ≤ j → j < k → r (60 * t + j).toNat = q_nar 2 (m 91 (60 * f + j).toNat)) ∧ ∀ j : Nat, ¬ (60 * t ≤ (j : Int) ∧ (j : Int) < 60 * t + k) → r j = m 91 j) → ((60 - k).toNat) < n → qJ YX12_copy κ (qFin (fun r h => r = none ∧ ∃ m', h = (qLy u, m', y) ∧ keep (kN kCp) m' = keep (kN kCp) m ∧ cpA f t m m' ∧ cpC f t m m' ∧ cpT f t m m' ∧ cpE f t m m') 0 0 κ) (qLy u, (q_row M6 91 r), y) 0 0 139 [some (qR 77), some (qI f), some (qI t), some (qI k), none] [] := by
    intro n
    induction n with
    | zero => intro k M6 r _ _ _ _ hz0; omega
    | succ n ih139 =>
      intro k M6 r v139_0 v139_1 v139_2 v139_3 v139_m
      refine qJ.run hκ 2 (pc' := 142) (ls' := [some (qR 77), some (qI f), some (qI t), some (qI k), none]) (st' := [qI 60, qI k]) rfl ?_
      refine qJ.icmp_ge hκ (tgt := 173) rfl rfl (by omega) (by omega) (fun c142 => ?_) (fun c142 => ?_)
      · show qJ YX12_copy κ _ (qLy u, (q_row M6 91 r), y) 0 0 173 [some (qR 77), some (qI f), some (qI t), some (qI k), none] []
        refine qJ.run hκ 5 (pc' := 180) (ls' := [some (qR 77), some (qI f), some (qI t), some (qI k), none]) (st' := [qI t, qI f, qI 1, qR 92]) rfl ?_
        refine qJ.callS (As := [qR 92, qI 1, qI f, qI t]) (rest := []) hκ rfl kX12_163 (c_mv92 u (q_row M6 91 r) y f t hf ht hft) (by decide) rfl rfl (Nat.le_of_ble_eq_true rfl) (Nat.le_of_ble_eq_true rfl) (Nat.le_of_ble_eq_true rfl) (Or.inl (fun r h' e => by obtain ⟨rfl, g92, rfl, G92⟩ := e; rfl)) (fun r h' e => ?_)
        obtain ⟨rfl, g92, rfl, G92⟩ := e
        show qJ YX12_copy κ _ (qLy u, (q_row (q_row M6 91 r) 92 g92), y) 0 0 183 [some (qR 77), some (qI f), some (qI t), some (qI k), none] []
        refine qJ.run hκ 5 (pc' := 192) (ls' := [some (qR 77), some (qI f), some (qI t), some (qI k), none]) (st' := [qI t, qI f, qI 150, qR 93]) rfl ?_
        refine qJ.callS (As := [qR 93, qI 150, qI f, qI t]) (rest := []) hκ rfl kX12_163 (c_mv93 u (q_row (q_row M6 91 r) 92 g92) y f t hf ht hft) (by decide) rfl rfl (Nat.le_of_ble_eq_true rfl) (Nat.le_of_ble_eq_true rfl) (Nat.le_of_ble_eq_true rfl) (Or.inl (fun r h' e => by obtain ⟨rfl, g93, rfl, G93⟩ := e; rfl)) (fun r h' e => ?_)
        obtain ⟨rfl, g93, rfl, G93⟩ := e
        show qJ YX12_copy κ _ (qLy u, (q_row (q_row (q_row M6 91 r) 92 g92) 93 g93), y) 0 0 195 [some (qR 77), some (qI f), some (qI t), some (qI k), none] []
        refine qJ.run hκ 5 (pc' := 204) (ls' := [some (qR 77), some (qI f), some (qI t), some (qI k), none]) (st' := [qI t, qI f, qI 150, qR 94]) rfl ?_
        refine qJ.callS (As := [qR 94, qI 150, qI f, qI t]) (rest := []) hκ rfl kX12_163 (c_mv94 u (q_row (q_row (q_row M6 91 r) 92 g92) 93 g93) y f t hf ht hft) (by decide) rfl rfl (Nat.le_of_ble_eq_true rfl) (Nat.le_of_ble_eq_true rfl) (Nat.le_of_ble_eq_true rfl) (Or.inl (fun r h' e => by obtain ⟨rfl, g94, rfl, G94⟩ := e; rfl)) (fun r h' e => ?_)
        obtain ⟨rfl, g94, rfl, G94⟩ := e
        show qJ YX12_copy κ _ (qLy u, (q_row (q_row (q_row (q_row M6 91 r) 92 g92) 93 g93) 94 g94), y) 0 0 207 [some (qR 77), some (qI f), some (qI t), some (qI k), none] []
        refine qJ.run hκ 5 (pc' := 216) (ls' := [some (qR 77), some (qI f), some (qI t), some (qI k), none]) (st' := [qI t, qI f, qI 150, qR 95]) rfl ?_
        refine qJ.callS (As := [qR 95, qI 150, qI f, qI t]) (rest := []) hκ rfl kX12_163 (c_mv95 u (q_row (q_row (q_row (q_row M6 91 r) 92 g92) 93 g93) 94 g94) y f t hf ht hft) (by decide) rfl rfl (Nat.le_of_ble_eq_true rfl) (Nat.le_of_ble_eq_true rfl) (Nat.le_of_ble_eq_true rfl) (Or.inl (fun r h' e => by obtain ⟨rfl, g95, rfl, G95⟩ := e; rfl)) (fun r h' e => ?_)
        obtain ⟨rfl, g95, rfl, G95⟩ := e
        show qJ YX12_copy κ _ (qLy u, (q_row (q_row (q_row (q_row (q_row M6 91 r) 92 g92) 93 g93) 94 g94) 95 g95), y) 0 0 219 [some (qR 77), some (qI f), some (qI t), some (qI k), none] []
        refine qJ.run hκ 5 (pc' := 226) (ls' := [some (qR 77), some (qI f), some (qI t), some (qI k), none]) (st' := [qI t, qI f, qI 1, qR 96]) rfl ?_
        refine qJ.callS (As := [qR 96, qI 1, qI f, qI t]) (rest := []) hκ rfl kX12_163 (c_mv96 u (q_row (q_row (q_row (q_row (q_row M6 91 r) 92 g92) 93 g93) 94 g94) 95 g95) y f t hf ht hft) (by decide) rfl rfl (Nat.le_of_ble_eq_true rfl) (Nat.le_of_ble_eq_true rfl) (Nat.le_of_ble_eq_true rfl) (Or.inl (fun r h' e => by obtain ⟨rfl, g96, rfl, G96⟩ := e; rfl)) (fun r h' e => ?_)
        obtain ⟨rfl, g96, rfl, G96⟩ := e
        show qJ YX12_copy κ _ (qLy u, (q_row (q_row (q_row (q_row (q_row (q_row M6 91 r) 92 g92) 93 g93) 94 g94) 95 g95) 96 g96), y) 0 0 229 [some (qR 77), some (qI f), some (qI t), some (qI k), none] []
        refine qJ.run hκ 5 (pc' := 237) (ls' := [some (qR 77), some (qI f), some (qI t), some (qI k), none]) (st' := [qI t, qI f, qI 10, qR 97]) rfl ?_
        refine qJ.callS (As := [qR 97, qI 10, qI f, qI t]) (rest := []) hκ rfl kX12_163 (c_mv97 u (q_row (q_row (q_row (q_row (q_row (q_row M6 91 r) 92 g92) 93 g93) 94 g94) 95 g95) 96 g96) y f t hf ht hft) (by decide) rfl rfl (Nat.le_of_ble_eq_true rfl) (Nat.le_of_ble_eq_true rfl) (Nat.le_of_ble_eq_true rfl) (Or.inl (fun r h' e => by obtain ⟨rfl, g97, rfl, G97⟩ := e; rfl)) (fun r h' e => ?_)
        obtain ⟨rfl, g97, rfl, G97⟩ := e
        show qJ YX12_copy κ _ (qLy u, (q_row (q_row (q_row (q_row (q_row (q_row (q_row M6 91 r) 92 g92) 93 g93) 94 g94) 95 g95) 96 g96) 97 g97), y) 0 0 240 [some (qR 77), some (qI f), some (qI t), some (qI k), none] []
        refine qJ.run hκ 5 (pc' := 249) (ls' := [some (qR 77), some (qI f), some (qI t), some (qI k), none]) (st' := [qI t, qI f, qI 300, qR 98]) rfl ?_
        refine qJ.callS (As := [qR 98, qI 300, qI f, qI t]) (rest := []) hκ rfl kX12_163 (c_mv98 u (q_row (q_row (q_row (q_row (q_row (q_row (q_row M6 91 r) 92 g92) 93 g93) 94 g94) 95 g95) 96 g96) 97 g97) y f t hf ht hft) (by decide) rfl rfl (Nat.le_of_ble_eq_true rfl) (Nat.le_of_ble_eq_true rfl) (Nat.le_of_ble_eq_true rfl) (Or.inl (fun r h' e => by obtain ⟨rfl, g98, rfl, G98⟩ := e; rfl)) (fun r h' e => ?_)
        obtain ⟨rfl, g98, rfl, G98⟩ := e
        show qJ YX12_copy κ _ (qLy u, (q_row (q_row (q_row (q_row (q_row (q_row (q_row (q_row M6 91 r) 92 g92) 93 g93) 94 g94) 95 g95) 96 g96) 97 g97) 98 g98), y) 0 0 252 [some (qR 77), some (qI f), some (qI t), some (qI k), none] []
        refine qJ.run hκ 5 (pc' := 260) (ls' := [some (qR 77), some (qI f), some (qI t), some (qI k), none]) (st' := [qI t, qI f, qI 10, qR 99]) rfl ?_
        refine qJ.callS (As := [qR 99, qI 10, qI f, qI t]) (rest := []) hκ rfl kX12_163 (c_mv99 u (q_row (q_row (q_row (q_row (q_row (q_row (q_row (q_row M6 91 r) 92 g92) 93 g93) 94 g94) 95 g95) 96 g96) 97 g97) 98 g98) y f t hf ht hft) (by decide) rfl rfl (Nat.le_of_ble_eq_true rfl) (Nat.le_of_ble_eq_true rfl) (Nat.le_of_ble_eq_true rfl) (Or.inl (fun r h' e => by obtain ⟨rfl, g99, rfl, G99⟩ := e; rfl)) (fun r h' e => ?_)
        obtain ⟨rfl, g99, rfl, G99⟩ := e
        show qJ YX12_copy κ _ (qLy u, (q_row (q_row (q_row (q_row (q_row (q_row (q_row (q_row (q_row M6 91 r) 92 g92) 93 g93) 94 g94) 95 g95) 96 g96) 97 g97) 98 g98) 99 g99), y) 0 0 263 [some (qR 77), some (qI f), some (qI t), some (qI k), none] []
        refine qJ.run hκ 2 (pc' := 265) (ls' := [some (qR 77), some (qI f), some (qI t), some (qI 0), none]) (st' := []) rfl ?_
        exact qJ.cast (L265 11 0 (q_row (q_row (q_row (q_row (q_row (q_row (q_row (q_row (q_row M6 91 r) 92 g92) 93 g93) 94 g94) 95 g95) 96 g96) 97 g97) 98 g98) 99 g99) (m 100) (by omega) ((Eq.trans (keep_row (by intro j; rfl)) (Eq.trans (keep_row (by intro j; rfl)) (Eq.trans (keep_row (by intro j; rfl)) (Eq.trans (keep_row (by intro j; rfl)) (Eq.trans (keep_row (by intro j; rfl)) (Eq.trans (keep_row (by intro j; rfl)) (Eq.trans (keep_row (by intro j; rfl)) (Eq.trans (keep_row (by intro j; rfl)) (Eq.trans (keep_row (by intro j; rfl)) (keep_of kC21 v139_1))))))))))) (v139_2) (by
        have f1 : ∀ a, 91 ≤ a → M6 a = m a := fun a ha => funext fun j => keep_at v139_1 (by unfold kN kC1; rw [decide_eq_false (by omega)]; rfl)
        refine ⟨⟨fun j j0 j1 => v139_3.1 j j0 (by omega), fun j hj => v139_3.2 j (by omega)⟩, ?_, ?_, ?_, ?_, ?_, ?_, ?_, ?_⟩
        · have G := G92
          rw [show (q_row M6 91 r) 92 = m 92 from f1 92 (by decide)] at G
          exact G
        · have G := G93
          rw [show (q_row (q_row M6 91 r) 92 g92) 93 = m 93 from f1 93 (by decide)] at G
          exact G
        · have G := G94
          rw [show (q_row (q_row (q_row M6 91 r) 92 g92) 93 g93) 94 = m 94 from f1 94 (by decide)] at G
          exact G
        · have G := G95
          rw [show (q_row (q_row (q_row (q_row M6 91 r) 92 g92) 93 g93) 94 g94) 95 = m 95 from f1 95 (by decide)] at G
          exact G
        · have G := G96
          rw [show (q_row (q_row (q_row (q_row (q_row M6 91 r) 92 g92) 93 g93) 94 g94) 95 g95) 96 = m 96 from f1 96 (by decide)] at G
          exact G
        · have G := G97
          rw [show (q_row (q_row (q_row (q_row (q_row (q_row M6 91 r) 92 g92) 93 g93) 94 g94) 95 g95) 96 g96) 97 = m 97 from f1 97 (by decide)] at G
          exact G
        · have G := G98
          rw [show (q_row (q_row (q_row (q_row (q_row (q_row (q_row M6 91 r) 92 g92) 93 g93) 94 g94) 95 g95) 96 g96) 97 g97) 98 = m 98 from f1 98 (by decide)] at G
          exact G
        · have G := G99
          rw [show (q_row (q_row (q_row (q_row (q_row (q_row (q_row (q_row M6 91 r) 92 g92) 93 g93) 94 g94) 95 g95) 96 g96) 97 g97) 98 g98) 99 = m 99 from f1 99 (by decide)] at G
          exact G) (⟨fun b b0 b1 => by omega, fun j _ => rfl⟩) (by omega)) (by rw [show q_row (q_row (q_row (q_row (q_row (q_row (q_row (q_row (q_row (q_row M6 91 r) 92 g92) 93 g93) 94 g94) 95 g95) 96 g96) 97 g97) 98 g98) 99 g99) 100 (m 100) = (q_row (q_row (q_row (q_row (q_row (q_row (q_row (q_row (q_row M6 91 r) 92 g92) 93 g93) 94 g94) 95 g95) 96 g96) 97 g97) 98 g98) 99 g99) from Eq.trans (congrArg (q_row _ 100) (show m 100 = (q_row (q_row (q_row (q_row (q_row (q_row (q_row (q_row (q_row M6 91 r) 92 g92) 93 g93) 94 g94) 95 g95) 96 g96) 97 g97) 98 g98) 99 g99) 100 from (congrFun v139_1 100).symm)) q_row_self]) rfl rfl
      · show qJ YX12_copy κ _ (qLy u, (q_row M6 91 r), y) 0 0 145 [some (qR 77), some (qI f), some (qI t), some (qI k), none] []
        refine qJ.run hκ 14 (pc' := 165) (ls' := [some (qR 77), some (qI f), some (qI t), some (qI k), none]) (st' := [qI ((60 * f) + k), qR 91, qI ((60 * t) + k), qR 91]) rfl ?_
        refine qJ.ald hκ rfl rfl rfl (by decide) (by omega) ?_
        show qJ YX12_copy κ _ (qLy u, (q_row M6 91 r), y) 0 0 166 [some (qR 77), some (qI f), some (qI t), some (qI k), none] [qI (r (((60 * f) + k).toNat)), qI ((60 * t) + k), qR 91]
        refine qJ.ast hκ rfl rfl rfl (by decide) (by omega) ?_
        refine qJ.mc (m1 := (q_up (q_row M6 91 r) 91 (((60 * t) + k).toNat) (q_nar 2 (r (((60 * f) + k).toNat))))) (m2 := (q_row M6 91 (q_fu r (((60 * t) + k).toNat) (q_nar 2 (r (((60 * f) + k).toNat)))))) (by rw [q_up_row_eq]) ?_
        show qJ YX12_copy κ _ (qLy u, (q_row M6 91 (q_fu r (((60 * t) + k).toNat) (q_nar 2 (r (((60 * f) + k).toNat))))), y) 0 0 167 [some (qR 77), some (qI f), some (qI t), some (qI k), none] []
        refine qJ.run hκ 2 (pc' := 139) (ls' := [some (qR 77), some (qI f), some (qI t), some (qI (k + 1)), none]) (st' := []) rfl ?_
        exact qJ.cast (ih139  (k + 1) M6 (q_fu r (((60 * t) + k).toNat) (q_nar 2 (r (((60 * f) + k).toNat)))) (by omega) (v139_1) (v139_2) (⟨fun j j0 j1 => by
        by_cases e : j = k
        · rw [e, q_fu_eq, v139_3.2 (60 * f + k).toNat (by omega)]
        · rw [q_fu_ne (by omega)]; exact v139_3.1 j j0 (by omega), fun j hj => by rw [q_fu_ne (by omega)]; exact v139_3.2 j (by omega)⟩) (by omega)) (rfl) rfl rfl
  show qJ YX12_copy κ _ (qLy u, m, y) 0 0 0 [some (qR 77), some (qI f), some (qI t), none, none] []
  refine qJ.run hκ 5 (pc' := 9) (ls' := [some (qR 77), some (qI f), some (qI t), none, none]) (st' := [qI t, qI f, qI 400, qR 78]) rfl ?_
  refine qJ.callS (As := [qR 78, qI 400, qI f, qI t]) (rest := []) hκ rfl kX12_159 (c_mv78 u m y f t hf ht hft) (by decide) rfl rfl (Nat.le_of_ble_eq_true rfl) (Nat.le_of_ble_eq_true rfl) (Nat.le_of_ble_eq_true rfl) (Or.inl (fun r h' e => by obtain ⟨rfl, g78, rfl, G78⟩ := e; rfl)) (fun r h' e => ?_)
  obtain ⟨rfl, g78, rfl, G78⟩ := e
  show qJ YX12_copy κ _ (qLy u, (q_row m 78 g78), y) 0 0 12 [some (qR 77), some (qI f), some (qI t), none, none] []
  refine qJ.run hκ 5 (pc' := 19) (ls' := [some (qR 77), some (qI f), some (qI t), none, none]) (st' := [qI t, qI f, qI 1, qR 79]) rfl ?_
  refine qJ.callS (As := [qR 79, qI 1, qI f, qI t]) (rest := []) hκ rfl kX12_163 (c_mv79 u (q_row m 78 g78) y f t hf ht hft) (by decide) rfl rfl (Nat.le_of_ble_eq_true rfl) (Nat.le_of_ble_eq_true rfl) (Nat.le_of_ble_eq_true rfl) (Or.inl (fun r h' e => by obtain ⟨rfl, g79, rfl, G79⟩ := e; rfl)) (fun r h' e => ?_)
  obtain ⟨rfl, g79, rfl, G79⟩ := e
  show qJ YX12_copy κ _ (qLy u, (q_row (q_row m 78 g78) 79 g79), y) 0 0 22 [some (qR 77), some (qI f), some (qI t), none, none] []
  refine qJ.run hκ 5 (pc' := 29) (ls' := [some (qR 77), some (qI f), some (qI t), none, none]) (st' := [qI t, qI f, qI 1, qR 80]) rfl ?_
  refine qJ.callS (As := [qR 80, qI 1, qI f, qI t]) (rest := []) hκ rfl kX12_163 (c_mv80 u (q_row (q_row m 78 g78) 79 g79) y f t hf ht hft) (by decide) rfl rfl (Nat.le_of_ble_eq_true rfl) (Nat.le_of_ble_eq_true rfl) (Nat.le_of_ble_eq_true rfl) (Or.inl (fun r h' e => by obtain ⟨rfl, g80, rfl, G80⟩ := e; rfl)) (fun r h' e => ?_)
  obtain ⟨rfl, g80, rfl, G80⟩ := e
  show qJ YX12_copy κ _ (qLy u, (q_row (q_row (q_row m 78 g78) 79 g79) 80 g80), y) 0 0 32 [some (qR 77), some (qI f), some (qI t), none, none] []
  refine qJ.run hκ 5 (pc' := 39) (ls' := [some (qR 77), some (qI f), some (qI t), none, none]) (st' := [qI t, qI f, qI 1, qR 81]) rfl ?_
  refine qJ.callS (As := [qR 81, qI 1, qI f, qI t]) (rest := []) hκ rfl kX12_163 (c_mv81 u (q_row (q_row (q_row m 78 g78) 79 g79) 80 g80) y f t hf ht hft) (by decide) rfl rfl (Nat.le_of_ble_eq_true rfl) (Nat.le_of_ble_eq_true rfl) (Nat.le_of_ble_eq_true rfl) (Or.inl (fun r h' e => by obtain ⟨rfl, g81, rfl, G81⟩ := e; rfl)) (fun r h' e => ?_)
  obtain ⟨rfl, g81, rfl, G81⟩ := e
  show qJ YX12_copy κ _ (qLy u, (q_row (q_row (q_row (q_row m 78 g78) 79 g79) 80 g80) 81 g81), y) 0 0 42 [some (qR 77), some (qI f), some (qI t), none, none] []
  refine qJ.run hκ 5 (pc' := 49) (ls' := [some (qR 77), some (qI f), some (qI t), none, none]) (st' := [qI t, qI f, qI 1, qR 82]) rfl ?_
  refine qJ.callS (As := [qR 82, qI 1, qI f, qI t]) (rest := []) hκ rfl kX12_163 (c_mv82 u (q_row (q_row (q_row (q_row m 78 g78) 79 g79) 80 g80) 81 g81) y f t hf ht hft) (by decide) rfl rfl (Nat.le_of_ble_eq_true rfl) (Nat.le_of_ble_eq_true rfl) (Nat.le_of_ble_eq_true rfl) (Or.inl (fun r h' e => by obtain ⟨rfl, g82, rfl, G82⟩ := e; rfl)) (fun r h' e => ?_)
  obtain ⟨rfl, g82, rfl, G82⟩ := e
  show qJ YX12_copy κ _ (qLy u, (q_row (q_row (q_row (q_row (q_row m 78 g78) 79 g79) 80 g80) 81 g81) 82 g82), y) 0 0 52 [some (qR 77), some (qI f), some (qI t), none, none] []
  refine qJ.run hκ 5 (pc' := 59) (ls' := [some (qR 77), some (qI f), some (qI t), none, none]) (st' := [qI t, qI f, qI 1, qR 83]) rfl ?_
  refine qJ.callS (As := [qR 83, qI 1, qI f, qI t]) (rest := []) hκ rfl kX12_163 (c_mv83 u (q_row (q_row (q_row (q_row (q_row m 78 g78) 79 g79) 80 g80) 81 g81) 82 g82) y f t hf ht hft) (by decide) rfl rfl (Nat.le_of_ble_eq_true rfl) (Nat.le_of_ble_eq_true rfl) (Nat.le_of_ble_eq_true rfl) (Or.inl (fun r h' e => by obtain ⟨rfl, g83, rfl, G83⟩ := e; rfl)) (fun r h' e => ?_)
  obtain ⟨rfl, g83, rfl, G83⟩ := e
  show qJ YX12_copy κ _ (qLy u, (q_row (q_row (q_row (q_row (q_row (q_row m 78 g78) 79 g79) 80 g80) 81 g81) 82 g82) 83 g83), y) 0 0 62 [some (qR 77), some (qI f), some (qI t), none, none] []
  refine qJ.run hκ 5 (pc' := 69) (ls' := [some (qR 77), some (qI f), some (qI t), none, none]) (st' := [qI t, qI f, qI 1, qR 84]) rfl ?_
  refine qJ.callS (As := [qR 84, qI 1, qI f, qI t]) (rest := []) hκ rfl kX12_163 (c_mv84 u (q_row (q_row (q_row (q_row (q_row (q_row m 78 g78) 79 g79) 80 g80) 81 g81) 82 g82) 83 g83) y f t hf ht hft) (by decide) rfl rfl (Nat.le_of_ble_eq_true rfl) (Nat.le_of_ble_eq_true rfl) (Nat.le_of_ble_eq_true rfl) (Or.inl (fun r h' e => by obtain ⟨rfl, g84, rfl, G84⟩ := e; rfl)) (fun r h' e => ?_)
  obtain ⟨rfl, g84, rfl, G84⟩ := e
  show qJ YX12_copy κ _ (qLy u, (q_row (q_row (q_row (q_row (q_row (q_row (q_row m 78 g78) 79 g79) 80 g80) 81 g81) 82 g82) 83 g83) 84 g84), y) 0 0 72 [some (qR 77), some (qI f), some (qI t), none, none] []
  refine qJ.run hκ 5 (pc' := 79) (ls' := [some (qR 77), some (qI f), some (qI t), none, none]) (st' := [qI t, qI f, qI 1, qR 85]) rfl ?_
  refine qJ.callS (As := [qR 85, qI 1, qI f, qI t]) (rest := []) hκ rfl kX12_163 (c_mv85 u (q_row (q_row (q_row (q_row (q_row (q_row (q_row m 78 g78) 79 g79) 80 g80) 81 g81) 82 g82) 83 g83) 84 g84) y f t hf ht hft) (by decide) rfl rfl (Nat.le_of_ble_eq_true rfl) (Nat.le_of_ble_eq_true rfl) (Nat.le_of_ble_eq_true rfl) (Or.inl (fun r h' e => by obtain ⟨rfl, g85, rfl, G85⟩ := e; rfl)) (fun r h' e => ?_)
  obtain ⟨rfl, g85, rfl, G85⟩ := e
  show qJ YX12_copy κ _ (qLy u, (q_row (q_row (q_row (q_row (q_row (q_row (q_row (q_row m 78 g78) 79 g79) 80 g80) 81 g81) 82 g82) 83 g83) 84 g84) 85 g85), y) 0 0 82 [some (qR 77), some (qI f), some (qI t), none, none] []
  refine qJ.run hκ 5 (pc' := 89) (ls' := [some (qR 77), some (qI f), some (qI t), none, none]) (st' := [qI t, qI f, qI 1, qR 86]) rfl ?_
  refine qJ.callS (As := [qR 86, qI 1, qI f, qI t]) (rest := []) hκ rfl kX12_163 (c_mv86 u (q_row (q_row (q_row (q_row (q_row (q_row (q_row (q_row m 78 g78) 79 g79) 80 g80) 81 g81) 82 g82) 83 g83) 84 g84) 85 g85) y f t hf ht hft) (by decide) rfl rfl (Nat.le_of_ble_eq_true rfl) (Nat.le_of_ble_eq_true rfl) (Nat.le_of_ble_eq_true rfl) (Or.inl (fun r h' e => by obtain ⟨rfl, g86, rfl, G86⟩ := e; rfl)) (fun r h' e => ?_)
  obtain ⟨rfl, g86, rfl, G86⟩ := e
  show qJ YX12_copy κ _ (qLy u, (q_row (q_row (q_row (q_row (q_row (q_row (q_row (q_row (q_row m 78 g78) 79 g79) 80 g80) 81 g81) 82 g82) 83 g83) 84 g84) 85 g85) 86 g86), y) 0 0 92 [some (qR 77), some (qI f), some (qI t), none, none] []
  refine qJ.run hκ 5 (pc' := 101) (ls' := [some (qR 77), some (qI f), some (qI t), none, none]) (st' := [qI t, qI f, qI 300, qR 87]) rfl ?_
  refine qJ.callS (As := [qR 87, qI 300, qI f, qI t]) (rest := []) hκ rfl kX12_163 (c_mv87 u (q_row (q_row (q_row (q_row (q_row (q_row (q_row (q_row (q_row m 78 g78) 79 g79) 80 g80) 81 g81) 82 g82) 83 g83) 84 g84) 85 g85) 86 g86) y f t hf ht hft) (by decide) rfl rfl (Nat.le_of_ble_eq_true rfl) (Nat.le_of_ble_eq_true rfl) (Nat.le_of_ble_eq_true rfl) (Or.inl (fun r h' e => by obtain ⟨rfl, g87, rfl, G87⟩ := e; rfl)) (fun r h' e => ?_)
  obtain ⟨rfl, g87, rfl, G87⟩ := e
  show qJ YX12_copy κ _ (qLy u, (q_row (q_row (q_row (q_row (q_row (q_row (q_row (q_row (q_row (q_row m 78 g78) 79 g79) 80 g80) 81 g81) 82 g82) 83 g83) 84 g84) 85 g85) 86 g86) 87 g87), y) 0 0 104 [some (qR 77), some (qI f), some (qI t), none, none] []
  refine qJ.run hκ 5 (pc' := 112) (ls' := [some (qR 77), some (qI f), some (qI t), none, none]) (st' := [qI t, qI f, qI 60, qR 88]) rfl ?_
  refine qJ.callS (As := [qR 88, qI 60, qI f, qI t]) (rest := []) hκ rfl kX12_163 (c_mv88 u (q_row (q_row (q_row (q_row (q_row (q_row (q_row (q_row (q_row (q_row m 78 g78) 79 g79) 80 g80) 81 g81) 82 g82) 83 g83) 84 g84) 85 g85) 86 g86) 87 g87) y f t hf ht hft) (by decide) rfl rfl (Nat.le_of_ble_eq_true rfl) (Nat.le_of_ble_eq_true rfl) (Nat.le_of_ble_eq_true rfl) (Or.inl (fun r h' e => by obtain ⟨rfl, g88, rfl, G88⟩ := e; rfl)) (fun r h' e => ?_)
  obtain ⟨rfl, g88, rfl, G88⟩ := e
  show qJ YX12_copy κ _ (qLy u, (q_row (q_row (q_row (q_row (q_row (q_row (q_row (q_row (q_row (q_row (q_row m 78 g78) 79 g79) 80 g80) 81 g81) 82 g82) 83 g83) 84 g84) 85 g85) 86 g86) 87 g87) 88 g88), y) 0 0 115 [some (qR 77), some (qI f), some (qI t), none, none] []
  refine qJ.run hκ 5 (pc' := 123) (ls' := [some (qR 77), some (qI f), some (qI t), none, none]) (st' := [qI t, qI f, qI 60, qR 89]) rfl ?_
  refine qJ.callS (As := [qR 89, qI 60, qI f, qI t]) (rest := []) hκ rfl kX12_163 (c_mv89 u (q_row (q_row (q_row (q_row (q_row (q_row (q_row (q_row (q_row (q_row (q_row m 78 g78) 79 g79) 80 g80) 81 g81) 82 g82) 83 g83) 84 g84) 85 g85) 86 g86) 87 g87) 88 g88) y f t hf ht hft) (by decide) rfl rfl (Nat.le_of_ble_eq_true rfl) (Nat.le_of_ble_eq_true rfl) (Nat.le_of_ble_eq_true rfl) (Or.inl (fun r h' e => by obtain ⟨rfl, g89, rfl, G89⟩ := e; rfl)) (fun r h' e => ?_)
  obtain ⟨rfl, g89, rfl, G89⟩ := e
  show qJ YX12_copy κ _ (qLy u, (q_row (q_row (q_row (q_row (q_row (q_row (q_row (q_row (q_row (q_row (q_row (q_row m 78 g78) 79 g79) 80 g80) 81 g81) 82 g82) 83 g83) 84 g84) 85 g85) 86 g86) 87 g87) 88 g88) 89 g89), y) 0 0 126 [some (qR 77), some (qI f), some (qI t), none, none] []
  refine qJ.run hκ 5 (pc' := 134) (ls' := [some (qR 77), some (qI f), some (qI t), none, none]) (st' := [qI t, qI f, qI 60, qR 90]) rfl ?_
  refine qJ.callS (As := [qR 90, qI 60, qI f, qI t]) (rest := []) hκ rfl kX12_163 (c_mv90 u (q_row (q_row (q_row (q_row (q_row (q_row (q_row (q_row (q_row (q_row (q_row (q_row m 78 g78) 79 g79) 80 g80) 81 g81) 82 g82) 83 g83) 84 g84) 85 g85) 86 g86) 87 g87) 88 g88) 89 g89) y f t hf ht hft) (by decide) rfl rfl (Nat.le_of_ble_eq_true rfl) (Nat.le_of_ble_eq_true rfl) (Nat.le_of_ble_eq_true rfl) (Or.inl (fun r h' e => by obtain ⟨rfl, g90, rfl, G90⟩ := e; rfl)) (fun r h' e => ?_)
  obtain ⟨rfl, g90, rfl, G90⟩ := e
  show qJ YX12_copy κ _ (qLy u, (q_row (q_row (q_row (q_row (q_row (q_row (q_row (q_row (q_row (q_row (q_row (q_row (q_row m 78 g78) 79 g79) 80 g80) 81 g81) 82 g82) 83 g83) 84 g84) 85 g85) 86 g86) 87 g87) 88 g88) 89 g89) 90 g90), y) 0 0 137 [some (qR 77), some (qI f), some (qI t), none, none] []
  refine qJ.run hκ 2 (pc' := 139) (ls' := [some (qR 77), some (qI f), some (qI t), some (qI 0), none]) (st' := []) rfl ?_
  exact qJ.cast (L139 61 0 (q_row (q_row (q_row (q_row (q_row (q_row (q_row (q_row (q_row (q_row (q_row (q_row (q_row m 78 g78) 79 g79) 80 g80) 81 g81) 82 g82) 83 g83) 84 g84) 85 g85) 86 g86) 87 g87) 88 g88) 89 g89) 90 g90) (m 91) (by omega) ((Eq.trans (keep_row (by intro j; rfl)) (Eq.trans (keep_row (by intro j; rfl)) (Eq.trans (keep_row (by intro j; rfl)) (Eq.trans (keep_row (by intro j; rfl)) (Eq.trans (keep_row (by intro j; rfl)) (Eq.trans (keep_row (by intro j; rfl)) (Eq.trans (keep_row (by intro j; rfl)) (Eq.trans (keep_row (by intro j; rfl)) (Eq.trans (keep_row (by intro j; rfl)) (Eq.trans (keep_row (by intro j; rfl)) (Eq.trans (keep_row (by intro j; rfl)) (Eq.trans (keep_row (by intro j; rfl)) (Eq.trans (keep_row (by intro j; rfl)) rfl)))))))))))))) (⟨G78, G79, G80, G81, G82, G83, G84, G85, G86, G87, G88, G89, G90⟩) (⟨fun j j0 j1 => by omega, fun j _ => rfl⟩) (by omega)) (by rw [show q_row (q_row (q_row (q_row (q_row (q_row (q_row (q_row (q_row (q_row (q_row (q_row (q_row (q_row m 78 g78) 79 g79) 80 g80) 81 g81) 82 g82) 83 g83) 84 g84) 85 g85) 86 g86) 87 g87) 88 g88) 89 g89) 90 g90) 91 (m 91) = (q_row (q_row (q_row (q_row (q_row (q_row (q_row (q_row (q_row (q_row (q_row (q_row (q_row m 78 g78) 79 g79) 80 g80) 81 g81) 82 g82) 83 g83) 84 g84) 85 g85) 86 g86) 87 g87) 88 g88) 89 g89) 90 g90) from q_row_self]) rfl rfl

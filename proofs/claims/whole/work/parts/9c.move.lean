/-! printed by p102.py: the model copies its told from one slot to another -/
/-- n cells from slot f to slot t, the rest as it was -/
def cpQ (q : Nat) (n f t : Int) (g h : Nat → Int) : Prop := (∀ j : Int, 0 ≤ j → j < n → h (n * t + j).toNat = q_nar q (g (n * f + j).toNat)) ∧ ∀ j : Nat, ¬ (n * t ≤ (j : Int) ∧ (j : Int) < n * t + n) → h j = g j
def cpR (n f t : Int) (g h : Nat → Int) : Prop := (∀ j : Int, 0 ≤ j → j < n → h (n * t + j).toNat = g (n * f + j).toNat) ∧ ∀ j : Nat, ¬ (n * t ≤ (j : Int) ∧ (j : Int) < n * t + n) → h j = g j

set_option maxRecDepth 100000 in
theorem c_mv79 (u : qU) (m y : qM) (f t : Int) (hf : 0 ≤ f ∧ f ≤ 3) (ht : 0 ≤ t ∧ t ≤ 3) (hft : ¬ f = t) : qCt YX12_move 1 0 0 [qR 79, qI 1, qI f, qI t] (qLy u, m, y) (fun r h => r = none ∧ ∃ g, h = (qLy u, q_row m 79 g, y) ∧ cpR 1 f t (m 79) g) := by
  refine qCt.intro okX12_move (Nat.le_of_ble_eq_true rfl) (fun κ hκ => ?_)
  have L3 : ∀ (n : Nat) (k : Int) (g : Nat → Int), (0 ≤ k ∧ k ≤ 1) → (∀ j : Int, 0 ≤ j → j < k → g (1 * t + j).toNat = m 79 (1 * f + j).toNat) → (∀ j : Nat, ¬ (1 * t ≤ (j : Int) ∧ (j : Int) < 1 * t + k) → g j = m 79 j) → ((1 - k).toNat) < n → qJ YX12_move κ (qFin (fun r h => r = none ∧ ∃ g, h = (qLy u, q_row m 79 g, y) ∧ cpR 1 f t (m 79) g) 0 0 κ) (qLy u, (q_row m 79 g), y) 0 0 3 [some (qR 79), some (qI 1), some (qI f), some (qI t), some (qI k)] [] := by
    intro n
    induction n with
    | zero => intro k g _ _ _ hz0; omega
    | succ n ih3 =>
      intro k g v3_0 v3_1 v3_2 v3_m
      refine qJ.run hκ 2 (pc' := 6) (ls' := [some (qR 79), some (qI 1), some (qI f), some (qI t), some (qI k)]) (st' := [qI 1, qI k]) rfl ?_
      refine qJ.icmp_ge hκ (tgt := 31) rfl rfl (by omega) (by omega) (fun c6 => ?_) (fun c6 => ?_)
      · show qJ YX12_move κ _ (qLy u, (q_row m 79 g), y) 0 0 31 [some (qR 79), some (qI 1), some (qI f), some (qI t), some (qI k)] []
        exact qJ.vret hκ rfl rfl (by decide) (by decide) (⟨rfl, g, rfl, fun j j0 j1 => v3_1 j j0 (by omega), fun j hj => v3_2 j (by omega)⟩)
      · show qJ YX12_move κ _ (qLy u, (q_row m 79 g), y) 0 0 9 [some (qR 79), some (qI 1), some (qI f), some (qI t), some (qI k)] []
        refine qJ.run hκ 12 (pc' := 23) (ls' := [some (qR 79), some (qI 1), some (qI f), some (qI t), some (qI k)]) (st' := [qI ((1 * f) + k), qR 79, qI ((1 * t) + k), qR 79]) rfl ?_
        refine qJ.ald hκ rfl rfl rfl (by decide) (by omega) ?_
        show qJ YX12_move κ _ (qLy u, (q_row m 79 g), y) 0 0 24 [some (qR 79), some (qI 1), some (qI f), some (qI t), some (qI k)] [qI (g (((1 * f) + k).toNat)), qI ((1 * t) + k), qR 79]
        refine qJ.ast hκ rfl rfl rfl (by decide) (by omega) ?_
        refine qJ.mc (m1 := (q_up (q_row m 79 g) 79 (((1 * t) + k).toNat) (g (((1 * f) + k).toNat)))) (m2 := (q_row m 79 (q_fu g (((1 * t) + k).toNat) (g (((1 * f) + k).toNat))))) (by rw [q_up_row_eq]) ?_
        show qJ YX12_move κ _ (qLy u, (q_row m 79 (q_fu g (((1 * t) + k).toNat) (g (((1 * f) + k).toNat)))), y) 0 0 25 [some (qR 79), some (qI 1), some (qI f), some (qI t), some (qI k)] []
        refine qJ.run hκ 2 (pc' := 3) (ls' := [some (qR 79), some (qI 1), some (qI f), some (qI t), some (qI (k + 1))]) (st' := []) rfl ?_
        exact qJ.cast (ih3  (k + 1) (q_fu g (((1 * t) + k).toNat) (g (((1 * f) + k).toNat))) (by omega) (fun j j0 j1 => by
          by_cases e : j = k
          · rw [e, q_fu_eq, v3_2 (1 * f + k).toNat (by omega)]
          · rw [q_fu_ne (by omega)]; exact v3_1 j j0 (by omega)) (fun j hj => by rw [q_fu_ne (by omega)]; exact v3_2 j (by omega)) (by omega)) (rfl) rfl rfl
  show qJ YX12_move κ _ (qLy u, m, y) 0 0 0 [some (qR 79), some (qI 1), some (qI f), some (qI t), none] []
  refine qJ.run hκ 2 (pc' := 3) (ls' := [some (qR 79), some (qI 1), some (qI f), some (qI t), some (qI 0)]) (st' := []) rfl ?_
  exact qJ.cast (L3 2 0 (m 79) (by omega) (fun j j0 j1 => by omega) (fun j _ => rfl) (by omega)) (by rw [q_row_self]) rfl rfl

set_option maxRecDepth 100000 in
theorem c_mv80 (u : qU) (m y : qM) (f t : Int) (hf : 0 ≤ f ∧ f ≤ 3) (ht : 0 ≤ t ∧ t ≤ 3) (hft : ¬ f = t) : qCt YX12_move 1 0 0 [qR 80, qI 1, qI f, qI t] (qLy u, m, y) (fun r h => r = none ∧ ∃ g, h = (qLy u, q_row m 80 g, y) ∧ cpR 1 f t (m 80) g) := by
  refine qCt.intro okX12_move (Nat.le_of_ble_eq_true rfl) (fun κ hκ => ?_)
  have L3 : ∀ (n : Nat) (k : Int) (g : Nat → Int), (0 ≤ k ∧ k ≤ 1) → (∀ j : Int, 0 ≤ j → j < k → g (1 * t + j).toNat = m 80 (1 * f + j).toNat) → (∀ j : Nat, ¬ (1 * t ≤ (j : Int) ∧ (j : Int) < 1 * t + k) → g j = m 80 j) → ((1 - k).toNat) < n → qJ YX12_move κ (qFin (fun r h => r = none ∧ ∃ g, h = (qLy u, q_row m 80 g, y) ∧ cpR 1 f t (m 80) g) 0 0 κ) (qLy u, (q_row m 80 g), y) 0 0 3 [some (qR 80), some (qI 1), some (qI f), some (qI t), some (qI k)] [] := by
    intro n
    induction n with
    | zero => intro k g _ _ _ hz0; omega
    | succ n ih3 =>
      intro k g v3_0 v3_1 v3_2 v3_m
      refine qJ.run hκ 2 (pc' := 6) (ls' := [some (qR 80), some (qI 1), some (qI f), some (qI t), some (qI k)]) (st' := [qI 1, qI k]) rfl ?_
      refine qJ.icmp_ge hκ (tgt := 31) rfl rfl (by omega) (by omega) (fun c6 => ?_) (fun c6 => ?_)
      · show qJ YX12_move κ _ (qLy u, (q_row m 80 g), y) 0 0 31 [some (qR 80), some (qI 1), some (qI f), some (qI t), some (qI k)] []
        exact qJ.vret hκ rfl rfl (by decide) (by decide) (⟨rfl, g, rfl, fun j j0 j1 => v3_1 j j0 (by omega), fun j hj => v3_2 j (by omega)⟩)
      · show qJ YX12_move κ _ (qLy u, (q_row m 80 g), y) 0 0 9 [some (qR 80), some (qI 1), some (qI f), some (qI t), some (qI k)] []
        refine qJ.run hκ 12 (pc' := 23) (ls' := [some (qR 80), some (qI 1), some (qI f), some (qI t), some (qI k)]) (st' := [qI ((1 * f) + k), qR 80, qI ((1 * t) + k), qR 80]) rfl ?_
        refine qJ.ald hκ rfl rfl rfl (by decide) (by omega) ?_
        show qJ YX12_move κ _ (qLy u, (q_row m 80 g), y) 0 0 24 [some (qR 80), some (qI 1), some (qI f), some (qI t), some (qI k)] [qI (g (((1 * f) + k).toNat)), qI ((1 * t) + k), qR 80]
        refine qJ.ast hκ rfl rfl rfl (by decide) (by omega) ?_
        refine qJ.mc (m1 := (q_up (q_row m 80 g) 80 (((1 * t) + k).toNat) (g (((1 * f) + k).toNat)))) (m2 := (q_row m 80 (q_fu g (((1 * t) + k).toNat) (g (((1 * f) + k).toNat))))) (by rw [q_up_row_eq]) ?_
        show qJ YX12_move κ _ (qLy u, (q_row m 80 (q_fu g (((1 * t) + k).toNat) (g (((1 * f) + k).toNat)))), y) 0 0 25 [some (qR 80), some (qI 1), some (qI f), some (qI t), some (qI k)] []
        refine qJ.run hκ 2 (pc' := 3) (ls' := [some (qR 80), some (qI 1), some (qI f), some (qI t), some (qI (k + 1))]) (st' := []) rfl ?_
        exact qJ.cast (ih3  (k + 1) (q_fu g (((1 * t) + k).toNat) (g (((1 * f) + k).toNat))) (by omega) (fun j j0 j1 => by
          by_cases e : j = k
          · rw [e, q_fu_eq, v3_2 (1 * f + k).toNat (by omega)]
          · rw [q_fu_ne (by omega)]; exact v3_1 j j0 (by omega)) (fun j hj => by rw [q_fu_ne (by omega)]; exact v3_2 j (by omega)) (by omega)) (rfl) rfl rfl
  show qJ YX12_move κ _ (qLy u, m, y) 0 0 0 [some (qR 80), some (qI 1), some (qI f), some (qI t), none] []
  refine qJ.run hκ 2 (pc' := 3) (ls' := [some (qR 80), some (qI 1), some (qI f), some (qI t), some (qI 0)]) (st' := []) rfl ?_
  exact qJ.cast (L3 2 0 (m 80) (by omega) (fun j j0 j1 => by omega) (fun j _ => rfl) (by omega)) (by rw [q_row_self]) rfl rfl

set_option maxRecDepth 100000 in
theorem c_mv81 (u : qU) (m y : qM) (f t : Int) (hf : 0 ≤ f ∧ f ≤ 3) (ht : 0 ≤ t ∧ t ≤ 3) (hft : ¬ f = t) : qCt YX12_move 1 0 0 [qR 81, qI 1, qI f, qI t] (qLy u, m, y) (fun r h => r = none ∧ ∃ g, h = (qLy u, q_row m 81 g, y) ∧ cpR 1 f t (m 81) g) := by
  refine qCt.intro okX12_move (Nat.le_of_ble_eq_true rfl) (fun κ hκ => ?_)
  have L3 : ∀ (n : Nat) (k : Int) (g : Nat → Int), (0 ≤ k ∧ k ≤ 1) → (∀ j : Int, 0 ≤ j → j < k → g (1 * t + j).toNat = m 81 (1 * f + j).toNat) → (∀ j : Nat, ¬ (1 * t ≤ (j : Int) ∧ (j : Int) < 1 * t + k) → g j = m 81 j) → ((1 - k).toNat) < n → qJ YX12_move κ (qFin (fun r h => r = none ∧ ∃ g, h = (qLy u, q_row m 81 g, y) ∧ cpR 1 f t (m 81) g) 0 0 κ) (qLy u, (q_row m 81 g), y) 0 0 3 [some (qR 81), some (qI 1), some (qI f), some (qI t), some (qI k)] [] := by
    intro n
    induction n with
    | zero => intro k g _ _ _ hz0; omega
    | succ n ih3 =>
      intro k g v3_0 v3_1 v3_2 v3_m
      refine qJ.run hκ 2 (pc' := 6) (ls' := [some (qR 81), some (qI 1), some (qI f), some (qI t), some (qI k)]) (st' := [qI 1, qI k]) rfl ?_
      refine qJ.icmp_ge hκ (tgt := 31) rfl rfl (by omega) (by omega) (fun c6 => ?_) (fun c6 => ?_)
      · show qJ YX12_move κ _ (qLy u, (q_row m 81 g), y) 0 0 31 [some (qR 81), some (qI 1), some (qI f), some (qI t), some (qI k)] []
        exact qJ.vret hκ rfl rfl (by decide) (by decide) (⟨rfl, g, rfl, fun j j0 j1 => v3_1 j j0 (by omega), fun j hj => v3_2 j (by omega)⟩)
      · show qJ YX12_move κ _ (qLy u, (q_row m 81 g), y) 0 0 9 [some (qR 81), some (qI 1), some (qI f), some (qI t), some (qI k)] []
        refine qJ.run hκ 12 (pc' := 23) (ls' := [some (qR 81), some (qI 1), some (qI f), some (qI t), some (qI k)]) (st' := [qI ((1 * f) + k), qR 81, qI ((1 * t) + k), qR 81]) rfl ?_
        refine qJ.ald hκ rfl rfl rfl (by decide) (by omega) ?_
        show qJ YX12_move κ _ (qLy u, (q_row m 81 g), y) 0 0 24 [some (qR 81), some (qI 1), some (qI f), some (qI t), some (qI k)] [qI (g (((1 * f) + k).toNat)), qI ((1 * t) + k), qR 81]
        refine qJ.ast hκ rfl rfl rfl (by decide) (by omega) ?_
        refine qJ.mc (m1 := (q_up (q_row m 81 g) 81 (((1 * t) + k).toNat) (g (((1 * f) + k).toNat)))) (m2 := (q_row m 81 (q_fu g (((1 * t) + k).toNat) (g (((1 * f) + k).toNat))))) (by rw [q_up_row_eq]) ?_
        show qJ YX12_move κ _ (qLy u, (q_row m 81 (q_fu g (((1 * t) + k).toNat) (g (((1 * f) + k).toNat)))), y) 0 0 25 [some (qR 81), some (qI 1), some (qI f), some (qI t), some (qI k)] []
        refine qJ.run hκ 2 (pc' := 3) (ls' := [some (qR 81), some (qI 1), some (qI f), some (qI t), some (qI (k + 1))]) (st' := []) rfl ?_
        exact qJ.cast (ih3  (k + 1) (q_fu g (((1 * t) + k).toNat) (g (((1 * f) + k).toNat))) (by omega) (fun j j0 j1 => by
          by_cases e : j = k
          · rw [e, q_fu_eq, v3_2 (1 * f + k).toNat (by omega)]
          · rw [q_fu_ne (by omega)]; exact v3_1 j j0 (by omega)) (fun j hj => by rw [q_fu_ne (by omega)]; exact v3_2 j (by omega)) (by omega)) (rfl) rfl rfl
  show qJ YX12_move κ _ (qLy u, m, y) 0 0 0 [some (qR 81), some (qI 1), some (qI f), some (qI t), none] []
  refine qJ.run hκ 2 (pc' := 3) (ls' := [some (qR 81), some (qI 1), some (qI f), some (qI t), some (qI 0)]) (st' := []) rfl ?_
  exact qJ.cast (L3 2 0 (m 81) (by omega) (fun j j0 j1 => by omega) (fun j _ => rfl) (by omega)) (by rw [q_row_self]) rfl rfl

set_option maxRecDepth 100000 in
theorem c_mv82 (u : qU) (m y : qM) (f t : Int) (hf : 0 ≤ f ∧ f ≤ 3) (ht : 0 ≤ t ∧ t ≤ 3) (hft : ¬ f = t) : qCt YX12_move 1 0 0 [qR 82, qI 1, qI f, qI t] (qLy u, m, y) (fun r h => r = none ∧ ∃ g, h = (qLy u, q_row m 82 g, y) ∧ cpR 1 f t (m 82) g) := by
  refine qCt.intro okX12_move (Nat.le_of_ble_eq_true rfl) (fun κ hκ => ?_)
  have L3 : ∀ (n : Nat) (k : Int) (g : Nat → Int), (0 ≤ k ∧ k ≤ 1) → (∀ j : Int, 0 ≤ j → j < k → g (1 * t + j).toNat = m 82 (1 * f + j).toNat) → (∀ j : Nat, ¬ (1 * t ≤ (j : Int) ∧ (j : Int) < 1 * t + k) → g j = m 82 j) → ((1 - k).toNat) < n → qJ YX12_move κ (qFin (fun r h => r = none ∧ ∃ g, h = (qLy u, q_row m 82 g, y) ∧ cpR 1 f t (m 82) g) 0 0 κ) (qLy u, (q_row m 82 g), y) 0 0 3 [some (qR 82), some (qI 1), some (qI f), some (qI t), some (qI k)] [] := by
    intro n
    induction n with
    | zero => intro k g _ _ _ hz0; omega
    | succ n ih3 =>
      intro k g v3_0 v3_1 v3_2 v3_m
      refine qJ.run hκ 2 (pc' := 6) (ls' := [some (qR 82), some (qI 1), some (qI f), some (qI t), some (qI k)]) (st' := [qI 1, qI k]) rfl ?_
      refine qJ.icmp_ge hκ (tgt := 31) rfl rfl (by omega) (by omega) (fun c6 => ?_) (fun c6 => ?_)
      · show qJ YX12_move κ _ (qLy u, (q_row m 82 g), y) 0 0 31 [some (qR 82), some (qI 1), some (qI f), some (qI t), some (qI k)] []
        exact qJ.vret hκ rfl rfl (by decide) (by decide) (⟨rfl, g, rfl, fun j j0 j1 => v3_1 j j0 (by omega), fun j hj => v3_2 j (by omega)⟩)
      · show qJ YX12_move κ _ (qLy u, (q_row m 82 g), y) 0 0 9 [some (qR 82), some (qI 1), some (qI f), some (qI t), some (qI k)] []
        refine qJ.run hκ 12 (pc' := 23) (ls' := [some (qR 82), some (qI 1), some (qI f), some (qI t), some (qI k)]) (st' := [qI ((1 * f) + k), qR 82, qI ((1 * t) + k), qR 82]) rfl ?_
        refine qJ.ald hκ rfl rfl rfl (by decide) (by omega) ?_
        show qJ YX12_move κ _ (qLy u, (q_row m 82 g), y) 0 0 24 [some (qR 82), some (qI 1), some (qI f), some (qI t), some (qI k)] [qI (g (((1 * f) + k).toNat)), qI ((1 * t) + k), qR 82]
        refine qJ.ast hκ rfl rfl rfl (by decide) (by omega) ?_
        refine qJ.mc (m1 := (q_up (q_row m 82 g) 82 (((1 * t) + k).toNat) (g (((1 * f) + k).toNat)))) (m2 := (q_row m 82 (q_fu g (((1 * t) + k).toNat) (g (((1 * f) + k).toNat))))) (by rw [q_up_row_eq]) ?_
        show qJ YX12_move κ _ (qLy u, (q_row m 82 (q_fu g (((1 * t) + k).toNat) (g (((1 * f) + k).toNat)))), y) 0 0 25 [some (qR 82), some (qI 1), some (qI f), some (qI t), some (qI k)] []
        refine qJ.run hκ 2 (pc' := 3) (ls' := [some (qR 82), some (qI 1), some (qI f), some (qI t), some (qI (k + 1))]) (st' := []) rfl ?_
        exact qJ.cast (ih3  (k + 1) (q_fu g (((1 * t) + k).toNat) (g (((1 * f) + k).toNat))) (by omega) (fun j j0 j1 => by
          by_cases e : j = k
          · rw [e, q_fu_eq, v3_2 (1 * f + k).toNat (by omega)]
          · rw [q_fu_ne (by omega)]; exact v3_1 j j0 (by omega)) (fun j hj => by rw [q_fu_ne (by omega)]; exact v3_2 j (by omega)) (by omega)) (rfl) rfl rfl
  show qJ YX12_move κ _ (qLy u, m, y) 0 0 0 [some (qR 82), some (qI 1), some (qI f), some (qI t), none] []
  refine qJ.run hκ 2 (pc' := 3) (ls' := [some (qR 82), some (qI 1), some (qI f), some (qI t), some (qI 0)]) (st' := []) rfl ?_
  exact qJ.cast (L3 2 0 (m 82) (by omega) (fun j j0 j1 => by omega) (fun j _ => rfl) (by omega)) (by rw [q_row_self]) rfl rfl

set_option maxRecDepth 100000 in
theorem c_mv83 (u : qU) (m y : qM) (f t : Int) (hf : 0 ≤ f ∧ f ≤ 3) (ht : 0 ≤ t ∧ t ≤ 3) (hft : ¬ f = t) : qCt YX12_move 1 0 0 [qR 83, qI 1, qI f, qI t] (qLy u, m, y) (fun r h => r = none ∧ ∃ g, h = (qLy u, q_row m 83 g, y) ∧ cpR 1 f t (m 83) g) := by
  refine qCt.intro okX12_move (Nat.le_of_ble_eq_true rfl) (fun κ hκ => ?_)
  have L3 : ∀ (n : Nat) (k : Int) (g : Nat → Int), (0 ≤ k ∧ k ≤ 1) → (∀ j : Int, 0 ≤ j → j < k → g (1 * t + j).toNat = m 83 (1 * f + j).toNat) → (∀ j : Nat, ¬ (1 * t ≤ (j : Int) ∧ (j : Int) < 1 * t + k) → g j = m 83 j) → ((1 - k).toNat) < n → qJ YX12_move κ (qFin (fun r h => r = none ∧ ∃ g, h = (qLy u, q_row m 83 g, y) ∧ cpR 1 f t (m 83) g) 0 0 κ) (qLy u, (q_row m 83 g), y) 0 0 3 [some (qR 83), some (qI 1), some (qI f), some (qI t), some (qI k)] [] := by
    intro n
    induction n with
    | zero => intro k g _ _ _ hz0; omega
    | succ n ih3 =>
      intro k g v3_0 v3_1 v3_2 v3_m
      refine qJ.run hκ 2 (pc' := 6) (ls' := [some (qR 83), some (qI 1), some (qI f), some (qI t), some (qI k)]) (st' := [qI 1, qI k]) rfl ?_
      refine qJ.icmp_ge hκ (tgt := 31) rfl rfl (by omega) (by omega) (fun c6 => ?_) (fun c6 => ?_)
      · show qJ YX12_move κ _ (qLy u, (q_row m 83 g), y) 0 0 31 [some (qR 83), some (qI 1), some (qI f), some (qI t), some (qI k)] []
        exact qJ.vret hκ rfl rfl (by decide) (by decide) (⟨rfl, g, rfl, fun j j0 j1 => v3_1 j j0 (by omega), fun j hj => v3_2 j (by omega)⟩)
      · show qJ YX12_move κ _ (qLy u, (q_row m 83 g), y) 0 0 9 [some (qR 83), some (qI 1), some (qI f), some (qI t), some (qI k)] []
        refine qJ.run hκ 12 (pc' := 23) (ls' := [some (qR 83), some (qI 1), some (qI f), some (qI t), some (qI k)]) (st' := [qI ((1 * f) + k), qR 83, qI ((1 * t) + k), qR 83]) rfl ?_
        refine qJ.ald hκ rfl rfl rfl (by decide) (by omega) ?_
        show qJ YX12_move κ _ (qLy u, (q_row m 83 g), y) 0 0 24 [some (qR 83), some (qI 1), some (qI f), some (qI t), some (qI k)] [qI (g (((1 * f) + k).toNat)), qI ((1 * t) + k), qR 83]
        refine qJ.ast hκ rfl rfl rfl (by decide) (by omega) ?_
        refine qJ.mc (m1 := (q_up (q_row m 83 g) 83 (((1 * t) + k).toNat) (g (((1 * f) + k).toNat)))) (m2 := (q_row m 83 (q_fu g (((1 * t) + k).toNat) (g (((1 * f) + k).toNat))))) (by rw [q_up_row_eq]) ?_
        show qJ YX12_move κ _ (qLy u, (q_row m 83 (q_fu g (((1 * t) + k).toNat) (g (((1 * f) + k).toNat)))), y) 0 0 25 [some (qR 83), some (qI 1), some (qI f), some (qI t), some (qI k)] []
        refine qJ.run hκ 2 (pc' := 3) (ls' := [some (qR 83), some (qI 1), some (qI f), some (qI t), some (qI (k + 1))]) (st' := []) rfl ?_
        exact qJ.cast (ih3  (k + 1) (q_fu g (((1 * t) + k).toNat) (g (((1 * f) + k).toNat))) (by omega) (fun j j0 j1 => by
          by_cases e : j = k
          · rw [e, q_fu_eq, v3_2 (1 * f + k).toNat (by omega)]
          · rw [q_fu_ne (by omega)]; exact v3_1 j j0 (by omega)) (fun j hj => by rw [q_fu_ne (by omega)]; exact v3_2 j (by omega)) (by omega)) (rfl) rfl rfl
  show qJ YX12_move κ _ (qLy u, m, y) 0 0 0 [some (qR 83), some (qI 1), some (qI f), some (qI t), none] []
  refine qJ.run hκ 2 (pc' := 3) (ls' := [some (qR 83), some (qI 1), some (qI f), some (qI t), some (qI 0)]) (st' := []) rfl ?_
  exact qJ.cast (L3 2 0 (m 83) (by omega) (fun j j0 j1 => by omega) (fun j _ => rfl) (by omega)) (by rw [q_row_self]) rfl rfl

set_option maxRecDepth 100000 in
theorem c_mv84 (u : qU) (m y : qM) (f t : Int) (hf : 0 ≤ f ∧ f ≤ 3) (ht : 0 ≤ t ∧ t ≤ 3) (hft : ¬ f = t) : qCt YX12_move 1 0 0 [qR 84, qI 1, qI f, qI t] (qLy u, m, y) (fun r h => r = none ∧ ∃ g, h = (qLy u, q_row m 84 g, y) ∧ cpR 1 f t (m 84) g) := by
  refine qCt.intro okX12_move (Nat.le_of_ble_eq_true rfl) (fun κ hκ => ?_)
  have L3 : ∀ (n : Nat) (k : Int) (g : Nat → Int), (0 ≤ k ∧ k ≤ 1) → (∀ j : Int, 0 ≤ j → j < k → g (1 * t + j).toNat = m 84 (1 * f + j).toNat) → (∀ j : Nat, ¬ (1 * t ≤ (j : Int) ∧ (j : Int) < 1 * t + k) → g j = m 84 j) → ((1 - k).toNat) < n → qJ YX12_move κ (qFin (fun r h => r = none ∧ ∃ g, h = (qLy u, q_row m 84 g, y) ∧ cpR 1 f t (m 84) g) 0 0 κ) (qLy u, (q_row m 84 g), y) 0 0 3 [some (qR 84), some (qI 1), some (qI f), some (qI t), some (qI k)] [] := by
    intro n
    induction n with
    | zero => intro k g _ _ _ hz0; omega
    | succ n ih3 =>
      intro k g v3_0 v3_1 v3_2 v3_m
      refine qJ.run hκ 2 (pc' := 6) (ls' := [some (qR 84), some (qI 1), some (qI f), some (qI t), some (qI k)]) (st' := [qI 1, qI k]) rfl ?_
      refine qJ.icmp_ge hκ (tgt := 31) rfl rfl (by omega) (by omega) (fun c6 => ?_) (fun c6 => ?_)
      · show qJ YX12_move κ _ (qLy u, (q_row m 84 g), y) 0 0 31 [some (qR 84), some (qI 1), some (qI f), some (qI t), some (qI k)] []
        exact qJ.vret hκ rfl rfl (by decide) (by decide) (⟨rfl, g, rfl, fun j j0 j1 => v3_1 j j0 (by omega), fun j hj => v3_2 j (by omega)⟩)
      · show qJ YX12_move κ _ (qLy u, (q_row m 84 g), y) 0 0 9 [some (qR 84), some (qI 1), some (qI f), some (qI t), some (qI k)] []
        refine qJ.run hκ 12 (pc' := 23) (ls' := [some (qR 84), some (qI 1), some (qI f), some (qI t), some (qI k)]) (st' := [qI ((1 * f) + k), qR 84, qI ((1 * t) + k), qR 84]) rfl ?_
        refine qJ.ald hκ rfl rfl rfl (by decide) (by omega) ?_
        show qJ YX12_move κ _ (qLy u, (q_row m 84 g), y) 0 0 24 [some (qR 84), some (qI 1), some (qI f), some (qI t), some (qI k)] [qI (g (((1 * f) + k).toNat)), qI ((1 * t) + k), qR 84]
        refine qJ.ast hκ rfl rfl rfl (by decide) (by omega) ?_
        refine qJ.mc (m1 := (q_up (q_row m 84 g) 84 (((1 * t) + k).toNat) (g (((1 * f) + k).toNat)))) (m2 := (q_row m 84 (q_fu g (((1 * t) + k).toNat) (g (((1 * f) + k).toNat))))) (by rw [q_up_row_eq]) ?_
        show qJ YX12_move κ _ (qLy u, (q_row m 84 (q_fu g (((1 * t) + k).toNat) (g (((1 * f) + k).toNat)))), y) 0 0 25 [some (qR 84), some (qI 1), some (qI f), some (qI t), some (qI k)] []
        refine qJ.run hκ 2 (pc' := 3) (ls' := [some (qR 84), some (qI 1), some (qI f), some (qI t), some (qI (k + 1))]) (st' := []) rfl ?_
        exact qJ.cast (ih3  (k + 1) (q_fu g (((1 * t) + k).toNat) (g (((1 * f) + k).toNat))) (by omega) (fun j j0 j1 => by
          by_cases e : j = k
          · rw [e, q_fu_eq, v3_2 (1 * f + k).toNat (by omega)]
          · rw [q_fu_ne (by omega)]; exact v3_1 j j0 (by omega)) (fun j hj => by rw [q_fu_ne (by omega)]; exact v3_2 j (by omega)) (by omega)) (rfl) rfl rfl
  show qJ YX12_move κ _ (qLy u, m, y) 0 0 0 [some (qR 84), some (qI 1), some (qI f), some (qI t), none] []
  refine qJ.run hκ 2 (pc' := 3) (ls' := [some (qR 84), some (qI 1), some (qI f), some (qI t), some (qI 0)]) (st' := []) rfl ?_
  exact qJ.cast (L3 2 0 (m 84) (by omega) (fun j j0 j1 => by omega) (fun j _ => rfl) (by omega)) (by rw [q_row_self]) rfl rfl

set_option maxRecDepth 100000 in
theorem c_mv85 (u : qU) (m y : qM) (f t : Int) (hf : 0 ≤ f ∧ f ≤ 3) (ht : 0 ≤ t ∧ t ≤ 3) (hft : ¬ f = t) : qCt YX12_move 1 0 0 [qR 85, qI 1, qI f, qI t] (qLy u, m, y) (fun r h => r = none ∧ ∃ g, h = (qLy u, q_row m 85 g, y) ∧ cpR 1 f t (m 85) g) := by
  refine qCt.intro okX12_move (Nat.le_of_ble_eq_true rfl) (fun κ hκ => ?_)
  have L3 : ∀ (n : Nat) (k : Int) (g : Nat → Int), (0 ≤ k ∧ k ≤ 1) → (∀ j : Int, 0 ≤ j → j < k → g (1 * t + j).toNat = m 85 (1 * f + j).toNat) → (∀ j : Nat, ¬ (1 * t ≤ (j : Int) ∧ (j : Int) < 1 * t + k) → g j = m 85 j) → ((1 - k).toNat) < n → qJ YX12_move κ (qFin (fun r h => r = none ∧ ∃ g, h = (qLy u, q_row m 85 g, y) ∧ cpR 1 f t (m 85) g) 0 0 κ) (qLy u, (q_row m 85 g), y) 0 0 3 [some (qR 85), some (qI 1), some (qI f), some (qI t), some (qI k)] [] := by
    intro n
    induction n with
    | zero => intro k g _ _ _ hz0; omega
    | succ n ih3 =>
      intro k g v3_0 v3_1 v3_2 v3_m
      refine qJ.run hκ 2 (pc' := 6) (ls' := [some (qR 85), some (qI 1), some (qI f), some (qI t), some (qI k)]) (st' := [qI 1, qI k]) rfl ?_
      refine qJ.icmp_ge hκ (tgt := 31) rfl rfl (by omega) (by omega) (fun c6 => ?_) (fun c6 => ?_)
      · show qJ YX12_move κ _ (qLy u, (q_row m 85 g), y) 0 0 31 [some (qR 85), some (qI 1), some (qI f), some (qI t), some (qI k)] []
        exact qJ.vret hκ rfl rfl (by decide) (by decide) (⟨rfl, g, rfl, fun j j0 j1 => v3_1 j j0 (by omega), fun j hj => v3_2 j (by omega)⟩)
      · show qJ YX12_move κ _ (qLy u, (q_row m 85 g), y) 0 0 9 [some (qR 85), some (qI 1), some (qI f), some (qI t), some (qI k)] []
        refine qJ.run hκ 12 (pc' := 23) (ls' := [some (qR 85), some (qI 1), some (qI f), some (qI t), some (qI k)]) (st' := [qI ((1 * f) + k), qR 85, qI ((1 * t) + k), qR 85]) rfl ?_
        refine qJ.ald hκ rfl rfl rfl (by decide) (by omega) ?_
        show qJ YX12_move κ _ (qLy u, (q_row m 85 g), y) 0 0 24 [some (qR 85), some (qI 1), some (qI f), some (qI t), some (qI k)] [qI (g (((1 * f) + k).toNat)), qI ((1 * t) + k), qR 85]
        refine qJ.ast hκ rfl rfl rfl (by decide) (by omega) ?_
        refine qJ.mc (m1 := (q_up (q_row m 85 g) 85 (((1 * t) + k).toNat) (g (((1 * f) + k).toNat)))) (m2 := (q_row m 85 (q_fu g (((1 * t) + k).toNat) (g (((1 * f) + k).toNat))))) (by rw [q_up_row_eq]) ?_
        show qJ YX12_move κ _ (qLy u, (q_row m 85 (q_fu g (((1 * t) + k).toNat) (g (((1 * f) + k).toNat)))), y) 0 0 25 [some (qR 85), some (qI 1), some (qI f), some (qI t), some (qI k)] []
        refine qJ.run hκ 2 (pc' := 3) (ls' := [some (qR 85), some (qI 1), some (qI f), some (qI t), some (qI (k + 1))]) (st' := []) rfl ?_
        exact qJ.cast (ih3  (k + 1) (q_fu g (((1 * t) + k).toNat) (g (((1 * f) + k).toNat))) (by omega) (fun j j0 j1 => by
          by_cases e : j = k
          · rw [e, q_fu_eq, v3_2 (1 * f + k).toNat (by omega)]
          · rw [q_fu_ne (by omega)]; exact v3_1 j j0 (by omega)) (fun j hj => by rw [q_fu_ne (by omega)]; exact v3_2 j (by omega)) (by omega)) (rfl) rfl rfl
  show qJ YX12_move κ _ (qLy u, m, y) 0 0 0 [some (qR 85), some (qI 1), some (qI f), some (qI t), none] []
  refine qJ.run hκ 2 (pc' := 3) (ls' := [some (qR 85), some (qI 1), some (qI f), some (qI t), some (qI 0)]) (st' := []) rfl ?_
  exact qJ.cast (L3 2 0 (m 85) (by omega) (fun j j0 j1 => by omega) (fun j _ => rfl) (by omega)) (by rw [q_row_self]) rfl rfl

set_option maxRecDepth 100000 in
theorem c_mv86 (u : qU) (m y : qM) (f t : Int) (hf : 0 ≤ f ∧ f ≤ 3) (ht : 0 ≤ t ∧ t ≤ 3) (hft : ¬ f = t) : qCt YX12_move 1 0 0 [qR 86, qI 1, qI f, qI t] (qLy u, m, y) (fun r h => r = none ∧ ∃ g, h = (qLy u, q_row m 86 g, y) ∧ cpR 1 f t (m 86) g) := by
  refine qCt.intro okX12_move (Nat.le_of_ble_eq_true rfl) (fun κ hκ => ?_)
  have L3 : ∀ (n : Nat) (k : Int) (g : Nat → Int), (0 ≤ k ∧ k ≤ 1) → (∀ j : Int, 0 ≤ j → j < k → g (1 * t + j).toNat = m 86 (1 * f + j).toNat) → (∀ j : Nat, ¬ (1 * t ≤ (j : Int) ∧ (j : Int) < 1 * t + k) → g j = m 86 j) → ((1 - k).toNat) < n → qJ YX12_move κ (qFin (fun r h => r = none ∧ ∃ g, h = (qLy u, q_row m 86 g, y) ∧ cpR 1 f t (m 86) g) 0 0 κ) (qLy u, (q_row m 86 g), y) 0 0 3 [some (qR 86), some (qI 1), some (qI f), some (qI t), some (qI k)] [] := by
    intro n
    induction n with
    | zero => intro k g _ _ _ hz0; omega
    | succ n ih3 =>
      intro k g v3_0 v3_1 v3_2 v3_m
      refine qJ.run hκ 2 (pc' := 6) (ls' := [some (qR 86), some (qI 1), some (qI f), some (qI t), some (qI k)]) (st' := [qI 1, qI k]) rfl ?_
      refine qJ.icmp_ge hκ (tgt := 31) rfl rfl (by omega) (by omega) (fun c6 => ?_) (fun c6 => ?_)
      · show qJ YX12_move κ _ (qLy u, (q_row m 86 g), y) 0 0 31 [some (qR 86), some (qI 1), some (qI f), some (qI t), some (qI k)] []
        exact qJ.vret hκ rfl rfl (by decide) (by decide) (⟨rfl, g, rfl, fun j j0 j1 => v3_1 j j0 (by omega), fun j hj => v3_2 j (by omega)⟩)
      · show qJ YX12_move κ _ (qLy u, (q_row m 86 g), y) 0 0 9 [some (qR 86), some (qI 1), some (qI f), some (qI t), some (qI k)] []
        refine qJ.run hκ 12 (pc' := 23) (ls' := [some (qR 86), some (qI 1), some (qI f), some (qI t), some (qI k)]) (st' := [qI ((1 * f) + k), qR 86, qI ((1 * t) + k), qR 86]) rfl ?_
        refine qJ.ald hκ rfl rfl rfl (by decide) (by omega) ?_
        show qJ YX12_move κ _ (qLy u, (q_row m 86 g), y) 0 0 24 [some (qR 86), some (qI 1), some (qI f), some (qI t), some (qI k)] [qI (g (((1 * f) + k).toNat)), qI ((1 * t) + k), qR 86]
        refine qJ.ast hκ rfl rfl rfl (by decide) (by omega) ?_
        refine qJ.mc (m1 := (q_up (q_row m 86 g) 86 (((1 * t) + k).toNat) (g (((1 * f) + k).toNat)))) (m2 := (q_row m 86 (q_fu g (((1 * t) + k).toNat) (g (((1 * f) + k).toNat))))) (by rw [q_up_row_eq]) ?_
        show qJ YX12_move κ _ (qLy u, (q_row m 86 (q_fu g (((1 * t) + k).toNat) (g (((1 * f) + k).toNat)))), y) 0 0 25 [some (qR 86), some (qI 1), some (qI f), some (qI t), some (qI k)] []
        refine qJ.run hκ 2 (pc' := 3) (ls' := [some (qR 86), some (qI 1), some (qI f), some (qI t), some (qI (k + 1))]) (st' := []) rfl ?_
        exact qJ.cast (ih3  (k + 1) (q_fu g (((1 * t) + k).toNat) (g (((1 * f) + k).toNat))) (by omega) (fun j j0 j1 => by
          by_cases e : j = k
          · rw [e, q_fu_eq, v3_2 (1 * f + k).toNat (by omega)]
          · rw [q_fu_ne (by omega)]; exact v3_1 j j0 (by omega)) (fun j hj => by rw [q_fu_ne (by omega)]; exact v3_2 j (by omega)) (by omega)) (rfl) rfl rfl
  show qJ YX12_move κ _ (qLy u, m, y) 0 0 0 [some (qR 86), some (qI 1), some (qI f), some (qI t), none] []
  refine qJ.run hκ 2 (pc' := 3) (ls' := [some (qR 86), some (qI 1), some (qI f), some (qI t), some (qI 0)]) (st' := []) rfl ?_
  exact qJ.cast (L3 2 0 (m 86) (by omega) (fun j j0 j1 => by omega) (fun j _ => rfl) (by omega)) (by rw [q_row_self]) rfl rfl

set_option maxRecDepth 100000 in
theorem c_mv87 (u : qU) (m y : qM) (f t : Int) (hf : 0 ≤ f ∧ f ≤ 3) (ht : 0 ≤ t ∧ t ≤ 3) (hft : ¬ f = t) : qCt YX12_move 1 0 0 [qR 87, qI 300, qI f, qI t] (qLy u, m, y) (fun r h => r = none ∧ ∃ g, h = (qLy u, q_row m 87 g, y) ∧ cpR 300 f t (m 87) g) := by
  refine qCt.intro okX12_move (Nat.le_of_ble_eq_true rfl) (fun κ hκ => ?_)
  have L3 : ∀ (n : Nat) (k : Int) (g : Nat → Int), (0 ≤ k ∧ k ≤ 300) → (∀ j : Int, 0 ≤ j → j < k → g (300 * t + j).toNat = m 87 (300 * f + j).toNat) → (∀ j : Nat, ¬ (300 * t ≤ (j : Int) ∧ (j : Int) < 300 * t + k) → g j = m 87 j) → ((300 - k).toNat) < n → qJ YX12_move κ (qFin (fun r h => r = none ∧ ∃ g, h = (qLy u, q_row m 87 g, y) ∧ cpR 300 f t (m 87) g) 0 0 κ) (qLy u, (q_row m 87 g), y) 0 0 3 [some (qR 87), some (qI 300), some (qI f), some (qI t), some (qI k)] [] := by
    intro n
    induction n with
    | zero => intro k g _ _ _ hz0; omega
    | succ n ih3 =>
      intro k g v3_0 v3_1 v3_2 v3_m
      refine qJ.run hκ 2 (pc' := 6) (ls' := [some (qR 87), some (qI 300), some (qI f), some (qI t), some (qI k)]) (st' := [qI 300, qI k]) rfl ?_
      refine qJ.icmp_ge hκ (tgt := 31) rfl rfl (by omega) (by omega) (fun c6 => ?_) (fun c6 => ?_)
      · show qJ YX12_move κ _ (qLy u, (q_row m 87 g), y) 0 0 31 [some (qR 87), some (qI 300), some (qI f), some (qI t), some (qI k)] []
        exact qJ.vret hκ rfl rfl (by decide) (by decide) (⟨rfl, g, rfl, fun j j0 j1 => v3_1 j j0 (by omega), fun j hj => v3_2 j (by omega)⟩)
      · show qJ YX12_move κ _ (qLy u, (q_row m 87 g), y) 0 0 9 [some (qR 87), some (qI 300), some (qI f), some (qI t), some (qI k)] []
        refine qJ.run hκ 12 (pc' := 23) (ls' := [some (qR 87), some (qI 300), some (qI f), some (qI t), some (qI k)]) (st' := [qI ((300 * f) + k), qR 87, qI ((300 * t) + k), qR 87]) rfl ?_
        refine qJ.ald hκ rfl rfl rfl (by decide) (by omega) ?_
        show qJ YX12_move κ _ (qLy u, (q_row m 87 g), y) 0 0 24 [some (qR 87), some (qI 300), some (qI f), some (qI t), some (qI k)] [qI (g (((300 * f) + k).toNat)), qI ((300 * t) + k), qR 87]
        refine qJ.ast hκ rfl rfl rfl (by decide) (by omega) ?_
        refine qJ.mc (m1 := (q_up (q_row m 87 g) 87 (((300 * t) + k).toNat) (g (((300 * f) + k).toNat)))) (m2 := (q_row m 87 (q_fu g (((300 * t) + k).toNat) (g (((300 * f) + k).toNat))))) (by rw [q_up_row_eq]) ?_
        show qJ YX12_move κ _ (qLy u, (q_row m 87 (q_fu g (((300 * t) + k).toNat) (g (((300 * f) + k).toNat)))), y) 0 0 25 [some (qR 87), some (qI 300), some (qI f), some (qI t), some (qI k)] []
        refine qJ.run hκ 2 (pc' := 3) (ls' := [some (qR 87), some (qI 300), some (qI f), some (qI t), some (qI (k + 1))]) (st' := []) rfl ?_
        exact qJ.cast (ih3  (k + 1) (q_fu g (((300 * t) + k).toNat) (g (((300 * f) + k).toNat))) (by omega) (fun j j0 j1 => by
          by_cases e : j = k
          · rw [e, q_fu_eq, v3_2 (300 * f + k).toNat (by omega)]
          · rw [q_fu_ne (by omega)]; exact v3_1 j j0 (by omega)) (fun j hj => by rw [q_fu_ne (by omega)]; exact v3_2 j (by omega)) (by omega)) (rfl) rfl rfl
  show qJ YX12_move κ _ (qLy u, m, y) 0 0 0 [some (qR 87), some (qI 300), some (qI f), some (qI t), none] []
  refine qJ.run hκ 2 (pc' := 3) (ls' := [some (qR 87), some (qI 300), some (qI f), some (qI t), some (qI 0)]) (st' := []) rfl ?_
  exact qJ.cast (L3 301 0 (m 87) (by omega) (fun j j0 j1 => by omega) (fun j _ => rfl) (by omega)) (by rw [q_row_self]) rfl rfl

set_option maxRecDepth 100000 in
theorem c_mv88 (u : qU) (m y : qM) (f t : Int) (hf : 0 ≤ f ∧ f ≤ 3) (ht : 0 ≤ t ∧ t ≤ 3) (hft : ¬ f = t) : qCt YX12_move 1 0 0 [qR 88, qI 60, qI f, qI t] (qLy u, m, y) (fun r h => r = none ∧ ∃ g, h = (qLy u, q_row m 88 g, y) ∧ cpR 60 f t (m 88) g) := by
  refine qCt.intro okX12_move (Nat.le_of_ble_eq_true rfl) (fun κ hκ => ?_)
  have L3 : ∀ (n : Nat) (k : Int) (g : Nat → Int), (0 ≤ k ∧ k ≤ 60) → (∀ j : Int, 0 ≤ j → j < k → g (60 * t + j).toNat = m 88 (60 * f + j).toNat) → (∀ j : Nat, ¬ (60 * t ≤ (j : Int) ∧ (j : Int) < 60 * t + k) → g j = m 88 j) → ((60 - k).toNat) < n → qJ YX12_move κ (qFin (fun r h => r = none ∧ ∃ g, h = (qLy u, q_row m 88 g, y) ∧ cpR 60 f t (m 88) g) 0 0 κ) (qLy u, (q_row m 88 g), y) 0 0 3 [some (qR 88), some (qI 60), some (qI f), some (qI t), some (qI k)] [] := by
    intro n
    induction n with
    | zero => intro k g _ _ _ hz0; omega
    | succ n ih3 =>
      intro k g v3_0 v3_1 v3_2 v3_m
      refine qJ.run hκ 2 (pc' := 6) (ls' := [some (qR 88), some (qI 60), some (qI f), some (qI t), some (qI k)]) (st' := [qI 60, qI k]) rfl ?_
      refine qJ.icmp_ge hκ (tgt := 31) rfl rfl (by omega) (by omega) (fun c6 => ?_) (fun c6 => ?_)
      · show qJ YX12_move κ _ (qLy u, (q_row m 88 g), y) 0 0 31 [some (qR 88), some (qI 60), some (qI f), some (qI t), some (qI k)] []
        exact qJ.vret hκ rfl rfl (by decide) (by decide) (⟨rfl, g, rfl, fun j j0 j1 => v3_1 j j0 (by omega), fun j hj => v3_2 j (by omega)⟩)
      · show qJ YX12_move κ _ (qLy u, (q_row m 88 g), y) 0 0 9 [some (qR 88), some (qI 60), some (qI f), some (qI t), some (qI k)] []
        refine qJ.run hκ 12 (pc' := 23) (ls' := [some (qR 88), some (qI 60), some (qI f), some (qI t), some (qI k)]) (st' := [qI ((60 * f) + k), qR 88, qI ((60 * t) + k), qR 88]) rfl ?_
        refine qJ.ald hκ rfl rfl rfl (by decide) (by omega) ?_
        show qJ YX12_move κ _ (qLy u, (q_row m 88 g), y) 0 0 24 [some (qR 88), some (qI 60), some (qI f), some (qI t), some (qI k)] [qI (g (((60 * f) + k).toNat)), qI ((60 * t) + k), qR 88]
        refine qJ.ast hκ rfl rfl rfl (by decide) (by omega) ?_
        refine qJ.mc (m1 := (q_up (q_row m 88 g) 88 (((60 * t) + k).toNat) (g (((60 * f) + k).toNat)))) (m2 := (q_row m 88 (q_fu g (((60 * t) + k).toNat) (g (((60 * f) + k).toNat))))) (by rw [q_up_row_eq]) ?_
        show qJ YX12_move κ _ (qLy u, (q_row m 88 (q_fu g (((60 * t) + k).toNat) (g (((60 * f) + k).toNat)))), y) 0 0 25 [some (qR 88), some (qI 60), some (qI f), some (qI t), some (qI k)] []
        refine qJ.run hκ 2 (pc' := 3) (ls' := [some (qR 88), some (qI 60), some (qI f), some (qI t), some (qI (k + 1))]) (st' := []) rfl ?_
        exact qJ.cast (ih3  (k + 1) (q_fu g (((60 * t) + k).toNat) (g (((60 * f) + k).toNat))) (by omega) (fun j j0 j1 => by
          by_cases e : j = k
          · rw [e, q_fu_eq, v3_2 (60 * f + k).toNat (by omega)]
          · rw [q_fu_ne (by omega)]; exact v3_1 j j0 (by omega)) (fun j hj => by rw [q_fu_ne (by omega)]; exact v3_2 j (by omega)) (by omega)) (rfl) rfl rfl
  show qJ YX12_move κ _ (qLy u, m, y) 0 0 0 [some (qR 88), some (qI 60), some (qI f), some (qI t), none] []
  refine qJ.run hκ 2 (pc' := 3) (ls' := [some (qR 88), some (qI 60), some (qI f), some (qI t), some (qI 0)]) (st' := []) rfl ?_
  exact qJ.cast (L3 61 0 (m 88) (by omega) (fun j j0 j1 => by omega) (fun j _ => rfl) (by omega)) (by rw [q_row_self]) rfl rfl

set_option maxRecDepth 100000 in
theorem c_mv89 (u : qU) (m y : qM) (f t : Int) (hf : 0 ≤ f ∧ f ≤ 3) (ht : 0 ≤ t ∧ t ≤ 3) (hft : ¬ f = t) : qCt YX12_move 1 0 0 [qR 89, qI 60, qI f, qI t] (qLy u, m, y) (fun r h => r = none ∧ ∃ g, h = (qLy u, q_row m 89 g, y) ∧ cpR 60 f t (m 89) g) := by
  refine qCt.intro okX12_move (Nat.le_of_ble_eq_true rfl) (fun κ hκ => ?_)
  have L3 : ∀ (n : Nat) (k : Int) (g : Nat → Int), (0 ≤ k ∧ k ≤ 60) → (∀ j : Int, 0 ≤ j → j < k → g (60 * t + j).toNat = m 89 (60 * f + j).toNat) → (∀ j : Nat, ¬ (60 * t ≤ (j : Int) ∧ (j : Int) < 60 * t + k) → g j = m 89 j) → ((60 - k).toNat) < n → qJ YX12_move κ (qFin (fun r h => r = none ∧ ∃ g, h = (qLy u, q_row m 89 g, y) ∧ cpR 60 f t (m 89) g) 0 0 κ) (qLy u, (q_row m 89 g), y) 0 0 3 [some (qR 89), some (qI 60), some (qI f), some (qI t), some (qI k)] [] := by
    intro n
    induction n with
    | zero => intro k g _ _ _ hz0; omega
    | succ n ih3 =>
      intro k g v3_0 v3_1 v3_2 v3_m
      refine qJ.run hκ 2 (pc' := 6) (ls' := [some (qR 89), some (qI 60), some (qI f), some (qI t), some (qI k)]) (st' := [qI 60, qI k]) rfl ?_
      refine qJ.icmp_ge hκ (tgt := 31) rfl rfl (by omega) (by omega) (fun c6 => ?_) (fun c6 => ?_)
      · show qJ YX12_move κ _ (qLy u, (q_row m 89 g), y) 0 0 31 [some (qR 89), some (qI 60), some (qI f), some (qI t), some (qI k)] []
        exact qJ.vret hκ rfl rfl (by decide) (by decide) (⟨rfl, g, rfl, fun j j0 j1 => v3_1 j j0 (by omega), fun j hj => v3_2 j (by omega)⟩)
      · show qJ YX12_move κ _ (qLy u, (q_row m 89 g), y) 0 0 9 [some (qR 89), some (qI 60), some (qI f), some (qI t), some (qI k)] []
        refine qJ.run hκ 12 (pc' := 23) (ls' := [some (qR 89), some (qI 60), some (qI f), some (qI t), some (qI k)]) (st' := [qI ((60 * f) + k), qR 89, qI ((60 * t) + k), qR 89]) rfl ?_
        refine qJ.ald hκ rfl rfl rfl (by decide) (by omega) ?_
        show qJ YX12_move κ _ (qLy u, (q_row m 89 g), y) 0 0 24 [some (qR 89), some (qI 60), some (qI f), some (qI t), some (qI k)] [qI (g (((60 * f) + k).toNat)), qI ((60 * t) + k), qR 89]
        refine qJ.ast hκ rfl rfl rfl (by decide) (by omega) ?_
        refine qJ.mc (m1 := (q_up (q_row m 89 g) 89 (((60 * t) + k).toNat) (g (((60 * f) + k).toNat)))) (m2 := (q_row m 89 (q_fu g (((60 * t) + k).toNat) (g (((60 * f) + k).toNat))))) (by rw [q_up_row_eq]) ?_
        show qJ YX12_move κ _ (qLy u, (q_row m 89 (q_fu g (((60 * t) + k).toNat) (g (((60 * f) + k).toNat)))), y) 0 0 25 [some (qR 89), some (qI 60), some (qI f), some (qI t), some (qI k)] []
        refine qJ.run hκ 2 (pc' := 3) (ls' := [some (qR 89), some (qI 60), some (qI f), some (qI t), some (qI (k + 1))]) (st' := []) rfl ?_
        exact qJ.cast (ih3  (k + 1) (q_fu g (((60 * t) + k).toNat) (g (((60 * f) + k).toNat))) (by omega) (fun j j0 j1 => by
          by_cases e : j = k
          · rw [e, q_fu_eq, v3_2 (60 * f + k).toNat (by omega)]
          · rw [q_fu_ne (by omega)]; exact v3_1 j j0 (by omega)) (fun j hj => by rw [q_fu_ne (by omega)]; exact v3_2 j (by omega)) (by omega)) (rfl) rfl rfl
  show qJ YX12_move κ _ (qLy u, m, y) 0 0 0 [some (qR 89), some (qI 60), some (qI f), some (qI t), none] []
  refine qJ.run hκ 2 (pc' := 3) (ls' := [some (qR 89), some (qI 60), some (qI f), some (qI t), some (qI 0)]) (st' := []) rfl ?_
  exact qJ.cast (L3 61 0 (m 89) (by omega) (fun j j0 j1 => by omega) (fun j _ => rfl) (by omega)) (by rw [q_row_self]) rfl rfl

set_option maxRecDepth 100000 in
theorem c_mv90 (u : qU) (m y : qM) (f t : Int) (hf : 0 ≤ f ∧ f ≤ 3) (ht : 0 ≤ t ∧ t ≤ 3) (hft : ¬ f = t) : qCt YX12_move 1 0 0 [qR 90, qI 60, qI f, qI t] (qLy u, m, y) (fun r h => r = none ∧ ∃ g, h = (qLy u, q_row m 90 g, y) ∧ cpR 60 f t (m 90) g) := by
  refine qCt.intro okX12_move (Nat.le_of_ble_eq_true rfl) (fun κ hκ => ?_)
  have L3 : ∀ (n : Nat) (k : Int) (g : Nat → Int), (0 ≤ k ∧ k ≤ 60) → (∀ j : Int, 0 ≤ j → j < k → g (60 * t + j).toNat = m 90 (60 * f + j).toNat) → (∀ j : Nat, ¬ (60 * t ≤ (j : Int) ∧ (j : Int) < 60 * t + k) → g j = m 90 j) → ((60 - k).toNat) < n → qJ YX12_move κ (qFin (fun r h => r = none ∧ ∃ g, h = (qLy u, q_row m 90 g, y) ∧ cpR 60 f t (m 90) g) 0 0 κ) (qLy u, (q_row m 90 g), y) 0 0 3 [some (qR 90), some (qI 60), some (qI f), some (qI t), some (qI k)] [] := by
    intro n
    induction n with
    | zero => intro k g _ _ _ hz0; omega
    | succ n ih3 =>
      intro k g v3_0 v3_1 v3_2 v3_m
      refine qJ.run hκ 2 (pc' := 6) (ls' := [some (qR 90), some (qI 60), some (qI f), some (qI t), some (qI k)]) (st' := [qI 60, qI k]) rfl ?_
      refine qJ.icmp_ge hκ (tgt := 31) rfl rfl (by omega) (by omega) (fun c6 => ?_) (fun c6 => ?_)
      · show qJ YX12_move κ _ (qLy u, (q_row m 90 g), y) 0 0 31 [some (qR 90), some (qI 60), some (qI f), some (qI t), some (qI k)] []
        exact qJ.vret hκ rfl rfl (by decide) (by decide) (⟨rfl, g, rfl, fun j j0 j1 => v3_1 j j0 (by omega), fun j hj => v3_2 j (by omega)⟩)
      · show qJ YX12_move κ _ (qLy u, (q_row m 90 g), y) 0 0 9 [some (qR 90), some (qI 60), some (qI f), some (qI t), some (qI k)] []
        refine qJ.run hκ 12 (pc' := 23) (ls' := [some (qR 90), some (qI 60), some (qI f), some (qI t), some (qI k)]) (st' := [qI ((60 * f) + k), qR 90, qI ((60 * t) + k), qR 90]) rfl ?_
        refine qJ.ald hκ rfl rfl rfl (by decide) (by omega) ?_
        show qJ YX12_move κ _ (qLy u, (q_row m 90 g), y) 0 0 24 [some (qR 90), some (qI 60), some (qI f), some (qI t), some (qI k)] [qI (g (((60 * f) + k).toNat)), qI ((60 * t) + k), qR 90]
        refine qJ.ast hκ rfl rfl rfl (by decide) (by omega) ?_
        refine qJ.mc (m1 := (q_up (q_row m 90 g) 90 (((60 * t) + k).toNat) (g (((60 * f) + k).toNat)))) (m2 := (q_row m 90 (q_fu g (((60 * t) + k).toNat) (g (((60 * f) + k).toNat))))) (by rw [q_up_row_eq]) ?_
        show qJ YX12_move κ _ (qLy u, (q_row m 90 (q_fu g (((60 * t) + k).toNat) (g (((60 * f) + k).toNat)))), y) 0 0 25 [some (qR 90), some (qI 60), some (qI f), some (qI t), some (qI k)] []
        refine qJ.run hκ 2 (pc' := 3) (ls' := [some (qR 90), some (qI 60), some (qI f), some (qI t), some (qI (k + 1))]) (st' := []) rfl ?_
        exact qJ.cast (ih3  (k + 1) (q_fu g (((60 * t) + k).toNat) (g (((60 * f) + k).toNat))) (by omega) (fun j j0 j1 => by
          by_cases e : j = k
          · rw [e, q_fu_eq, v3_2 (60 * f + k).toNat (by omega)]
          · rw [q_fu_ne (by omega)]; exact v3_1 j j0 (by omega)) (fun j hj => by rw [q_fu_ne (by omega)]; exact v3_2 j (by omega)) (by omega)) (rfl) rfl rfl
  show qJ YX12_move κ _ (qLy u, m, y) 0 0 0 [some (qR 90), some (qI 60), some (qI f), some (qI t), none] []
  refine qJ.run hκ 2 (pc' := 3) (ls' := [some (qR 90), some (qI 60), some (qI f), some (qI t), some (qI 0)]) (st' := []) rfl ?_
  exact qJ.cast (L3 61 0 (m 90) (by omega) (fun j j0 j1 => by omega) (fun j _ => rfl) (by omega)) (by rw [q_row_self]) rfl rfl

set_option maxRecDepth 100000 in
theorem c_mv92 (u : qU) (m y : qM) (f t : Int) (hf : 0 ≤ f ∧ f ≤ 3) (ht : 0 ≤ t ∧ t ≤ 3) (hft : ¬ f = t) : qCt YX12_move 1 0 0 [qR 92, qI 1, qI f, qI t] (qLy u, m, y) (fun r h => r = none ∧ ∃ g, h = (qLy u, q_row m 92 g, y) ∧ cpR 1 f t (m 92) g) := by
  refine qCt.intro okX12_move (Nat.le_of_ble_eq_true rfl) (fun κ hκ => ?_)
  have L3 : ∀ (n : Nat) (k : Int) (g : Nat → Int), (0 ≤ k ∧ k ≤ 1) → (∀ j : Int, 0 ≤ j → j < k → g (1 * t + j).toNat = m 92 (1 * f + j).toNat) → (∀ j : Nat, ¬ (1 * t ≤ (j : Int) ∧ (j : Int) < 1 * t + k) → g j = m 92 j) → ((1 - k).toNat) < n → qJ YX12_move κ (qFin (fun r h => r = none ∧ ∃ g, h = (qLy u, q_row m 92 g, y) ∧ cpR 1 f t (m 92) g) 0 0 κ) (qLy u, (q_row m 92 g), y) 0 0 3 [some (qR 92), some (qI 1), some (qI f), some (qI t), some (qI k)] [] := by
    intro n
    induction n with
    | zero => intro k g _ _ _ hz0; omega
    | succ n ih3 =>
      intro k g v3_0 v3_1 v3_2 v3_m
      refine qJ.run hκ 2 (pc' := 6) (ls' := [some (qR 92), some (qI 1), some (qI f), some (qI t), some (qI k)]) (st' := [qI 1, qI k]) rfl ?_
      refine qJ.icmp_ge hκ (tgt := 31) rfl rfl (by omega) (by omega) (fun c6 => ?_) (fun c6 => ?_)
      · show qJ YX12_move κ _ (qLy u, (q_row m 92 g), y) 0 0 31 [some (qR 92), some (qI 1), some (qI f), some (qI t), some (qI k)] []
        exact qJ.vret hκ rfl rfl (by decide) (by decide) (⟨rfl, g, rfl, fun j j0 j1 => v3_1 j j0 (by omega), fun j hj => v3_2 j (by omega)⟩)
      · show qJ YX12_move κ _ (qLy u, (q_row m 92 g), y) 0 0 9 [some (qR 92), some (qI 1), some (qI f), some (qI t), some (qI k)] []
        refine qJ.run hκ 12 (pc' := 23) (ls' := [some (qR 92), some (qI 1), some (qI f), some (qI t), some (qI k)]) (st' := [qI ((1 * f) + k), qR 92, qI ((1 * t) + k), qR 92]) rfl ?_
        refine qJ.ald hκ rfl rfl rfl (by decide) (by omega) ?_
        show qJ YX12_move κ _ (qLy u, (q_row m 92 g), y) 0 0 24 [some (qR 92), some (qI 1), some (qI f), some (qI t), some (qI k)] [qI (g (((1 * f) + k).toNat)), qI ((1 * t) + k), qR 92]
        refine qJ.ast hκ rfl rfl rfl (by decide) (by omega) ?_
        refine qJ.mc (m1 := (q_up (q_row m 92 g) 92 (((1 * t) + k).toNat) (g (((1 * f) + k).toNat)))) (m2 := (q_row m 92 (q_fu g (((1 * t) + k).toNat) (g (((1 * f) + k).toNat))))) (by rw [q_up_row_eq]) ?_
        show qJ YX12_move κ _ (qLy u, (q_row m 92 (q_fu g (((1 * t) + k).toNat) (g (((1 * f) + k).toNat)))), y) 0 0 25 [some (qR 92), some (qI 1), some (qI f), some (qI t), some (qI k)] []
        refine qJ.run hκ 2 (pc' := 3) (ls' := [some (qR 92), some (qI 1), some (qI f), some (qI t), some (qI (k + 1))]) (st' := []) rfl ?_
        exact qJ.cast (ih3  (k + 1) (q_fu g (((1 * t) + k).toNat) (g (((1 * f) + k).toNat))) (by omega) (fun j j0 j1 => by
          by_cases e : j = k
          · rw [e, q_fu_eq, v3_2 (1 * f + k).toNat (by omega)]
          · rw [q_fu_ne (by omega)]; exact v3_1 j j0 (by omega)) (fun j hj => by rw [q_fu_ne (by omega)]; exact v3_2 j (by omega)) (by omega)) (rfl) rfl rfl
  show qJ YX12_move κ _ (qLy u, m, y) 0 0 0 [some (qR 92), some (qI 1), some (qI f), some (qI t), none] []
  refine qJ.run hκ 2 (pc' := 3) (ls' := [some (qR 92), some (qI 1), some (qI f), some (qI t), some (qI 0)]) (st' := []) rfl ?_
  exact qJ.cast (L3 2 0 (m 92) (by omega) (fun j j0 j1 => by omega) (fun j _ => rfl) (by omega)) (by rw [q_row_self]) rfl rfl

set_option maxRecDepth 100000 in
theorem c_mv93 (u : qU) (m y : qM) (f t : Int) (hf : 0 ≤ f ∧ f ≤ 3) (ht : 0 ≤ t ∧ t ≤ 3) (hft : ¬ f = t) : qCt YX12_move 1 0 0 [qR 93, qI 150, qI f, qI t] (qLy u, m, y) (fun r h => r = none ∧ ∃ g, h = (qLy u, q_row m 93 g, y) ∧ cpR 150 f t (m 93) g) := by
  refine qCt.intro okX12_move (Nat.le_of_ble_eq_true rfl) (fun κ hκ => ?_)
  have L3 : ∀ (n : Nat) (k : Int) (g : Nat → Int), (0 ≤ k ∧ k ≤ 150) → (∀ j : Int, 0 ≤ j → j < k → g (150 * t + j).toNat = m 93 (150 * f + j).toNat) → (∀ j : Nat, ¬ (150 * t ≤ (j : Int) ∧ (j : Int) < 150 * t + k) → g j = m 93 j) → ((150 - k).toNat) < n → qJ YX12_move κ (qFin (fun r h => r = none ∧ ∃ g, h = (qLy u, q_row m 93 g, y) ∧ cpR 150 f t (m 93) g) 0 0 κ) (qLy u, (q_row m 93 g), y) 0 0 3 [some (qR 93), some (qI 150), some (qI f), some (qI t), some (qI k)] [] := by
    intro n
    induction n with
    | zero => intro k g _ _ _ hz0; omega
    | succ n ih3 =>
      intro k g v3_0 v3_1 v3_2 v3_m
      refine qJ.run hκ 2 (pc' := 6) (ls' := [some (qR 93), some (qI 150), some (qI f), some (qI t), some (qI k)]) (st' := [qI 150, qI k]) rfl ?_
      refine qJ.icmp_ge hκ (tgt := 31) rfl rfl (by omega) (by omega) (fun c6 => ?_) (fun c6 => ?_)
      · show qJ YX12_move κ _ (qLy u, (q_row m 93 g), y) 0 0 31 [some (qR 93), some (qI 150), some (qI f), some (qI t), some (qI k)] []
        exact qJ.vret hκ rfl rfl (by decide) (by decide) (⟨rfl, g, rfl, fun j j0 j1 => v3_1 j j0 (by omega), fun j hj => v3_2 j (by omega)⟩)
      · show qJ YX12_move κ _ (qLy u, (q_row m 93 g), y) 0 0 9 [some (qR 93), some (qI 150), some (qI f), some (qI t), some (qI k)] []
        refine qJ.run hκ 12 (pc' := 23) (ls' := [some (qR 93), some (qI 150), some (qI f), some (qI t), some (qI k)]) (st' := [qI ((150 * f) + k), qR 93, qI ((150 * t) + k), qR 93]) rfl ?_
        refine qJ.ald hκ rfl rfl rfl (by decide) (by omega) ?_
        show qJ YX12_move κ _ (qLy u, (q_row m 93 g), y) 0 0 24 [some (qR 93), some (qI 150), some (qI f), some (qI t), some (qI k)] [qI (g (((150 * f) + k).toNat)), qI ((150 * t) + k), qR 93]
        refine qJ.ast hκ rfl rfl rfl (by decide) (by omega) ?_
        refine qJ.mc (m1 := (q_up (q_row m 93 g) 93 (((150 * t) + k).toNat) (g (((150 * f) + k).toNat)))) (m2 := (q_row m 93 (q_fu g (((150 * t) + k).toNat) (g (((150 * f) + k).toNat))))) (by rw [q_up_row_eq]) ?_
        show qJ YX12_move κ _ (qLy u, (q_row m 93 (q_fu g (((150 * t) + k).toNat) (g (((150 * f) + k).toNat)))), y) 0 0 25 [some (qR 93), some (qI 150), some (qI f), some (qI t), some (qI k)] []
        refine qJ.run hκ 2 (pc' := 3) (ls' := [some (qR 93), some (qI 150), some (qI f), some (qI t), some (qI (k + 1))]) (st' := []) rfl ?_
        exact qJ.cast (ih3  (k + 1) (q_fu g (((150 * t) + k).toNat) (g (((150 * f) + k).toNat))) (by omega) (fun j j0 j1 => by
          by_cases e : j = k
          · rw [e, q_fu_eq, v3_2 (150 * f + k).toNat (by omega)]
          · rw [q_fu_ne (by omega)]; exact v3_1 j j0 (by omega)) (fun j hj => by rw [q_fu_ne (by omega)]; exact v3_2 j (by omega)) (by omega)) (rfl) rfl rfl
  show qJ YX12_move κ _ (qLy u, m, y) 0 0 0 [some (qR 93), some (qI 150), some (qI f), some (qI t), none] []
  refine qJ.run hκ 2 (pc' := 3) (ls' := [some (qR 93), some (qI 150), some (qI f), some (qI t), some (qI 0)]) (st' := []) rfl ?_
  exact qJ.cast (L3 151 0 (m 93) (by omega) (fun j j0 j1 => by omega) (fun j _ => rfl) (by omega)) (by rw [q_row_self]) rfl rfl

set_option maxRecDepth 100000 in
theorem c_mv94 (u : qU) (m y : qM) (f t : Int) (hf : 0 ≤ f ∧ f ≤ 3) (ht : 0 ≤ t ∧ t ≤ 3) (hft : ¬ f = t) : qCt YX12_move 1 0 0 [qR 94, qI 150, qI f, qI t] (qLy u, m, y) (fun r h => r = none ∧ ∃ g, h = (qLy u, q_row m 94 g, y) ∧ cpR 150 f t (m 94) g) := by
  refine qCt.intro okX12_move (Nat.le_of_ble_eq_true rfl) (fun κ hκ => ?_)
  have L3 : ∀ (n : Nat) (k : Int) (g : Nat → Int), (0 ≤ k ∧ k ≤ 150) → (∀ j : Int, 0 ≤ j → j < k → g (150 * t + j).toNat = m 94 (150 * f + j).toNat) → (∀ j : Nat, ¬ (150 * t ≤ (j : Int) ∧ (j : Int) < 150 * t + k) → g j = m 94 j) → ((150 - k).toNat) < n → qJ YX12_move κ (qFin (fun r h => r = none ∧ ∃ g, h = (qLy u, q_row m 94 g, y) ∧ cpR 150 f t (m 94) g) 0 0 κ) (qLy u, (q_row m 94 g), y) 0 0 3 [some (qR 94), some (qI 150), some (qI f), some (qI t), some (qI k)] [] := by
    intro n
    induction n with
    | zero => intro k g _ _ _ hz0; omega
    | succ n ih3 =>
      intro k g v3_0 v3_1 v3_2 v3_m
      refine qJ.run hκ 2 (pc' := 6) (ls' := [some (qR 94), some (qI 150), some (qI f), some (qI t), some (qI k)]) (st' := [qI 150, qI k]) rfl ?_
      refine qJ.icmp_ge hκ (tgt := 31) rfl rfl (by omega) (by omega) (fun c6 => ?_) (fun c6 => ?_)
      · show qJ YX12_move κ _ (qLy u, (q_row m 94 g), y) 0 0 31 [some (qR 94), some (qI 150), some (qI f), some (qI t), some (qI k)] []
        exact qJ.vret hκ rfl rfl (by decide) (by decide) (⟨rfl, g, rfl, fun j j0 j1 => v3_1 j j0 (by omega), fun j hj => v3_2 j (by omega)⟩)
      · show qJ YX12_move κ _ (qLy u, (q_row m 94 g), y) 0 0 9 [some (qR 94), some (qI 150), some (qI f), some (qI t), some (qI k)] []
        refine qJ.run hκ 12 (pc' := 23) (ls' := [some (qR 94), some (qI 150), some (qI f), some (qI t), some (qI k)]) (st' := [qI ((150 * f) + k), qR 94, qI ((150 * t) + k), qR 94]) rfl ?_
        refine qJ.ald hκ rfl rfl rfl (by decide) (by omega) ?_
        show qJ YX12_move κ _ (qLy u, (q_row m 94 g), y) 0 0 24 [some (qR 94), some (qI 150), some (qI f), some (qI t), some (qI k)] [qI (g (((150 * f) + k).toNat)), qI ((150 * t) + k), qR 94]
        refine qJ.ast hκ rfl rfl rfl (by decide) (by omega) ?_
        refine qJ.mc (m1 := (q_up (q_row m 94 g) 94 (((150 * t) + k).toNat) (g (((150 * f) + k).toNat)))) (m2 := (q_row m 94 (q_fu g (((150 * t) + k).toNat) (g (((150 * f) + k).toNat))))) (by rw [q_up_row_eq]) ?_
        show qJ YX12_move κ _ (qLy u, (q_row m 94 (q_fu g (((150 * t) + k).toNat) (g (((150 * f) + k).toNat)))), y) 0 0 25 [some (qR 94), some (qI 150), some (qI f), some (qI t), some (qI k)] []
        refine qJ.run hκ 2 (pc' := 3) (ls' := [some (qR 94), some (qI 150), some (qI f), some (qI t), some (qI (k + 1))]) (st' := []) rfl ?_
        exact qJ.cast (ih3  (k + 1) (q_fu g (((150 * t) + k).toNat) (g (((150 * f) + k).toNat))) (by omega) (fun j j0 j1 => by
          by_cases e : j = k
          · rw [e, q_fu_eq, v3_2 (150 * f + k).toNat (by omega)]
          · rw [q_fu_ne (by omega)]; exact v3_1 j j0 (by omega)) (fun j hj => by rw [q_fu_ne (by omega)]; exact v3_2 j (by omega)) (by omega)) (rfl) rfl rfl
  show qJ YX12_move κ _ (qLy u, m, y) 0 0 0 [some (qR 94), some (qI 150), some (qI f), some (qI t), none] []
  refine qJ.run hκ 2 (pc' := 3) (ls' := [some (qR 94), some (qI 150), some (qI f), some (qI t), some (qI 0)]) (st' := []) rfl ?_
  exact qJ.cast (L3 151 0 (m 94) (by omega) (fun j j0 j1 => by omega) (fun j _ => rfl) (by omega)) (by rw [q_row_self]) rfl rfl

set_option maxRecDepth 100000 in
theorem c_mv95 (u : qU) (m y : qM) (f t : Int) (hf : 0 ≤ f ∧ f ≤ 3) (ht : 0 ≤ t ∧ t ≤ 3) (hft : ¬ f = t) : qCt YX12_move 1 0 0 [qR 95, qI 150, qI f, qI t] (qLy u, m, y) (fun r h => r = none ∧ ∃ g, h = (qLy u, q_row m 95 g, y) ∧ cpR 150 f t (m 95) g) := by
  refine qCt.intro okX12_move (Nat.le_of_ble_eq_true rfl) (fun κ hκ => ?_)
  have L3 : ∀ (n : Nat) (k : Int) (g : Nat → Int), (0 ≤ k ∧ k ≤ 150) → (∀ j : Int, 0 ≤ j → j < k → g (150 * t + j).toNat = m 95 (150 * f + j).toNat) → (∀ j : Nat, ¬ (150 * t ≤ (j : Int) ∧ (j : Int) < 150 * t + k) → g j = m 95 j) → ((150 - k).toNat) < n → qJ YX12_move κ (qFin (fun r h => r = none ∧ ∃ g, h = (qLy u, q_row m 95 g, y) ∧ cpR 150 f t (m 95) g) 0 0 κ) (qLy u, (q_row m 95 g), y) 0 0 3 [some (qR 95), some (qI 150), some (qI f), some (qI t), some (qI k)] [] := by
    intro n
    induction n with
    | zero => intro k g _ _ _ hz0; omega
    | succ n ih3 =>
      intro k g v3_0 v3_1 v3_2 v3_m
      refine qJ.run hκ 2 (pc' := 6) (ls' := [some (qR 95), some (qI 150), some (qI f), some (qI t), some (qI k)]) (st' := [qI 150, qI k]) rfl ?_
      refine qJ.icmp_ge hκ (tgt := 31) rfl rfl (by omega) (by omega) (fun c6 => ?_) (fun c6 => ?_)
      · show qJ YX12_move κ _ (qLy u, (q_row m 95 g), y) 0 0 31 [some (qR 95), some (qI 150), some (qI f), some (qI t), some (qI k)] []
        exact qJ.vret hκ rfl rfl (by decide) (by decide) (⟨rfl, g, rfl, fun j j0 j1 => v3_1 j j0 (by omega), fun j hj => v3_2 j (by omega)⟩)
      · show qJ YX12_move κ _ (qLy u, (q_row m 95 g), y) 0 0 9 [some (qR 95), some (qI 150), some (qI f), some (qI t), some (qI k)] []
        refine qJ.run hκ 12 (pc' := 23) (ls' := [some (qR 95), some (qI 150), some (qI f), some (qI t), some (qI k)]) (st' := [qI ((150 * f) + k), qR 95, qI ((150 * t) + k), qR 95]) rfl ?_
        refine qJ.ald hκ rfl rfl rfl (by decide) (by omega) ?_
        show qJ YX12_move κ _ (qLy u, (q_row m 95 g), y) 0 0 24 [some (qR 95), some (qI 150), some (qI f), some (qI t), some (qI k)] [qI (g (((150 * f) + k).toNat)), qI ((150 * t) + k), qR 95]
        refine qJ.ast hκ rfl rfl rfl (by decide) (by omega) ?_
        refine qJ.mc (m1 := (q_up (q_row m 95 g) 95 (((150 * t) + k).toNat) (g (((150 * f) + k).toNat)))) (m2 := (q_row m 95 (q_fu g (((150 * t) + k).toNat) (g (((150 * f) + k).toNat))))) (by rw [q_up_row_eq]) ?_
        show qJ YX12_move κ _ (qLy u, (q_row m 95 (q_fu g (((150 * t) + k).toNat) (g (((150 * f) + k).toNat)))), y) 0 0 25 [some (qR 95), some (qI 150), some (qI f), some (qI t), some (qI k)] []
        refine qJ.run hκ 2 (pc' := 3) (ls' := [some (qR 95), some (qI 150), some (qI f), some (qI t), some (qI (k + 1))]) (st' := []) rfl ?_
        exact qJ.cast (ih3  (k + 1) (q_fu g (((150 * t) + k).toNat) (g (((150 * f) + k).toNat))) (by omega) (fun j j0 j1 => by
          by_cases e : j = k
          · rw [e, q_fu_eq, v3_2 (150 * f + k).toNat (by omega)]
          · rw [q_fu_ne (by omega)]; exact v3_1 j j0 (by omega)) (fun j hj => by rw [q_fu_ne (by omega)]; exact v3_2 j (by omega)) (by omega)) (rfl) rfl rfl
  show qJ YX12_move κ _ (qLy u, m, y) 0 0 0 [some (qR 95), some (qI 150), some (qI f), some (qI t), none] []
  refine qJ.run hκ 2 (pc' := 3) (ls' := [some (qR 95), some (qI 150), some (qI f), some (qI t), some (qI 0)]) (st' := []) rfl ?_
  exact qJ.cast (L3 151 0 (m 95) (by omega) (fun j j0 j1 => by omega) (fun j _ => rfl) (by omega)) (by rw [q_row_self]) rfl rfl

set_option maxRecDepth 100000 in
theorem c_mv96 (u : qU) (m y : qM) (f t : Int) (hf : 0 ≤ f ∧ f ≤ 3) (ht : 0 ≤ t ∧ t ≤ 3) (hft : ¬ f = t) : qCt YX12_move 1 0 0 [qR 96, qI 1, qI f, qI t] (qLy u, m, y) (fun r h => r = none ∧ ∃ g, h = (qLy u, q_row m 96 g, y) ∧ cpR 1 f t (m 96) g) := by
  refine qCt.intro okX12_move (Nat.le_of_ble_eq_true rfl) (fun κ hκ => ?_)
  have L3 : ∀ (n : Nat) (k : Int) (g : Nat → Int), (0 ≤ k ∧ k ≤ 1) → (∀ j : Int, 0 ≤ j → j < k → g (1 * t + j).toNat = m 96 (1 * f + j).toNat) → (∀ j : Nat, ¬ (1 * t ≤ (j : Int) ∧ (j : Int) < 1 * t + k) → g j = m 96 j) → ((1 - k).toNat) < n → qJ YX12_move κ (qFin (fun r h => r = none ∧ ∃ g, h = (qLy u, q_row m 96 g, y) ∧ cpR 1 f t (m 96) g) 0 0 κ) (qLy u, (q_row m 96 g), y) 0 0 3 [some (qR 96), some (qI 1), some (qI f), some (qI t), some (qI k)] [] := by
    intro n
    induction n with
    | zero => intro k g _ _ _ hz0; omega
    | succ n ih3 =>
      intro k g v3_0 v3_1 v3_2 v3_m
      refine qJ.run hκ 2 (pc' := 6) (ls' := [some (qR 96), some (qI 1), some (qI f), some (qI t), some (qI k)]) (st' := [qI 1, qI k]) rfl ?_
      refine qJ.icmp_ge hκ (tgt := 31) rfl rfl (by omega) (by omega) (fun c6 => ?_) (fun c6 => ?_)
      · show qJ YX12_move κ _ (qLy u, (q_row m 96 g), y) 0 0 31 [some (qR 96), some (qI 1), some (qI f), some (qI t), some (qI k)] []
        exact qJ.vret hκ rfl rfl (by decide) (by decide) (⟨rfl, g, rfl, fun j j0 j1 => v3_1 j j0 (by omega), fun j hj => v3_2 j (by omega)⟩)
      · show qJ YX12_move κ _ (qLy u, (q_row m 96 g), y) 0 0 9 [some (qR 96), some (qI 1), some (qI f), some (qI t), some (qI k)] []
        refine qJ.run hκ 12 (pc' := 23) (ls' := [some (qR 96), some (qI 1), some (qI f), some (qI t), some (qI k)]) (st' := [qI ((1 * f) + k), qR 96, qI ((1 * t) + k), qR 96]) rfl ?_
        refine qJ.ald hκ rfl rfl rfl (by decide) (by omega) ?_
        show qJ YX12_move κ _ (qLy u, (q_row m 96 g), y) 0 0 24 [some (qR 96), some (qI 1), some (qI f), some (qI t), some (qI k)] [qI (g (((1 * f) + k).toNat)), qI ((1 * t) + k), qR 96]
        refine qJ.ast hκ rfl rfl rfl (by decide) (by omega) ?_
        refine qJ.mc (m1 := (q_up (q_row m 96 g) 96 (((1 * t) + k).toNat) (g (((1 * f) + k).toNat)))) (m2 := (q_row m 96 (q_fu g (((1 * t) + k).toNat) (g (((1 * f) + k).toNat))))) (by rw [q_up_row_eq]) ?_
        show qJ YX12_move κ _ (qLy u, (q_row m 96 (q_fu g (((1 * t) + k).toNat) (g (((1 * f) + k).toNat)))), y) 0 0 25 [some (qR 96), some (qI 1), some (qI f), some (qI t), some (qI k)] []
        refine qJ.run hκ 2 (pc' := 3) (ls' := [some (qR 96), some (qI 1), some (qI f), some (qI t), some (qI (k + 1))]) (st' := []) rfl ?_
        exact qJ.cast (ih3  (k + 1) (q_fu g (((1 * t) + k).toNat) (g (((1 * f) + k).toNat))) (by omega) (fun j j0 j1 => by
          by_cases e : j = k
          · rw [e, q_fu_eq, v3_2 (1 * f + k).toNat (by omega)]
          · rw [q_fu_ne (by omega)]; exact v3_1 j j0 (by omega)) (fun j hj => by rw [q_fu_ne (by omega)]; exact v3_2 j (by omega)) (by omega)) (rfl) rfl rfl
  show qJ YX12_move κ _ (qLy u, m, y) 0 0 0 [some (qR 96), some (qI 1), some (qI f), some (qI t), none] []
  refine qJ.run hκ 2 (pc' := 3) (ls' := [some (qR 96), some (qI 1), some (qI f), some (qI t), some (qI 0)]) (st' := []) rfl ?_
  exact qJ.cast (L3 2 0 (m 96) (by omega) (fun j j0 j1 => by omega) (fun j _ => rfl) (by omega)) (by rw [q_row_self]) rfl rfl

set_option maxRecDepth 100000 in
theorem c_mv97 (u : qU) (m y : qM) (f t : Int) (hf : 0 ≤ f ∧ f ≤ 3) (ht : 0 ≤ t ∧ t ≤ 3) (hft : ¬ f = t) : qCt YX12_move 1 0 0 [qR 97, qI 10, qI f, qI t] (qLy u, m, y) (fun r h => r = none ∧ ∃ g, h = (qLy u, q_row m 97 g, y) ∧ cpR 10 f t (m 97) g) := by
  refine qCt.intro okX12_move (Nat.le_of_ble_eq_true rfl) (fun κ hκ => ?_)
  have L3 : ∀ (n : Nat) (k : Int) (g : Nat → Int), (0 ≤ k ∧ k ≤ 10) → (∀ j : Int, 0 ≤ j → j < k → g (10 * t + j).toNat = m 97 (10 * f + j).toNat) → (∀ j : Nat, ¬ (10 * t ≤ (j : Int) ∧ (j : Int) < 10 * t + k) → g j = m 97 j) → ((10 - k).toNat) < n → qJ YX12_move κ (qFin (fun r h => r = none ∧ ∃ g, h = (qLy u, q_row m 97 g, y) ∧ cpR 10 f t (m 97) g) 0 0 κ) (qLy u, (q_row m 97 g), y) 0 0 3 [some (qR 97), some (qI 10), some (qI f), some (qI t), some (qI k)] [] := by
    intro n
    induction n with
    | zero => intro k g _ _ _ hz0; omega
    | succ n ih3 =>
      intro k g v3_0 v3_1 v3_2 v3_m
      refine qJ.run hκ 2 (pc' := 6) (ls' := [some (qR 97), some (qI 10), some (qI f), some (qI t), some (qI k)]) (st' := [qI 10, qI k]) rfl ?_
      refine qJ.icmp_ge hκ (tgt := 31) rfl rfl (by omega) (by omega) (fun c6 => ?_) (fun c6 => ?_)
      · show qJ YX12_move κ _ (qLy u, (q_row m 97 g), y) 0 0 31 [some (qR 97), some (qI 10), some (qI f), some (qI t), some (qI k)] []
        exact qJ.vret hκ rfl rfl (by decide) (by decide) (⟨rfl, g, rfl, fun j j0 j1 => v3_1 j j0 (by omega), fun j hj => v3_2 j (by omega)⟩)
      · show qJ YX12_move κ _ (qLy u, (q_row m 97 g), y) 0 0 9 [some (qR 97), some (qI 10), some (qI f), some (qI t), some (qI k)] []
        refine qJ.run hκ 12 (pc' := 23) (ls' := [some (qR 97), some (qI 10), some (qI f), some (qI t), some (qI k)]) (st' := [qI ((10 * f) + k), qR 97, qI ((10 * t) + k), qR 97]) rfl ?_
        refine qJ.ald hκ rfl rfl rfl (by decide) (by omega) ?_
        show qJ YX12_move κ _ (qLy u, (q_row m 97 g), y) 0 0 24 [some (qR 97), some (qI 10), some (qI f), some (qI t), some (qI k)] [qI (g (((10 * f) + k).toNat)), qI ((10 * t) + k), qR 97]
        refine qJ.ast hκ rfl rfl rfl (by decide) (by omega) ?_
        refine qJ.mc (m1 := (q_up (q_row m 97 g) 97 (((10 * t) + k).toNat) (g (((10 * f) + k).toNat)))) (m2 := (q_row m 97 (q_fu g (((10 * t) + k).toNat) (g (((10 * f) + k).toNat))))) (by rw [q_up_row_eq]) ?_
        show qJ YX12_move κ _ (qLy u, (q_row m 97 (q_fu g (((10 * t) + k).toNat) (g (((10 * f) + k).toNat)))), y) 0 0 25 [some (qR 97), some (qI 10), some (qI f), some (qI t), some (qI k)] []
        refine qJ.run hκ 2 (pc' := 3) (ls' := [some (qR 97), some (qI 10), some (qI f), some (qI t), some (qI (k + 1))]) (st' := []) rfl ?_
        exact qJ.cast (ih3  (k + 1) (q_fu g (((10 * t) + k).toNat) (g (((10 * f) + k).toNat))) (by omega) (fun j j0 j1 => by
          by_cases e : j = k
          · rw [e, q_fu_eq, v3_2 (10 * f + k).toNat (by omega)]
          · rw [q_fu_ne (by omega)]; exact v3_1 j j0 (by omega)) (fun j hj => by rw [q_fu_ne (by omega)]; exact v3_2 j (by omega)) (by omega)) (rfl) rfl rfl
  show qJ YX12_move κ _ (qLy u, m, y) 0 0 0 [some (qR 97), some (qI 10), some (qI f), some (qI t), none] []
  refine qJ.run hκ 2 (pc' := 3) (ls' := [some (qR 97), some (qI 10), some (qI f), some (qI t), some (qI 0)]) (st' := []) rfl ?_
  exact qJ.cast (L3 11 0 (m 97) (by omega) (fun j j0 j1 => by omega) (fun j _ => rfl) (by omega)) (by rw [q_row_self]) rfl rfl

set_option maxRecDepth 100000 in
theorem c_mv98 (u : qU) (m y : qM) (f t : Int) (hf : 0 ≤ f ∧ f ≤ 3) (ht : 0 ≤ t ∧ t ≤ 3) (hft : ¬ f = t) : qCt YX12_move 1 0 0 [qR 98, qI 300, qI f, qI t] (qLy u, m, y) (fun r h => r = none ∧ ∃ g, h = (qLy u, q_row m 98 g, y) ∧ cpR 300 f t (m 98) g) := by
  refine qCt.intro okX12_move (Nat.le_of_ble_eq_true rfl) (fun κ hκ => ?_)
  have L3 : ∀ (n : Nat) (k : Int) (g : Nat → Int), (0 ≤ k ∧ k ≤ 300) → (∀ j : Int, 0 ≤ j → j < k → g (300 * t + j).toNat = m 98 (300 * f + j).toNat) → (∀ j : Nat, ¬ (300 * t ≤ (j : Int) ∧ (j : Int) < 300 * t + k) → g j = m 98 j) → ((300 - k).toNat) < n → qJ YX12_move κ (qFin (fun r h => r = none ∧ ∃ g, h = (qLy u, q_row m 98 g, y) ∧ cpR 300 f t (m 98) g) 0 0 κ) (qLy u, (q_row m 98 g), y) 0 0 3 [some (qR 98), some (qI 300), some (qI f), some (qI t), some (qI k)] [] := by
    intro n
    induction n with
    | zero => intro k g _ _ _ hz0; omega
    | succ n ih3 =>
      intro k g v3_0 v3_1 v3_2 v3_m
      refine qJ.run hκ 2 (pc' := 6) (ls' := [some (qR 98), some (qI 300), some (qI f), some (qI t), some (qI k)]) (st' := [qI 300, qI k]) rfl ?_
      refine qJ.icmp_ge hκ (tgt := 31) rfl rfl (by omega) (by omega) (fun c6 => ?_) (fun c6 => ?_)
      · show qJ YX12_move κ _ (qLy u, (q_row m 98 g), y) 0 0 31 [some (qR 98), some (qI 300), some (qI f), some (qI t), some (qI k)] []
        exact qJ.vret hκ rfl rfl (by decide) (by decide) (⟨rfl, g, rfl, fun j j0 j1 => v3_1 j j0 (by omega), fun j hj => v3_2 j (by omega)⟩)
      · show qJ YX12_move κ _ (qLy u, (q_row m 98 g), y) 0 0 9 [some (qR 98), some (qI 300), some (qI f), some (qI t), some (qI k)] []
        refine qJ.run hκ 12 (pc' := 23) (ls' := [some (qR 98), some (qI 300), some (qI f), some (qI t), some (qI k)]) (st' := [qI ((300 * f) + k), qR 98, qI ((300 * t) + k), qR 98]) rfl ?_
        refine qJ.ald hκ rfl rfl rfl (by decide) (by omega) ?_
        show qJ YX12_move κ _ (qLy u, (q_row m 98 g), y) 0 0 24 [some (qR 98), some (qI 300), some (qI f), some (qI t), some (qI k)] [qI (g (((300 * f) + k).toNat)), qI ((300 * t) + k), qR 98]
        refine qJ.ast hκ rfl rfl rfl (by decide) (by omega) ?_
        refine qJ.mc (m1 := (q_up (q_row m 98 g) 98 (((300 * t) + k).toNat) (g (((300 * f) + k).toNat)))) (m2 := (q_row m 98 (q_fu g (((300 * t) + k).toNat) (g (((300 * f) + k).toNat))))) (by rw [q_up_row_eq]) ?_
        show qJ YX12_move κ _ (qLy u, (q_row m 98 (q_fu g (((300 * t) + k).toNat) (g (((300 * f) + k).toNat)))), y) 0 0 25 [some (qR 98), some (qI 300), some (qI f), some (qI t), some (qI k)] []
        refine qJ.run hκ 2 (pc' := 3) (ls' := [some (qR 98), some (qI 300), some (qI f), some (qI t), some (qI (k + 1))]) (st' := []) rfl ?_
        exact qJ.cast (ih3  (k + 1) (q_fu g (((300 * t) + k).toNat) (g (((300 * f) + k).toNat))) (by omega) (fun j j0 j1 => by
          by_cases e : j = k
          · rw [e, q_fu_eq, v3_2 (300 * f + k).toNat (by omega)]
          · rw [q_fu_ne (by omega)]; exact v3_1 j j0 (by omega)) (fun j hj => by rw [q_fu_ne (by omega)]; exact v3_2 j (by omega)) (by omega)) (rfl) rfl rfl
  show qJ YX12_move κ _ (qLy u, m, y) 0 0 0 [some (qR 98), some (qI 300), some (qI f), some (qI t), none] []
  refine qJ.run hκ 2 (pc' := 3) (ls' := [some (qR 98), some (qI 300), some (qI f), some (qI t), some (qI 0)]) (st' := []) rfl ?_
  exact qJ.cast (L3 301 0 (m 98) (by omega) (fun j j0 j1 => by omega) (fun j _ => rfl) (by omega)) (by rw [q_row_self]) rfl rfl

set_option maxRecDepth 100000 in
theorem c_mv99 (u : qU) (m y : qM) (f t : Int) (hf : 0 ≤ f ∧ f ≤ 3) (ht : 0 ≤ t ∧ t ≤ 3) (hft : ¬ f = t) : qCt YX12_move 1 0 0 [qR 99, qI 10, qI f, qI t] (qLy u, m, y) (fun r h => r = none ∧ ∃ g, h = (qLy u, q_row m 99 g, y) ∧ cpR 10 f t (m 99) g) := by
  refine qCt.intro okX12_move (Nat.le_of_ble_eq_true rfl) (fun κ hκ => ?_)
  have L3 : ∀ (n : Nat) (k : Int) (g : Nat → Int), (0 ≤ k ∧ k ≤ 10) → (∀ j : Int, 0 ≤ j → j < k → g (10 * t + j).toNat = m 99 (10 * f + j).toNat) → (∀ j : Nat, ¬ (10 * t ≤ (j : Int) ∧ (j : Int) < 10 * t + k) → g j = m 99 j) → ((10 - k).toNat) < n → qJ YX12_move κ (qFin (fun r h => r = none ∧ ∃ g, h = (qLy u, q_row m 99 g, y) ∧ cpR 10 f t (m 99) g) 0 0 κ) (qLy u, (q_row m 99 g), y) 0 0 3 [some (qR 99), some (qI 10), some (qI f), some (qI t), some (qI k)] [] := by
    intro n
    induction n with
    | zero => intro k g _ _ _ hz0; omega
    | succ n ih3 =>
      intro k g v3_0 v3_1 v3_2 v3_m
      refine qJ.run hκ 2 (pc' := 6) (ls' := [some (qR 99), some (qI 10), some (qI f), some (qI t), some (qI k)]) (st' := [qI 10, qI k]) rfl ?_
      refine qJ.icmp_ge hκ (tgt := 31) rfl rfl (by omega) (by omega) (fun c6 => ?_) (fun c6 => ?_)
      · show qJ YX12_move κ _ (qLy u, (q_row m 99 g), y) 0 0 31 [some (qR 99), some (qI 10), some (qI f), some (qI t), some (qI k)] []
        exact qJ.vret hκ rfl rfl (by decide) (by decide) (⟨rfl, g, rfl, fun j j0 j1 => v3_1 j j0 (by omega), fun j hj => v3_2 j (by omega)⟩)
      · show qJ YX12_move κ _ (qLy u, (q_row m 99 g), y) 0 0 9 [some (qR 99), some (qI 10), some (qI f), some (qI t), some (qI k)] []
        refine qJ.run hκ 12 (pc' := 23) (ls' := [some (qR 99), some (qI 10), some (qI f), some (qI t), some (qI k)]) (st' := [qI ((10 * f) + k), qR 99, qI ((10 * t) + k), qR 99]) rfl ?_
        refine qJ.ald hκ rfl rfl rfl (by decide) (by omega) ?_
        show qJ YX12_move κ _ (qLy u, (q_row m 99 g), y) 0 0 24 [some (qR 99), some (qI 10), some (qI f), some (qI t), some (qI k)] [qI (g (((10 * f) + k).toNat)), qI ((10 * t) + k), qR 99]
        refine qJ.ast hκ rfl rfl rfl (by decide) (by omega) ?_
        refine qJ.mc (m1 := (q_up (q_row m 99 g) 99 (((10 * t) + k).toNat) (g (((10 * f) + k).toNat)))) (m2 := (q_row m 99 (q_fu g (((10 * t) + k).toNat) (g (((10 * f) + k).toNat))))) (by rw [q_up_row_eq]) ?_
        show qJ YX12_move κ _ (qLy u, (q_row m 99 (q_fu g (((10 * t) + k).toNat) (g (((10 * f) + k).toNat)))), y) 0 0 25 [some (qR 99), some (qI 10), some (qI f), some (qI t), some (qI k)] []
        refine qJ.run hκ 2 (pc' := 3) (ls' := [some (qR 99), some (qI 10), some (qI f), some (qI t), some (qI (k + 1))]) (st' := []) rfl ?_
        exact qJ.cast (ih3  (k + 1) (q_fu g (((10 * t) + k).toNat) (g (((10 * f) + k).toNat))) (by omega) (fun j j0 j1 => by
          by_cases e : j = k
          · rw [e, q_fu_eq, v3_2 (10 * f + k).toNat (by omega)]
          · rw [q_fu_ne (by omega)]; exact v3_1 j j0 (by omega)) (fun j hj => by rw [q_fu_ne (by omega)]; exact v3_2 j (by omega)) (by omega)) (rfl) rfl rfl
  show qJ YX12_move κ _ (qLy u, m, y) 0 0 0 [some (qR 99), some (qI 10), some (qI f), some (qI t), none] []
  refine qJ.run hκ 2 (pc' := 3) (ls' := [some (qR 99), some (qI 10), some (qI f), some (qI t), some (qI 0)]) (st' := []) rfl ?_
  exact qJ.cast (L3 11 0 (m 99) (by omega) (fun j j0 j1 => by omega) (fun j _ => rfl) (by omega)) (by rw [q_row_self]) rfl rfl

set_option maxRecDepth 100000 in
theorem c_mv101 (u : qU) (m y : qM) (f t : Int) (hf : 0 ≤ f ∧ f ≤ 3) (ht : 0 ≤ t ∧ t ≤ 3) (hft : ¬ f = t) : qCt YX12_move 1 0 0 [qR 101, qI 1, qI f, qI t] (qLy u, m, y) (fun r h => r = none ∧ ∃ g, h = (qLy u, q_row m 101 g, y) ∧ cpR 1 f t (m 101) g) := by
  refine qCt.intro okX12_move (Nat.le_of_ble_eq_true rfl) (fun κ hκ => ?_)
  have L3 : ∀ (n : Nat) (k : Int) (g : Nat → Int), (0 ≤ k ∧ k ≤ 1) → (∀ j : Int, 0 ≤ j → j < k → g (1 * t + j).toNat = m 101 (1 * f + j).toNat) → (∀ j : Nat, ¬ (1 * t ≤ (j : Int) ∧ (j : Int) < 1 * t + k) → g j = m 101 j) → ((1 - k).toNat) < n → qJ YX12_move κ (qFin (fun r h => r = none ∧ ∃ g, h = (qLy u, q_row m 101 g, y) ∧ cpR 1 f t (m 101) g) 0 0 κ) (qLy u, (q_row m 101 g), y) 0 0 3 [some (qR 101), some (qI 1), some (qI f), some (qI t), some (qI k)] [] := by
    intro n
    induction n with
    | zero => intro k g _ _ _ hz0; omega
    | succ n ih3 =>
      intro k g v3_0 v3_1 v3_2 v3_m
      refine qJ.run hκ 2 (pc' := 6) (ls' := [some (qR 101), some (qI 1), some (qI f), some (qI t), some (qI k)]) (st' := [qI 1, qI k]) rfl ?_
      refine qJ.icmp_ge hκ (tgt := 31) rfl rfl (by omega) (by omega) (fun c6 => ?_) (fun c6 => ?_)
      · show qJ YX12_move κ _ (qLy u, (q_row m 101 g), y) 0 0 31 [some (qR 101), some (qI 1), some (qI f), some (qI t), some (qI k)] []
        exact qJ.vret hκ rfl rfl (by decide) (by decide) (⟨rfl, g, rfl, fun j j0 j1 => v3_1 j j0 (by omega), fun j hj => v3_2 j (by omega)⟩)
      · show qJ YX12_move κ _ (qLy u, (q_row m 101 g), y) 0 0 9 [some (qR 101), some (qI 1), some (qI f), some (qI t), some (qI k)] []
        refine qJ.run hκ 12 (pc' := 23) (ls' := [some (qR 101), some (qI 1), some (qI f), some (qI t), some (qI k)]) (st' := [qI ((1 * f) + k), qR 101, qI ((1 * t) + k), qR 101]) rfl ?_
        refine qJ.ald hκ rfl rfl rfl (by decide) (by omega) ?_
        show qJ YX12_move κ _ (qLy u, (q_row m 101 g), y) 0 0 24 [some (qR 101), some (qI 1), some (qI f), some (qI t), some (qI k)] [qI (g (((1 * f) + k).toNat)), qI ((1 * t) + k), qR 101]
        refine qJ.ast hκ rfl rfl rfl (by decide) (by omega) ?_
        refine qJ.mc (m1 := (q_up (q_row m 101 g) 101 (((1 * t) + k).toNat) (g (((1 * f) + k).toNat)))) (m2 := (q_row m 101 (q_fu g (((1 * t) + k).toNat) (g (((1 * f) + k).toNat))))) (by rw [q_up_row_eq]) ?_
        show qJ YX12_move κ _ (qLy u, (q_row m 101 (q_fu g (((1 * t) + k).toNat) (g (((1 * f) + k).toNat)))), y) 0 0 25 [some (qR 101), some (qI 1), some (qI f), some (qI t), some (qI k)] []
        refine qJ.run hκ 2 (pc' := 3) (ls' := [some (qR 101), some (qI 1), some (qI f), some (qI t), some (qI (k + 1))]) (st' := []) rfl ?_
        exact qJ.cast (ih3  (k + 1) (q_fu g (((1 * t) + k).toNat) (g (((1 * f) + k).toNat))) (by omega) (fun j j0 j1 => by
          by_cases e : j = k
          · rw [e, q_fu_eq, v3_2 (1 * f + k).toNat (by omega)]
          · rw [q_fu_ne (by omega)]; exact v3_1 j j0 (by omega)) (fun j hj => by rw [q_fu_ne (by omega)]; exact v3_2 j (by omega)) (by omega)) (rfl) rfl rfl
  show qJ YX12_move κ _ (qLy u, m, y) 0 0 0 [some (qR 101), some (qI 1), some (qI f), some (qI t), none] []
  refine qJ.run hκ 2 (pc' := 3) (ls' := [some (qR 101), some (qI 1), some (qI f), some (qI t), some (qI 0)]) (st' := []) rfl ?_
  exact qJ.cast (L3 2 0 (m 101) (by omega) (fun j j0 j1 => by omega) (fun j _ => rfl) (by omega)) (by rw [q_row_self]) rfl rfl

set_option maxRecDepth 100000 in
theorem c_mv102 (u : qU) (m y : qM) (f t : Int) (hf : 0 ≤ f ∧ f ≤ 3) (ht : 0 ≤ t ∧ t ≤ 3) (hft : ¬ f = t) : qCt YX12_move 1 0 0 [qR 102, qI 5, qI f, qI t] (qLy u, m, y) (fun r h => r = none ∧ ∃ g, h = (qLy u, q_row m 102 g, y) ∧ cpR 5 f t (m 102) g) := by
  refine qCt.intro okX12_move (Nat.le_of_ble_eq_true rfl) (fun κ hκ => ?_)
  have L3 : ∀ (n : Nat) (k : Int) (g : Nat → Int), (0 ≤ k ∧ k ≤ 5) → (∀ j : Int, 0 ≤ j → j < k → g (5 * t + j).toNat = m 102 (5 * f + j).toNat) → (∀ j : Nat, ¬ (5 * t ≤ (j : Int) ∧ (j : Int) < 5 * t + k) → g j = m 102 j) → ((5 - k).toNat) < n → qJ YX12_move κ (qFin (fun r h => r = none ∧ ∃ g, h = (qLy u, q_row m 102 g, y) ∧ cpR 5 f t (m 102) g) 0 0 κ) (qLy u, (q_row m 102 g), y) 0 0 3 [some (qR 102), some (qI 5), some (qI f), some (qI t), some (qI k)] [] := by
    intro n
    induction n with
    | zero => intro k g _ _ _ hz0; omega
    | succ n ih3 =>
      intro k g v3_0 v3_1 v3_2 v3_m
      refine qJ.run hκ 2 (pc' := 6) (ls' := [some (qR 102), some (qI 5), some (qI f), some (qI t), some (qI k)]) (st' := [qI 5, qI k]) rfl ?_
      refine qJ.icmp_ge hκ (tgt := 31) rfl rfl (by omega) (by omega) (fun c6 => ?_) (fun c6 => ?_)
      · show qJ YX12_move κ _ (qLy u, (q_row m 102 g), y) 0 0 31 [some (qR 102), some (qI 5), some (qI f), some (qI t), some (qI k)] []
        exact qJ.vret hκ rfl rfl (by decide) (by decide) (⟨rfl, g, rfl, fun j j0 j1 => v3_1 j j0 (by omega), fun j hj => v3_2 j (by omega)⟩)
      · show qJ YX12_move κ _ (qLy u, (q_row m 102 g), y) 0 0 9 [some (qR 102), some (qI 5), some (qI f), some (qI t), some (qI k)] []
        refine qJ.run hκ 12 (pc' := 23) (ls' := [some (qR 102), some (qI 5), some (qI f), some (qI t), some (qI k)]) (st' := [qI ((5 * f) + k), qR 102, qI ((5 * t) + k), qR 102]) rfl ?_
        refine qJ.ald hκ rfl rfl rfl (by decide) (by omega) ?_
        show qJ YX12_move κ _ (qLy u, (q_row m 102 g), y) 0 0 24 [some (qR 102), some (qI 5), some (qI f), some (qI t), some (qI k)] [qI (g (((5 * f) + k).toNat)), qI ((5 * t) + k), qR 102]
        refine qJ.ast hκ rfl rfl rfl (by decide) (by omega) ?_
        refine qJ.mc (m1 := (q_up (q_row m 102 g) 102 (((5 * t) + k).toNat) (g (((5 * f) + k).toNat)))) (m2 := (q_row m 102 (q_fu g (((5 * t) + k).toNat) (g (((5 * f) + k).toNat))))) (by rw [q_up_row_eq]) ?_
        show qJ YX12_move κ _ (qLy u, (q_row m 102 (q_fu g (((5 * t) + k).toNat) (g (((5 * f) + k).toNat)))), y) 0 0 25 [some (qR 102), some (qI 5), some (qI f), some (qI t), some (qI k)] []
        refine qJ.run hκ 2 (pc' := 3) (ls' := [some (qR 102), some (qI 5), some (qI f), some (qI t), some (qI (k + 1))]) (st' := []) rfl ?_
        exact qJ.cast (ih3  (k + 1) (q_fu g (((5 * t) + k).toNat) (g (((5 * f) + k).toNat))) (by omega) (fun j j0 j1 => by
          by_cases e : j = k
          · rw [e, q_fu_eq, v3_2 (5 * f + k).toNat (by omega)]
          · rw [q_fu_ne (by omega)]; exact v3_1 j j0 (by omega)) (fun j hj => by rw [q_fu_ne (by omega)]; exact v3_2 j (by omega)) (by omega)) (rfl) rfl rfl
  show qJ YX12_move κ _ (qLy u, m, y) 0 0 0 [some (qR 102), some (qI 5), some (qI f), some (qI t), none] []
  refine qJ.run hκ 2 (pc' := 3) (ls' := [some (qR 102), some (qI 5), some (qI f), some (qI t), some (qI 0)]) (st' := []) rfl ?_
  exact qJ.cast (L3 6 0 (m 102) (by omega) (fun j j0 j1 => by omega) (fun j _ => rfl) (by omega)) (by rw [q_row_self]) rfl rfl

set_option maxRecDepth 100000 in
theorem c_mv103 (u : qU) (m y : qM) (f t : Int) (hf : 0 ≤ f ∧ f ≤ 3) (ht : 0 ≤ t ∧ t ≤ 3) (hft : ¬ f = t) : qCt YX12_move 1 0 0 [qR 103, qI 5, qI f, qI t] (qLy u, m, y) (fun r h => r = none ∧ ∃ g, h = (qLy u, q_row m 103 g, y) ∧ cpR 5 f t (m 103) g) := by
  refine qCt.intro okX12_move (Nat.le_of_ble_eq_true rfl) (fun κ hκ => ?_)
  have L3 : ∀ (n : Nat) (k : Int) (g : Nat → Int), (0 ≤ k ∧ k ≤ 5) → (∀ j : Int, 0 ≤ j → j < k → g (5 * t + j).toNat = m 103 (5 * f + j).toNat) → (∀ j : Nat, ¬ (5 * t ≤ (j : Int) ∧ (j : Int) < 5 * t + k) → g j = m 103 j) → ((5 - k).toNat) < n → qJ YX12_move κ (qFin (fun r h => r = none ∧ ∃ g, h = (qLy u, q_row m 103 g, y) ∧ cpR 5 f t (m 103) g) 0 0 κ) (qLy u, (q_row m 103 g), y) 0 0 3 [some (qR 103), some (qI 5), some (qI f), some (qI t), some (qI k)] [] := by
    intro n
    induction n with
    | zero => intro k g _ _ _ hz0; omega
    | succ n ih3 =>
      intro k g v3_0 v3_1 v3_2 v3_m
      refine qJ.run hκ 2 (pc' := 6) (ls' := [some (qR 103), some (qI 5), some (qI f), some (qI t), some (qI k)]) (st' := [qI 5, qI k]) rfl ?_
      refine qJ.icmp_ge hκ (tgt := 31) rfl rfl (by omega) (by omega) (fun c6 => ?_) (fun c6 => ?_)
      · show qJ YX12_move κ _ (qLy u, (q_row m 103 g), y) 0 0 31 [some (qR 103), some (qI 5), some (qI f), some (qI t), some (qI k)] []
        exact qJ.vret hκ rfl rfl (by decide) (by decide) (⟨rfl, g, rfl, fun j j0 j1 => v3_1 j j0 (by omega), fun j hj => v3_2 j (by omega)⟩)
      · show qJ YX12_move κ _ (qLy u, (q_row m 103 g), y) 0 0 9 [some (qR 103), some (qI 5), some (qI f), some (qI t), some (qI k)] []
        refine qJ.run hκ 12 (pc' := 23) (ls' := [some (qR 103), some (qI 5), some (qI f), some (qI t), some (qI k)]) (st' := [qI ((5 * f) + k), qR 103, qI ((5 * t) + k), qR 103]) rfl ?_
        refine qJ.ald hκ rfl rfl rfl (by decide) (by omega) ?_
        show qJ YX12_move κ _ (qLy u, (q_row m 103 g), y) 0 0 24 [some (qR 103), some (qI 5), some (qI f), some (qI t), some (qI k)] [qI (g (((5 * f) + k).toNat)), qI ((5 * t) + k), qR 103]
        refine qJ.ast hκ rfl rfl rfl (by decide) (by omega) ?_
        refine qJ.mc (m1 := (q_up (q_row m 103 g) 103 (((5 * t) + k).toNat) (g (((5 * f) + k).toNat)))) (m2 := (q_row m 103 (q_fu g (((5 * t) + k).toNat) (g (((5 * f) + k).toNat))))) (by rw [q_up_row_eq]) ?_
        show qJ YX12_move κ _ (qLy u, (q_row m 103 (q_fu g (((5 * t) + k).toNat) (g (((5 * f) + k).toNat)))), y) 0 0 25 [some (qR 103), some (qI 5), some (qI f), some (qI t), some (qI k)] []
        refine qJ.run hκ 2 (pc' := 3) (ls' := [some (qR 103), some (qI 5), some (qI f), some (qI t), some (qI (k + 1))]) (st' := []) rfl ?_
        exact qJ.cast (ih3  (k + 1) (q_fu g (((5 * t) + k).toNat) (g (((5 * f) + k).toNat))) (by omega) (fun j j0 j1 => by
          by_cases e : j = k
          · rw [e, q_fu_eq, v3_2 (5 * f + k).toNat (by omega)]
          · rw [q_fu_ne (by omega)]; exact v3_1 j j0 (by omega)) (fun j hj => by rw [q_fu_ne (by omega)]; exact v3_2 j (by omega)) (by omega)) (rfl) rfl rfl
  show qJ YX12_move κ _ (qLy u, m, y) 0 0 0 [some (qR 103), some (qI 5), some (qI f), some (qI t), none] []
  refine qJ.run hκ 2 (pc' := 3) (ls' := [some (qR 103), some (qI 5), some (qI f), some (qI t), some (qI 0)]) (st' := []) rfl ?_
  exact qJ.cast (L3 6 0 (m 103) (by omega) (fun j j0 j1 => by omega) (fun j _ => rfl) (by omega)) (by rw [q_row_self]) rfl rfl

set_option maxRecDepth 100000 in
theorem c_mv105 (u : qU) (m y : qM) (f t : Int) (hf : 0 ≤ f ∧ f ≤ 3) (ht : 0 ≤ t ∧ t ≤ 3) (hft : ¬ f = t) : qCt YX12_move 1 0 0 [qR 105, qI 1, qI f, qI t] (qLy u, m, y) (fun r h => r = none ∧ ∃ g, h = (qLy u, q_row m 105 g, y) ∧ cpR 1 f t (m 105) g) := by
  refine qCt.intro okX12_move (Nat.le_of_ble_eq_true rfl) (fun κ hκ => ?_)
  have L3 : ∀ (n : Nat) (k : Int) (g : Nat → Int), (0 ≤ k ∧ k ≤ 1) → (∀ j : Int, 0 ≤ j → j < k → g (1 * t + j).toNat = m 105 (1 * f + j).toNat) → (∀ j : Nat, ¬ (1 * t ≤ (j : Int) ∧ (j : Int) < 1 * t + k) → g j = m 105 j) → ((1 - k).toNat) < n → qJ YX12_move κ (qFin (fun r h => r = none ∧ ∃ g, h = (qLy u, q_row m 105 g, y) ∧ cpR 1 f t (m 105) g) 0 0 κ) (qLy u, (q_row m 105 g), y) 0 0 3 [some (qR 105), some (qI 1), some (qI f), some (qI t), some (qI k)] [] := by
    intro n
    induction n with
    | zero => intro k g _ _ _ hz0; omega
    | succ n ih3 =>
      intro k g v3_0 v3_1 v3_2 v3_m
      refine qJ.run hκ 2 (pc' := 6) (ls' := [some (qR 105), some (qI 1), some (qI f), some (qI t), some (qI k)]) (st' := [qI 1, qI k]) rfl ?_
      refine qJ.icmp_ge hκ (tgt := 31) rfl rfl (by omega) (by omega) (fun c6 => ?_) (fun c6 => ?_)
      · show qJ YX12_move κ _ (qLy u, (q_row m 105 g), y) 0 0 31 [some (qR 105), some (qI 1), some (qI f), some (qI t), some (qI k)] []
        exact qJ.vret hκ rfl rfl (by decide) (by decide) (⟨rfl, g, rfl, fun j j0 j1 => v3_1 j j0 (by omega), fun j hj => v3_2 j (by omega)⟩)
      · show qJ YX12_move κ _ (qLy u, (q_row m 105 g), y) 0 0 9 [some (qR 105), some (qI 1), some (qI f), some (qI t), some (qI k)] []
        refine qJ.run hκ 12 (pc' := 23) (ls' := [some (qR 105), some (qI 1), some (qI f), some (qI t), some (qI k)]) (st' := [qI ((1 * f) + k), qR 105, qI ((1 * t) + k), qR 105]) rfl ?_
        refine qJ.ald hκ rfl rfl rfl (by decide) (by omega) ?_
        show qJ YX12_move κ _ (qLy u, (q_row m 105 g), y) 0 0 24 [some (qR 105), some (qI 1), some (qI f), some (qI t), some (qI k)] [qI (g (((1 * f) + k).toNat)), qI ((1 * t) + k), qR 105]
        refine qJ.ast hκ rfl rfl rfl (by decide) (by omega) ?_
        refine qJ.mc (m1 := (q_up (q_row m 105 g) 105 (((1 * t) + k).toNat) (g (((1 * f) + k).toNat)))) (m2 := (q_row m 105 (q_fu g (((1 * t) + k).toNat) (g (((1 * f) + k).toNat))))) (by rw [q_up_row_eq]) ?_
        show qJ YX12_move κ _ (qLy u, (q_row m 105 (q_fu g (((1 * t) + k).toNat) (g (((1 * f) + k).toNat)))), y) 0 0 25 [some (qR 105), some (qI 1), some (qI f), some (qI t), some (qI k)] []
        refine qJ.run hκ 2 (pc' := 3) (ls' := [some (qR 105), some (qI 1), some (qI f), some (qI t), some (qI (k + 1))]) (st' := []) rfl ?_
        exact qJ.cast (ih3  (k + 1) (q_fu g (((1 * t) + k).toNat) (g (((1 * f) + k).toNat))) (by omega) (fun j j0 j1 => by
          by_cases e : j = k
          · rw [e, q_fu_eq, v3_2 (1 * f + k).toNat (by omega)]
          · rw [q_fu_ne (by omega)]; exact v3_1 j j0 (by omega)) (fun j hj => by rw [q_fu_ne (by omega)]; exact v3_2 j (by omega)) (by omega)) (rfl) rfl rfl
  show qJ YX12_move κ _ (qLy u, m, y) 0 0 0 [some (qR 105), some (qI 1), some (qI f), some (qI t), none] []
  refine qJ.run hκ 2 (pc' := 3) (ls' := [some (qR 105), some (qI 1), some (qI f), some (qI t), some (qI 0)]) (st' := []) rfl ?_
  exact qJ.cast (L3 2 0 (m 105) (by omega) (fun j j0 j1 => by omega) (fun j _ => rfl) (by omega)) (by rw [q_row_self]) rfl rfl

set_option maxRecDepth 100000 in
theorem c_mv106 (u : qU) (m y : qM) (f t : Int) (hf : 0 ≤ f ∧ f ≤ 3) (ht : 0 ≤ t ∧ t ≤ 3) (hft : ¬ f = t) : qCt YX12_move 1 0 0 [qR 106, qI 64, qI f, qI t] (qLy u, m, y) (fun r h => r = none ∧ ∃ g, h = (qLy u, q_row m 106 g, y) ∧ cpR 64 f t (m 106) g) := by
  refine qCt.intro okX12_move (Nat.le_of_ble_eq_true rfl) (fun κ hκ => ?_)
  have L3 : ∀ (n : Nat) (k : Int) (g : Nat → Int), (0 ≤ k ∧ k ≤ 64) → (∀ j : Int, 0 ≤ j → j < k → g (64 * t + j).toNat = m 106 (64 * f + j).toNat) → (∀ j : Nat, ¬ (64 * t ≤ (j : Int) ∧ (j : Int) < 64 * t + k) → g j = m 106 j) → ((64 - k).toNat) < n → qJ YX12_move κ (qFin (fun r h => r = none ∧ ∃ g, h = (qLy u, q_row m 106 g, y) ∧ cpR 64 f t (m 106) g) 0 0 κ) (qLy u, (q_row m 106 g), y) 0 0 3 [some (qR 106), some (qI 64), some (qI f), some (qI t), some (qI k)] [] := by
    intro n
    induction n with
    | zero => intro k g _ _ _ hz0; omega
    | succ n ih3 =>
      intro k g v3_0 v3_1 v3_2 v3_m
      refine qJ.run hκ 2 (pc' := 6) (ls' := [some (qR 106), some (qI 64), some (qI f), some (qI t), some (qI k)]) (st' := [qI 64, qI k]) rfl ?_
      refine qJ.icmp_ge hκ (tgt := 31) rfl rfl (by omega) (by omega) (fun c6 => ?_) (fun c6 => ?_)
      · show qJ YX12_move κ _ (qLy u, (q_row m 106 g), y) 0 0 31 [some (qR 106), some (qI 64), some (qI f), some (qI t), some (qI k)] []
        exact qJ.vret hκ rfl rfl (by decide) (by decide) (⟨rfl, g, rfl, fun j j0 j1 => v3_1 j j0 (by omega), fun j hj => v3_2 j (by omega)⟩)
      · show qJ YX12_move κ _ (qLy u, (q_row m 106 g), y) 0 0 9 [some (qR 106), some (qI 64), some (qI f), some (qI t), some (qI k)] []
        refine qJ.run hκ 12 (pc' := 23) (ls' := [some (qR 106), some (qI 64), some (qI f), some (qI t), some (qI k)]) (st' := [qI ((64 * f) + k), qR 106, qI ((64 * t) + k), qR 106]) rfl ?_
        refine qJ.ald hκ rfl rfl rfl (by decide) (by omega) ?_
        show qJ YX12_move κ _ (qLy u, (q_row m 106 g), y) 0 0 24 [some (qR 106), some (qI 64), some (qI f), some (qI t), some (qI k)] [qI (g (((64 * f) + k).toNat)), qI ((64 * t) + k), qR 106]
        refine qJ.ast hκ rfl rfl rfl (by decide) (by omega) ?_
        refine qJ.mc (m1 := (q_up (q_row m 106 g) 106 (((64 * t) + k).toNat) (g (((64 * f) + k).toNat)))) (m2 := (q_row m 106 (q_fu g (((64 * t) + k).toNat) (g (((64 * f) + k).toNat))))) (by rw [q_up_row_eq]) ?_
        show qJ YX12_move κ _ (qLy u, (q_row m 106 (q_fu g (((64 * t) + k).toNat) (g (((64 * f) + k).toNat)))), y) 0 0 25 [some (qR 106), some (qI 64), some (qI f), some (qI t), some (qI k)] []
        refine qJ.run hκ 2 (pc' := 3) (ls' := [some (qR 106), some (qI 64), some (qI f), some (qI t), some (qI (k + 1))]) (st' := []) rfl ?_
        exact qJ.cast (ih3  (k + 1) (q_fu g (((64 * t) + k).toNat) (g (((64 * f) + k).toNat))) (by omega) (fun j j0 j1 => by
          by_cases e : j = k
          · rw [e, q_fu_eq, v3_2 (64 * f + k).toNat (by omega)]
          · rw [q_fu_ne (by omega)]; exact v3_1 j j0 (by omega)) (fun j hj => by rw [q_fu_ne (by omega)]; exact v3_2 j (by omega)) (by omega)) (rfl) rfl rfl
  show qJ YX12_move κ _ (qLy u, m, y) 0 0 0 [some (qR 106), some (qI 64), some (qI f), some (qI t), none] []
  refine qJ.run hκ 2 (pc' := 3) (ls' := [some (qR 106), some (qI 64), some (qI f), some (qI t), some (qI 0)]) (st' := []) rfl ?_
  exact qJ.cast (L3 65 0 (m 106) (by omega) (fun j j0 j1 => by omega) (fun j _ => rfl) (by omega)) (by rw [q_row_self]) rfl rfl

set_option maxRecDepth 100000 in
theorem c_mv78 (u : qU) (m y : qM) (f t : Int) (hf : 0 ≤ f ∧ f ≤ 3) (ht : 0 ≤ t ∧ t ≤ 3) (hft : ¬ f = t) : qCt YX12_moveBytes 1 0 0 [qR 78, qI 400, qI f, qI t] (qLy u, m, y) (fun r h => r = none ∧ ∃ g, h = (qLy u, q_row m 78 g, y) ∧ cpQ 1 400 f t (m 78) g) := by
  refine qCt.intro okX12_moveBytes (Nat.le_of_ble_eq_true rfl) (fun κ hκ => ?_)
  have L3 : ∀ (n : Nat) (k : Int) (g : Nat → Int), (0 ≤ k ∧ k ≤ 400) → (∀ j : Int, 0 ≤ j → j < k → g (400 * t + j).toNat = q_nar 1 (m 78 (400 * f + j).toNat)) → (∀ j : Nat, ¬ (400 * t ≤ (j : Int) ∧ (j : Int) < 400 * t + k) → g j = m 78 j) → ((400 - k).toNat) < n → qJ YX12_moveBytes κ (qFin (fun r h => r = none ∧ ∃ g, h = (qLy u, q_row m 78 g, y) ∧ cpQ 1 400 f t (m 78) g) 0 0 κ) (qLy u, (q_row m 78 g), y) 0 0 3 [some (qR 78), some (qI 400), some (qI f), some (qI t), some (qI k)] [] := by
    intro n
    induction n with
    | zero => intro k g _ _ _ hz0; omega
    | succ n ih3 =>
      intro k g v3_0 v3_1 v3_2 v3_m
      refine qJ.run hκ 2 (pc' := 6) (ls' := [some (qR 78), some (qI 400), some (qI f), some (qI t), some (qI k)]) (st' := [qI 400, qI k]) rfl ?_
      refine qJ.icmp_ge hκ (tgt := 31) rfl rfl (by omega) (by omega) (fun c6 => ?_) (fun c6 => ?_)
      · show qJ YX12_moveBytes κ _ (qLy u, (q_row m 78 g), y) 0 0 31 [some (qR 78), some (qI 400), some (qI f), some (qI t), some (qI k)] []
        exact qJ.vret hκ rfl rfl (by decide) (by decide) (⟨rfl, g, rfl, fun j j0 j1 => v3_1 j j0 (by omega), fun j hj => v3_2 j (by omega)⟩)
      · show qJ YX12_moveBytes κ _ (qLy u, (q_row m 78 g), y) 0 0 9 [some (qR 78), some (qI 400), some (qI f), some (qI t), some (qI k)] []
        refine qJ.run hκ 12 (pc' := 23) (ls' := [some (qR 78), some (qI 400), some (qI f), some (qI t), some (qI k)]) (st' := [qI ((400 * f) + k), qR 78, qI ((400 * t) + k), qR 78]) rfl ?_
        refine qJ.ald hκ rfl rfl rfl (by decide) (by omega) ?_
        show qJ YX12_moveBytes κ _ (qLy u, (q_row m 78 g), y) 0 0 24 [some (qR 78), some (qI 400), some (qI f), some (qI t), some (qI k)] [qI (g (((400 * f) + k).toNat)), qI ((400 * t) + k), qR 78]
        refine qJ.ast hκ rfl rfl rfl (by decide) (by omega) ?_
        refine qJ.mc (m1 := (q_up (q_row m 78 g) 78 (((400 * t) + k).toNat) (q_nar 1 (g (((400 * f) + k).toNat))))) (m2 := (q_row m 78 (q_fu g (((400 * t) + k).toNat) (q_nar 1 (g (((400 * f) + k).toNat)))))) (by rw [q_up_row_eq]) ?_
        show qJ YX12_moveBytes κ _ (qLy u, (q_row m 78 (q_fu g (((400 * t) + k).toNat) (q_nar 1 (g (((400 * f) + k).toNat))))), y) 0 0 25 [some (qR 78), some (qI 400), some (qI f), some (qI t), some (qI k)] []
        refine qJ.run hκ 2 (pc' := 3) (ls' := [some (qR 78), some (qI 400), some (qI f), some (qI t), some (qI (k + 1))]) (st' := []) rfl ?_
        exact qJ.cast (ih3  (k + 1) (q_fu g (((400 * t) + k).toNat) (q_nar 1 (g (((400 * f) + k).toNat)))) (by omega) (fun j j0 j1 => by
          by_cases e : j = k
          · rw [e, q_fu_eq, v3_2 (400 * f + k).toNat (by omega)]
          · rw [q_fu_ne (by omega)]; exact v3_1 j j0 (by omega)) (fun j hj => by rw [q_fu_ne (by omega)]; exact v3_2 j (by omega)) (by omega)) (rfl) rfl rfl
  show qJ YX12_moveBytes κ _ (qLy u, m, y) 0 0 0 [some (qR 78), some (qI 400), some (qI f), some (qI t), none] []
  refine qJ.run hκ 2 (pc' := 3) (ls' := [some (qR 78), some (qI 400), some (qI f), some (qI t), some (qI 0)]) (st' := []) rfl ?_
  exact qJ.cast (L3 401 0 (m 78) (by omega) (fun j j0 j1 => by omega) (fun j _ => rfl) (by omega)) (by rw [q_row_self]) rfl rfl

set_option maxRecDepth 100000 in
theorem c_mv104 (u : qU) (m y : qM) (f t : Int) (hf : 0 ≤ f ∧ f ≤ 3) (ht : 0 ≤ t ∧ t ≤ 3) (hft : ¬ f = t) : qCt YX12_moveBytes 1 0 0 [qR 104, qI 50, qI f, qI t] (qLy u, m, y) (fun r h => r = none ∧ ∃ g, h = (qLy u, q_row m 104 g, y) ∧ cpQ 1 50 f t (m 104) g) := by
  refine qCt.intro okX12_moveBytes (Nat.le_of_ble_eq_true rfl) (fun κ hκ => ?_)
  have L3 : ∀ (n : Nat) (k : Int) (g : Nat → Int), (0 ≤ k ∧ k ≤ 50) → (∀ j : Int, 0 ≤ j → j < k → g (50 * t + j).toNat = q_nar 1 (m 104 (50 * f + j).toNat)) → (∀ j : Nat, ¬ (50 * t ≤ (j : Int) ∧ (j : Int) < 50 * t + k) → g j = m 104 j) → ((50 - k).toNat) < n → qJ YX12_moveBytes κ (qFin (fun r h => r = none ∧ ∃ g, h = (qLy u, q_row m 104 g, y) ∧ cpQ 1 50 f t (m 104) g) 0 0 κ) (qLy u, (q_row m 104 g), y) 0 0 3 [some (qR 104), some (qI 50), some (qI f), some (qI t), some (qI k)] [] := by
    intro n
    induction n with
    | zero => intro k g _ _ _ hz0; omega
    | succ n ih3 =>
      intro k g v3_0 v3_1 v3_2 v3_m
      refine qJ.run hκ 2 (pc' := 6) (ls' := [some (qR 104), some (qI 50), some (qI f), some (qI t), some (qI k)]) (st' := [qI 50, qI k]) rfl ?_
      refine qJ.icmp_ge hκ (tgt := 31) rfl rfl (by omega) (by omega) (fun c6 => ?_) (fun c6 => ?_)
      · show qJ YX12_moveBytes κ _ (qLy u, (q_row m 104 g), y) 0 0 31 [some (qR 104), some (qI 50), some (qI f), some (qI t), some (qI k)] []
        exact qJ.vret hκ rfl rfl (by decide) (by decide) (⟨rfl, g, rfl, fun j j0 j1 => v3_1 j j0 (by omega), fun j hj => v3_2 j (by omega)⟩)
      · show qJ YX12_moveBytes κ _ (qLy u, (q_row m 104 g), y) 0 0 9 [some (qR 104), some (qI 50), some (qI f), some (qI t), some (qI k)] []
        refine qJ.run hκ 12 (pc' := 23) (ls' := [some (qR 104), some (qI 50), some (qI f), some (qI t), some (qI k)]) (st' := [qI ((50 * f) + k), qR 104, qI ((50 * t) + k), qR 104]) rfl ?_
        refine qJ.ald hκ rfl rfl rfl (by decide) (by omega) ?_
        show qJ YX12_moveBytes κ _ (qLy u, (q_row m 104 g), y) 0 0 24 [some (qR 104), some (qI 50), some (qI f), some (qI t), some (qI k)] [qI (g (((50 * f) + k).toNat)), qI ((50 * t) + k), qR 104]
        refine qJ.ast hκ rfl rfl rfl (by decide) (by omega) ?_
        refine qJ.mc (m1 := (q_up (q_row m 104 g) 104 (((50 * t) + k).toNat) (q_nar 1 (g (((50 * f) + k).toNat))))) (m2 := (q_row m 104 (q_fu g (((50 * t) + k).toNat) (q_nar 1 (g (((50 * f) + k).toNat)))))) (by rw [q_up_row_eq]) ?_
        show qJ YX12_moveBytes κ _ (qLy u, (q_row m 104 (q_fu g (((50 * t) + k).toNat) (q_nar 1 (g (((50 * f) + k).toNat))))), y) 0 0 25 [some (qR 104), some (qI 50), some (qI f), some (qI t), some (qI k)] []
        refine qJ.run hκ 2 (pc' := 3) (ls' := [some (qR 104), some (qI 50), some (qI f), some (qI t), some (qI (k + 1))]) (st' := []) rfl ?_
        exact qJ.cast (ih3  (k + 1) (q_fu g (((50 * t) + k).toNat) (q_nar 1 (g (((50 * f) + k).toNat)))) (by omega) (fun j j0 j1 => by
          by_cases e : j = k
          · rw [e, q_fu_eq, v3_2 (50 * f + k).toNat (by omega)]
          · rw [q_fu_ne (by omega)]; exact v3_1 j j0 (by omega)) (fun j hj => by rw [q_fu_ne (by omega)]; exact v3_2 j (by omega)) (by omega)) (rfl) rfl rfl
  show qJ YX12_moveBytes κ _ (qLy u, m, y) 0 0 0 [some (qR 104), some (qI 50), some (qI f), some (qI t), none] []
  refine qJ.run hκ 2 (pc' := 3) (ls' := [some (qR 104), some (qI 50), some (qI f), some (qI t), some (qI 0)]) (st' := []) rfl ?_
  exact qJ.cast (L3 51 0 (m 104) (by omega) (fun j j0 j1 => by omega) (fun j _ => rfl) (by omega)) (by rw [q_row_self]) rfl rfl

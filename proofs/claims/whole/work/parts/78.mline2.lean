/-! printed by p78.py: a line of the model -/
def kLn : Nat → Nat → Bool := fun i j => decide ((i = 77 ∧ (j = 41 ∨ j = 43 ∨ j = 44 ∨ j = 45 ∨ j = 47 ∨ j = 48 ∨ j = 49 ∨ j = 50)) ∨ i = 116)
theorem kLnT : ∀ i j, kN kLn i j = true → kN kTk i j = true := by
  intro i j h
  refine kN_t.mpr fun z => kN_t.mp h ?_
  unfold kTk at z
  unfold kLn
  rw [decide_eq_true_eq] at z ⊢
  omega
theorem m_need2 (u : qU) (m y : qM) (t : Nat → Int) (L p c : Int) (hS : tokS t L m y p) (hc : 0 ≤ c ∧ c ≤ 255) : qCt YX12_need 3 0 0 [qR 77, qI c] (qLy u, m, y) (fun r h => ∃ (z : Int) (m' y' : qM), r = some (qI z) ∧ h = (qLy u, m', y') ∧ ((z = 1 ∧ tMk c t L p ∧ tokN t L m y m' y' (tE t L p)) ∨ (z = 0 ∧ ¬ tMk c t L p ∧ m' = q_up m 77 47 (tS t L p)))) := by
  refine (m_need u m y t L p c hS hc).weak ?_
  rintro r h (⟨e1, e2, m', y', e3, e4⟩ | ⟨e1, e2, e3⟩)
  · exact ⟨1, m', y', e1, e3, Or.inl ⟨rfl, e2, e4⟩⟩
  · exact ⟨0, _, _, e1, e3, Or.inr ⟨rfl, e2, rfl⟩⟩
def l8 (m : qM) : Int := if m 77 48 = 0 ∧ m 77 50 = 16 then 3 else m 77 48
def l9 (m : qM) (s : Int) : Int := if m 77 48 = 0 ∧ m 77 50 = 16 then s else m 77 49
theorem l8_r {m : qM} (h : 0 ≤ m 77 48 ∧ m 77 48 ≤ 3) : 0 ≤ l8 m ∧ l8 m ≤ 3 := by unfold l8; split <;> omega
def xr (m : qM) (x : Int) : Prop := (0 ≤ x ∧ x ≤ 64) ∧ (m 77 50 < 16 → x = 4 * m 77 50) ∧ (¬ m 77 50 < 16 → x = 64)
def lO0 (t : Nat → Int) (L p : Int) : Int := if tA t L (q3 t L p) = 3 then tC t L (tE t L (q3 t L p)) else 0
/-- the row of new lines behind a line -/
def nlR (m M : qM) (x a b c d : Int) : Prop := (M 116 x.toNat = a ∧ M 116 (x + 1).toNat = b ∧ M 116 (x + 2).toNat = c ∧ M 116 (x + 3).toNat = d) ∧ ∀ j : Nat, (j : Int) < x → M 116 j = m 116 j
def mlGood (t : Nat → Int) (L : Int) (m : qM) (p : Int) (m' y' : qM) : Prop := tokS t L m' y' (q6 t L p) ∧ m' 77 50 = m 77 50 + 1 ∧ (m' 77 48 = (if l8 m = 0 ∧ lBad (tA t L (q3 t L p)) (tD t L (tE t L p)) then 2 else l8 m) ∧ m' 77 49 = (if l8 m = 0 ∧ lBad (tA t L (q3 t L p)) (tD t L (tE t L p)) then tS t L (q3 t L p) else l9 m (tS t L p))) ∧ ∃ x, xr m x ∧ nlR m m' x (tC t L p) (tD t L (tE t L p)) (tA t L (q3 t L p)) (lO0 t L p)
theorem lx1 {t : Nat → Int} {L p : Int} (h1 : tC t L p = -1) : lnX t L p = tS t L p := by unfold lnX; rw [if_pos h1]
theorem lx2 {t : Nat → Int} {L p : Int} (h1 : ¬ tC t L p = -1) (h2 : tD t L (tE t L p) = -1) : lnX t L p = tS t L (tE t L p) := by unfold lnX; rw [if_neg h1, if_pos h2]
theorem lx3 {t : Nat → Int} {L p : Int} (h1 : ¬ tC t L p = -1) (h2 : ¬ tD t L (tE t L p) = -1) (h3 : ¬ tMk 58 t L (tE t L (tE t L p))) : lnX t L p = tS t L (tE t L (tE t L p)) := by unfold lnX; rw [if_neg h1, if_neg h2, if_pos h3]
theorem lx4 {t : Nat → Int} {L p : Int} (h1 : ¬ tC t L p = -1) (h2 : ¬ tD t L (tE t L p) = -1) (h3 : tMk 58 t L (tE t L (tE t L p))) (h4 : tA t L (q3 t L p) = -1) : lnX t L p = tS t L (q3 t L p) := by unfold lnX; rw [if_neg h1, if_neg h2, if_neg (fun z => z h3), if_pos h4]
theorem lx5 {t : Nat → Int} {L p : Int} (h1 : ¬ tC t L p = -1) (h2 : ¬ tD t L (tE t L p) = -1) (h3 : tMk 58 t L (tE t L (tE t L p))) (h4 : ¬ tA t L (q3 t L p) = -1) (h5 : tA t L (q3 t L p) = 3 ∧ tC t L (tE t L (q3 t L p)) = -1) : lnX t L p = tS t L (tE t L (q3 t L p)) := by unfold lnX; rw [if_neg h1, if_neg h2, if_neg (fun z => z h3), if_neg h4, if_pos h5]
theorem lx6 {t : Nat → Int} {L p : Int} (h1 : ¬ tC t L p = -1) (h2 : ¬ tD t L (tE t L p) = -1) (h3 : tMk 58 t L (tE t L (tE t L p))) (h4 : ¬ tA t L (q3 t L p) = -1) (h5 : ¬ (tA t L (q3 t L p) = 3 ∧ tC t L (tE t L (q3 t L p)) = -1)) (h6 : ¬ tMk 59 t L (q5 t L p)) : lnX t L p = tS t L (q5 t L p) := by unfold lnX; rw [if_neg h1, if_neg h2, if_neg (fun z => z h3), if_neg h4, if_neg h5, if_pos h6]
theorem lx7 {t : Nat → Int} {L p : Int} (h1 : ¬ tC t L p = -1) (h2 : ¬ tD t L (tE t L p) = -1) (h3 : tMk 58 t L (tE t L (tE t L p))) (h4 : ¬ tA t L (q3 t L p) = -1) (h5 : ¬ (tA t L (q3 t L p) = 3 ∧ tC t L (tE t L (q3 t L p)) = -1)) (h6 : tMk 59 t L (q5 t L p)) : lnX t L p = -1 := by unfold lnX; rw [if_neg h1, if_neg h2, if_neg (fun z => z h3), if_neg h4, if_neg h5, if_neg (fun z => z h6)]
theorem tC0_i {t : Nat → Int} {L p : Int} : (0 ≤ tC0 t L p ∧ tC0 t L p ≤ 6) ∧ (tC0 t L p = 0 ↔ tC t L p = -1) ∧ (¬ tC t L p = -1 → tC0 t L p = tC t L p) := by
  have r := tC_r t L p
  unfold tC0
  by_cases h : tC t L p = -1
  · rw [if_pos h]; exact ⟨by omega, ⟨fun _ => h, fun _ => rfl⟩, fun z => absurd h z⟩
  · rw [if_neg h]; exact ⟨by omega, ⟨fun z => by omega, fun z => absurd z h⟩, fun _ => rfl⟩
theorem up_o {m : qM} {a k j : Nat} {v : Int} (h : ¬ j = k) : q_up m a k v a j = m a j := by
  unfold q_up
  rw [if_neg (fun z => h z.2)]

set_option maxRecDepth 100000 in
theorem m_line (u : qU) (m y : qM) (t : Nat → Int) (L p : Int) (hS : tokS t L m y p) (h9 : 0 ≤ m 77 48 ∧ m 77 48 ≤ 3) (h0 : 0 ≤ m 77 50 ∧ m 77 50 ≤ 500) : qCt YX12_oneLine 4 0 0 [qR 77] (qLy u, m, y) (fun r h => ∃ (z : Int) (m' y' : qM), r = some (qI z) ∧ h = (qLy u, m', y') ∧ keep (kN kLn) m' = keep (kN kLn) m ∧ ((z = 0 ∧ ¬ lnX t L p = -1 ∧ m' 77 47 = lnX t L p) ∨ (z = 1 ∧ lnX t L p = -1 ∧ mlGood t L m p m' y'))) := by
  refine qCt.intro okX12_oneLine (Nat.le_of_ble_eq_true rfl) (fun κ hκ => ?_)
  have pb := hS.2.2.1
  have L337 : ∀ (n : Nat) (x : Int) (M6 : qM) (Y6 : qM), (xr m x) → (keep (kN kLn) M6 = keep (kN kLn) m) → (tokS t L M6 Y6 (q5 t L p)) → ((M6 77 48 = (if l8 m = 0 ∧ lBad (tA t L (q3 t L p)) (tD t L (tE t L p)) then 2 else l8 m) ∧ M6 77 49 = (if l8 m = 0 ∧ lBad (tA t L (q3 t L p)) (tD t L (tE t L p)) then tS t L (q3 t L p) else l9 m (tS t L p))) ∧ M6 77 50 = m 77 50) → (nlR m M6 x (tC t L p) (tD t L (tE t L p)) (tA t L (q3 t L p)) (lO0 t L p)) → (¬ tC t L p = -1 ∧ ¬ tD t L (tE t L p) = -1 ∧ tMk 58 t L (tE t L (tE t L p)) ∧ ¬ tA t L (q3 t L p) = -1 ∧ ¬ (tA t L (q3 t L p) = 3 ∧ tC t L (tE t L (q3 t L p)) = -1)) → (0) < n → qJ YX12_oneLine κ (qFin (fun r h => ∃ (z : Int) (m' y' : qM), r = some (qI z) ∧ h = (qLy u, m', y') ∧ keep (kN kLn) m' = keep (kN kLn) m ∧ ((z = 0 ∧ ¬ lnX t L p = -1 ∧ m' 77 47 = lnX t L p) ∨ (z = 1 ∧ lnX t L p = -1 ∧ mlGood t L m p m' y'))) 0 0 κ) (qLy u, M6, Y6) 0 0 337 [some (qR 77), some (qI x)] [] := by
    intro n
    induction n with
    | zero => intro x M6 Y6 _ _ _ _ _ _ hz0; omega
    | succ n ih337 =>
      intro x M6 Y6 v337_0 v337_1 v337_2 v337_3 v337_4 v337_5 v337_m
      have xb := v337_0.1
      refine qJ.run hκ 5 (pc' := 344) (ls' := [some (qR 77), some (qI x)]) (st' := [qI ((M6 77 50) + 1), qR 77]) rfl ?_
      refine qJ.putI hκ rfl rfl rfl rfl (Or.inl rfl) ?_
      show qJ YX12_oneLine κ _ (qLy u, (q_up M6 77 50 ((M6 77 50) + 1)), Y6) 0 0 347 [some (qR 77), some (qI x)] []
      refine qJ.run hκ 2 (pc' := 350) (ls' := [some (qR 77), some (qI x)]) (st' := [qI 59, qR 77]) rfl ?_
      refine qJ.callV (As := [qI 59]) (rest := []) hκ rfl kX12_322 (m_need2 u (q_up M6 77 50 ((M6 77 50) + 1)) Y6 t L (q5 t L p) 59 (show tokS t L (q_up M6 77 50 ((M6 77 50) + 1)) Y6 (q5 t L p) from v337_2) (by decide)) rfl rfl (by decide) rfl rfl (Nat.le_of_ble_eq_true rfl) (Nat.le_of_ble_eq_true rfl) (Nat.le_of_ble_eq_true rfl) (Or.inl (fun r h' e => by obtain ⟨zn5, m5, y5, rfl, rfl, N5⟩ := e; rfl)) (fun r h' e => ?_)
      obtain ⟨zn5, m5, y5, rfl, rfl, N5⟩ := e
      show qJ YX12_oneLine κ _ (qLy u, m5, y5) 0 0 353 [some (qR 77), some (qI x)] [qI zn5]
      have zr5 : zn5 = 0 ∨ zn5 = 1 := by rcases N5 with q | q; (right; exact q.1); (left; exact q.1)
      exact qJ.bret hκ rfl rfl (by omega) (by decide) (by decide) (by
      obtain ⟨f1, f2, f3, f4, f5⟩ := v337_5
      rcases N5 with ⟨q1, q2, q3, q4, q5⟩ | ⟨q1, q2, q3⟩
      · subst q1
        have g5 : m5 116 = M6 116 := congrFun q3 116
        refine ⟨1, _, _, rfl, rfl, (keep_of kLnT q3).trans (Eq.trans (keep_up (by rfl)) v337_1), Or.inr ⟨rfl, lx7 f1 f2 f3 f4 f5 q2, q5, ?_, ?_, x, v337_0, ?_⟩⟩
        · exact (congrFun (congrFun q3 77) 50).trans (show M6 77 50 + 1 = m 77 50 + 1 by rw [v337_3.2])
        · have a8 : m5 77 48 = M6 77 48 := congrFun (congrFun q3 77) 48
          have a9 : m5 77 49 = M6 77 49 := congrFun (congrFun q3 77) 49
          rw [a8, a9]; exact v337_3.1
        · unfold nlR
          rw [g5]
          exact v337_4
      · subst q1; subst q3
        exact ⟨0, _, _, rfl, rfl, Eq.trans (keep_up (by rfl)) (Eq.trans (keep_up (by rfl)) v337_1), Or.inl ⟨rfl, by rw [lx6 f1 f2 f3 f4 f5 q2]; exact ts0 v337_2.2.2.1.1 v337_2.2.2.1.2, (lx6 f1 f2 f3 f4 f5 q2).symm⟩⟩)
  have L280 : ∀ (n : Nat) (x : Int) (M6 : qM) (Y6 : qM), (xr m x) → (keep (kN kLn) M6 = keep (kN kLn) m) → (tokS t L M6 Y6 (q3 t L p)) → ((M6 77 48 = (if l8 m = 0 ∧ lBad (tA t L (q3 t L p)) (tD t L (tE t L p)) then 2 else l8 m) ∧ M6 77 49 = (if l8 m = 0 ∧ lBad (tA t L (q3 t L p)) (tD t L (tE t L p)) then tS t L (q3 t L p) else l9 m (tS t L p))) ∧ M6 77 50 = m 77 50) → ((M6 116 x.toNat = tC t L p ∧ M6 116 (x + 1).toNat = tD t L (tE t L p) ∧ M6 116 (x + 2).toNat = tA t L (q3 t L p)) ∧ ∀ j : Nat, (j : Int) < x → M6 116 j = m 116 j) → (¬ tC t L p = -1 ∧ ¬ tD t L (tE t L p) = -1 ∧ tMk 58 t L (tE t L (tE t L p)) ∧ ¬ tA t L (q3 t L p) = -1) → (0) < n → qJ YX12_oneLine κ (qFin (fun r h => ∃ (z : Int) (m' y' : qM), r = some (qI z) ∧ h = (qLy u, m', y') ∧ keep (kN kLn) m' = keep (kN kLn) m ∧ ((z = 0 ∧ ¬ lnX t L p = -1 ∧ m' 77 47 = lnX t L p) ∨ (z = 1 ∧ lnX t L p = -1 ∧ mlGood t L m p m' y'))) 0 0 κ) (qLy u, M6, Y6) 0 0 280 [some (qR 77), some (qI x)] [] := by
    intro n
    induction n with
    | zero => intro x M6 Y6 _ _ _ _ _ _ hz0; omega
    | succ n ih280 =>
      intro x M6 Y6 v280_0 v280_1 v280_2 v280_3 v280_4 v280_5 v280_m
      have xb := v280_0.1
      have ar := tA_r t L (q3 t L p)
      have e2 := v280_4.1.2.2
      have T4 := tC0_i (t := t) (L := L) (p := tE t L (q3 t L p))
      refine qJ.run hκ 1 (pc' := 281) (ls' := [some (qR 77), some (qI x)]) (st' := [qR 77]) rfl ?_
      refine qJ.callV (As := []) (rest := []) hκ rfl kX12_298 (m_tok2 u M6 Y6 t L (q3 t L p) (show tokS t L M6 Y6 (q3 t L p) from v280_2)) rfl rfl (by decide) rfl rfl (Nat.le_of_ble_eq_true rfl) (Nat.le_of_ble_eq_true rfl) (Nat.le_of_ble_eq_true rfl) (Or.inl (fun r h' e => by obtain ⟨rfl, m3, y3, rfl, N3⟩ := e; rfl)) (fun r h' e => ?_)
      obtain ⟨rfl, m3, y3, rfl, N3⟩ := e
      show qJ YX12_oneLine κ _ (qLy u, m3, y3) 0 0 284 [some (qR 77), some (qI x)] []
      refine qJ.run hκ 6 (pc' := 292) (ls' := [some (qR 77), some (qI x)]) (st' := [qI 0, qI (x + 3), qR 116]) rfl ?_
      refine qJ.ast hκ rfl rfl rfl (by decide) (by omega) ?_
      show qJ YX12_oneLine κ _ (qLy u, (q_up m3 116 ((x + 3).toNat) 0), y3) 0 0 293 [some (qR 77), some (qI x)] []
      refine qJ.run hκ 5 (pc' := 300) (ls' := [some (qR 77), some (qI x)]) (st' := [qI (x + 2), qR 116]) rfl ?_
      refine qJ.ald hκ rfl rfl rfl (by decide) (by omega) ?_
      show qJ YX12_oneLine κ _ (qLy u, (q_up m3 116 ((x + 3).toNat) 0), y3) 0 0 301 [some (qR 77), some (qI x)] [qI ((q_up m3 116 ((x + 3).toNat) 0) 116 ((x + 2).toNat))]
      have g30 : m3 116 = M6 116 := congrFun N3.1 116
      have e30 : q_up m3 116 (x + 3).toNat 0 116 (x + 2).toNat = M6 116 (x + 2).toNat := by rw [up_o (by omega), g30]
      refine qJ.run hκ 1 (pc' := 302) (ls' := [some (qR 77), some (qI x)]) (st' := [qI 3, qI ((q_up m3 116 ((x + 3).toNat) 0) 116 ((x + 2).toNat))]) rfl ?_
      refine qJ.icmp_ne hκ (tgt := 337) rfl rfl (by omega) (by omega) (fun c302 => ?_) (fun c302 => ?_)
      · show qJ YX12_oneLine κ _ (qLy u, (q_up m3 116 ((x + 3).toNat) 0), y3) 0 0 337 [some (qR 77), some (qI x)] []
        have g3 : m3 116 = M6 116 := congrFun N3.1 116
        have e3 : q_up m3 116 (x + 3).toNat 0 116 (x + 2).toNat = M6 116 (x + 2).toNat := by rw [up_o (by omega), g3]
        have c302t : ¬ tA t L (q3 t L p) = 3 := by intro z; exact c302 (e3.trans (e2.trans z))
        exact L337 1 x (q_up m3 116 ((x + 3).toNat) 0) y3 (v280_0) (Eq.trans (keep_up (by rfl)) ((keep_of kLnT N3.1).trans v280_1)) (by rw [show q5 t L p = tE t L (q3 t L p) from by unfold q5; rw [if_neg c302t]]; exact N3.2.2) (by rw [← show m3 77 48 = M6 77 48 from congrFun (congrFun N3.1 77) 48, ← show m3 77 49 = M6 77 49 from congrFun (congrFun N3.1 77) 49, ← show m3 77 50 = M6 77 50 from congrFun (congrFun N3.1 77) 50] at v280_3; exact v280_3) (by
      have g3 : m3 116 = M6 116 := congrFun N3.1 116
      obtain ⟨⟨e0, e1, e2⟩, e4⟩ := v280_4
      have lo : lO0 t L p = 0 := by unfold lO0; rw [if_neg c302t]
      refine ⟨⟨?_, ?_, ?_, ?_⟩, fun j hj => ?_⟩
      · rw [up_o (by omega), g3]; exact e0
      · rw [up_o (by omega), g3]; exact e1
      · rw [up_o (by omega), g3]; exact e2
      · rw [q_up_eq, lo]
      · rw [up_o (by omega), g3]; exact e4 j hj) (⟨v280_5.1, v280_5.2.1, v280_5.2.2.1, v280_5.2.2.2, fun z => c302t z.1⟩) (by omega)
      · show qJ YX12_oneLine κ _ (qLy u, (q_up m3 116 ((x + 3).toNat) 0), y3) 0 0 305 [some (qR 77), some (qI x)] []
        have g3 : m3 116 = M6 116 := congrFun N3.1 116
        have e3 : q_up m3 116 (x + 3).toNat 0 116 (x + 2).toNat = M6 116 (x + 2).toNat := by rw [up_o (by omega), g3]
        have c302t : tA t L (q3 t L p) = 3 := by exact e2.symm.trans (e3.symm.trans c302)
        refine qJ.run hκ 6 (pc' := 313) (ls' := [some (qR 77), some (qI x)]) (st' := [qR 77, qI (x + 3), qR 116]) rfl ?_
        refine qJ.callV (As := []) (rest := [qI (x + 3), qR 116]) hκ rfl kX12_309 (m_oneL u (q_up m3 116 ((x + 3).toNat) 0) y3 t L (tE t L (q3 t L p)) (N3.2.2).2.2.1.2 (show (q_up m3 116 ((x + 3).toNat) 0) 77 44 = _ from (N3.2.2).1.2.2.1) (show y3 77 46 = _ from (N3.2.2).1.2.2.2.2)) rfl rfl (by decide) rfl rfl (Nat.le_of_ble_eq_true rfl) (Nat.le_of_ble_eq_true rfl) (Nat.le_of_ble_eq_true rfl) (Or.inl (fun r h' e => by obtain ⟨rfl, rfl⟩ := e; rfl)) (fun r h' e => ?_)
        obtain ⟨rfl, rfl⟩ := e
        show qJ YX12_oneLine κ _ (qLy u, (q_up m3 116 ((x + 3).toNat) 0), y3) 0 0 316 [some (qR 77), some (qI x)] [qI (tC0 t L (tE t L (q3 t L p))), qI (x + 3), qR 116]
        refine qJ.ast hκ rfl rfl rfl (by decide) (by omega) ?_
        show qJ YX12_oneLine κ _ (qLy u, (q_up (q_up m3 116 ((x + 3).toNat) 0) 116 ((x + 3).toNat) (tC0 t L (tE t L (q3 t L p)))), y3) 0 0 317 [some (qR 77), some (qI x)] []
        refine qJ.run hκ 5 (pc' := 324) (ls' := [some (qR 77), some (qI x)]) (st' := [qI (x + 3), qR 116]) rfl ?_
        refine qJ.ald hκ rfl rfl rfl (by decide) (by omega) ?_
        show qJ YX12_oneLine κ _ (qLy u, (q_up (q_up m3 116 ((x + 3).toNat) 0) 116 ((x + 3).toNat) (tC0 t L (tE t L (q3 t L p)))), y3) 0 0 325 [some (qR 77), some (qI x)] [qI ((q_up (q_up m3 116 ((x + 3).toNat) 0) 116 ((x + 3).toNat) (tC0 t L (tE t L (q3 t L p)))) 116 ((x + 3).toNat))]
        rw [show (q_up (q_up m3 116 ((x + 3).toNat) 0) 116 ((x + 3).toNat) (tC0 t L (tE t L (q3 t L p)))) 116 ((x + 3).toNat) = (tC0 t L (tE t L (q3 t L p))) from by show (q_up (q_up m3 116 ((x + 3).toNat) 0) 116 ((x + 3).toNat) (tC0 t L (tE t L (q3 t L p)))) 116 ((x + 3).toNat) = _; exact q_up_eq]
        show qJ YX12_oneLine κ _ (qLy u, (q_up (q_up m3 116 ((x + 3).toNat) 0) 116 ((x + 3).toNat) (tC0 t L (tE t L (q3 t L p)))), y3) 0 0 325 [some (qR 77), some (qI x)] [qI (tC0 t L (tE t L (q3 t L p)))]
        refine qJ.if_ne hκ (tgt := 333) rfl rfl (by omega) (fun c325 => ?_) (fun c325 => ?_)
        · show qJ YX12_oneLine κ _ (qLy u, (q_up (q_up m3 116 ((x + 3).toNat) 0) 116 ((x + 3).toNat) (tC0 t L (tE t L (q3 t L p)))), y3) 0 0 333 [some (qR 77), some (qI x)] []
          have c325t : ¬ tC t L (tE t L (q3 t L p)) = -1 := fun z => c325 (T4.2.1.mpr z)
          refine qJ.run hκ 1 (pc' := 334) (ls' := [some (qR 77), some (qI x)]) (st' := [qR 77]) rfl ?_
          refine qJ.callV (As := []) (rest := []) hκ rfl kX12_298 (m_tok2 u (q_up (q_up m3 116 ((x + 3).toNat) 0) 116 ((x + 3).toNat) (tC0 t L (tE t L (q3 t L p)))) y3 t L (tE t L (q3 t L p)) (show tokS t L (q_up (q_up m3 116 ((x + 3).toNat) 0) 116 ((x + 3).toNat) (tC0 t L (tE t L (q3 t L p)))) y3 (tE t L (q3 t L p)) from N3.2.2)) rfl rfl (by decide) rfl rfl (Nat.le_of_ble_eq_true rfl) (Nat.le_of_ble_eq_true rfl) (Nat.le_of_ble_eq_true rfl) (Or.inl (fun r h' e => by obtain ⟨rfl, m4, y4, rfl, N4⟩ := e; rfl)) (fun r h' e => ?_)
          obtain ⟨rfl, m4, y4, rfl, N4⟩ := e
          show qJ YX12_oneLine κ _ (qLy u, m4, y4) 0 0 337 [some (qR 77), some (qI x)] []
          exact L337 1 x m4 y4 (v280_0) ((keep_of kLnT N4.1).trans (Eq.trans (keep_up (by rfl)) (Eq.trans (keep_up (by rfl)) ((keep_of kLnT N3.1).trans v280_1)))) (by rw [show q5 t L p = tE t L (tE t L (q3 t L p)) from by unfold q5; rw [if_pos c302t]]; exact N4.2.2) (by rw [← show m4 77 48 = M6 77 48 from (congrFun (congrFun N4.1 77) 48).trans (congrFun (congrFun N3.1 77) 48), ← show m4 77 49 = M6 77 49 from (congrFun (congrFun N4.1 77) 49).trans (congrFun (congrFun N3.1 77) 49), ← show m4 77 50 = M6 77 50 from (congrFun (congrFun N4.1 77) 50).trans (congrFun (congrFun N3.1 77) 50)] at v280_3; exact v280_3) (by
      have g3 : m3 116 = M6 116 := congrFun N3.1 116
      have g4 : m4 116 = q_up (q_up m3 116 (x + 3).toNat 0) 116 (x + 3).toNat (tC0 t L (tE t L (q3 t L p))) 116 := congrFun N4.1 116
      obtain ⟨⟨e0, e1, e2⟩, e4⟩ := v280_4
      have lo : lO0 t L p = tC t L (tE t L (q3 t L p)) := by unfold lO0; rw [if_pos c302t]
      unfold nlR
      rw [g4]
      refine ⟨⟨?_, ?_, ?_, ?_⟩, fun j hj => ?_⟩
      · rw [up_o (by omega), up_o (by omega), g3]; exact e0
      · rw [up_o (by omega), up_o (by omega), g3]; exact e1
      · rw [up_o (by omega), up_o (by omega), g3]; exact e2
      · rw [q_up_eq, lo]; exact T4.2.2 c325t
      · rw [up_o (by omega), up_o (by omega), g3]; exact e4 j hj) (⟨v280_5.1, v280_5.2.1, v280_5.2.2.1, v280_5.2.2.2, fun z => c325t z.2⟩) (by omega)
        · show qJ YX12_oneLine κ _ (qLy u, (q_up (q_up m3 116 ((x + 3).toNat) 0) 116 ((x + 3).toNat) (tC0 t L (tE t L (q3 t L p)))), y3) 0 0 328 [some (qR 77), some (qI x)] []
          have c325t : tC t L (tE t L (q3 t L p)) = -1 := T4.2.1.mp (by omega)
          refine qJ.run hκ 1 (pc' := 329) (ls' := [some (qR 77), some (qI x)]) (st' := [qR 77]) rfl ?_
          refine qJ.callV (As := []) (rest := []) hκ rfl kX12_295 (m_wrong u (q_up (q_up m3 116 ((x + 3).toNat) 0) 116 ((x + 3).toNat) (tC0 t L (tE t L (q3 t L p)))) y3) rfl rfl (by decide) rfl rfl (Nat.le_of_ble_eq_true rfl) (Nat.le_of_ble_eq_true rfl) (Nat.le_of_ble_eq_true rfl) (Or.inl (fun r h' e => by obtain ⟨rfl, rfl⟩ := e; rfl)) (fun r h' e => ?_)
          obtain ⟨rfl, rfl⟩ := e
          show qJ YX12_oneLine κ _ (qLy u, (q_up (q_up (q_up m3 116 ((x + 3).toNat) 0) 116 ((x + 3).toNat) (tC0 t L (tE t L (q3 t L p)))) 77 47 (m3 77 43)), y3) 0 0 332 [some (qR 77), some (qI x)] [qI 0]
          exact qJ.bret hκ rfl rfl (by omega) (by decide) (by decide) (⟨0, _, _, rfl, rfl, Eq.trans (keep_up (by rfl)) (Eq.trans (keep_up (by rfl)) (Eq.trans (keep_up (by rfl)) ((keep_of kLnT N3.1).trans v280_1))), Or.inl ⟨rfl, by rw [lx5 v280_5.1 v280_5.2.1 v280_5.2.2.1 v280_5.2.2.2 ⟨c302t, c325t⟩]; exact ts0 N3.2.2.2.2.1.1 N3.2.2.2.2.1.2, Eq.trans N3.2.2.1.2.1 (lx5 v280_5.1 v280_5.2.1 v280_5.2.2.1 v280_5.2.2.2 ⟨c302t, c325t⟩).symm⟩⟩)
  have L211 : ∀ (n : Nat) (x : Int) (M6 : qM) (Y6 : qM), (xr m x) → (keep (kN kLn) M6 = keep (kN kLn) m) → (tokS t L M6 Y6 (q3 t L p)) → ((M6 77 48 = l8 m ∧ M6 77 49 = l9 m (tS t L p)) ∧ M6 77 50 = m 77 50) → ((M6 116 x.toNat = tC t L p ∧ M6 116 (x + 1).toNat = tD t L (tE t L p) ∧ M6 116 (x + 2).toNat = tA t L (q3 t L p)) ∧ ∀ j : Nat, (j : Int) < x → M6 116 j = m 116 j) → (¬ tC t L p = -1 ∧ ¬ tD t L (tE t L p) = -1 ∧ tMk 58 t L (tE t L (tE t L p))) → (0) < n → qJ YX12_oneLine κ (qFin (fun r h => ∃ (z : Int) (m' y' : qM), r = some (qI z) ∧ h = (qLy u, m', y') ∧ keep (kN kLn) m' = keep (kN kLn) m ∧ ((z = 0 ∧ ¬ lnX t L p = -1 ∧ m' 77 47 = lnX t L p) ∨ (z = 1 ∧ lnX t L p = -1 ∧ mlGood t L m p m' y'))) 0 0 κ) (qLy u, M6, Y6) 0 0 211 [some (qR 77), some (qI x)] [] := by
    intro n
    induction n with
    | zero => intro x M6 Y6 _ _ _ _ _ _ hz0; omega
    | succ n ih211 =>
      intro x M6 Y6 v211_0 v211_1 v211_2 v211_3 v211_4 v211_5 v211_m
      have xb := v211_0.1
      have ar := tA_r t L (q3 t L p)
      have dr := tD_r t L (tE t L p)
      have e1 := v211_4.1.2.1
      have e2 := v211_4.1.2.2
      refine qJ.run hκ 5 (pc' := 218) (ls' := [some (qR 77), some (qI x)]) (st' := [qI (x + 2), qR 116]) rfl ?_
      refine qJ.ald hκ rfl rfl rfl (by decide) (by omega) ?_
      show qJ YX12_oneLine κ _ (qLy u, M6, Y6) 0 0 219 [some (qR 77), some (qI x)] [qI (M6 116 ((x + 2).toNat))]
      refine qJ.run hκ 1 (pc' := 220) (ls' := [some (qR 77), some (qI x)]) (st' := [qI (-1), qI (M6 116 ((x + 2).toNat))]) rfl ?_
      refine qJ.icmp_ne hκ (tgt := 228) rfl rfl (by omega) (by omega) (fun c220 => ?_) (fun c220 => ?_)
      · show qJ YX12_oneLine κ _ (qLy u, M6, Y6) 0 0 228 [some (qR 77), some (qI x)] []
        have c220t : ¬ tA t L (q3 t L p) = -1 := by omega
        refine qJ.run hκ 5 (pc' := 235) (ls' := [some (qR 77), some (qI x)]) (st' := [qI (x + 2), qR 116]) rfl ?_
        refine qJ.ald hκ rfl rfl rfl (by decide) (by omega) ?_
        show qJ YX12_oneLine κ _ (qLy u, M6, Y6) 0 0 236 [some (qR 77), some (qI x)] [qI (M6 116 ((x + 2).toNat))]
        refine qJ.run hκ 1 (pc' := 237) (ls' := [some (qR 77), some (qI x)]) (st' := [qI 1, qI (M6 116 ((x + 2).toNat))]) rfl ?_
        refine qJ.icmp_ne hκ (tgt := 252) rfl rfl (by omega) (by omega) (fun c237 => ?_) (fun c237 => ?_)
        · show qJ YX12_oneLine κ _ (qLy u, M6, Y6) 0 0 252 [some (qR 77), some (qI x)] []
          refine qJ.run hκ 5 (pc' := 259) (ls' := [some (qR 77), some (qI x)]) (st' := [qI (x + 2), qR 116]) rfl ?_
          refine qJ.ald hκ rfl rfl rfl (by decide) (by omega) ?_
          show qJ YX12_oneLine κ _ (qLy u, M6, Y6) 0 0 260 [some (qR 77), some (qI x)] [qI (M6 116 ((x + 2).toNat))]
          refine qJ.run hκ 1 (pc' := 261) (ls' := [some (qR 77), some (qI x)]) (st' := [qI 2, qI (M6 116 ((x + 2).toNat))]) rfl ?_
          refine qJ.icmp_ne hκ (tgt := 280) rfl rfl (by omega) (by omega) (fun c261 => ?_) (fun c261 => ?_)
          · show qJ YX12_oneLine κ _ (qLy u, M6, Y6) 0 0 280 [some (qR 77), some (qI x)] []
            exact L280 1 x M6 Y6 (v211_0) (v211_1) (v211_2) (by
      have bd : ¬ lBad (tA t L (q3 t L p)) (tD t L (tE t L p)) := fun z => by rcases z with z | z <;> omega
      rw [if_neg (fun z => bd z.2), if_neg (fun z => bd z.2)]
      exact v211_3) (v211_4) (⟨v211_5.1, v211_5.2.1, v211_5.2.2, c220t⟩) (by omega)
          · show qJ YX12_oneLine κ _ (qLy u, M6, Y6) 0 0 264 [some (qR 77), some (qI x)] []
            refine qJ.run hκ 5 (pc' := 271) (ls' := [some (qR 77), some (qI x)]) (st' := [qI (x + 1), qR 116]) rfl ?_
            refine qJ.ald hκ rfl rfl rfl (by decide) (by omega) ?_
            show qJ YX12_oneLine κ _ (qLy u, M6, Y6) 0 0 272 [some (qR 77), some (qI x)] [qI (M6 116 ((x + 1).toNat))]
            refine qJ.if_ne hκ (tgt := 280) rfl rfl (by omega) (fun c272 => ?_) (fun c272 => ?_)
            · show qJ YX12_oneLine κ _ (qLy u, M6, Y6) 0 0 280 [some (qR 77), some (qI x)] []
              exact L280 1 x M6 Y6 (v211_0) (v211_1) (v211_2) (by
      have bd : ¬ lBad (tA t L (q3 t L p)) (tD t L (tE t L p)) := fun z => by rcases z with z | z <;> omega
      rw [if_neg (fun z => bd z.2), if_neg (fun z => bd z.2)]
      exact v211_3) (v211_4) (⟨v211_5.1, v211_5.2.1, v211_5.2.2, c220t⟩) (by omega)
            · show qJ YX12_oneLine κ _ (qLy u, M6, Y6) 0 0 275 [some (qR 77), some (qI x)] []
              refine qJ.run hκ 2 (pc' := 277) (ls' := [some (qR 77), some (qI x)]) (st' := [qI 2, qR 77]) rfl ?_
              refine qJ.callV (As := [qI 2]) (rest := []) hκ rfl kX12_306 (m_later u M6 Y6 2 (by have := l8_r h9; rw [← v211_3.1.1] at this; exact this)) rfl rfl (by decide) rfl rfl (Nat.le_of_ble_eq_true rfl) (Nat.le_of_ble_eq_true rfl) (Nat.le_of_ble_eq_true rfl) (Or.inl (fun r h' e => by obtain ⟨rfl, c277_, d277_, rfl, H277⟩ := e; rfl)) (fun r h' e => ?_)
              obtain ⟨rfl, c277_, d277_, rfl, H277⟩ := e
              show qJ YX12_oneLine κ _ (qLy u, (q_up (q_up M6 77 48 c277_) 77 49 d277_), Y6) 0 0 280 [some (qR 77), some (qI x)] []
              exact L280 1 x (q_up (q_up M6 77 48 c277_) 77 49 d277_) Y6 (v211_0) (Eq.trans (keep_up (by rfl)) (Eq.trans (keep_up (by rfl)) v211_1)) (v211_2) (by
      have bd : lBad (tA t L (q3 t L p)) (tD t L (tE t L p)) := by show (_ ∧ _) ∨ _; omega
      have s43 : M6 77 43 = tS t L (q3 t L p) := v211_2.1.2.1
      refine ⟨⟨?_, ?_⟩, v211_3.2⟩
      · show c277_ = _
        rcases H277 with q | q
        · rw [if_pos ⟨v211_3.1.1.symm.trans q.1, bd⟩]; exact q.2.1
        · rw [if_neg (fun z => q.1 (v211_3.1.1.trans z.1)), ← v211_3.1.1]; exact q.2.1
      · show d277_ = _
        rcases H277 with q | q
        · rw [if_pos ⟨v211_3.1.1.symm.trans q.1, bd⟩, ← s43]; exact q.2.2
        · rw [if_neg (fun z => q.1 (v211_3.1.1.trans z.1)), ← v211_3.1.2]; exact q.2.2) (v211_4) (⟨v211_5.1, v211_5.2.1, v211_5.2.2, c220t⟩) (by omega)
        · show qJ YX12_oneLine κ _ (qLy u, M6, Y6) 0 0 240 [some (qR 77), some (qI x)] []
          refine qJ.run hκ 5 (pc' := 247) (ls' := [some (qR 77), some (qI x)]) (st' := [qI (x + 1), qR 116]) rfl ?_
          refine qJ.ald hκ rfl rfl rfl (by decide) (by omega) ?_
          show qJ YX12_oneLine κ _ (qLy u, M6, Y6) 0 0 248 [some (qR 77), some (qI x)] [qI (M6 116 ((x + 1).toNat))]
          refine qJ.run hκ 1 (pc' := 249) (ls' := [some (qR 77), some (qI x)]) (st' := [qI 1, qI (M6 116 ((x + 1).toNat))]) rfl ?_
          refine qJ.icmp_ne hκ (tgt := 275) rfl rfl (by omega) (by omega) (fun c249 => ?_) (fun c249 => ?_)
          · show qJ YX12_oneLine κ _ (qLy u, M6, Y6) 0 0 275 [some (qR 77), some (qI x)] []
            refine qJ.run hκ 2 (pc' := 277) (ls' := [some (qR 77), some (qI x)]) (st' := [qI 2, qR 77]) rfl ?_
            refine qJ.callV (As := [qI 2]) (rest := []) hκ rfl kX12_306 (m_later u M6 Y6 2 (by have := l8_r h9; rw [← v211_3.1.1] at this; exact this)) rfl rfl (by decide) rfl rfl (Nat.le_of_ble_eq_true rfl) (Nat.le_of_ble_eq_true rfl) (Nat.le_of_ble_eq_true rfl) (Or.inl (fun r h' e => by obtain ⟨rfl, c277_, d277_, rfl, H277⟩ := e; rfl)) (fun r h' e => ?_)
            obtain ⟨rfl, c277_, d277_, rfl, H277⟩ := e
            show qJ YX12_oneLine κ _ (qLy u, (q_up (q_up M6 77 48 c277_) 77 49 d277_), Y6) 0 0 280 [some (qR 77), some (qI x)] []
            exact L280 1 x (q_up (q_up M6 77 48 c277_) 77 49 d277_) Y6 (v211_0) (Eq.trans (keep_up (by rfl)) (Eq.trans (keep_up (by rfl)) v211_1)) (v211_2) (by
      have bd : lBad (tA t L (q3 t L p)) (tD t L (tE t L p)) := by show (_ ∧ _) ∨ _; omega
      have s43 : M6 77 43 = tS t L (q3 t L p) := v211_2.1.2.1
      refine ⟨⟨?_, ?_⟩, v211_3.2⟩
      · show c277_ = _
        rcases H277 with q | q
        · rw [if_pos ⟨v211_3.1.1.symm.trans q.1, bd⟩]; exact q.2.1
        · rw [if_neg (fun z => q.1 (v211_3.1.1.trans z.1)), ← v211_3.1.1]; exact q.2.1
      · show d277_ = _
        rcases H277 with q | q
        · rw [if_pos ⟨v211_3.1.1.symm.trans q.1, bd⟩, ← s43]; exact q.2.2
        · rw [if_neg (fun z => q.1 (v211_3.1.1.trans z.1)), ← v211_3.1.2]; exact q.2.2) (v211_4) (⟨v211_5.1, v211_5.2.1, v211_5.2.2, c220t⟩) (by omega)
          · show qJ YX12_oneLine κ _ (qLy u, M6, Y6) 0 0 252 [some (qR 77), some (qI x)] []
            refine qJ.run hκ 5 (pc' := 259) (ls' := [some (qR 77), some (qI x)]) (st' := [qI (x + 2), qR 116]) rfl ?_
            refine qJ.ald hκ rfl rfl rfl (by decide) (by omega) ?_
            show qJ YX12_oneLine κ _ (qLy u, M6, Y6) 0 0 260 [some (qR 77), some (qI x)] [qI (M6 116 ((x + 2).toNat))]
            refine qJ.run hκ 1 (pc' := 261) (ls' := [some (qR 77), some (qI x)]) (st' := [qI 2, qI (M6 116 ((x + 2).toNat))]) rfl ?_
            refine qJ.icmp_ne hκ (tgt := 280) rfl rfl (by omega) (by omega) (fun c261 => ?_) (fun c261 => ?_)
            · show qJ YX12_oneLine κ _ (qLy u, M6, Y6) 0 0 280 [some (qR 77), some (qI x)] []
              exact L280 1 x M6 Y6 (v211_0) (v211_1) (v211_2) (by
      have bd : ¬ lBad (tA t L (q3 t L p)) (tD t L (tE t L p)) := fun z => by rcases z with z | z <;> omega
      rw [if_neg (fun z => bd z.2), if_neg (fun z => bd z.2)]
      exact v211_3) (v211_4) (⟨v211_5.1, v211_5.2.1, v211_5.2.2, c220t⟩) (by omega)
            · show qJ YX12_oneLine κ _ (qLy u, M6, Y6) 0 0 264 [some (qR 77), some (qI x)] []
              refine qJ.run hκ 5 (pc' := 271) (ls' := [some (qR 77), some (qI x)]) (st' := [qI (x + 1), qR 116]) rfl ?_
              refine qJ.ald hκ rfl rfl rfl (by decide) (by omega) ?_
              show qJ YX12_oneLine κ _ (qLy u, M6, Y6) 0 0 272 [some (qR 77), some (qI x)] [qI (M6 116 ((x + 1).toNat))]
              refine qJ.if_ne hκ (tgt := 280) rfl rfl (by omega) (fun c272 => ?_) (fun c272 => ?_)
              · show qJ YX12_oneLine κ _ (qLy u, M6, Y6) 0 0 280 [some (qR 77), some (qI x)] []
                exact L280 1 x M6 Y6 (v211_0) (v211_1) (v211_2) (by
      have bd : ¬ lBad (tA t L (q3 t L p)) (tD t L (tE t L p)) := fun z => by rcases z with z | z <;> omega
      rw [if_neg (fun z => bd z.2), if_neg (fun z => bd z.2)]
      exact v211_3) (v211_4) (⟨v211_5.1, v211_5.2.1, v211_5.2.2, c220t⟩) (by omega)
              · show qJ YX12_oneLine κ _ (qLy u, M6, Y6) 0 0 275 [some (qR 77), some (qI x)] []
                refine qJ.run hκ 2 (pc' := 277) (ls' := [some (qR 77), some (qI x)]) (st' := [qI 2, qR 77]) rfl ?_
                refine qJ.callV (As := [qI 2]) (rest := []) hκ rfl kX12_306 (m_later u M6 Y6 2 (by have := l8_r h9; rw [← v211_3.1.1] at this; exact this)) rfl rfl (by decide) rfl rfl (Nat.le_of_ble_eq_true rfl) (Nat.le_of_ble_eq_true rfl) (Nat.le_of_ble_eq_true rfl) (Or.inl (fun r h' e => by obtain ⟨rfl, c277_, d277_, rfl, H277⟩ := e; rfl)) (fun r h' e => ?_)
                obtain ⟨rfl, c277_, d277_, rfl, H277⟩ := e
                show qJ YX12_oneLine κ _ (qLy u, (q_up (q_up M6 77 48 c277_) 77 49 d277_), Y6) 0 0 280 [some (qR 77), some (qI x)] []
                exact L280 1 x (q_up (q_up M6 77 48 c277_) 77 49 d277_) Y6 (v211_0) (Eq.trans (keep_up (by rfl)) (Eq.trans (keep_up (by rfl)) v211_1)) (v211_2) (by
      have bd : lBad (tA t L (q3 t L p)) (tD t L (tE t L p)) := by show (_ ∧ _) ∨ _; omega
      have s43 : M6 77 43 = tS t L (q3 t L p) := v211_2.1.2.1
      refine ⟨⟨?_, ?_⟩, v211_3.2⟩
      · show c277_ = _
        rcases H277 with q | q
        · rw [if_pos ⟨v211_3.1.1.symm.trans q.1, bd⟩]; exact q.2.1
        · rw [if_neg (fun z => q.1 (v211_3.1.1.trans z.1)), ← v211_3.1.1]; exact q.2.1
      · show d277_ = _
        rcases H277 with q | q
        · rw [if_pos ⟨v211_3.1.1.symm.trans q.1, bd⟩, ← s43]; exact q.2.2
        · rw [if_neg (fun z => q.1 (v211_3.1.1.trans z.1)), ← v211_3.1.2]; exact q.2.2) (v211_4) (⟨v211_5.1, v211_5.2.1, v211_5.2.2, c220t⟩) (by omega)
      · show qJ YX12_oneLine κ _ (qLy u, M6, Y6) 0 0 223 [some (qR 77), some (qI x)] []
        have c220t : tA t L (q3 t L p) = -1 := by omega
        refine qJ.run hκ 1 (pc' := 224) (ls' := [some (qR 77), some (qI x)]) (st' := [qR 77]) rfl ?_
        refine qJ.callV (As := []) (rest := []) hκ rfl kX12_295 (m_wrong u M6 Y6) rfl rfl (by decide) rfl rfl (Nat.le_of_ble_eq_true rfl) (Nat.le_of_ble_eq_true rfl) (Nat.le_of_ble_eq_true rfl) (Or.inl (fun r h' e => by obtain ⟨rfl, rfl⟩ := e; rfl)) (fun r h' e => ?_)
        obtain ⟨rfl, rfl⟩ := e
        show qJ YX12_oneLine κ _ (qLy u, (q_up M6 77 47 (M6 77 43)), Y6) 0 0 227 [some (qR 77), some (qI x)] [qI 0]
        exact qJ.bret hκ rfl rfl (by omega) (by decide) (by decide) (⟨0, _, _, rfl, rfl, Eq.trans (keep_up (by rfl)) v211_1, Or.inl ⟨rfl, by rw [lx4 v211_5.1 v211_5.2.1 v211_5.2.2 c220t]; exact ts0 v211_2.2.2.1.1 v211_2.2.2.1.2, Eq.trans v211_2.1.2.1 (lx4 v211_5.1 v211_5.2.1 v211_5.2.2 c220t).symm⟩⟩)
  have L114 : ∀ (n : Nat) (x : Int) (M6 : qM) (Y6 : qM), (xr m x) → (keep (kN kLn) M6 = keep (kN kLn) m) → (tokS t L M6 Y6 (tE t L p)) → ((M6 77 48 = l8 m ∧ M6 77 49 = l9 m (tS t L p)) ∧ M6 77 50 = m 77 50) → ((M6 116 x.toNat = tC t L p ∧ M6 116 (x + 1).toNat = tD t L (tE t L p)) ∧ ∀ j : Nat, (j : Int) < x → M6 116 j = m 116 j) → (¬ tC t L p = -1) → (0) < n → qJ YX12_oneLine κ (qFin (fun r h => ∃ (z : Int) (m' y' : qM), r = some (qI z) ∧ h = (qLy u, m', y') ∧ keep (kN kLn) m' = keep (kN kLn) m ∧ ((z = 0 ∧ ¬ lnX t L p = -1 ∧ m' 77 47 = lnX t L p) ∨ (z = 1 ∧ lnX t L p = -1 ∧ mlGood t L m p m' y'))) 0 0 κ) (qLy u, M6, Y6) 0 0 114 [some (qR 77), some (qI x)] [] := by
    intro n
    induction n with
    | zero => intro x M6 Y6 _ _ _ _ _ _ hz0; omega
    | succ n ih114 =>
      intro x M6 Y6 v114_0 v114_1 v114_2 v114_3 v114_4 v114_5 v114_m
      have xb := v114_0.1
      have dr := tD_r t L (tE t L p)
      have e1 := v114_4.1.2
      refine qJ.run hκ 5 (pc' := 121) (ls' := [some (qR 77), some (qI x)]) (st' := [qI (x + 1), qR 116]) rfl ?_
      refine qJ.ald hκ rfl rfl rfl (by decide) (by omega) ?_
      show qJ YX12_oneLine κ _ (qLy u, M6, Y6) 0 0 122 [some (qR 77), some (qI x)] [qI (M6 116 ((x + 1).toNat))]
      refine qJ.run hκ 1 (pc' := 123) (ls' := [some (qR 77), some (qI x)]) (st' := [qI (-1), qI (M6 116 ((x + 1).toNat))]) rfl ?_
      refine qJ.icmp_ne hκ (tgt := 131) rfl rfl (by omega) (by omega) (fun c123 => ?_) (fun c123 => ?_)
      · show qJ YX12_oneLine κ _ (qLy u, M6, Y6) 0 0 131 [some (qR 77), some (qI x)] []
        have c123t : ¬ tD t L (tE t L p) = -1 := by omega
        refine qJ.run hκ 1 (pc' := 132) (ls' := [some (qR 77), some (qI x)]) (st' := [qR 77]) rfl ?_
        refine qJ.callV (As := []) (rest := []) hκ rfl kX12_298 (m_tok2 u M6 Y6 t L (tE t L p) (show tokS t L M6 Y6 (tE t L p) from v114_2)) rfl rfl (by decide) rfl rfl (Nat.le_of_ble_eq_true rfl) (Nat.le_of_ble_eq_true rfl) (Nat.le_of_ble_eq_true rfl) (Or.inl (fun r h' e => by obtain ⟨rfl, m1, y1, rfl, N1⟩ := e; rfl)) (fun r h' e => ?_)
        obtain ⟨rfl, m1, y1, rfl, N1⟩ := e
        show qJ YX12_oneLine κ _ (qLy u, m1, y1) 0 0 135 [some (qR 77), some (qI x)] []
        refine qJ.run hκ 2 (pc' := 138) (ls' := [some (qR 77), some (qI x)]) (st' := [qI 58, qR 77]) rfl ?_
        refine qJ.callV (As := [qI 58]) (rest := []) hκ rfl kX12_322 (m_need2 u m1 y1 t L (tE t L (tE t L p)) 58 (show tokS t L m1 y1 (tE t L (tE t L p)) from N1.2.2) (by decide)) rfl rfl (by decide) rfl rfl (Nat.le_of_ble_eq_true rfl) (Nat.le_of_ble_eq_true rfl) (Nat.le_of_ble_eq_true rfl) (Or.inl (fun r h' e => by obtain ⟨zn2, m2, y2, rfl, rfl, N2⟩ := e; rfl)) (fun r h' e => ?_)
        obtain ⟨zn2, m2, y2, rfl, rfl, N2⟩ := e
        show qJ YX12_oneLine κ _ (qLy u, m2, y2) 0 0 141 [some (qR 77), some (qI x)] [qI zn2]
        have zr2 : zn2 = 0 ∨ zn2 = 1 := by rcases N2 with q | q; (right; exact q.1); (left; exact q.1)
        refine qJ.if_ne hκ (tgt := 146) rfl rfl (by omega) (fun c141 => ?_) (fun c141 => ?_)
        · show qJ YX12_oneLine κ _ (qLy u, m2, y2) 0 0 146 [some (qR 77), some (qI x)] []
          have Z2 : tMk 58 t L (tE t L (tE t L p)) ∧ tokN t L m1 y1 m2 y2 (q3 t L p) := by rcases N2 with q | q; (exact q.2); (exact absurd q.1 c141)
          have T2 := Z2.1
          have K2 := Z2.2.1
          have S2 := Z2.2.2.2
          refine qJ.run hκ 6 (pc' := 154) (ls' := [some (qR 77), some (qI x)]) (st' := [qR 77, qI (x + 2), qR 116]) rfl ?_
          refine qJ.ldc2 hκ rfl (z := 1685221232) (qT_t8 29 rfl rfl) (by decide +kernel) ?_
          show qJ YX12_oneLine κ _ (qLy u, m2, y2) 0 0 157 [some (qR 77), some (qI x)] [qL 1685221232, qR 77, qI (x + 2), qR 116]
          refine qJ.callV (As := [qL 1685221232]) (rest := [qI (x + 2), qR 116]) hκ rfl kX12_314 (m_isW4 u m2 y2 t L (q3 t L p) S2) rfl rfl (by decide) rfl rfl (Nat.le_of_ble_eq_true rfl) (Nat.le_of_ble_eq_true rfl) (Nat.le_of_ble_eq_true rfl) (Or.inl (fun r h' e => by obtain ⟨z157, rfl, B157, rfl⟩ := e; rfl)) (fun r h' e => ?_)
          obtain ⟨z157, rfl, B157, rfl⟩ := e
          show qJ YX12_oneLine κ _ (qLy u, m2, y2) 0 0 160 [some (qR 77), some (qI x)] [qI z157, qI (x + 2), qR 116]
          refine qJ.if_eq hκ (tgt := 167) rfl rfl (by omega) (fun c160 => ?_) (fun c160 => ?_)
          · show qJ YX12_oneLine κ _ (qLy u, m2, y2) 0 0 167 [some (qR 77), some (qI x)] [qI (x + 2), qR 116]
            refine qJ.run hκ 1 (pc' := 168) (ls' := [some (qR 77), some (qI x)]) (st' := [qR 77, qI (x + 2), qR 116]) rfl ?_
            refine qJ.ldc2 hκ rfl (z := 1701013615) (qT_t8 30 rfl rfl) (by decide +kernel) ?_
            show qJ YX12_oneLine κ _ (qLy u, m2, y2) 0 0 171 [some (qR 77), some (qI x)] [qL 1701013615, qR 77, qI (x + 2), qR 116]
            refine qJ.callV (As := [qL 1701013615]) (rest := [qI (x + 2), qR 116]) hκ rfl kX12_314 (m_isW5 u m2 y2 t L (q3 t L p) S2) rfl rfl (by decide) rfl rfl (Nat.le_of_ble_eq_true rfl) (Nat.le_of_ble_eq_true rfl) (Nat.le_of_ble_eq_true rfl) (Or.inl (fun r h' e => by obtain ⟨z171, rfl, B171, rfl⟩ := e; rfl)) (fun r h' e => ?_)
            obtain ⟨z171, rfl, B171, rfl⟩ := e
            show qJ YX12_oneLine κ _ (qLy u, m2, y2) 0 0 174 [some (qR 77), some (qI x)] [qI z171, qI (x + 2), qR 116]
            refine qJ.if_eq hκ (tgt := 181) rfl rfl (by omega) (fun c174 => ?_) (fun c174 => ?_)
            · show qJ YX12_oneLine κ _ (qLy u, m2, y2) 0 0 181 [some (qR 77), some (qI x)] [qI (x + 2), qR 116]
              refine qJ.run hκ 1 (pc' := 182) (ls' := [some (qR 77), some (qI x)]) (st' := [qR 77, qI (x + 2), qR 116]) rfl ?_
              refine qJ.ldc2 hκ rfl (z := 1818325876) (qT_t8 31 rfl rfl) (by decide +kernel) ?_
              show qJ YX12_oneLine κ _ (qLy u, m2, y2) 0 0 185 [some (qR 77), some (qI x)] [qL 1818325876, qR 77, qI (x + 2), qR 116]
              refine qJ.callV (As := [qL 1818325876]) (rest := [qI (x + 2), qR 116]) hκ rfl kX12_314 (m_isW6 u m2 y2 t L (q3 t L p) S2) rfl rfl (by decide) rfl rfl (Nat.le_of_ble_eq_true rfl) (Nat.le_of_ble_eq_true rfl) (Nat.le_of_ble_eq_true rfl) (Or.inl (fun r h' e => by obtain ⟨z185, rfl, B185, rfl⟩ := e; rfl)) (fun r h' e => ?_)
              obtain ⟨z185, rfl, B185, rfl⟩ := e
              show qJ YX12_oneLine κ _ (qLy u, m2, y2) 0 0 188 [some (qR 77), some (qI x)] [qI z185, qI (x + 2), qR 116]
              refine qJ.if_eq hκ (tgt := 195) rfl rfl (by omega) (fun c188 => ?_) (fun c188 => ?_)
              · show qJ YX12_oneLine κ _ (qLy u, m2, y2) 0 0 195 [some (qR 77), some (qI x)] [qI (x + 2), qR 116]
                refine qJ.run hκ 1 (pc' := 196) (ls' := [some (qR 77), some (qI x)]) (st' := [qR 77, qI (x + 2), qR 116]) rfl ?_
                refine qJ.ldc2 hκ rfl (z := 24947) (qT_t8 32 rfl rfl) (by decide +kernel) ?_
                show qJ YX12_oneLine κ _ (qLy u, m2, y2) 0 0 199 [some (qR 77), some (qI x)] [qL 24947, qR 77, qI (x + 2), qR 116]
                refine qJ.callV (As := [qL 24947]) (rest := [qI (x + 2), qR 116]) hκ rfl kX12_314 (m_isW7 u m2 y2 t L (q3 t L p) S2) rfl rfl (by decide) rfl rfl (Nat.le_of_ble_eq_true rfl) (Nat.le_of_ble_eq_true rfl) (Nat.le_of_ble_eq_true rfl) (Or.inl (fun r h' e => by obtain ⟨z199, rfl, B199, rfl⟩ := e; rfl)) (fun r h' e => ?_)
                obtain ⟨z199, rfl, B199, rfl⟩ := e
                show qJ YX12_oneLine κ _ (qLy u, m2, y2) 0 0 202 [some (qR 77), some (qI x)] [qI z199, qI (x + 2), qR 116]
                refine qJ.if_eq hκ (tgt := 209) rfl rfl (by omega) (fun c202 => ?_) (fun c202 => ?_)
                · show qJ YX12_oneLine κ _ (qLy u, m2, y2) 0 0 209 [some (qR 77), some (qI x)] [qI (x + 2), qR 116]
                  refine qJ.run hκ 1 (pc' := 210) (ls' := [some (qR 77), some (qI x)]) (st' := [qI (-1), qI (x + 2), qR 116]) rfl ?_
                  refine qJ.ast hκ rfl rfl rfl (by decide) (by omega) ?_
                  show qJ YX12_oneLine κ _ (qLy u, (q_up m2 116 ((x + 2).toNat) (-1)), y2) 0 0 211 [some (qR 77), some (qI x)] []
                  exact L211 1 x (q_up m2 116 ((x + 2).toNat) (-1)) y2 (v114_0) (Eq.trans (keep_up (by rfl)) ((keep_of kLnT K2).trans ((keep_of kLnT N1.1).trans v114_1))) (S2) (by rw [← show m2 77 48 = M6 77 48 from (congrFun (congrFun K2 77) 48).trans (congrFun (congrFun N1.1 77) 48), ← show m2 77 49 = M6 77 49 from (congrFun (congrFun K2 77) 49).trans (congrFun (congrFun N1.1 77) 49), ← show m2 77 50 = M6 77 50 from (congrFun (congrFun K2 77) 50).trans (congrFun (congrFun N1.1 77) 50)] at v114_3; exact v114_3) (by
      have g2 : m2 116 = m1 116 := congrFun K2 116
      have g1 : m1 116 = M6 116 := congrFun N1.1 116
      obtain ⟨⟨e0, e1⟩, e4⟩ := v114_4
      refine ⟨⟨?_, ?_, ?_⟩, fun j hj => ?_⟩
      · rw [up_o (by omega), g2, g1]; exact e0
      · rw [up_o (by omega), g2, g1]; exact e1
      · rw [q_up_eq]; unfold tA; rw [if_neg (by rcases B157 with q | q; (exact absurd (q.1.symm.trans c160) (by decide)); (exact q.2)), if_neg (by rcases B171 with q | q; (exact absurd (q.1.symm.trans c174) (by decide)); (exact q.2)), if_neg (by rcases B185 with q | q; (exact absurd (q.1.symm.trans c188) (by decide)); (exact q.2)), if_neg (by rcases B199 with q | q; (exact absurd (q.1.symm.trans c202) (by decide)); (exact q.2))]
      · rw [up_o (by omega), g2, g1]; exact e4 j hj) (⟨v114_5, c123t, T2⟩) (by omega)
                · show qJ YX12_oneLine κ _ (qLy u, m2, y2) 0 0 205 [some (qR 77), some (qI x)] [qI (x + 2), qR 116]
                  refine qJ.run hκ 2 (pc' := 210) (ls' := [some (qR 77), some (qI x)]) (st' := [qI 3, qI (x + 2), qR 116]) rfl ?_
                  refine qJ.ast hκ rfl rfl rfl (by decide) (by omega) ?_
                  show qJ YX12_oneLine κ _ (qLy u, (q_up m2 116 ((x + 2).toNat) 3), y2) 0 0 211 [some (qR 77), some (qI x)] []
                  exact L211 1 x (q_up m2 116 ((x + 2).toNat) 3) y2 (v114_0) (Eq.trans (keep_up (by rfl)) ((keep_of kLnT K2).trans ((keep_of kLnT N1.1).trans v114_1))) (S2) (by rw [← show m2 77 48 = M6 77 48 from (congrFun (congrFun K2 77) 48).trans (congrFun (congrFun N1.1 77) 48), ← show m2 77 49 = M6 77 49 from (congrFun (congrFun K2 77) 49).trans (congrFun (congrFun N1.1 77) 49), ← show m2 77 50 = M6 77 50 from (congrFun (congrFun K2 77) 50).trans (congrFun (congrFun N1.1 77) 50)] at v114_3; exact v114_3) (by
      have g2 : m2 116 = m1 116 := congrFun K2 116
      have g1 : m1 116 = M6 116 := congrFun N1.1 116
      obtain ⟨⟨e0, e1⟩, e4⟩ := v114_4
      refine ⟨⟨?_, ?_, ?_⟩, fun j hj => ?_⟩
      · rw [up_o (by omega), g2, g1]; exact e0
      · rw [up_o (by omega), g2, g1]; exact e1
      · rw [q_up_eq]; unfold tA; rw [if_neg (by rcases B157 with q | q; (exact absurd (q.1.symm.trans c160) (by decide)); (exact q.2)), if_neg (by rcases B171 with q | q; (exact absurd (q.1.symm.trans c174) (by decide)); (exact q.2)), if_neg (by rcases B185 with q | q; (exact absurd (q.1.symm.trans c188) (by decide)); (exact q.2)), if_pos (by rcases B199 with q | q; (exact q.2); (exact absurd q.1 c202))]
      · rw [up_o (by omega), g2, g1]; exact e4 j hj) (⟨v114_5, c123t, T2⟩) (by omega)
              · show qJ YX12_oneLine κ _ (qLy u, m2, y2) 0 0 191 [some (qR 77), some (qI x)] [qI (x + 2), qR 116]
                refine qJ.run hκ 2 (pc' := 210) (ls' := [some (qR 77), some (qI x)]) (st' := [qI 2, qI (x + 2), qR 116]) rfl ?_
                refine qJ.ast hκ rfl rfl rfl (by decide) (by omega) ?_
                show qJ YX12_oneLine κ _ (qLy u, (q_up m2 116 ((x + 2).toNat) 2), y2) 0 0 211 [some (qR 77), some (qI x)] []
                exact L211 1 x (q_up m2 116 ((x + 2).toNat) 2) y2 (v114_0) (Eq.trans (keep_up (by rfl)) ((keep_of kLnT K2).trans ((keep_of kLnT N1.1).trans v114_1))) (S2) (by rw [← show m2 77 48 = M6 77 48 from (congrFun (congrFun K2 77) 48).trans (congrFun (congrFun N1.1 77) 48), ← show m2 77 49 = M6 77 49 from (congrFun (congrFun K2 77) 49).trans (congrFun (congrFun N1.1 77) 49), ← show m2 77 50 = M6 77 50 from (congrFun (congrFun K2 77) 50).trans (congrFun (congrFun N1.1 77) 50)] at v114_3; exact v114_3) (by
      have g2 : m2 116 = m1 116 := congrFun K2 116
      have g1 : m1 116 = M6 116 := congrFun N1.1 116
      obtain ⟨⟨e0, e1⟩, e4⟩ := v114_4
      refine ⟨⟨?_, ?_, ?_⟩, fun j hj => ?_⟩
      · rw [up_o (by omega), g2, g1]; exact e0
      · rw [up_o (by omega), g2, g1]; exact e1
      · rw [q_up_eq]; unfold tA; rw [if_neg (by rcases B157 with q | q; (exact absurd (q.1.symm.trans c160) (by decide)); (exact q.2)), if_neg (by rcases B171 with q | q; (exact absurd (q.1.symm.trans c174) (by decide)); (exact q.2)), if_pos (by rcases B185 with q | q; (exact q.2); (exact absurd q.1 c188))]
      · rw [up_o (by omega), g2, g1]; exact e4 j hj) (⟨v114_5, c123t, T2⟩) (by omega)
            · show qJ YX12_oneLine κ _ (qLy u, m2, y2) 0 0 177 [some (qR 77), some (qI x)] [qI (x + 2), qR 116]
              refine qJ.run hκ 2 (pc' := 210) (ls' := [some (qR 77), some (qI x)]) (st' := [qI 1, qI (x + 2), qR 116]) rfl ?_
              refine qJ.ast hκ rfl rfl rfl (by decide) (by omega) ?_
              show qJ YX12_oneLine κ _ (qLy u, (q_up m2 116 ((x + 2).toNat) 1), y2) 0 0 211 [some (qR 77), some (qI x)] []
              exact L211 1 x (q_up m2 116 ((x + 2).toNat) 1) y2 (v114_0) (Eq.trans (keep_up (by rfl)) ((keep_of kLnT K2).trans ((keep_of kLnT N1.1).trans v114_1))) (S2) (by rw [← show m2 77 48 = M6 77 48 from (congrFun (congrFun K2 77) 48).trans (congrFun (congrFun N1.1 77) 48), ← show m2 77 49 = M6 77 49 from (congrFun (congrFun K2 77) 49).trans (congrFun (congrFun N1.1 77) 49), ← show m2 77 50 = M6 77 50 from (congrFun (congrFun K2 77) 50).trans (congrFun (congrFun N1.1 77) 50)] at v114_3; exact v114_3) (by
      have g2 : m2 116 = m1 116 := congrFun K2 116
      have g1 : m1 116 = M6 116 := congrFun N1.1 116
      obtain ⟨⟨e0, e1⟩, e4⟩ := v114_4
      refine ⟨⟨?_, ?_, ?_⟩, fun j hj => ?_⟩
      · rw [up_o (by omega), g2, g1]; exact e0
      · rw [up_o (by omega), g2, g1]; exact e1
      · rw [q_up_eq]; unfold tA; rw [if_neg (by rcases B157 with q | q; (exact absurd (q.1.symm.trans c160) (by decide)); (exact q.2)), if_pos (by rcases B171 with q | q; (exact q.2); (exact absurd q.1 c174))]
      · rw [up_o (by omega), g2, g1]; exact e4 j hj) (⟨v114_5, c123t, T2⟩) (by omega)
          · show qJ YX12_oneLine κ _ (qLy u, m2, y2) 0 0 163 [some (qR 77), some (qI x)] [qI (x + 2), qR 116]
            refine qJ.run hκ 2 (pc' := 210) (ls' := [some (qR 77), some (qI x)]) (st' := [qI 0, qI (x + 2), qR 116]) rfl ?_
            refine qJ.ast hκ rfl rfl rfl (by decide) (by omega) ?_
            show qJ YX12_oneLine κ _ (qLy u, (q_up m2 116 ((x + 2).toNat) 0), y2) 0 0 211 [some (qR 77), some (qI x)] []
            exact L211 1 x (q_up m2 116 ((x + 2).toNat) 0) y2 (v114_0) (Eq.trans (keep_up (by rfl)) ((keep_of kLnT K2).trans ((keep_of kLnT N1.1).trans v114_1))) (S2) (by rw [← show m2 77 48 = M6 77 48 from (congrFun (congrFun K2 77) 48).trans (congrFun (congrFun N1.1 77) 48), ← show m2 77 49 = M6 77 49 from (congrFun (congrFun K2 77) 49).trans (congrFun (congrFun N1.1 77) 49), ← show m2 77 50 = M6 77 50 from (congrFun (congrFun K2 77) 50).trans (congrFun (congrFun N1.1 77) 50)] at v114_3; exact v114_3) (by
      have g2 : m2 116 = m1 116 := congrFun K2 116
      have g1 : m1 116 = M6 116 := congrFun N1.1 116
      obtain ⟨⟨e0, e1⟩, e4⟩ := v114_4
      refine ⟨⟨?_, ?_, ?_⟩, fun j hj => ?_⟩
      · rw [up_o (by omega), g2, g1]; exact e0
      · rw [up_o (by omega), g2, g1]; exact e1
      · rw [q_up_eq]; unfold tA; rw [if_pos (by rcases B157 with q | q; (exact q.2); (exact absurd q.1 c160))]
      · rw [up_o (by omega), g2, g1]; exact e4 j hj) (⟨v114_5, c123t, T2⟩) (by omega)
        · show qJ YX12_oneLine κ _ (qLy u, m2, y2) 0 0 144 [some (qR 77), some (qI x)] []
          have Z2 : ¬ tMk 58 t L (tE t L (tE t L p)) ∧ m2 = q_up m1 77 47 (tS t L (tE t L (tE t L p))) := by rcases N2 with q | q; (exact absurd (q.1.symm.trans c141) (by decide)); (exact q.2)
          obtain ⟨T2, rfl⟩ := Z2
          refine qJ.run hκ 1 (pc' := 145) (ls' := [some (qR 77), some (qI x)]) (st' := [qI 0]) rfl ?_
          exact qJ.bret hκ rfl rfl (by omega) (by decide) (by decide) (⟨0, _, _, rfl, rfl, Eq.trans (keep_up (by rfl)) ((keep_of kLnT N1.1).trans v114_1), Or.inl ⟨rfl, by rw [lx3 v114_5 c123t T2]; exact ts0 N1.2.2.2.2.1.1 N1.2.2.2.2.1.2, (lx3 v114_5 c123t T2).symm⟩⟩)
      · show qJ YX12_oneLine κ _ (qLy u, M6, Y6) 0 0 126 [some (qR 77), some (qI x)] []
        have c123t : tD t L (tE t L p) = -1 := by omega
        refine qJ.run hκ 1 (pc' := 127) (ls' := [some (qR 77), some (qI x)]) (st' := [qR 77]) rfl ?_
        refine qJ.callV (As := []) (rest := []) hκ rfl kX12_295 (m_wrong u M6 Y6) rfl rfl (by decide) rfl rfl (Nat.le_of_ble_eq_true rfl) (Nat.le_of_ble_eq_true rfl) (Nat.le_of_ble_eq_true rfl) (Or.inl (fun r h' e => by obtain ⟨rfl, rfl⟩ := e; rfl)) (fun r h' e => ?_)
        obtain ⟨rfl, rfl⟩ := e
        show qJ YX12_oneLine κ _ (qLy u, (q_up M6 77 47 (M6 77 43)), Y6) 0 0 130 [some (qR 77), some (qI x)] [qI 0]
        exact qJ.bret hκ rfl rfl (by omega) (by decide) (by decide) (⟨0, _, _, rfl, rfl, Eq.trans (keep_up (by rfl)) v114_1, Or.inl ⟨rfl, by rw [lx2 v114_5 c123t]; exact ts0 v114_2.2.2.1.1 v114_2.2.2.1.2, Eq.trans v114_2.1.2.1 (lx2 v114_5 c123t).symm⟩⟩)
  have L35 : ∀ (n : Nat) (x : Int) (M6 : qM), (xr m x) → (keep (kN kLn) M6 = keep (kN kLn) m) → (tokS t L M6 y p) → ((M6 77 48 = l8 m ∧ M6 77 49 = l9 m (tS t L p)) ∧ M6 77 50 = m 77 50) → (M6 116 = m 116) → (0) < n → qJ YX12_oneLine κ (qFin (fun r h => ∃ (z : Int) (m' y' : qM), r = some (qI z) ∧ h = (qLy u, m', y') ∧ keep (kN kLn) m' = keep (kN kLn) m ∧ ((z = 0 ∧ ¬ lnX t L p = -1 ∧ m' 77 47 = lnX t L p) ∨ (z = 1 ∧ lnX t L p = -1 ∧ mlGood t L m p m' y'))) 0 0 κ) (qLy u, M6, y) 0 0 35 [some (qR 77), some (qI x)] [] := by
    intro n
    induction n with
    | zero => intro x M6 _ _ _ _ _ hz0; omega
    | succ n ih35 =>
      intro x M6 v35_0 v35_1 v35_2 v35_3 v35_4 v35_m
      have xb := v35_0.1
      have T0 := tC0_i (t := t) (L := L) (p := p)
      refine qJ.run hκ 4 (pc' := 41) (ls' := [some (qR 77), some (qI x)]) (st' := [qR 77, qI x, qR 116]) rfl ?_
      refine qJ.callV (As := []) (rest := [qI x, qR 116]) hκ rfl kX12_309 (m_oneL u M6 y t L p (v35_2).2.2.1.2 (show M6 77 44 = _ from (v35_2).1.2.2.1) (show y 77 46 = _ from (v35_2).1.2.2.2.2)) rfl rfl (by decide) rfl rfl (Nat.le_of_ble_eq_true rfl) (Nat.le_of_ble_eq_true rfl) (Nat.le_of_ble_eq_true rfl) (Or.inl (fun r h' e => by obtain ⟨rfl, rfl⟩ := e; rfl)) (fun r h' e => ?_)
      obtain ⟨rfl, rfl⟩ := e
      show qJ YX12_oneLine κ _ (qLy u, M6, y) 0 0 44 [some (qR 77), some (qI x)] [qI (tC0 t L p), qI x, qR 116]
      refine qJ.ast hκ rfl rfl rfl (by decide) (by omega) ?_
      show qJ YX12_oneLine κ _ (qLy u, (q_up M6 116 x.toNat (tC0 t L p)), y) 0 0 45 [some (qR 77), some (qI x)] []
      refine qJ.run hκ 3 (pc' := 50) (ls' := [some (qR 77), some (qI x)]) (st' := [qI x, qR 116]) rfl ?_
      refine qJ.ald hκ rfl rfl rfl (by decide) (by omega) ?_
      show qJ YX12_oneLine κ _ (qLy u, (q_up M6 116 x.toNat (tC0 t L p)), y) 0 0 51 [some (qR 77), some (qI x)] [qI ((q_up M6 116 x.toNat (tC0 t L p)) 116 x.toNat)]
      rw [show (q_up M6 116 x.toNat (tC0 t L p)) 116 x.toNat = (tC0 t L p) from by show (q_up M6 116 x.toNat (tC0 t L p)) 116 x.toNat = _; exact q_up_eq]
      show qJ YX12_oneLine κ _ (qLy u, (q_up M6 116 x.toNat (tC0 t L p)), y) 0 0 51 [some (qR 77), some (qI x)] [qI (tC0 t L p)]
      refine qJ.if_ne hκ (tgt := 59) rfl rfl (by omega) (fun c51 => ?_) (fun c51 => ?_)
      · show qJ YX12_oneLine κ _ (qLy u, (q_up M6 116 x.toNat (tC0 t L p)), y) 0 0 59 [some (qR 77), some (qI x)] []
        have c51t : ¬ tC t L p = -1 := fun z => c51 (T0.2.1.mpr z)
        refine qJ.run hκ 1 (pc' := 60) (ls' := [some (qR 77), some (qI x)]) (st' := [qR 77]) rfl ?_
        refine qJ.callV (As := []) (rest := []) hκ rfl kX12_298 (m_tok2 u (q_up M6 116 x.toNat (tC0 t L p)) y t L p (show tokS t L (q_up M6 116 x.toNat (tC0 t L p)) y p from v35_2)) rfl rfl (by decide) rfl rfl (Nat.le_of_ble_eq_true rfl) (Nat.le_of_ble_eq_true rfl) (Nat.le_of_ble_eq_true rfl) (Or.inl (fun r h' e => by obtain ⟨rfl, m0, y0, rfl, N0⟩ := e; rfl)) (fun r h' e => ?_)
        obtain ⟨rfl, m0, y0, rfl, N0⟩ := e
        show qJ YX12_oneLine κ _ (qLy u, m0, y0) 0 0 63 [some (qR 77), some (qI x)] []
        refine qJ.run hκ 6 (pc' := 71) (ls' := [some (qR 77), some (qI x)]) (st' := [qR 77, qI (x + 1), qR 116]) rfl ?_
        refine qJ.ldc2 hκ rfl (z := 1869636974) (qT_t8 18 rfl rfl) (by decide +kernel) ?_
        show qJ YX12_oneLine κ _ (qLy u, m0, y0) 0 0 74 [some (qR 77), some (qI x)] [qL 1869636974, qR 77, qI (x + 1), qR 116]
        refine qJ.callV (As := [qL 1869636974]) (rest := [qI (x + 1), qR 116]) hκ rfl kX12_314 (m_isW1 u m0 y0 t L (tE t L p) N0.2.2) rfl rfl (by decide) rfl rfl (Nat.le_of_ble_eq_true rfl) (Nat.le_of_ble_eq_true rfl) (Nat.le_of_ble_eq_true rfl) (Or.inl (fun r h' e => by obtain ⟨z74, rfl, B74, rfl⟩ := e; rfl)) (fun r h' e => ?_)
        obtain ⟨z74, rfl, B74, rfl⟩ := e
        show qJ YX12_oneLine κ _ (qLy u, m0, y0) 0 0 77 [some (qR 77), some (qI x)] [qI z74, qI (x + 1), qR 116]
        refine qJ.if_eq hκ (tgt := 84) rfl rfl (by omega) (fun c77 => ?_) (fun c77 => ?_)
        · show qJ YX12_oneLine κ _ (qLy u, m0, y0) 0 0 84 [some (qR 77), some (qI x)] [qI (x + 1), qR 116]
          refine qJ.run hκ 1 (pc' := 85) (ls' := [some (qR 77), some (qI x)]) (st' := [qR 77, qI (x + 1), qR 116]) rfl ?_
          refine qJ.ldc2 hκ rfl (z := 27985274398336370) (qT_t8 23 rfl rfl) (by decide +kernel) ?_
          show qJ YX12_oneLine κ _ (qLy u, m0, y0) 0 0 88 [some (qR 77), some (qI x)] [qL 27985274398336370, qR 77, qI (x + 1), qR 116]
          refine qJ.callV (As := [qL 27985274398336370]) (rest := [qI (x + 1), qR 116]) hκ rfl kX12_314 (m_isW2 u m0 y0 t L (tE t L p) N0.2.2) rfl rfl (by decide) rfl rfl (Nat.le_of_ble_eq_true rfl) (Nat.le_of_ble_eq_true rfl) (Nat.le_of_ble_eq_true rfl) (Or.inl (fun r h' e => by obtain ⟨z88, rfl, B88, rfl⟩ := e; rfl)) (fun r h' e => ?_)
          obtain ⟨z88, rfl, B88, rfl⟩ := e
          show qJ YX12_oneLine κ _ (qLy u, m0, y0) 0 0 91 [some (qR 77), some (qI x)] [qI z88, qI (x + 1), qR 116]
          refine qJ.if_eq hκ (tgt := 98) rfl rfl (by omega) (fun c91 => ?_) (fun c91 => ?_)
          · show qJ YX12_oneLine κ _ (qLy u, m0, y0) 0 0 98 [some (qR 77), some (qI x)] [qI (x + 1), qR 116]
            refine qJ.run hκ 1 (pc' := 99) (ls' := [some (qR 77), some (qI x)]) (st' := [qR 77, qI (x + 1), qR 116]) rfl ?_
            refine qJ.ldc2 hκ rfl (z := 6647396) (qT_t8 24 rfl rfl) (by decide +kernel) ?_
            show qJ YX12_oneLine κ _ (qLy u, m0, y0) 0 0 102 [some (qR 77), some (qI x)] [qL 6647396, qR 77, qI (x + 1), qR 116]
            refine qJ.callV (As := [qL 6647396]) (rest := [qI (x + 1), qR 116]) hκ rfl kX12_314 (m_isW3 u m0 y0 t L (tE t L p) N0.2.2) rfl rfl (by decide) rfl rfl (Nat.le_of_ble_eq_true rfl) (Nat.le_of_ble_eq_true rfl) (Nat.le_of_ble_eq_true rfl) (Or.inl (fun r h' e => by obtain ⟨z102, rfl, B102, rfl⟩ := e; rfl)) (fun r h' e => ?_)
            obtain ⟨z102, rfl, B102, rfl⟩ := e
            show qJ YX12_oneLine κ _ (qLy u, m0, y0) 0 0 105 [some (qR 77), some (qI x)] [qI z102, qI (x + 1), qR 116]
            refine qJ.if_eq hκ (tgt := 112) rfl rfl (by omega) (fun c105 => ?_) (fun c105 => ?_)
            · show qJ YX12_oneLine κ _ (qLy u, m0, y0) 0 0 112 [some (qR 77), some (qI x)] [qI (x + 1), qR 116]
              refine qJ.run hκ 1 (pc' := 113) (ls' := [some (qR 77), some (qI x)]) (st' := [qI (-1), qI (x + 1), qR 116]) rfl ?_
              refine qJ.ast hκ rfl rfl rfl (by decide) (by omega) ?_
              show qJ YX12_oneLine κ _ (qLy u, (q_up m0 116 ((x + 1).toNat) (-1)), y0) 0 0 114 [some (qR 77), some (qI x)] []
              exact L114 1 x (q_up m0 116 ((x + 1).toNat) (-1)) y0 (v35_0) (Eq.trans (keep_up (by rfl)) ((keep_of kLnT N0.1).trans (Eq.trans (keep_up (by rfl)) v35_1))) (N0.2.2) (by rw [← show m0 77 48 = M6 77 48 from congrFun (congrFun N0.1 77) 48, ← show m0 77 49 = M6 77 49 from congrFun (congrFun N0.1 77) 49, ← show m0 77 50 = M6 77 50 from congrFun (congrFun N0.1 77) 50] at v35_3; exact v35_3) (by
      have g1 : m0 116 = q_up M6 116 x.toNat (tC0 t L p) 116 := congrFun N0.1 116
      refine ⟨⟨?_, ?_⟩, fun j hj => ?_⟩
      · rw [up_o (by omega), g1, q_up_eq]; exact T0.2.2 c51t
      · rw [q_up_eq]; unfold tD; rw [if_neg (by rcases B74 with q | q; (exact absurd (q.1.symm.trans c77) (by decide)); (exact q.2)), if_neg (by rcases B88 with q | q; (exact absurd (q.1.symm.trans c91) (by decide)); (exact q.2)), if_neg (by rcases B102 with q | q; (exact absurd (q.1.symm.trans c105) (by decide)); (exact q.2))]
      · rw [up_o (by omega), g1, up_o (by omega), v35_4]) (c51t) (by omega)
            · show qJ YX12_oneLine κ _ (qLy u, m0, y0) 0 0 108 [some (qR 77), some (qI x)] [qI (x + 1), qR 116]
              refine qJ.run hκ 2 (pc' := 113) (ls' := [some (qR 77), some (qI x)]) (st' := [qI 2, qI (x + 1), qR 116]) rfl ?_
              refine qJ.ast hκ rfl rfl rfl (by decide) (by omega) ?_
              show qJ YX12_oneLine κ _ (qLy u, (q_up m0 116 ((x + 1).toNat) 2), y0) 0 0 114 [some (qR 77), some (qI x)] []
              exact L114 1 x (q_up m0 116 ((x + 1).toNat) 2) y0 (v35_0) (Eq.trans (keep_up (by rfl)) ((keep_of kLnT N0.1).trans (Eq.trans (keep_up (by rfl)) v35_1))) (N0.2.2) (by rw [← show m0 77 48 = M6 77 48 from congrFun (congrFun N0.1 77) 48, ← show m0 77 49 = M6 77 49 from congrFun (congrFun N0.1 77) 49, ← show m0 77 50 = M6 77 50 from congrFun (congrFun N0.1 77) 50] at v35_3; exact v35_3) (by
      have g1 : m0 116 = q_up M6 116 x.toNat (tC0 t L p) 116 := congrFun N0.1 116
      refine ⟨⟨?_, ?_⟩, fun j hj => ?_⟩
      · rw [up_o (by omega), g1, q_up_eq]; exact T0.2.2 c51t
      · rw [q_up_eq]; unfold tD; rw [if_neg (by rcases B74 with q | q; (exact absurd (q.1.symm.trans c77) (by decide)); (exact q.2)), if_neg (by rcases B88 with q | q; (exact absurd (q.1.symm.trans c91) (by decide)); (exact q.2)), if_pos (by rcases B102 with q | q; (exact q.2); (exact absurd q.1 c105))]
      · rw [up_o (by omega), g1, up_o (by omega), v35_4]) (c51t) (by omega)
          · show qJ YX12_oneLine κ _ (qLy u, m0, y0) 0 0 94 [some (qR 77), some (qI x)] [qI (x + 1), qR 116]
            refine qJ.run hκ 2 (pc' := 113) (ls' := [some (qR 77), some (qI x)]) (st' := [qI 1, qI (x + 1), qR 116]) rfl ?_
            refine qJ.ast hκ rfl rfl rfl (by decide) (by omega) ?_
            show qJ YX12_oneLine κ _ (qLy u, (q_up m0 116 ((x + 1).toNat) 1), y0) 0 0 114 [some (qR 77), some (qI x)] []
            exact L114 1 x (q_up m0 116 ((x + 1).toNat) 1) y0 (v35_0) (Eq.trans (keep_up (by rfl)) ((keep_of kLnT N0.1).trans (Eq.trans (keep_up (by rfl)) v35_1))) (N0.2.2) (by rw [← show m0 77 48 = M6 77 48 from congrFun (congrFun N0.1 77) 48, ← show m0 77 49 = M6 77 49 from congrFun (congrFun N0.1 77) 49, ← show m0 77 50 = M6 77 50 from congrFun (congrFun N0.1 77) 50] at v35_3; exact v35_3) (by
      have g1 : m0 116 = q_up M6 116 x.toNat (tC0 t L p) 116 := congrFun N0.1 116
      refine ⟨⟨?_, ?_⟩, fun j hj => ?_⟩
      · rw [up_o (by omega), g1, q_up_eq]; exact T0.2.2 c51t
      · rw [q_up_eq]; unfold tD; rw [if_neg (by rcases B74 with q | q; (exact absurd (q.1.symm.trans c77) (by decide)); (exact q.2)), if_pos (by rcases B88 with q | q; (exact q.2); (exact absurd q.1 c91))]
      · rw [up_o (by omega), g1, up_o (by omega), v35_4]) (c51t) (by omega)
        · show qJ YX12_oneLine κ _ (qLy u, m0, y0) 0 0 80 [some (qR 77), some (qI x)] [qI (x + 1), qR 116]
          refine qJ.run hκ 2 (pc' := 113) (ls' := [some (qR 77), some (qI x)]) (st' := [qI 0, qI (x + 1), qR 116]) rfl ?_
          refine qJ.ast hκ rfl rfl rfl (by decide) (by omega) ?_
          show qJ YX12_oneLine κ _ (qLy u, (q_up m0 116 ((x + 1).toNat) 0), y0) 0 0 114 [some (qR 77), some (qI x)] []
          exact L114 1 x (q_up m0 116 ((x + 1).toNat) 0) y0 (v35_0) (Eq.trans (keep_up (by rfl)) ((keep_of kLnT N0.1).trans (Eq.trans (keep_up (by rfl)) v35_1))) (N0.2.2) (by rw [← show m0 77 48 = M6 77 48 from congrFun (congrFun N0.1 77) 48, ← show m0 77 49 = M6 77 49 from congrFun (congrFun N0.1 77) 49, ← show m0 77 50 = M6 77 50 from congrFun (congrFun N0.1 77) 50] at v35_3; exact v35_3) (by
      have g1 : m0 116 = q_up M6 116 x.toNat (tC0 t L p) 116 := congrFun N0.1 116
      refine ⟨⟨?_, ?_⟩, fun j hj => ?_⟩
      · rw [up_o (by omega), g1, q_up_eq]; exact T0.2.2 c51t
      · rw [q_up_eq]; unfold tD; rw [if_pos (by rcases B74 with q | q; (exact q.2); (exact absurd q.1 c77))]
      · rw [up_o (by omega), g1, up_o (by omega), v35_4]) (c51t) (by omega)
      · show qJ YX12_oneLine κ _ (qLy u, (q_up M6 116 x.toNat (tC0 t L p)), y) 0 0 54 [some (qR 77), some (qI x)] []
        have c51t : tC t L p = -1 := T0.2.1.mp (by omega)
        refine qJ.run hκ 1 (pc' := 55) (ls' := [some (qR 77), some (qI x)]) (st' := [qR 77]) rfl ?_
        refine qJ.callV (As := []) (rest := []) hκ rfl kX12_295 (m_wrong u (q_up M6 116 x.toNat (tC0 t L p)) y) rfl rfl (by decide) rfl rfl (Nat.le_of_ble_eq_true rfl) (Nat.le_of_ble_eq_true rfl) (Nat.le_of_ble_eq_true rfl) (Or.inl (fun r h' e => by obtain ⟨rfl, rfl⟩ := e; rfl)) (fun r h' e => ?_)
        obtain ⟨rfl, rfl⟩ := e
        show qJ YX12_oneLine κ _ (qLy u, (q_up (q_up M6 116 x.toNat (tC0 t L p)) 77 47 (M6 77 43)), y) 0 0 58 [some (qR 77), some (qI x)] [qI 0]
        exact qJ.bret hκ rfl rfl (by omega) (by decide) (by decide) (⟨0, _, _, rfl, rfl, Eq.trans (keep_up (by rfl)) (Eq.trans (keep_up (by rfl)) v35_1), Or.inl ⟨rfl, by rw [lx1 c51t]; exact ts0 v35_2.2.2.1.1 v35_2.2.2.1.2, Eq.trans v35_2.1.2.1 (lx1 c51t).symm⟩⟩)
  have L21 : ∀ (n : Nat) (x : Int), (xr m x) → (0) < n → qJ YX12_oneLine κ (qFin (fun r h => ∃ (z : Int) (m' y' : qM), r = some (qI z) ∧ h = (qLy u, m', y') ∧ keep (kN kLn) m' = keep (kN kLn) m ∧ ((z = 0 ∧ ¬ lnX t L p = -1 ∧ m' 77 47 = lnX t L p) ∨ (z = 1 ∧ lnX t L p = -1 ∧ mlGood t L m p m' y'))) 0 0 κ) (qLy u, m, y) 0 0 21 [some (qR 77), some (qI x)] [] := by
    intro n
    induction n with
    | zero => intro x _ hz0; omega
    | succ n ih21 =>
      intro x v21_0 v21_m
      refine qJ.run hκ 3 (pc' := 27) (ls' := [some (qR 77), some (qI x)]) (st' := [qI 16, qI (m 77 50)]) rfl ?_
      refine qJ.icmp_ne hκ (tgt := 35) rfl rfl (by omega) (by omega) (fun c27 => ?_) (fun c27 => ?_)
      · show qJ YX12_oneLine κ _ (qLy u, m, y) 0 0 35 [some (qR 77), some (qI x)] []
        exact L35 1 x m (v21_0) (rfl) (hS) (⟨⟨by unfold l8; rw [if_neg (fun z => by omega)], by unfold l9; rw [if_neg (fun z => by omega)]⟩, rfl⟩) (rfl) (by omega)
      · show qJ YX12_oneLine κ _ (qLy u, m, y) 0 0 30 [some (qR 77), some (qI x)] []
        refine qJ.run hκ 2 (pc' := 32) (ls' := [some (qR 77), some (qI x)]) (st' := [qI 3, qR 77]) rfl ?_
        refine qJ.callV (As := [qI 3]) (rest := []) hκ rfl kX12_306 (m_later u m y 3 h9) rfl rfl (by decide) rfl rfl (Nat.le_of_ble_eq_true rfl) (Nat.le_of_ble_eq_true rfl) (Nat.le_of_ble_eq_true rfl) (Or.inl (fun r h' e => by obtain ⟨rfl, c32_, d32_, rfl, H32⟩ := e; rfl)) (fun r h' e => ?_)
        obtain ⟨rfl, c32_, d32_, rfl, H32⟩ := e
        show qJ YX12_oneLine κ _ (qLy u, (q_up (q_up m 77 48 c32_) 77 49 d32_), y) 0 0 35 [some (qR 77), some (qI x)] []
        exact L35 1 x (q_up (q_up m 77 48 c32_) 77 49 d32_) (v21_0) (Eq.trans (keep_up (by rfl)) (Eq.trans (keep_up (by rfl)) rfl)) (hS) (by
      have s43 : m 77 43 = tS t L p := hS.1.2.1
      refine ⟨⟨?_, ?_⟩, rfl⟩
      · show c32_ = _
        unfold l8
        rcases H32 with q | q
        · rw [if_pos ⟨q.1, by omega⟩]; exact q.2.1
        · rw [if_neg (fun z => q.1 z.1)]; exact q.2.1
      · show d32_ = _
        unfold l9
        rcases H32 with q | q
        · rw [if_pos ⟨q.1, by omega⟩, ← s43]; exact q.2.2
        · rw [if_neg (fun z => q.1 z.1)]; exact q.2.2) (rfl) (by omega)
  show qJ YX12_oneLine κ _ (qLy u, m, y) 0 0 0 [some (qR 77), none] []
  refine qJ.run hκ 4 (pc' := 7) (ls' := [some (qR 77), none]) (st' := [qI 16, qI (m 77 50), qI 4]) rfl ?_
  refine qJ.icmp_ge hκ (tgt := 17) rfl rfl (by omega) (by omega) (fun c7 => ?_) (fun c7 => ?_)
  · show qJ YX12_oneLine κ _ (qLy u, m, y) 0 0 17 [some (qR 77), none] [qI 4]
    refine qJ.run hκ 3 (pc' := 21) (ls' := [some (qR 77), some (qI 64)]) (st' := []) rfl ?_
    exact L21 1 64 (⟨by omega, fun _ => by omega, fun _ => by omega⟩) (by omega)
  · show qJ YX12_oneLine κ _ (qLy u, m, y) 0 0 10 [some (qR 77), none] [qI 4]
    refine qJ.run hκ 5 (pc' := 21) (ls' := [some (qR 77), some (qI (4 * (m 77 50)))]) (st' := []) rfl ?_
    exact L21 1 (4 * (m 77 50)) (⟨by omega, fun _ => by omega, fun _ => by omega⟩) (by omega)

/-! printed by p74.py: the model at a token; need -/
def kTk : Nat → Nat → Bool := fun i j => decide (i = 77 ∧ (j = 41 ∨ j = 43 ∨ j = 44 ∨ j = 45))
/-- the model at a token -/
def tokS (t : Nat → Int) (L : Int) (m y : qM) (p : Int) : Prop := (m 77 41 = tE t L p ∧ m 77 43 = tS t L p ∧ m 77 44 = tM t L p ∧ m 77 45 = sB t L (tS t L p) ∧ y 77 46 = tW t L p) ∧ (m 78 = t ∧ m 77 42 = L) ∧ (0 ≤ p ∧ p ≤ L) ∧ (0 ≤ L ∧ L ≤ 400) ∧ ∀ j : Nat, (j : Int) < L → -128 ≤ t j ∧ t j ≤ 127
def tokN (t : Nat → Int) (L : Int) (m y m' y' : qM) (p : Int) : Prop := keep (kN kTk) m' = keep (kN kTk) m ∧ (∃ w, y' = q_up y 77 46 w) ∧ tokS t L m' y' p
theorem m_tok2 (u : qU) (m y : qM) (t : Nat → Int) (L p : Int) (hS : tokS t L m y p) : qCt YX12_token 2 0 0 [qR 77] (qLy u, m, y) (fun r h => r = none ∧ ∃ m' y', h = (qLy u, m', y') ∧ tokN t L m y m' y' (tE t L p)) := by
  obtain ⟨⟨s1, s2, s3, s4, s5⟩, ⟨s6, s7⟩, s8, hL, hb⟩ := hS
  subst s6; subst s7
  have e0 := te0 (t := m 78) s8.1 s8.2
  refine (m_token u m y hb hL (by rw [s1]; exact e0)).weak ?_
  rintro r h ⟨e1, e2⟩
  rw [s1] at e2
  exact ⟨e1, _, _, e2, Eq.trans (keep_up (by rfl)) (Eq.trans (keep_up (by rfl)) (Eq.trans (keep_up (by rfl)) (keep_up (by rfl)))), ⟨_, rfl⟩, ⟨rfl, rfl, rfl, rfl, rfl⟩, ⟨rfl, rfl⟩, e0, hL, hb⟩
theorem tM_3 {t : Nat → Int} {L p : Int} : tM t L p = 3 ↔ tK t L p = 2 := by
  unfold tM tK
  by_cases a : ¬ tS t L p < L
  · rw [if_pos a, if_pos a]; exact ⟨fun z => absurd z (by decide), fun z => absurd z (by decide)⟩
  · rw [if_neg a, if_neg a]
    by_cases b : tLo t L (tS t L p)
    · rw [if_pos b, if_pos b]; exact ⟨fun z => absurd z (by decide), fun z => absurd z (by decide)⟩
    · rw [if_neg b, if_neg b]
      by_cases c : sB t L (tS t L p) = 58 ∨ sB t L (tS t L p) = 59
      · rw [if_pos c, if_pos c]; exact ⟨fun _ => rfl, fun _ => rfl⟩
      · rw [if_neg c, if_neg c]; exact ⟨fun z => absurd z (by decide), fun z => absurd z (by decide)⟩
theorem tM_r {t : Nat → Int} {L p : Int} : (0 ≤ tM t L p ∧ tM t L p ≤ 3) ∧ (tM t L p = 0 ↔ tK t L p = 0) := by
  unfold tM tK
  by_cases a : ¬ tS t L p < L
  · rw [if_pos a, if_pos a]; exact ⟨by omega, fun _ => rfl, fun _ => rfl⟩
  · rw [if_neg a, if_neg a]
    by_cases b : tLo t L (tS t L p)
    · rw [if_pos b, if_pos b]; exact ⟨by omega, fun z => absurd z (by decide), fun z => absurd z (by decide)⟩
    · rw [if_neg b, if_neg b]
      by_cases c : sB t L (tS t L p) = 58 ∨ sB t L (tS t L p) = 59
      · rw [if_pos c, if_pos c]; exact ⟨by omega, fun z => absurd z (by decide), fun z => absurd z (by decide)⟩
      · rw [if_neg c, if_neg c]; exact ⟨by omega, fun z => absurd z (by decide), fun z => absurd z (by decide)⟩

set_option maxRecDepth 100000 in
theorem m_need (u : qU) (m y : qM) (t : Nat → Int) (L p c : Int) (hS : tokS t L m y p) (hc : 0 ≤ c ∧ c ≤ 255) : qCt YX12_need 3 0 0 [qR 77, qI c] (qLy u, m, y) (fun r h => (r = some (qI 1) ∧ tMk c t L p ∧ ∃ m' y', h = (qLy u, m', y') ∧ tokN t L m y m' y' (tE t L p)) ∨ (r = some (qI 0) ∧ ¬ tMk c t L p ∧ h = (qLy u, q_up m 77 47 (tS t L p), y))) := by
  refine qCt.intro okX12_need (Nat.le_of_ble_eq_true rfl) (fun κ hκ => ?_)
  have hS2 := hS
  obtain ⟨⟨s1, s2, s3, s4, s5⟩, ⟨s6, s7⟩, s8, hL, hb⟩ := hS2
  have mr := tM_r (t := t) (L := L) (p := p)
  have m3 := tM_3 (t := t) (L := L) (p := p)
  have sr := tS_r t s8.2
  have br := (sB_r hb (p := tS t L p) (by omega)).1
  rw [← s3] at mr m3
  rw [← s4] at br
  show qJ YX12_need κ _ (qLy u, m, y) 0 0 0 [some (qR 77), some (qI c)] []
  refine qJ.run hκ 3 (pc' := 5) (ls' := [some (qR 77), some (qI c)]) (st' := [qI 3, qI (m 77 44)]) rfl ?_
  refine qJ.icmp_ne hκ (tgt := 16) rfl rfl (by omega) (by omega) (fun c5 => ?_) (fun c5 => ?_)
  · show qJ YX12_need κ _ (qLy u, m, y) 0 0 16 [some (qR 77), some (qI c)] []
    refine qJ.run hκ 1 (pc' := 17) (ls' := [some (qR 77), some (qI c)]) (st' := [qR 77]) rfl ?_
    refine qJ.callV (As := []) (rest := []) hκ rfl kX12_295 (m_wrong u m y) rfl rfl (by decide) rfl rfl (Nat.le_of_ble_eq_true rfl) (Nat.le_of_ble_eq_true rfl) (Nat.le_of_ble_eq_true rfl) (Or.inl (fun r h' e => by obtain ⟨rfl, rfl⟩ := e; rfl)) (fun r h' e => ?_)
    obtain ⟨rfl, rfl⟩ := e
    show qJ YX12_need κ _ (qLy u, (q_up m 77 47 (m 77 43)), y) 0 0 20 [some (qR 77), some (qI c)] [qI 0]
    exact qJ.bret hκ rfl rfl (by omega) (by decide) (by decide) (Or.inr ⟨rfl, fun z => by have z1 := m3.mpr z.1; have z2 := z.2; rw [← s4] at z2; omega, by rw [s2]⟩)
  · show qJ YX12_need κ _ (qLy u, m, y) 0 0 8 [some (qR 77), some (qI c)] []
    refine qJ.run hκ 3 (pc' := 13) (ls' := [some (qR 77), some (qI c)]) (st' := [qI c, qI (m 77 45)]) rfl ?_
    refine qJ.icmp_eq hκ (tgt := 21) rfl rfl (by omega) (by omega) (fun c13 => ?_) (fun c13 => ?_)
    · show qJ YX12_need κ _ (qLy u, m, y) 0 0 21 [some (qR 77), some (qI c)] []
      refine qJ.run hκ 1 (pc' := 22) (ls' := [some (qR 77), some (qI c)]) (st' := [qR 77]) rfl ?_
      refine qJ.callV (As := []) (rest := []) hκ rfl kX12_298 (m_tok2 u m y t L p hS) rfl rfl (by decide) rfl rfl (Nat.le_of_ble_eq_true rfl) (Nat.le_of_ble_eq_true rfl) (Nat.le_of_ble_eq_true rfl) (Or.inl (fun r h' e => by obtain ⟨rfl, m1, y1, rfl, N1⟩ := e; rfl)) (fun r h' e => ?_)
      obtain ⟨rfl, m1, y1, rfl, N1⟩ := e
      show qJ YX12_need κ _ (qLy u, m1, y1) 0 0 25 [some (qR 77), some (qI c)] []
      refine qJ.run hκ 1 (pc' := 26) (ls' := [some (qR 77), some (qI c)]) (st' := [qI 1]) rfl ?_
      exact qJ.bret hκ rfl rfl (by omega) (by decide) (by decide) (Or.inl ⟨rfl, ⟨m3.mp (by omega), by rw [← s4]; omega⟩, m1, y1, rfl, N1⟩)
    · show qJ YX12_need κ _ (qLy u, m, y) 0 0 16 [some (qR 77), some (qI c)] []
      refine qJ.run hκ 1 (pc' := 17) (ls' := [some (qR 77), some (qI c)]) (st' := [qR 77]) rfl ?_
      refine qJ.callV (As := []) (rest := []) hκ rfl kX12_295 (m_wrong u m y) rfl rfl (by decide) rfl rfl (Nat.le_of_ble_eq_true rfl) (Nat.le_of_ble_eq_true rfl) (Nat.le_of_ble_eq_true rfl) (Or.inl (fun r h' e => by obtain ⟨rfl, rfl⟩ := e; rfl)) (fun r h' e => ?_)
      obtain ⟨rfl, rfl⟩ := e
      show qJ YX12_need κ _ (qLy u, (q_up m 77 47 (m 77 43)), y) 0 0 20 [some (qR 77), some (qI c)] [qI 0]
      exact qJ.bret hκ rfl rfl (by omega) (by decide) (by decide) (Or.inr ⟨rfl, fun z => by have z1 := m3.mpr z.1; have z2 := z.2; rw [← s4] at z2; omega, by rw [s2]⟩)

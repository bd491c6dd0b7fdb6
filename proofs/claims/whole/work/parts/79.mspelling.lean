/-! printed by p79.py: spelling of the model -/
def yO0 (t : Nat → Int) (L : Int) (i : Nat) : Int := lO0 t L (lnP t L i)
def mRw (t : Nat → Int) (L : Int) (M : qM) (i : Nat) : Prop := ∀ l : Nat, l < i → l < 16 → M 116 (4 * l) = yC t L l ∧ M 116 (4 * l + 1) = yW t L l ∧ M 116 (4 * l + 2) = yA t L l ∧ M 116 (4 * l + 3) = yO0 t L l
def mRun (t : Nat → Int) (L : Int) (M Y : qM) (i : Nat) : Prop := tokS t L M Y (lnP t L i) ∧ M 77 50 = (i : Int) ∧ (M 77 48 = mu9 t L i ∧ (¬ mu9 t L i = 0 → M 77 49 = mu10 t L i)) ∧ lOk t L i ∧ (i : Int) ≤ lnP t L i ∧ mRw t L M i
def mStk (t : Nat → Int) (L : Int) (M : qM) (i : Nat) : Prop := lOk t L i ∧ ¬ tK t L (lnP t L i) = 0 ∧ ¬ lnX t L (lnP t L i) = -1 ∧ M 77 47 = lnX t L (lnP t L i)
theorem mRun_s {t : Nat → Int} {L : Int} {M Y M' Y' : qM} {i : Nat} (h : mRun t L M Y i) (hk : ¬ tK t L (lnP t L i) = 0) (hx : lnX t L (lnP t L i) = -1) (hG : mlGood t L M (lnP t L i) M' Y') : mRun t L M' Y' (i + 1) := by
  obtain ⟨h1, h2, ⟨h3, h4⟩, h5, h6, h7⟩ := h
  obtain ⟨g1, g2, ⟨g3, g4⟩, x, ⟨x1, x2, x3⟩, ⟨g5, g6, g7, g8⟩, g9⟩ := hG
  have pb := h1.2.2.1
  have q6r := q6_r (t := t) pb.1 pb.2 hk
  have z0 := mu_0 (t := t) (L := L) i
  have l8e : l8 M = (if mu9 t L i = 0 ∧ 16 < (i : Int) + 1 then 3 else mu9 t L i) := by
    unfold l8
    rw [h3, h2]
    by_cases a : mu9 t L i = 0
    · have := (z0 a).2
      by_cases b : (i : Int) = 16
      · rw [if_pos ⟨a, b⟩, if_pos ⟨a, by omega⟩]
      · rw [if_neg (fun z => b z.2), if_neg (fun z => by omega)]
    · rw [if_neg (fun z => a z.1), if_neg (fun z => a z.1)]
  refine ⟨g1, by rw [g2, h2]; omega, ⟨?_, fun q => ?_⟩, ?_, ?_, ?_⟩
  · rw [g3, l8e]; rfl
  · rw [g4, l8e]
    unfold mu10
    by_cases a : (if mu9 t L i = 0 ∧ 16 < (i : Int) + 1 then (3 : Int) else mu9 t L i) = 0 ∧ lBad (yA t L i) (yW t L i)
    · rw [if_pos a]
      exact if_pos a
    · rw [if_neg a]
      refine (if_neg a).trans ?_
      unfold mu9 at q
      rw [if_neg a] at q
      unfold l9
      rw [h3, h2]
      by_cases b : mu9 t L i = 0
      · have z1 := (z0 b).2
        by_cases c : (i : Int) = 16
        · rw [if_pos ⟨b, c⟩, if_pos ⟨b, by omega⟩]
        · rw [if_neg (fun z => by omega)] at q
          exact absurd b q
      · rw [if_neg (fun z => b z.1), if_neg (fun z => b z.1)]
        exact h4 b
  · intro j hj
    by_cases e : j = i
    · subst e; exact ⟨hk, hx⟩
    · exact h5 j (by omega)
  · show ((i + 1 : Nat) : Int) ≤ q6 t L (lnP t L i)
    omega
  · intro l hl hl2
    by_cases e : l = i
    · subst e
      have xe : x = 4 * (l : Int) := by have := x2 (by omega); omega
      rw [show x.toNat = 4 * l by omega] at g5
      rw [show (x + 1).toNat = 4 * l + 1 by omega] at g6
      rw [show (x + 2).toNat = 4 * l + 2 by omega] at g7
      rw [show (x + 3).toNat = 4 * l + 3 by omega] at g8
      exact ⟨g5, g6, g7, g8⟩
    · have xl : 4 * (l : Int) + 3 < x := by
        by_cases c : M 77 50 < 16
        · have := x2 c; omega
        · have := x3 c; omega
      have a := h7 l (by omega) hl2
      rw [g9 (4 * l) (by omega), g9 (4 * l + 1) (by omega), g9 (4 * l + 2) (by omega), g9 (4 * l + 3) (by omega)]
      exact a
def kMf : Nat → Nat → Bool := fun i j => decide (i = 77 ∨ (i = 79 ∧ j = 0) ∨ (i = 80 ∧ j = 0) ∨ (i = 81 ∧ j = 0) ∨ i = 116)
def kMg : Nat → Nat → Bool := fun i j => decide (i = 77 ∨ (i = 79 ∧ j = 0) ∨ (i = 80 ∧ j = 0) ∨ (i = 81 ∧ j = 0) ∨ i = 116 ∨ (i = 105 ∧ j = 0) ∨ (i = 106 ∧ j < 64))
theorem kMfL : ∀ i j, kN kMf i j = true → kN kLn i j = true := by
  intro i j h
  refine kN_t.mpr fun z => kN_t.mp h ?_
  unfold kLn at z
  unfold kMf
  rw [decide_eq_true_eq] at z ⊢
  omega
theorem kMfT : ∀ i j, kN kMf i j = true → kN kTk i j = true := fun i j h => kLnT i j (kMfL i j h)
theorem kMgf : ∀ i j, kN kMg i j = true → kN kMf i j = true := by
  intro i j h
  refine kN_t.mpr fun z => kN_t.mp h ?_
  unfold kMf at z
  unfold kMg
  rw [decide_eq_true_eq] at z ⊢
  omega
def mLn (t : Nat → Int) (L : Int) (M : qM) (i : Nat) : Prop := ∀ l : Nat, l < i → M 106 (4 * l) = yC t L l ∧ M 106 (4 * l + 1) = yW t L l ∧ M 106 (4 * l + 2) = yA t L l ∧ M 106 (4 * l + 3) = yO0 t L l

set_option maxRecDepth 100000 in
theorem m_spelling (u : qU) (m y : qM) (hL : 0 ≤ m 79 0 ∧ m 79 0 ≤ 400) (hb : ∀ j : Nat, (j : Int) < m 79 0 → -128 ≤ m 78 j ∧ m 78 j ≤ 127) : qCt YX12_spelling 5 0 0 [qR 77] (qLy u, m, y) (fun r h => ∃ (m' y' : qM) (i : Nat) (fa fp : Int), r = some (qI (if fa = 0 then (i : Int) else -1)) ∧ h = (qLy u, m', y') ∧ rOut (m 78) (m 79 0) i fa fp ∧ (m' 79 0 = 0 ∧ m' 80 0 = fa ∧ m' 81 0 = fp) ∧ ((¬ fa = 0 ∧ keep (kN kMf) m' = keep (kN kMf) m) ∨ (fa = 0 ∧ keep (kN kMg) m' = keep (kN kMg) m ∧ m' 105 0 = (i : Int) ∧ mLn (m 78) (m 79 0) m' i))) := by
  refine qCt.intro okX12_spelling (Nat.le_of_ble_eq_true rfl) (fun κ hκ => ?_)
  have L54 : ∀ (n : Nat) (f : Int) (i : Int) (M6 : qM) (Y6 : qM), (0 ≤ i ∧ i ≤ 401) → (keep (kN kMf) M6 = keep (kN kMf) m) → ((f = 1 ∧ mRun (m 78) (m 79 0) M6 Y6 i.toNat) ∨ (f = 0 ∧ mStk (m 78) (m 79 0) M6 i.toNat)) → (M6 79 0 = 0 ∧ M6 80 0 = 0 ∧ M6 81 0 = -1) → ((402 - i + f).toNat) < n → qJ YX12_spelling κ (qFin (fun r h => ∃ (m' y' : qM) (i : Nat) (fa fp : Int), r = some (qI (if fa = 0 then (i : Int) else -1)) ∧ h = (qLy u, m', y') ∧ rOut (m 78) (m 79 0) i fa fp ∧ (m' 79 0 = 0 ∧ m' 80 0 = fa ∧ m' 81 0 = fp) ∧ ((¬ fa = 0 ∧ keep (kN kMf) m' = keep (kN kMf) m) ∨ (fa = 0 ∧ keep (kN kMg) m' = keep (kN kMg) m ∧ m' 105 0 = (i : Int) ∧ mLn (m 78) (m 79 0) m' i))) 0 0 κ) (qLy u, M6, Y6) 0 0 54 [some (qR 77), some (qI f), none] [] := by
    intro n
    induction n with
    | zero => intro f i M6 Y6 _ _ _ _ hz0; omega
    | succ n ih54 =>
      intro f i M6 Y6 v54_0 v54_1 v54_2 v54_3 v54_m
      have L129 : ∀ (n : Nat) (j : Int) (f : Int) (r6 : Nat → Int), (0 ≤ j ∧ j ≤ 4 * M6 77 50) → (∀ k : Nat, (k : Int) < j → r6 k = M6 116 k) → (∀ k : Nat, 64 ≤ k → r6 k = M6 106 k) → (mRun (m 78) (m 79 0) M6 Y6 i.toNat ∧ tK (m 78) (m 79 0) (lnP (m 78) (m 79 0) i.toNat) = 0) → (mu9 (m 78) (m 79 0) i.toNat = 0) → ((4 * M6 77 50 - j).toNat) < n → qJ YX12_spelling κ (qFin (fun r h => ∃ (m' y' : qM) (i : Nat) (fa fp : Int), r = some (qI (if fa = 0 then (i : Int) else -1)) ∧ h = (qLy u, m', y') ∧ rOut (m 78) (m 79 0) i fa fp ∧ (m' 79 0 = 0 ∧ m' 80 0 = fa ∧ m' 81 0 = fp) ∧ ((¬ fa = 0 ∧ keep (kN kMf) m' = keep (kN kMf) m) ∨ (fa = 0 ∧ keep (kN kMg) m' = keep (kN kMg) m ∧ m' 105 0 = (i : Int) ∧ mLn (m 78) (m 79 0) m' i))) 0 0 κ) (qLy u, (q_row (q_up M6 105 0 (M6 77 50)) 106 r6), Y6) 0 0 129 [some (qR 77), some (qI f), some (qI j)] [] := by
        intro n
        induction n with
        | zero => intro j f r6 _ _ _ _ _ hz0; omega
        | succ n ih129 =>
          intro j f r6 v129_0 v129_1 v129_2 v129_3 v129_4 v129_m
          have i16 := (mu_0 i.toNat v129_4).2
          have i50 := v129_3.1.2.1
          refine qJ.run hκ 5 (pc' := 136) (ls' := [some (qR 77), some (qI f), some (qI j)]) (st' := [qI (4 * (M6 77 50)), qI j]) rfl ?_
          refine qJ.icmp_ge hκ (tgt := 157) rfl rfl (by omega) (by omega) (fun c136 => ?_) (fun c136 => ?_)
          · show qJ YX12_spelling κ _ (qLy u, (q_row (q_up M6 105 0 (M6 77 50)) 106 r6), Y6) 0 0 157 [some (qR 77), some (qI f), some (qI j)] []
            refine qJ.run hκ 2 (pc' := 161) (ls' := [some (qR 77), some (qI f), some (qI j)]) (st' := [qI (M6 77 50)]) rfl ?_
            exact qJ.iret hκ rfl rfl (by decide) (by decide) (by
      have je : j = 4 * M6 77 50 := by omega
      have RU := v129_3
      have m0 := v129_4
      refine ⟨_, _, i.toNat, 0, -1, by rw [if_pos rfl]; exact congrArg (fun z => some (qI z)) i50, rfl, ⟨RU.1.2.2.2.1, Or.inl ⟨RU.2, m0.symm, (mu_0 i.toNat m0).1.symm⟩⟩, ⟨v54_3.1, v54_3.2.1, v54_3.2.2⟩, Or.inr ⟨rfl, ?_, i50, fun l hl => ?_⟩⟩
      · refine Eq.trans ?_ (keep_of kMgf v54_1)
        funext a b
        unfold keep
        by_cases k : kN kMg a b = true
        · rw [if_pos k, if_pos k]
          have kk := kN_t.mp k
          unfold kMg at kk
          rw [decide_eq_true_eq] at kk
          by_cases a6 : a = 106
          · subst a6
            exact v129_2 b (by omega)
          · unfold q_row
            rw [if_neg a6]
            unfold q_up
            rw [if_neg (fun z => kk (by omega))]
        · rw [if_neg k, if_neg k]
      · have a := RU.1.2.2.2.2.2 l hl (by omega)
        have b0 := v129_1 (4 * l) (by omega)
        have b1 := v129_1 (4 * l + 1) (by omega)
        have b2 := v129_1 (4 * l + 2) (by omega)
        have b3 := v129_1 (4 * l + 3) (by omega)
        exact ⟨b0.trans a.1, b1.trans a.2.1, b2.trans a.2.2.1, b3.trans a.2.2.2⟩)
          · show qJ YX12_spelling κ _ (qLy u, (q_row (q_up M6 105 0 (M6 77 50)) 106 r6), Y6) 0 0 139 [some (qR 77), some (qI f), some (qI j)] []
            refine qJ.run hκ 6 (pc' := 149) (ls' := [some (qR 77), some (qI f), some (qI j)]) (st' := [qI j, qR 116, qI j, qR 106]) rfl ?_
            refine qJ.ald hκ rfl rfl rfl (by decide) (by omega) ?_
            show qJ YX12_spelling κ _ (qLy u, (q_row (q_up M6 105 0 (M6 77 50)) 106 r6), Y6) 0 0 150 [some (qR 77), some (qI f), some (qI j)] [qI (M6 116 j.toNat), qI j, qR 106]
            refine qJ.ast hκ rfl rfl rfl (by decide) (by omega) ?_
            refine qJ.mc (m1 := (q_up (q_row (q_up M6 105 0 (M6 77 50)) 106 r6) 106 j.toNat (M6 116 j.toNat))) (m2 := (q_row (q_up M6 105 0 (M6 77 50)) 106 (q_fu r6 j.toNat (M6 116 j.toNat)))) (by rw [q_up_row_eq]) ?_
            show qJ YX12_spelling κ _ (qLy u, (q_row (q_up M6 105 0 (M6 77 50)) 106 (q_fu r6 j.toNat (M6 116 j.toNat))), Y6) 0 0 151 [some (qR 77), some (qI f), some (qI j)] []
            refine qJ.run hκ 2 (pc' := 129) (ls' := [some (qR 77), some (qI f), some (qI (j + 1))]) (st' := []) rfl ?_
            exact qJ.cast (ih129  (j + 1) f (q_fu r6 j.toNat (M6 116 j.toNat)) (by omega) (fun k hk => by
          by_cases e : k = j.toNat
          · subst e; exact q_fu_eq
          · rw [q_fu_ne e]; exact v129_1 k (by omega)) (fun k hk => by rw [q_fu_ne (by omega)]; exact v129_2 k hk) (v129_3) (v129_4) (by omega)) (rfl) rfl rfl
      have fr : f = 0 ∨ f = 1 := by rcases v54_2 with q | q; (right; exact q.1); (left; exact q.1)
      refine qJ.run hκ 1 (pc' := 55) (ls' := [some (qR 77), some (qI f), none]) (st' := [qI f]) rfl ?_
      refine qJ.if_eq hκ (tgt := 73) rfl rfl (by omega) (fun c55 => ?_) (fun c55 => ?_)
      · show qJ YX12_spelling κ _ (qLy u, M6, Y6) 0 0 73 [some (qR 77), some (qI f), none] []
        have OC : (f = 1 ∧ mRun (m 78) (m 79 0) M6 Y6 i.toNat ∧ tK (m 78) (m 79 0) (lnP (m 78) (m 79 0) i.toNat) = 0) ∨ (f = 0 ∧ mStk (m 78) (m 79 0) M6 i.toNat) := by
          rcases v54_2 with q | q
          · refine Or.inl ⟨q.1, q.2, ?_⟩
            first
            | exact (tM_r (t := (m 78)) (L := (m 79 0)) (p := lnP (m 78) (m 79 0) i.toNat)).2.mp (q.2.1.1.2.2.1.symm.trans c62)
            | exact absurd (q.1.symm.trans c55) (by decide)
          · exact Or.inr q
        have r48 : f = 1 → 0 ≤ M6 77 48 ∧ M6 77 48 ≤ 3 := fun z => by rcases OC with q | q; (have := q.2.1.2.2.1.1; have := mu9_r (m 78) (m 79 0) i.toNat; omega); omega
        refine qJ.run hκ 1 (pc' := 74) (ls' := [some (qR 77), some (qI f), none]) (st' := [qI f]) rfl ?_
        refine qJ.if_eq hκ (tgt := 84) rfl rfl (by omega) (fun c74 => ?_) (fun c74 => ?_)
        · show qJ YX12_spelling κ _ (qLy u, M6, Y6) 0 0 84 [some (qR 77), some (qI f), none] []
          refine qJ.run hκ 2 (pc' := 86) (ls' := [some (qR 77), some (qI f), none]) (st' := [qI f, qR 77]) rfl ?_
          refine qJ.if_eq hκ (tgt := 96) rfl rfl (by omega) (fun c86 => ?_) (fun c86 => ?_)
          · show qJ YX12_spelling κ _ (qLy u, M6, Y6) 0 0 96 [some (qR 77), some (qI f), none] [qR 77]
            refine qJ.run hκ 2 (pc' := 98) (ls' := [some (qR 77), some (qI f), none]) (st' := [qI f, qI 1, qR 77]) rfl ?_
            refine qJ.if_eq hκ (tgt := 108) rfl rfl (by omega) (fun c98 => ?_) (fun c98 => ?_)
            · show qJ YX12_spelling κ _ (qLy u, M6, Y6) 0 0 108 [some (qR 77), some (qI f), none] [qI 1, qR 77]
              refine qJ.run hκ 2 (pc' := 112) (ls' := [some (qR 77), some (qI f), none]) (st' := [qI (M6 77 47), qI 1, qR 77]) rfl ?_
              refine qJ.callV (As := [qI 1, qI (M6 77 47)]) (rest := []) hκ rfl kX12_255 (m_fails u M6 Y6 1 (M6 77 47)) rfl rfl (by decide) rfl rfl (Nat.le_of_ble_eq_true rfl) (Nat.le_of_ble_eq_true rfl) (Nat.le_of_ble_eq_true rfl) (Or.inl (fun r h' e => by obtain ⟨rfl, rfl⟩ := e; rfl)) (fun r h' e => ?_)
              obtain ⟨rfl, rfl⟩ := e
              show qJ YX12_spelling κ _ (qLy u, (q_up (q_up M6 80 0 1) 81 0 (M6 77 47)), Y6) 0 0 115 [some (qR 77), some (qI f), none] []
              refine qJ.run hκ 1 (pc' := 116) (ls' := [some (qR 77), some (qI f), none]) (st' := [qI (-1)]) rfl ?_
              exact qJ.iret hκ rfl rfl (by decide) (by decide) (by
      rcases OC with ⟨f1, g1, g2⟩ | ⟨f1, g1⟩
      · first
        | exact absurd (f1.symm.trans c74) (by decide)
        | (have z9 : ¬ mu9 (m 78) (m 79 0) i.toNat = 0 := by have := g1.2.2.1.1; omega
           exact ⟨_, _, i.toNat, mu9 (m 78) (m 79 0) i.toNat, mu10 (m 78) (m 79 0) i.toNat, by rw [if_neg z9], rfl, ⟨g1.2.2.2.1, Or.inl ⟨g2, rfl, rfl⟩⟩, ⟨v54_3.1, by first | exact g1.2.2.1.1 | exact absurd (f1.symm.trans c86) (by decide), by first | exact g1.2.2.1.2 z9 | exact absurd (f1.symm.trans c98) (by decide)⟩, Or.inl ⟨z9, Eq.trans (keep_up (by rfl)) (Eq.trans (keep_up (by rfl)) v54_1)⟩⟩)
      · exact ⟨_, _, i.toNat, 1, lnX (m 78) (m 79 0) (lnP (m 78) (m 79 0) i.toNat), rfl, rfl, ⟨g1.1, Or.inr ⟨g1.2.1, g1.2.2.1, rfl, rfl⟩⟩, ⟨v54_3.1, by first | rfl | omega, by first | exact g1.2.2.2 | omega⟩, Or.inl ⟨by decide, Eq.trans (keep_up (by rfl)) (Eq.trans (keep_up (by rfl)) v54_1)⟩⟩)
            · show qJ YX12_spelling κ _ (qLy u, M6, Y6) 0 0 101 [some (qR 77), some (qI f), none] [qI 1, qR 77]
              refine qJ.run hκ 3 (pc' := 112) (ls' := [some (qR 77), some (qI f), none]) (st' := [qI (M6 77 49), qI 1, qR 77]) rfl ?_
              refine qJ.callV (As := [qI 1, qI (M6 77 49)]) (rest := []) hκ rfl kX12_255 (m_fails u M6 Y6 1 (M6 77 49)) rfl rfl (by decide) rfl rfl (Nat.le_of_ble_eq_true rfl) (Nat.le_of_ble_eq_true rfl) (Nat.le_of_ble_eq_true rfl) (Or.inl (fun r h' e => by obtain ⟨rfl, rfl⟩ := e; rfl)) (fun r h' e => ?_)
              obtain ⟨rfl, rfl⟩ := e
              show qJ YX12_spelling κ _ (qLy u, (q_up (q_up M6 80 0 1) 81 0 (M6 77 49)), Y6) 0 0 115 [some (qR 77), some (qI f), none] []
              refine qJ.run hκ 1 (pc' := 116) (ls' := [some (qR 77), some (qI f), none]) (st' := [qI (-1)]) rfl ?_
              exact qJ.iret hκ rfl rfl (by decide) (by decide) (by
      rcases OC with ⟨f1, g1, g2⟩ | ⟨f1, g1⟩
      · first
        | exact absurd (f1.symm.trans c74) (by decide)
        | (have z9 : ¬ mu9 (m 78) (m 79 0) i.toNat = 0 := by have := g1.2.2.1.1; omega
           exact ⟨_, _, i.toNat, mu9 (m 78) (m 79 0) i.toNat, mu10 (m 78) (m 79 0) i.toNat, by rw [if_neg z9], rfl, ⟨g1.2.2.2.1, Or.inl ⟨g2, rfl, rfl⟩⟩, ⟨v54_3.1, by first | exact g1.2.2.1.1 | exact absurd (f1.symm.trans c86) (by decide), by first | exact g1.2.2.1.2 z9 | exact absurd (f1.symm.trans c98) (by decide)⟩, Or.inl ⟨z9, Eq.trans (keep_up (by rfl)) (Eq.trans (keep_up (by rfl)) v54_1)⟩⟩)
      · exact ⟨_, _, i.toNat, 1, lnX (m 78) (m 79 0) (lnP (m 78) (m 79 0) i.toNat), rfl, rfl, ⟨g1.1, Or.inr ⟨g1.2.1, g1.2.2.1, rfl, rfl⟩⟩, ⟨v54_3.1, by first | rfl | omega, by first | exact g1.2.2.2 | omega⟩, Or.inl ⟨by decide, Eq.trans (keep_up (by rfl)) (Eq.trans (keep_up (by rfl)) v54_1)⟩⟩)
          · show qJ YX12_spelling κ _ (qLy u, M6, Y6) 0 0 89 [some (qR 77), some (qI f), none] [qR 77]
            refine qJ.run hκ 4 (pc' := 98) (ls' := [some (qR 77), some (qI f), none]) (st' := [qI f, qI (M6 77 48), qR 77]) rfl ?_
            refine qJ.if_eq hκ (tgt := 108) rfl rfl (by omega) (fun c98 => ?_) (fun c98 => ?_)
            · show qJ YX12_spelling κ _ (qLy u, M6, Y6) 0 0 108 [some (qR 77), some (qI f), none] [qI (M6 77 48), qR 77]
              refine qJ.run hκ 2 (pc' := 112) (ls' := [some (qR 77), some (qI f), none]) (st' := [qI (M6 77 47), qI (M6 77 48), qR 77]) rfl ?_
              refine qJ.callV (As := [qI (M6 77 48), qI (M6 77 47)]) (rest := []) hκ rfl kX12_255 (m_fails u M6 Y6 (M6 77 48) (M6 77 47)) rfl rfl (by decide) rfl rfl (Nat.le_of_ble_eq_true rfl) (Nat.le_of_ble_eq_true rfl) (Nat.le_of_ble_eq_true rfl) (Or.inl (fun r h' e => by obtain ⟨rfl, rfl⟩ := e; rfl)) (fun r h' e => ?_)
              obtain ⟨rfl, rfl⟩ := e
              show qJ YX12_spelling κ _ (qLy u, (q_up (q_up M6 80 0 (M6 77 48)) 81 0 (M6 77 47)), Y6) 0 0 115 [some (qR 77), some (qI f), none] []
              refine qJ.run hκ 1 (pc' := 116) (ls' := [some (qR 77), some (qI f), none]) (st' := [qI (-1)]) rfl ?_
              exact qJ.iret hκ rfl rfl (by decide) (by decide) (by
      rcases OC with ⟨f1, g1, g2⟩ | ⟨f1, g1⟩
      · first
        | exact absurd (f1.symm.trans c74) (by decide)
        | (have z9 : ¬ mu9 (m 78) (m 79 0) i.toNat = 0 := by have := g1.2.2.1.1; omega
           exact ⟨_, _, i.toNat, mu9 (m 78) (m 79 0) i.toNat, mu10 (m 78) (m 79 0) i.toNat, by rw [if_neg z9], rfl, ⟨g1.2.2.2.1, Or.inl ⟨g2, rfl, rfl⟩⟩, ⟨v54_3.1, by first | exact g1.2.2.1.1 | exact absurd (f1.symm.trans c86) (by decide), by first | exact g1.2.2.1.2 z9 | exact absurd (f1.symm.trans c98) (by decide)⟩, Or.inl ⟨z9, Eq.trans (keep_up (by rfl)) (Eq.trans (keep_up (by rfl)) v54_1)⟩⟩)
      · exact ⟨_, _, i.toNat, 1, lnX (m 78) (m 79 0) (lnP (m 78) (m 79 0) i.toNat), rfl, rfl, ⟨g1.1, Or.inr ⟨g1.2.1, g1.2.2.1, rfl, rfl⟩⟩, ⟨v54_3.1, by first | rfl | omega, by first | exact g1.2.2.2 | omega⟩, Or.inl ⟨by decide, Eq.trans (keep_up (by rfl)) (Eq.trans (keep_up (by rfl)) v54_1)⟩⟩)
            · show qJ YX12_spelling κ _ (qLy u, M6, Y6) 0 0 101 [some (qR 77), some (qI f), none] [qI (M6 77 48), qR 77]
              refine qJ.run hκ 3 (pc' := 112) (ls' := [some (qR 77), some (qI f), none]) (st' := [qI (M6 77 49), qI (M6 77 48), qR 77]) rfl ?_
              refine qJ.callV (As := [qI (M6 77 48), qI (M6 77 49)]) (rest := []) hκ rfl kX12_255 (m_fails u M6 Y6 (M6 77 48) (M6 77 49)) rfl rfl (by decide) rfl rfl (Nat.le_of_ble_eq_true rfl) (Nat.le_of_ble_eq_true rfl) (Nat.le_of_ble_eq_true rfl) (Or.inl (fun r h' e => by obtain ⟨rfl, rfl⟩ := e; rfl)) (fun r h' e => ?_)
              obtain ⟨rfl, rfl⟩ := e
              show qJ YX12_spelling κ _ (qLy u, (q_up (q_up M6 80 0 (M6 77 48)) 81 0 (M6 77 49)), Y6) 0 0 115 [some (qR 77), some (qI f), none] []
              refine qJ.run hκ 1 (pc' := 116) (ls' := [some (qR 77), some (qI f), none]) (st' := [qI (-1)]) rfl ?_
              exact qJ.iret hκ rfl rfl (by decide) (by decide) (by
      rcases OC with ⟨f1, g1, g2⟩ | ⟨f1, g1⟩
      · first
        | exact absurd (f1.symm.trans c74) (by decide)
        | (have z9 : ¬ mu9 (m 78) (m 79 0) i.toNat = 0 := by have := g1.2.2.1.1; omega
           exact ⟨_, _, i.toNat, mu9 (m 78) (m 79 0) i.toNat, mu10 (m 78) (m 79 0) i.toNat, by rw [if_neg z9], rfl, ⟨g1.2.2.2.1, Or.inl ⟨g2, rfl, rfl⟩⟩, ⟨v54_3.1, by first | exact g1.2.2.1.1 | exact absurd (f1.symm.trans c86) (by decide), by first | exact g1.2.2.1.2 z9 | exact absurd (f1.symm.trans c98) (by decide)⟩, Or.inl ⟨z9, Eq.trans (keep_up (by rfl)) (Eq.trans (keep_up (by rfl)) v54_1)⟩⟩)
      · exact ⟨_, _, i.toNat, 1, lnX (m 78) (m 79 0) (lnP (m 78) (m 79 0) i.toNat), rfl, rfl, ⟨g1.1, Or.inr ⟨g1.2.1, g1.2.2.1, rfl, rfl⟩⟩, ⟨v54_3.1, by first | rfl | omega, by first | exact g1.2.2.2 | omega⟩, Or.inl ⟨by decide, Eq.trans (keep_up (by rfl)) (Eq.trans (keep_up (by rfl)) v54_1)⟩⟩)
        · show qJ YX12_spelling κ _ (qLy u, M6, Y6) 0 0 77 [some (qR 77), some (qI f), none] []
          refine qJ.run hκ 2 (pc' := 81) (ls' := [some (qR 77), some (qI f), none]) (st' := [qI (M6 77 48)]) rfl ?_
          refine qJ.if_le hκ (tgt := 117) rfl rfl (by omega) (fun c81 => ?_) (fun c81 => ?_)
          · show qJ YX12_spelling κ _ (qLy u, M6, Y6) 0 0 117 [some (qR 77), some (qI f), none] []
            have RU : mRun (m 78) (m 79 0) M6 Y6 i.toNat ∧ tK (m 78) (m 79 0) (lnP (m 78) (m 79 0) i.toNat) = 0 := by rcases OC with q | q; (exact q.2); omega
            have r0 := r48 (by omega)
            have m0 : mu9 (m 78) (m 79 0) i.toNat = 0 := by have := RU.1.2.2.1.1; omega
            have i16 := (mu_0 i.toNat m0).2
            have i50 := RU.1.2.1
            refine qJ.run hκ 5 (pc' := 126) (ls' := [some (qR 77), some (qI f), none]) (st' := [qI (M6 77 50), qI 0, qR 105]) rfl ?_
            refine qJ.ast hκ rfl rfl rfl (by decide) (by omega) ?_
            show qJ YX12_spelling κ _ (qLy u, (q_up M6 105 0 (M6 77 50)), Y6) 0 0 127 [some (qR 77), some (qI f), none] []
            refine qJ.run hκ 2 (pc' := 129) (ls' := [some (qR 77), some (qI f), some (qI 0)]) (st' := []) rfl ?_
            exact qJ.cast (L129 65 0 f (M6 106) (⟨Int.le_refl 0, by omega⟩) (fun k hk => by omega) (fun k hk => rfl) (RU) (m0) (by omega)) (by rw [show q_row (q_up M6 105 0 (M6 77 50)) 106 (M6 106) = q_up M6 105 0 (M6 77 50) from q_row_self]) rfl rfl
          · show qJ YX12_spelling κ _ (qLy u, M6, Y6) 0 0 84 [some (qR 77), some (qI f), none] []
            refine qJ.run hκ 2 (pc' := 86) (ls' := [some (qR 77), some (qI f), none]) (st' := [qI f, qR 77]) rfl ?_
            refine qJ.if_eq hκ (tgt := 96) rfl rfl (by omega) (fun c86 => ?_) (fun c86 => ?_)
            · show qJ YX12_spelling κ _ (qLy u, M6, Y6) 0 0 96 [some (qR 77), some (qI f), none] [qR 77]
              refine qJ.run hκ 2 (pc' := 98) (ls' := [some (qR 77), some (qI f), none]) (st' := [qI f, qI 1, qR 77]) rfl ?_
              refine qJ.if_eq hκ (tgt := 108) rfl rfl (by omega) (fun c98 => ?_) (fun c98 => ?_)
              · show qJ YX12_spelling κ _ (qLy u, M6, Y6) 0 0 108 [some (qR 77), some (qI f), none] [qI 1, qR 77]
                refine qJ.run hκ 2 (pc' := 112) (ls' := [some (qR 77), some (qI f), none]) (st' := [qI (M6 77 47), qI 1, qR 77]) rfl ?_
                refine qJ.callV (As := [qI 1, qI (M6 77 47)]) (rest := []) hκ rfl kX12_255 (m_fails u M6 Y6 1 (M6 77 47)) rfl rfl (by decide) rfl rfl (Nat.le_of_ble_eq_true rfl) (Nat.le_of_ble_eq_true rfl) (Nat.le_of_ble_eq_true rfl) (Or.inl (fun r h' e => by obtain ⟨rfl, rfl⟩ := e; rfl)) (fun r h' e => ?_)
                obtain ⟨rfl, rfl⟩ := e
                show qJ YX12_spelling κ _ (qLy u, (q_up (q_up M6 80 0 1) 81 0 (M6 77 47)), Y6) 0 0 115 [some (qR 77), some (qI f), none] []
                refine qJ.run hκ 1 (pc' := 116) (ls' := [some (qR 77), some (qI f), none]) (st' := [qI (-1)]) rfl ?_
                exact qJ.iret hκ rfl rfl (by decide) (by decide) (by
      rcases OC with ⟨f1, g1, g2⟩ | ⟨f1, g1⟩
      · first
        | exact absurd (f1.symm.trans c74) (by decide)
        | (have z9 : ¬ mu9 (m 78) (m 79 0) i.toNat = 0 := by have := g1.2.2.1.1; omega
           exact ⟨_, _, i.toNat, mu9 (m 78) (m 79 0) i.toNat, mu10 (m 78) (m 79 0) i.toNat, by rw [if_neg z9], rfl, ⟨g1.2.2.2.1, Or.inl ⟨g2, rfl, rfl⟩⟩, ⟨v54_3.1, by first | exact g1.2.2.1.1 | exact absurd (f1.symm.trans c86) (by decide), by first | exact g1.2.2.1.2 z9 | exact absurd (f1.symm.trans c98) (by decide)⟩, Or.inl ⟨z9, Eq.trans (keep_up (by rfl)) (Eq.trans (keep_up (by rfl)) v54_1)⟩⟩)
      · exact ⟨_, _, i.toNat, 1, lnX (m 78) (m 79 0) (lnP (m 78) (m 79 0) i.toNat), rfl, rfl, ⟨g1.1, Or.inr ⟨g1.2.1, g1.2.2.1, rfl, rfl⟩⟩, ⟨v54_3.1, by first | rfl | omega, by first | exact g1.2.2.2 | omega⟩, Or.inl ⟨by decide, Eq.trans (keep_up (by rfl)) (Eq.trans (keep_up (by rfl)) v54_1)⟩⟩)
              · show qJ YX12_spelling κ _ (qLy u, M6, Y6) 0 0 101 [some (qR 77), some (qI f), none] [qI 1, qR 77]
                refine qJ.run hκ 3 (pc' := 112) (ls' := [some (qR 77), some (qI f), none]) (st' := [qI (M6 77 49), qI 1, qR 77]) rfl ?_
                refine qJ.callV (As := [qI 1, qI (M6 77 49)]) (rest := []) hκ rfl kX12_255 (m_fails u M6 Y6 1 (M6 77 49)) rfl rfl (by decide) rfl rfl (Nat.le_of_ble_eq_true rfl) (Nat.le_of_ble_eq_true rfl) (Nat.le_of_ble_eq_true rfl) (Or.inl (fun r h' e => by obtain ⟨rfl, rfl⟩ := e; rfl)) (fun r h' e => ?_)
                obtain ⟨rfl, rfl⟩ := e
                show qJ YX12_spelling κ _ (qLy u, (q_up (q_up M6 80 0 1) 81 0 (M6 77 49)), Y6) 0 0 115 [some (qR 77), some (qI f), none] []
                refine qJ.run hκ 1 (pc' := 116) (ls' := [some (qR 77), some (qI f), none]) (st' := [qI (-1)]) rfl ?_
                exact qJ.iret hκ rfl rfl (by decide) (by decide) (by
      rcases OC with ⟨f1, g1, g2⟩ | ⟨f1, g1⟩
      · first
        | exact absurd (f1.symm.trans c74) (by decide)
        | (have z9 : ¬ mu9 (m 78) (m 79 0) i.toNat = 0 := by have := g1.2.2.1.1; omega
           exact ⟨_, _, i.toNat, mu9 (m 78) (m 79 0) i.toNat, mu10 (m 78) (m 79 0) i.toNat, by rw [if_neg z9], rfl, ⟨g1.2.2.2.1, Or.inl ⟨g2, rfl, rfl⟩⟩, ⟨v54_3.1, by first | exact g1.2.2.1.1 | exact absurd (f1.symm.trans c86) (by decide), by first | exact g1.2.2.1.2 z9 | exact absurd (f1.symm.trans c98) (by decide)⟩, Or.inl ⟨z9, Eq.trans (keep_up (by rfl)) (Eq.trans (keep_up (by rfl)) v54_1)⟩⟩)
      · exact ⟨_, _, i.toNat, 1, lnX (m 78) (m 79 0) (lnP (m 78) (m 79 0) i.toNat), rfl, rfl, ⟨g1.1, Or.inr ⟨g1.2.1, g1.2.2.1, rfl, rfl⟩⟩, ⟨v54_3.1, by first | rfl | omega, by first | exact g1.2.2.2 | omega⟩, Or.inl ⟨by decide, Eq.trans (keep_up (by rfl)) (Eq.trans (keep_up (by rfl)) v54_1)⟩⟩)
            · show qJ YX12_spelling κ _ (qLy u, M6, Y6) 0 0 89 [some (qR 77), some (qI f), none] [qR 77]
              refine qJ.run hκ 4 (pc' := 98) (ls' := [some (qR 77), some (qI f), none]) (st' := [qI f, qI (M6 77 48), qR 77]) rfl ?_
              refine qJ.if_eq hκ (tgt := 108) rfl rfl (by omega) (fun c98 => ?_) (fun c98 => ?_)
              · show qJ YX12_spelling κ _ (qLy u, M6, Y6) 0 0 108 [some (qR 77), some (qI f), none] [qI (M6 77 48), qR 77]
                refine qJ.run hκ 2 (pc' := 112) (ls' := [some (qR 77), some (qI f), none]) (st' := [qI (M6 77 47), qI (M6 77 48), qR 77]) rfl ?_
                refine qJ.callV (As := [qI (M6 77 48), qI (M6 77 47)]) (rest := []) hκ rfl kX12_255 (m_fails u M6 Y6 (M6 77 48) (M6 77 47)) rfl rfl (by decide) rfl rfl (Nat.le_of_ble_eq_true rfl) (Nat.le_of_ble_eq_true rfl) (Nat.le_of_ble_eq_true rfl) (Or.inl (fun r h' e => by obtain ⟨rfl, rfl⟩ := e; rfl)) (fun r h' e => ?_)
                obtain ⟨rfl, rfl⟩ := e
                show qJ YX12_spelling κ _ (qLy u, (q_up (q_up M6 80 0 (M6 77 48)) 81 0 (M6 77 47)), Y6) 0 0 115 [some (qR 77), some (qI f), none] []
                refine qJ.run hκ 1 (pc' := 116) (ls' := [some (qR 77), some (qI f), none]) (st' := [qI (-1)]) rfl ?_
                exact qJ.iret hκ rfl rfl (by decide) (by decide) (by
      rcases OC with ⟨f1, g1, g2⟩ | ⟨f1, g1⟩
      · first
        | exact absurd (f1.symm.trans c74) (by decide)
        | (have z9 : ¬ mu9 (m 78) (m 79 0) i.toNat = 0 := by have := g1.2.2.1.1; omega
           exact ⟨_, _, i.toNat, mu9 (m 78) (m 79 0) i.toNat, mu10 (m 78) (m 79 0) i.toNat, by rw [if_neg z9], rfl, ⟨g1.2.2.2.1, Or.inl ⟨g2, rfl, rfl⟩⟩, ⟨v54_3.1, by first | exact g1.2.2.1.1 | exact absurd (f1.symm.trans c86) (by decide), by first | exact g1.2.2.1.2 z9 | exact absurd (f1.symm.trans c98) (by decide)⟩, Or.inl ⟨z9, Eq.trans (keep_up (by rfl)) (Eq.trans (keep_up (by rfl)) v54_1)⟩⟩)
      · exact ⟨_, _, i.toNat, 1, lnX (m 78) (m 79 0) (lnP (m 78) (m 79 0) i.toNat), rfl, rfl, ⟨g1.1, Or.inr ⟨g1.2.1, g1.2.2.1, rfl, rfl⟩⟩, ⟨v54_3.1, by first | rfl | omega, by first | exact g1.2.2.2 | omega⟩, Or.inl ⟨by decide, Eq.trans (keep_up (by rfl)) (Eq.trans (keep_up (by rfl)) v54_1)⟩⟩)
              · show qJ YX12_spelling κ _ (qLy u, M6, Y6) 0 0 101 [some (qR 77), some (qI f), none] [qI (M6 77 48), qR 77]
                refine qJ.run hκ 3 (pc' := 112) (ls' := [some (qR 77), some (qI f), none]) (st' := [qI (M6 77 49), qI (M6 77 48), qR 77]) rfl ?_
                refine qJ.callV (As := [qI (M6 77 48), qI (M6 77 49)]) (rest := []) hκ rfl kX12_255 (m_fails u M6 Y6 (M6 77 48) (M6 77 49)) rfl rfl (by decide) rfl rfl (Nat.le_of_ble_eq_true rfl) (Nat.le_of_ble_eq_true rfl) (Nat.le_of_ble_eq_true rfl) (Or.inl (fun r h' e => by obtain ⟨rfl, rfl⟩ := e; rfl)) (fun r h' e => ?_)
                obtain ⟨rfl, rfl⟩ := e
                show qJ YX12_spelling κ _ (qLy u, (q_up (q_up M6 80 0 (M6 77 48)) 81 0 (M6 77 49)), Y6) 0 0 115 [some (qR 77), some (qI f), none] []
                refine qJ.run hκ 1 (pc' := 116) (ls' := [some (qR 77), some (qI f), none]) (st' := [qI (-1)]) rfl ?_
                exact qJ.iret hκ rfl rfl (by decide) (by decide) (by
      rcases OC with ⟨f1, g1, g2⟩ | ⟨f1, g1⟩
      · first
        | exact absurd (f1.symm.trans c74) (by decide)
        | (have z9 : ¬ mu9 (m 78) (m 79 0) i.toNat = 0 := by have := g1.2.2.1.1; omega
           exact ⟨_, _, i.toNat, mu9 (m 78) (m 79 0) i.toNat, mu10 (m 78) (m 79 0) i.toNat, by rw [if_neg z9], rfl, ⟨g1.2.2.2.1, Or.inl ⟨g2, rfl, rfl⟩⟩, ⟨v54_3.1, by first | exact g1.2.2.1.1 | exact absurd (f1.symm.trans c86) (by decide), by first | exact g1.2.2.1.2 z9 | exact absurd (f1.symm.trans c98) (by decide)⟩, Or.inl ⟨z9, Eq.trans (keep_up (by rfl)) (Eq.trans (keep_up (by rfl)) v54_1)⟩⟩)
      · exact ⟨_, _, i.toNat, 1, lnX (m 78) (m 79 0) (lnP (m 78) (m 79 0) i.toNat), rfl, rfl, ⟨g1.1, Or.inr ⟨g1.2.1, g1.2.2.1, rfl, rfl⟩⟩, ⟨v54_3.1, by first | rfl | omega, by first | exact g1.2.2.2 | omega⟩, Or.inl ⟨by decide, Eq.trans (keep_up (by rfl)) (Eq.trans (keep_up (by rfl)) v54_1)⟩⟩)
      · show qJ YX12_spelling κ _ (qLy u, M6, Y6) 0 0 58 [some (qR 77), some (qI f), none] []
        have RU : mRun (m 78) (m 79 0) M6 Y6 i.toNat := by rcases v54_2 with q | q; (exact q.2); (exact absurd q.1 c55)
        have f1 : f = 1 := by omega
        have tm := tM_r (t := (m 78)) (L := (m 79 0)) (p := lnP (m 78) (m 79 0) i.toNat)
        rw [← RU.1.1.2.2.1] at tm
        have il := RU.2.2.2.2.1
        have pl := RU.1.2.2.1
        refine qJ.run hκ 2 (pc' := 62) (ls' := [some (qR 77), some (qI f), none]) (st' := [qI (M6 77 44)]) rfl ?_
        refine qJ.if_eq hκ (tgt := 73) rfl rfl (by omega) (fun c62 => ?_) (fun c62 => ?_)
        · show qJ YX12_spelling κ _ (qLy u, M6, Y6) 0 0 73 [some (qR 77), some (qI f), none] []
          have OC : (f = 1 ∧ mRun (m 78) (m 79 0) M6 Y6 i.toNat ∧ tK (m 78) (m 79 0) (lnP (m 78) (m 79 0) i.toNat) = 0) ∨ (f = 0 ∧ mStk (m 78) (m 79 0) M6 i.toNat) := by
            rcases v54_2 with q | q
            · refine Or.inl ⟨q.1, q.2, ?_⟩
              first
              | exact (tM_r (t := (m 78)) (L := (m 79 0)) (p := lnP (m 78) (m 79 0) i.toNat)).2.mp (q.2.1.1.2.2.1.symm.trans c62)
              | exact absurd (q.1.symm.trans c55) (by decide)
            · exact Or.inr q
          have r48 : f = 1 → 0 ≤ M6 77 48 ∧ M6 77 48 ≤ 3 := fun z => by rcases OC with q | q; (have := q.2.1.2.2.1.1; have := mu9_r (m 78) (m 79 0) i.toNat; omega); omega
          refine qJ.run hκ 1 (pc' := 74) (ls' := [some (qR 77), some (qI f), none]) (st' := [qI f]) rfl ?_
          refine qJ.if_eq hκ (tgt := 84) rfl rfl (by omega) (fun c74 => ?_) (fun c74 => ?_)
          · show qJ YX12_spelling κ _ (qLy u, M6, Y6) 0 0 84 [some (qR 77), some (qI f), none] []
            refine qJ.run hκ 2 (pc' := 86) (ls' := [some (qR 77), some (qI f), none]) (st' := [qI f, qR 77]) rfl ?_
            refine qJ.if_eq hκ (tgt := 96) rfl rfl (by omega) (fun c86 => ?_) (fun c86 => ?_)
            · show qJ YX12_spelling κ _ (qLy u, M6, Y6) 0 0 96 [some (qR 77), some (qI f), none] [qR 77]
              refine qJ.run hκ 2 (pc' := 98) (ls' := [some (qR 77), some (qI f), none]) (st' := [qI f, qI 1, qR 77]) rfl ?_
              refine qJ.if_eq hκ (tgt := 108) rfl rfl (by omega) (fun c98 => ?_) (fun c98 => ?_)
              · show qJ YX12_spelling κ _ (qLy u, M6, Y6) 0 0 108 [some (qR 77), some (qI f), none] [qI 1, qR 77]
                refine qJ.run hκ 2 (pc' := 112) (ls' := [some (qR 77), some (qI f), none]) (st' := [qI (M6 77 47), qI 1, qR 77]) rfl ?_
                refine qJ.callV (As := [qI 1, qI (M6 77 47)]) (rest := []) hκ rfl kX12_255 (m_fails u M6 Y6 1 (M6 77 47)) rfl rfl (by decide) rfl rfl (Nat.le_of_ble_eq_true rfl) (Nat.le_of_ble_eq_true rfl) (Nat.le_of_ble_eq_true rfl) (Or.inl (fun r h' e => by obtain ⟨rfl, rfl⟩ := e; rfl)) (fun r h' e => ?_)
                obtain ⟨rfl, rfl⟩ := e
                show qJ YX12_spelling κ _ (qLy u, (q_up (q_up M6 80 0 1) 81 0 (M6 77 47)), Y6) 0 0 115 [some (qR 77), some (qI f), none] []
                refine qJ.run hκ 1 (pc' := 116) (ls' := [some (qR 77), some (qI f), none]) (st' := [qI (-1)]) rfl ?_
                exact qJ.iret hκ rfl rfl (by decide) (by decide) (by
      rcases OC with ⟨f1, g1, g2⟩ | ⟨f1, g1⟩
      · first
        | exact absurd (f1.symm.trans c74) (by decide)
        | (have z9 : ¬ mu9 (m 78) (m 79 0) i.toNat = 0 := by have := g1.2.2.1.1; omega
           exact ⟨_, _, i.toNat, mu9 (m 78) (m 79 0) i.toNat, mu10 (m 78) (m 79 0) i.toNat, by rw [if_neg z9], rfl, ⟨g1.2.2.2.1, Or.inl ⟨g2, rfl, rfl⟩⟩, ⟨v54_3.1, by first | exact g1.2.2.1.1 | exact absurd (f1.symm.trans c86) (by decide), by first | exact g1.2.2.1.2 z9 | exact absurd (f1.symm.trans c98) (by decide)⟩, Or.inl ⟨z9, Eq.trans (keep_up (by rfl)) (Eq.trans (keep_up (by rfl)) v54_1)⟩⟩)
      · exact ⟨_, _, i.toNat, 1, lnX (m 78) (m 79 0) (lnP (m 78) (m 79 0) i.toNat), rfl, rfl, ⟨g1.1, Or.inr ⟨g1.2.1, g1.2.2.1, rfl, rfl⟩⟩, ⟨v54_3.1, by first | rfl | omega, by first | exact g1.2.2.2 | omega⟩, Or.inl ⟨by decide, Eq.trans (keep_up (by rfl)) (Eq.trans (keep_up (by rfl)) v54_1)⟩⟩)
              · show qJ YX12_spelling κ _ (qLy u, M6, Y6) 0 0 101 [some (qR 77), some (qI f), none] [qI 1, qR 77]
                refine qJ.run hκ 3 (pc' := 112) (ls' := [some (qR 77), some (qI f), none]) (st' := [qI (M6 77 49), qI 1, qR 77]) rfl ?_
                refine qJ.callV (As := [qI 1, qI (M6 77 49)]) (rest := []) hκ rfl kX12_255 (m_fails u M6 Y6 1 (M6 77 49)) rfl rfl (by decide) rfl rfl (Nat.le_of_ble_eq_true rfl) (Nat.le_of_ble_eq_true rfl) (Nat.le_of_ble_eq_true rfl) (Or.inl (fun r h' e => by obtain ⟨rfl, rfl⟩ := e; rfl)) (fun r h' e => ?_)
                obtain ⟨rfl, rfl⟩ := e
                show qJ YX12_spelling κ _ (qLy u, (q_up (q_up M6 80 0 1) 81 0 (M6 77 49)), Y6) 0 0 115 [some (qR 77), some (qI f), none] []
                refine qJ.run hκ 1 (pc' := 116) (ls' := [some (qR 77), some (qI f), none]) (st' := [qI (-1)]) rfl ?_
                exact qJ.iret hκ rfl rfl (by decide) (by decide) (by
      rcases OC with ⟨f1, g1, g2⟩ | ⟨f1, g1⟩
      · first
        | exact absurd (f1.symm.trans c74) (by decide)
        | (have z9 : ¬ mu9 (m 78) (m 79 0) i.toNat = 0 := by have := g1.2.2.1.1; omega
           exact ⟨_, _, i.toNat, mu9 (m 78) (m 79 0) i.toNat, mu10 (m 78) (m 79 0) i.toNat, by rw [if_neg z9], rfl, ⟨g1.2.2.2.1, Or.inl ⟨g2, rfl, rfl⟩⟩, ⟨v54_3.1, by first | exact g1.2.2.1.1 | exact absurd (f1.symm.trans c86) (by decide), by first | exact g1.2.2.1.2 z9 | exact absurd (f1.symm.trans c98) (by decide)⟩, Or.inl ⟨z9, Eq.trans (keep_up (by rfl)) (Eq.trans (keep_up (by rfl)) v54_1)⟩⟩)
      · exact ⟨_, _, i.toNat, 1, lnX (m 78) (m 79 0) (lnP (m 78) (m 79 0) i.toNat), rfl, rfl, ⟨g1.1, Or.inr ⟨g1.2.1, g1.2.2.1, rfl, rfl⟩⟩, ⟨v54_3.1, by first | rfl | omega, by first | exact g1.2.2.2 | omega⟩, Or.inl ⟨by decide, Eq.trans (keep_up (by rfl)) (Eq.trans (keep_up (by rfl)) v54_1)⟩⟩)
            · show qJ YX12_spelling κ _ (qLy u, M6, Y6) 0 0 89 [some (qR 77), some (qI f), none] [qR 77]
              refine qJ.run hκ 4 (pc' := 98) (ls' := [some (qR 77), some (qI f), none]) (st' := [qI f, qI (M6 77 48), qR 77]) rfl ?_
              refine qJ.if_eq hκ (tgt := 108) rfl rfl (by omega) (fun c98 => ?_) (fun c98 => ?_)
              · show qJ YX12_spelling κ _ (qLy u, M6, Y6) 0 0 108 [some (qR 77), some (qI f), none] [qI (M6 77 48), qR 77]
                refine qJ.run hκ 2 (pc' := 112) (ls' := [some (qR 77), some (qI f), none]) (st' := [qI (M6 77 47), qI (M6 77 48), qR 77]) rfl ?_
                refine qJ.callV (As := [qI (M6 77 48), qI (M6 77 47)]) (rest := []) hκ rfl kX12_255 (m_fails u M6 Y6 (M6 77 48) (M6 77 47)) rfl rfl (by decide) rfl rfl (Nat.le_of_ble_eq_true rfl) (Nat.le_of_ble_eq_true rfl) (Nat.le_of_ble_eq_true rfl) (Or.inl (fun r h' e => by obtain ⟨rfl, rfl⟩ := e; rfl)) (fun r h' e => ?_)
                obtain ⟨rfl, rfl⟩ := e
                show qJ YX12_spelling κ _ (qLy u, (q_up (q_up M6 80 0 (M6 77 48)) 81 0 (M6 77 47)), Y6) 0 0 115 [some (qR 77), some (qI f), none] []
                refine qJ.run hκ 1 (pc' := 116) (ls' := [some (qR 77), some (qI f), none]) (st' := [qI (-1)]) rfl ?_
                exact qJ.iret hκ rfl rfl (by decide) (by decide) (by
      rcases OC with ⟨f1, g1, g2⟩ | ⟨f1, g1⟩
      · first
        | exact absurd (f1.symm.trans c74) (by decide)
        | (have z9 : ¬ mu9 (m 78) (m 79 0) i.toNat = 0 := by have := g1.2.2.1.1; omega
           exact ⟨_, _, i.toNat, mu9 (m 78) (m 79 0) i.toNat, mu10 (m 78) (m 79 0) i.toNat, by rw [if_neg z9], rfl, ⟨g1.2.2.2.1, Or.inl ⟨g2, rfl, rfl⟩⟩, ⟨v54_3.1, by first | exact g1.2.2.1.1 | exact absurd (f1.symm.trans c86) (by decide), by first | exact g1.2.2.1.2 z9 | exact absurd (f1.symm.trans c98) (by decide)⟩, Or.inl ⟨z9, Eq.trans (keep_up (by rfl)) (Eq.trans (keep_up (by rfl)) v54_1)⟩⟩)
      · exact ⟨_, _, i.toNat, 1, lnX (m 78) (m 79 0) (lnP (m 78) (m 79 0) i.toNat), rfl, rfl, ⟨g1.1, Or.inr ⟨g1.2.1, g1.2.2.1, rfl, rfl⟩⟩, ⟨v54_3.1, by first | rfl | omega, by first | exact g1.2.2.2 | omega⟩, Or.inl ⟨by decide, Eq.trans (keep_up (by rfl)) (Eq.trans (keep_up (by rfl)) v54_1)⟩⟩)
              · show qJ YX12_spelling κ _ (qLy u, M6, Y6) 0 0 101 [some (qR 77), some (qI f), none] [qI (M6 77 48), qR 77]
                refine qJ.run hκ 3 (pc' := 112) (ls' := [some (qR 77), some (qI f), none]) (st' := [qI (M6 77 49), qI (M6 77 48), qR 77]) rfl ?_
                refine qJ.callV (As := [qI (M6 77 48), qI (M6 77 49)]) (rest := []) hκ rfl kX12_255 (m_fails u M6 Y6 (M6 77 48) (M6 77 49)) rfl rfl (by decide) rfl rfl (Nat.le_of_ble_eq_true rfl) (Nat.le_of_ble_eq_true rfl) (Nat.le_of_ble_eq_true rfl) (Or.inl (fun r h' e => by obtain ⟨rfl, rfl⟩ := e; rfl)) (fun r h' e => ?_)
                obtain ⟨rfl, rfl⟩ := e
                show qJ YX12_spelling κ _ (qLy u, (q_up (q_up M6 80 0 (M6 77 48)) 81 0 (M6 77 49)), Y6) 0 0 115 [some (qR 77), some (qI f), none] []
                refine qJ.run hκ 1 (pc' := 116) (ls' := [some (qR 77), some (qI f), none]) (st' := [qI (-1)]) rfl ?_
                exact qJ.iret hκ rfl rfl (by decide) (by decide) (by
      rcases OC with ⟨f1, g1, g2⟩ | ⟨f1, g1⟩
      · first
        | exact absurd (f1.symm.trans c74) (by decide)
        | (have z9 : ¬ mu9 (m 78) (m 79 0) i.toNat = 0 := by have := g1.2.2.1.1; omega
           exact ⟨_, _, i.toNat, mu9 (m 78) (m 79 0) i.toNat, mu10 (m 78) (m 79 0) i.toNat, by rw [if_neg z9], rfl, ⟨g1.2.2.2.1, Or.inl ⟨g2, rfl, rfl⟩⟩, ⟨v54_3.1, by first | exact g1.2.2.1.1 | exact absurd (f1.symm.trans c86) (by decide), by first | exact g1.2.2.1.2 z9 | exact absurd (f1.symm.trans c98) (by decide)⟩, Or.inl ⟨z9, Eq.trans (keep_up (by rfl)) (Eq.trans (keep_up (by rfl)) v54_1)⟩⟩)
      · exact ⟨_, _, i.toNat, 1, lnX (m 78) (m 79 0) (lnP (m 78) (m 79 0) i.toNat), rfl, rfl, ⟨g1.1, Or.inr ⟨g1.2.1, g1.2.2.1, rfl, rfl⟩⟩, ⟨v54_3.1, by first | rfl | omega, by first | exact g1.2.2.2 | omega⟩, Or.inl ⟨by decide, Eq.trans (keep_up (by rfl)) (Eq.trans (keep_up (by rfl)) v54_1)⟩⟩)
          · show qJ YX12_spelling κ _ (qLy u, M6, Y6) 0 0 77 [some (qR 77), some (qI f), none] []
            refine qJ.run hκ 2 (pc' := 81) (ls' := [some (qR 77), some (qI f), none]) (st' := [qI (M6 77 48)]) rfl ?_
            refine qJ.if_le hκ (tgt := 117) rfl rfl (by omega) (fun c81 => ?_) (fun c81 => ?_)
            · show qJ YX12_spelling κ _ (qLy u, M6, Y6) 0 0 117 [some (qR 77), some (qI f), none] []
              have RU : mRun (m 78) (m 79 0) M6 Y6 i.toNat ∧ tK (m 78) (m 79 0) (lnP (m 78) (m 79 0) i.toNat) = 0 := by rcases OC with q | q; (exact q.2); omega
              have r0 := r48 (by omega)
              have m0 : mu9 (m 78) (m 79 0) i.toNat = 0 := by have := RU.1.2.2.1.1; omega
              have i16 := (mu_0 i.toNat m0).2
              have i50 := RU.1.2.1
              refine qJ.run hκ 5 (pc' := 126) (ls' := [some (qR 77), some (qI f), none]) (st' := [qI (M6 77 50), qI 0, qR 105]) rfl ?_
              refine qJ.ast hκ rfl rfl rfl (by decide) (by omega) ?_
              show qJ YX12_spelling κ _ (qLy u, (q_up M6 105 0 (M6 77 50)), Y6) 0 0 127 [some (qR 77), some (qI f), none] []
              refine qJ.run hκ 2 (pc' := 129) (ls' := [some (qR 77), some (qI f), some (qI 0)]) (st' := []) rfl ?_
              exact qJ.cast (L129 65 0 f (M6 106) (⟨Int.le_refl 0, by omega⟩) (fun k hk => by omega) (fun k hk => rfl) (RU) (m0) (by omega)) (by rw [show q_row (q_up M6 105 0 (M6 77 50)) 106 (M6 106) = q_up M6 105 0 (M6 77 50) from q_row_self]) rfl rfl
            · show qJ YX12_spelling κ _ (qLy u, M6, Y6) 0 0 84 [some (qR 77), some (qI f), none] []
              refine qJ.run hκ 2 (pc' := 86) (ls' := [some (qR 77), some (qI f), none]) (st' := [qI f, qR 77]) rfl ?_
              refine qJ.if_eq hκ (tgt := 96) rfl rfl (by omega) (fun c86 => ?_) (fun c86 => ?_)
              · show qJ YX12_spelling κ _ (qLy u, M6, Y6) 0 0 96 [some (qR 77), some (qI f), none] [qR 77]
                refine qJ.run hκ 2 (pc' := 98) (ls' := [some (qR 77), some (qI f), none]) (st' := [qI f, qI 1, qR 77]) rfl ?_
                refine qJ.if_eq hκ (tgt := 108) rfl rfl (by omega) (fun c98 => ?_) (fun c98 => ?_)
                · show qJ YX12_spelling κ _ (qLy u, M6, Y6) 0 0 108 [some (qR 77), some (qI f), none] [qI 1, qR 77]
                  refine qJ.run hκ 2 (pc' := 112) (ls' := [some (qR 77), some (qI f), none]) (st' := [qI (M6 77 47), qI 1, qR 77]) rfl ?_
                  refine qJ.callV (As := [qI 1, qI (M6 77 47)]) (rest := []) hκ rfl kX12_255 (m_fails u M6 Y6 1 (M6 77 47)) rfl rfl (by decide) rfl rfl (Nat.le_of_ble_eq_true rfl) (Nat.le_of_ble_eq_true rfl) (Nat.le_of_ble_eq_true rfl) (Or.inl (fun r h' e => by obtain ⟨rfl, rfl⟩ := e; rfl)) (fun r h' e => ?_)
                  obtain ⟨rfl, rfl⟩ := e
                  show qJ YX12_spelling κ _ (qLy u, (q_up (q_up M6 80 0 1) 81 0 (M6 77 47)), Y6) 0 0 115 [some (qR 77), some (qI f), none] []
                  refine qJ.run hκ 1 (pc' := 116) (ls' := [some (qR 77), some (qI f), none]) (st' := [qI (-1)]) rfl ?_
                  exact qJ.iret hκ rfl rfl (by decide) (by decide) (by
      rcases OC with ⟨f1, g1, g2⟩ | ⟨f1, g1⟩
      · first
        | exact absurd (f1.symm.trans c74) (by decide)
        | (have z9 : ¬ mu9 (m 78) (m 79 0) i.toNat = 0 := by have := g1.2.2.1.1; omega
           exact ⟨_, _, i.toNat, mu9 (m 78) (m 79 0) i.toNat, mu10 (m 78) (m 79 0) i.toNat, by rw [if_neg z9], rfl, ⟨g1.2.2.2.1, Or.inl ⟨g2, rfl, rfl⟩⟩, ⟨v54_3.1, by first | exact g1.2.2.1.1 | exact absurd (f1.symm.trans c86) (by decide), by first | exact g1.2.2.1.2 z9 | exact absurd (f1.symm.trans c98) (by decide)⟩, Or.inl ⟨z9, Eq.trans (keep_up (by rfl)) (Eq.trans (keep_up (by rfl)) v54_1)⟩⟩)
      · exact ⟨_, _, i.toNat, 1, lnX (m 78) (m 79 0) (lnP (m 78) (m 79 0) i.toNat), rfl, rfl, ⟨g1.1, Or.inr ⟨g1.2.1, g1.2.2.1, rfl, rfl⟩⟩, ⟨v54_3.1, by first | rfl | omega, by first | exact g1.2.2.2 | omega⟩, Or.inl ⟨by decide, Eq.trans (keep_up (by rfl)) (Eq.trans (keep_up (by rfl)) v54_1)⟩⟩)
                · show qJ YX12_spelling κ _ (qLy u, M6, Y6) 0 0 101 [some (qR 77), some (qI f), none] [qI 1, qR 77]
                  refine qJ.run hκ 3 (pc' := 112) (ls' := [some (qR 77), some (qI f), none]) (st' := [qI (M6 77 49), qI 1, qR 77]) rfl ?_
                  refine qJ.callV (As := [qI 1, qI (M6 77 49)]) (rest := []) hκ rfl kX12_255 (m_fails u M6 Y6 1 (M6 77 49)) rfl rfl (by decide) rfl rfl (Nat.le_of_ble_eq_true rfl) (Nat.le_of_ble_eq_true rfl) (Nat.le_of_ble_eq_true rfl) (Or.inl (fun r h' e => by obtain ⟨rfl, rfl⟩ := e; rfl)) (fun r h' e => ?_)
                  obtain ⟨rfl, rfl⟩ := e
                  show qJ YX12_spelling κ _ (qLy u, (q_up (q_up M6 80 0 1) 81 0 (M6 77 49)), Y6) 0 0 115 [some (qR 77), some (qI f), none] []
                  refine qJ.run hκ 1 (pc' := 116) (ls' := [some (qR 77), some (qI f), none]) (st' := [qI (-1)]) rfl ?_
                  exact qJ.iret hκ rfl rfl (by decide) (by decide) (by
      rcases OC with ⟨f1, g1, g2⟩ | ⟨f1, g1⟩
      · first
        | exact absurd (f1.symm.trans c74) (by decide)
        | (have z9 : ¬ mu9 (m 78) (m 79 0) i.toNat = 0 := by have := g1.2.2.1.1; omega
           exact ⟨_, _, i.toNat, mu9 (m 78) (m 79 0) i.toNat, mu10 (m 78) (m 79 0) i.toNat, by rw [if_neg z9], rfl, ⟨g1.2.2.2.1, Or.inl ⟨g2, rfl, rfl⟩⟩, ⟨v54_3.1, by first | exact g1.2.2.1.1 | exact absurd (f1.symm.trans c86) (by decide), by first | exact g1.2.2.1.2 z9 | exact absurd (f1.symm.trans c98) (by decide)⟩, Or.inl ⟨z9, Eq.trans (keep_up (by rfl)) (Eq.trans (keep_up (by rfl)) v54_1)⟩⟩)
      · exact ⟨_, _, i.toNat, 1, lnX (m 78) (m 79 0) (lnP (m 78) (m 79 0) i.toNat), rfl, rfl, ⟨g1.1, Or.inr ⟨g1.2.1, g1.2.2.1, rfl, rfl⟩⟩, ⟨v54_3.1, by first | rfl | omega, by first | exact g1.2.2.2 | omega⟩, Or.inl ⟨by decide, Eq.trans (keep_up (by rfl)) (Eq.trans (keep_up (by rfl)) v54_1)⟩⟩)
              · show qJ YX12_spelling κ _ (qLy u, M6, Y6) 0 0 89 [some (qR 77), some (qI f), none] [qR 77]
                refine qJ.run hκ 4 (pc' := 98) (ls' := [some (qR 77), some (qI f), none]) (st' := [qI f, qI (M6 77 48), qR 77]) rfl ?_
                refine qJ.if_eq hκ (tgt := 108) rfl rfl (by omega) (fun c98 => ?_) (fun c98 => ?_)
                · show qJ YX12_spelling κ _ (qLy u, M6, Y6) 0 0 108 [some (qR 77), some (qI f), none] [qI (M6 77 48), qR 77]
                  refine qJ.run hκ 2 (pc' := 112) (ls' := [some (qR 77), some (qI f), none]) (st' := [qI (M6 77 47), qI (M6 77 48), qR 77]) rfl ?_
                  refine qJ.callV (As := [qI (M6 77 48), qI (M6 77 47)]) (rest := []) hκ rfl kX12_255 (m_fails u M6 Y6 (M6 77 48) (M6 77 47)) rfl rfl (by decide) rfl rfl (Nat.le_of_ble_eq_true rfl) (Nat.le_of_ble_eq_true rfl) (Nat.le_of_ble_eq_true rfl) (Or.inl (fun r h' e => by obtain ⟨rfl, rfl⟩ := e; rfl)) (fun r h' e => ?_)
                  obtain ⟨rfl, rfl⟩ := e
                  show qJ YX12_spelling κ _ (qLy u, (q_up (q_up M6 80 0 (M6 77 48)) 81 0 (M6 77 47)), Y6) 0 0 115 [some (qR 77), some (qI f), none] []
                  refine qJ.run hκ 1 (pc' := 116) (ls' := [some (qR 77), some (qI f), none]) (st' := [qI (-1)]) rfl ?_
                  exact qJ.iret hκ rfl rfl (by decide) (by decide) (by
      rcases OC with ⟨f1, g1, g2⟩ | ⟨f1, g1⟩
      · first
        | exact absurd (f1.symm.trans c74) (by decide)
        | (have z9 : ¬ mu9 (m 78) (m 79 0) i.toNat = 0 := by have := g1.2.2.1.1; omega
           exact ⟨_, _, i.toNat, mu9 (m 78) (m 79 0) i.toNat, mu10 (m 78) (m 79 0) i.toNat, by rw [if_neg z9], rfl, ⟨g1.2.2.2.1, Or.inl ⟨g2, rfl, rfl⟩⟩, ⟨v54_3.1, by first | exact g1.2.2.1.1 | exact absurd (f1.symm.trans c86) (by decide), by first | exact g1.2.2.1.2 z9 | exact absurd (f1.symm.trans c98) (by decide)⟩, Or.inl ⟨z9, Eq.trans (keep_up (by rfl)) (Eq.trans (keep_up (by rfl)) v54_1)⟩⟩)
      · exact ⟨_, _, i.toNat, 1, lnX (m 78) (m 79 0) (lnP (m 78) (m 79 0) i.toNat), rfl, rfl, ⟨g1.1, Or.inr ⟨g1.2.1, g1.2.2.1, rfl, rfl⟩⟩, ⟨v54_3.1, by first | rfl | omega, by first | exact g1.2.2.2 | omega⟩, Or.inl ⟨by decide, Eq.trans (keep_up (by rfl)) (Eq.trans (keep_up (by rfl)) v54_1)⟩⟩)
                · show qJ YX12_spelling κ _ (qLy u, M6, Y6) 0 0 101 [some (qR 77), some (qI f), none] [qI (M6 77 48), qR 77]
                  refine qJ.run hκ 3 (pc' := 112) (ls' := [some (qR 77), some (qI f), none]) (st' := [qI (M6 77 49), qI (M6 77 48), qR 77]) rfl ?_
                  refine qJ.callV (As := [qI (M6 77 48), qI (M6 77 49)]) (rest := []) hκ rfl kX12_255 (m_fails u M6 Y6 (M6 77 48) (M6 77 49)) rfl rfl (by decide) rfl rfl (Nat.le_of_ble_eq_true rfl) (Nat.le_of_ble_eq_true rfl) (Nat.le_of_ble_eq_true rfl) (Or.inl (fun r h' e => by obtain ⟨rfl, rfl⟩ := e; rfl)) (fun r h' e => ?_)
                  obtain ⟨rfl, rfl⟩ := e
                  show qJ YX12_spelling κ _ (qLy u, (q_up (q_up M6 80 0 (M6 77 48)) 81 0 (M6 77 49)), Y6) 0 0 115 [some (qR 77), some (qI f), none] []
                  refine qJ.run hκ 1 (pc' := 116) (ls' := [some (qR 77), some (qI f), none]) (st' := [qI (-1)]) rfl ?_
                  exact qJ.iret hκ rfl rfl (by decide) (by decide) (by
      rcases OC with ⟨f1, g1, g2⟩ | ⟨f1, g1⟩
      · first
        | exact absurd (f1.symm.trans c74) (by decide)
        | (have z9 : ¬ mu9 (m 78) (m 79 0) i.toNat = 0 := by have := g1.2.2.1.1; omega
           exact ⟨_, _, i.toNat, mu9 (m 78) (m 79 0) i.toNat, mu10 (m 78) (m 79 0) i.toNat, by rw [if_neg z9], rfl, ⟨g1.2.2.2.1, Or.inl ⟨g2, rfl, rfl⟩⟩, ⟨v54_3.1, by first | exact g1.2.2.1.1 | exact absurd (f1.symm.trans c86) (by decide), by first | exact g1.2.2.1.2 z9 | exact absurd (f1.symm.trans c98) (by decide)⟩, Or.inl ⟨z9, Eq.trans (keep_up (by rfl)) (Eq.trans (keep_up (by rfl)) v54_1)⟩⟩)
      · exact ⟨_, _, i.toNat, 1, lnX (m 78) (m 79 0) (lnP (m 78) (m 79 0) i.toNat), rfl, rfl, ⟨g1.1, Or.inr ⟨g1.2.1, g1.2.2.1, rfl, rfl⟩⟩, ⟨v54_3.1, by first | rfl | omega, by first | exact g1.2.2.2 | omega⟩, Or.inl ⟨by decide, Eq.trans (keep_up (by rfl)) (Eq.trans (keep_up (by rfl)) v54_1)⟩⟩)
        · show qJ YX12_spelling κ _ (qLy u, M6, Y6) 0 0 65 [some (qR 77), some (qI f), none] []
          have tkn : ¬ tK (m 78) (m 79 0) (lnP (m 78) (m 79 0) i.toNat) = 0 := fun z => c62 (tm.2.mpr z)
          refine qJ.run hκ 1 (pc' := 66) (ls' := [some (qR 77), some (qI f), none]) (st' := [qR 77]) rfl ?_
          refine qJ.callV (As := []) (rest := []) hκ rfl kX12_333 (m_line u M6 Y6 (m 78) (m 79 0) (lnP (m 78) (m 79 0) i.toNat) RU.1 (by rw [RU.2.2.1.1]; exact mu9_r _ _ _) (by rw [RU.2.1]; omega)) rfl rfl (by decide) rfl rfl (Nat.le_of_ble_eq_true rfl) (Nat.le_of_ble_eq_true rfl) (Nat.le_of_ble_eq_true rfl) (Or.inl (fun r h' e => by obtain ⟨z66, m7, y7, rfl, rfl, K7, H7⟩ := e; rfl)) (fun r h' e => ?_)
          obtain ⟨z66, m7, y7, rfl, rfl, K7, H7⟩ := e
          show qJ YX12_spelling κ _ (qLy u, m7, y7) 0 0 69 [some (qR 77), some (qI f), none] [qI z66]
          have zr : z66 = 0 ∨ z66 = 1 := by rcases H7 with q | q; (left; exact q.1); (right; exact q.1)
          refine qJ.run hκ 2 (pc' := 54) (ls' := [some (qR 77), some (qI z66), none]) (st' := []) rfl ?_
          exact ih54  z66 (i + z66) m7 y7 (by rcases H7 with q | q <;> omega) ((keep_of kMfL K7).trans v54_1) (by
          rcases H7 with ⟨q1, q2, q3⟩ | ⟨q1, q2, q3⟩
          · subst q1
            rw [Int.add_zero]
            exact Or.inr ⟨rfl, RU.2.2.2.1, tkn, q2, q3⟩
          · subst q1
            rw [show (i + 1).toNat = i.toNat + 1 by omega]
            exact Or.inl ⟨rfl, mRun_s RU tkn q2 q3⟩) (⟨(congrFun (congrFun K7 79) 0).trans v54_3.1, (congrFun (congrFun K7 80) 0).trans v54_3.2.1, (congrFun (congrFun K7 81) 0).trans v54_3.2.2⟩) (by rcases H7 with q | q <;> omega)
  show qJ YX12_spelling κ _ (qLy u, m, y) 0 0 0 [some (qR 77), none, none] []
  refine qJ.run hκ 2 (pc' := 2) (ls' := [some (qR 77), none, none]) (st' := [qI 0, qR 77]) rfl ?_
  refine qJ.putI hκ rfl rfl rfl rfl (Or.inl rfl) ?_
  show qJ YX12_spelling κ _ (qLy u, (q_up m 77 0 0), y) 0 0 5 [some (qR 77), none, none] []
  refine qJ.run hκ 4 (pc' := 11) (ls' := [some (qR 77), none, none]) (st' := [qI 0, qR 79, qR 77]) rfl ?_
  refine qJ.ald hκ rfl rfl rfl (by decide) (by omega) ?_
  show qJ YX12_spelling κ _ (qLy u, (q_up m 77 0 0), y) 0 0 12 [some (qR 77), none, none] [qI (m 79 0), qR 77]
  refine qJ.putI hκ rfl rfl rfl rfl (Or.inl rfl) ?_
  show qJ YX12_spelling κ _ (qLy u, (q_up (q_up m 77 0 0) 77 42 (m 79 0)), y) 0 0 15 [some (qR 77), none, none] []
  refine qJ.run hκ 4 (pc' := 21) (ls' := [some (qR 77), none, none]) (st' := [qI 0, qI 0, qR 79]) rfl ?_
  refine qJ.ast hκ rfl rfl rfl (by decide) (by omega) ?_
  show qJ YX12_spelling κ _ (qLy u, (q_up (q_up (q_up m 77 0 0) 77 42 (m 79 0)) 79 0 0), y) 0 0 22 [some (qR 77), none, none] []
  refine qJ.run hκ 3 (pc' := 25) (ls' := [some (qR 77), none, none]) (st' := [qI (-1), qI 0, qR 77]) rfl ?_
  refine qJ.callV (As := [qI 0, qI (-1)]) (rest := []) hκ rfl kX12_255 (m_fails u (q_up (q_up (q_up m 77 0 0) 77 42 (m 79 0)) 79 0 0) y 0 (-1)) rfl rfl (by decide) rfl rfl (Nat.le_of_ble_eq_true rfl) (Nat.le_of_ble_eq_true rfl) (Nat.le_of_ble_eq_true rfl) (Or.inl (fun r h' e => by obtain ⟨rfl, rfl⟩ := e; rfl)) (fun r h' e => ?_)
  obtain ⟨rfl, rfl⟩ := e
  show qJ YX12_spelling κ _ (qLy u, (q_up (q_up (q_up (q_up (q_up m 77 0 0) 77 42 (m 79 0)) 79 0 0) 80 0 0) 81 0 (-1)), y) 0 0 28 [some (qR 77), none, none] []
  refine qJ.run hκ 2 (pc' := 30) (ls' := [some (qR 77), none, none]) (st' := [qI 0, qR 77]) rfl ?_
  refine qJ.putI hκ rfl rfl rfl rfl (Or.inl rfl) ?_
  show qJ YX12_spelling κ _ (qLy u, (q_up (q_up (q_up (q_up (q_up (q_up m 77 0 0) 77 42 (m 79 0)) 79 0 0) 80 0 0) 81 0 (-1)) 77 41 0), y) 0 0 33 [some (qR 77), none, none] []
  refine qJ.run hκ 2 (pc' := 35) (ls' := [some (qR 77), none, none]) (st' := [qI (-1), qR 77]) rfl ?_
  refine qJ.putI hκ rfl rfl rfl rfl (Or.inl rfl) ?_
  show qJ YX12_spelling κ _ (qLy u, (q_up (q_up (q_up (q_up (q_up (q_up (q_up m 77 0 0) 77 42 (m 79 0)) 79 0 0) 80 0 0) 81 0 (-1)) 77 41 0) 77 47 (-1)), y) 0 0 38 [some (qR 77), none, none] []
  refine qJ.run hκ 2 (pc' := 40) (ls' := [some (qR 77), none, none]) (st' := [qI 0, qR 77]) rfl ?_
  refine qJ.putI hκ rfl rfl rfl rfl (Or.inl rfl) ?_
  show qJ YX12_spelling κ _ (qLy u, (q_up (q_up (q_up (q_up (q_up (q_up (q_up (q_up m 77 0 0) 77 42 (m 79 0)) 79 0 0) 80 0 0) 81 0 (-1)) 77 41 0) 77 47 (-1)) 77 48 0), y) 0 0 43 [some (qR 77), none, none] []
  refine qJ.run hκ 2 (pc' := 45) (ls' := [some (qR 77), none, none]) (st' := [qI 0, qR 77]) rfl ?_
  refine qJ.putI hκ rfl rfl rfl rfl (Or.inl rfl) ?_
  show qJ YX12_spelling κ _ (qLy u, (q_up (q_up (q_up (q_up (q_up (q_up (q_up (q_up (q_up m 77 0 0) 77 42 (m 79 0)) 79 0 0) 80 0 0) 81 0 (-1)) 77 41 0) 77 47 (-1)) 77 48 0) 77 50 0), y) 0 0 48 [some (qR 77), none, none] []
  refine qJ.run hκ 2 (pc' := 50) (ls' := [some (qR 77), some (qI 1), none]) (st' := []) rfl ?_
  have KC : keep (kN kMf) (q_up (q_up (q_up (q_up (q_up (q_up (q_up (q_up (q_up m 77 0 0) 77 42 (m 79 0)) 79 0 0) 80 0 0) 81 0 (-1)) 77 41 0) 77 47 (-1)) 77 48 0) 77 50 0) = keep (kN kMf) m := (Eq.trans (keep_up (by rfl)) (Eq.trans (keep_up (by rfl)) (Eq.trans (keep_up (by rfl)) (Eq.trans (keep_up (by rfl)) (Eq.trans (keep_up (by rfl)) (Eq.trans (keep_up (by rfl)) (Eq.trans (keep_up (by rfl)) (Eq.trans (keep_up (by rfl)) (Eq.trans (keep_up (by rfl)) rfl)))))))))
  refine qJ.run hκ 1 (pc' := 51) (ls' := [some (qR 77), some (qI 1), none]) (st' := [qR 77]) rfl ?_
  refine qJ.callV (As := []) (rest := []) hκ rfl kX12_298 (m_token u (q_up (q_up (q_up (q_up (q_up (q_up (q_up (q_up (q_up m 77 0 0) 77 42 (m 79 0)) 79 0 0) 80 0 0) 81 0 (-1)) 77 41 0) 77 47 (-1)) 77 48 0) 77 50 0) y hb (show 0 ≤ m 79 0 ∧ m 79 0 ≤ 400 from hL) (show (0 : Int) ≤ 0 ∧ 0 ≤ m 79 0 from ⟨Int.le_refl 0, hL.1⟩)) rfl rfl (by decide) rfl rfl (Nat.le_of_ble_eq_true rfl) (Nat.le_of_ble_eq_true rfl) (Nat.le_of_ble_eq_true rfl) (Or.inl (fun r h' e => by obtain ⟨rfl, rfl⟩ := e; rfl)) (fun r h' e => ?_)
  obtain ⟨rfl, rfl⟩ := e
  show qJ YX12_spelling κ _ (qLy u, (TKm (m 78) (m 79 0) (q_up (q_up (q_up (q_up (q_up (q_up (q_up (q_up (q_up m 77 0 0) 77 42 (m 79 0)) 79 0 0) 80 0 0) 81 0 (-1)) 77 41 0) 77 47 (-1)) 77 48 0) 77 50 0) 0), (q_up y 77 46 (tW (m 78) (m 79 0) 0))) 0 0 54 [some (qR 77), some (qI 1), none] []
  exact L54 404 1 0 (TKm (m 78) (m 79 0) (q_up (q_up (q_up (q_up (q_up (q_up (q_up (q_up (q_up m 77 0 0) 77 42 (m 79 0)) 79 0 0) 80 0 0) 81 0 (-1)) 77 41 0) 77 47 (-1)) 77 48 0) 77 50 0) 0) (q_up y 77 46 (tW (m 78) (m 79 0) 0)) (by omega) ((Eq.trans (keep_up (by rfl)) (Eq.trans (keep_up (by rfl)) (Eq.trans (keep_up (by rfl)) (Eq.trans (keep_up (by rfl)) KC))))) (Or.inl ⟨rfl, ⟨⟨rfl, rfl, rfl, rfl, rfl⟩, ⟨rfl, rfl⟩, ⟨Int.le_refl 0, hL.1⟩, hL, hb⟩, rfl, ⟨rfl, fun z => absurd rfl z⟩, fun j hj => absurd hj (Nat.not_lt_zero j), Int.le_refl 0, fun l hl => absurd hl (Nat.not_lt_zero l)⟩) (⟨rfl, rfl, rfl⟩) (by omega)

/-! printed by p56.py: names that are seen, that are spelled; the model says spelled -/
theorem nN_o {m m' : qM} (h : keep kObs m' = keep kObs m) : nN m' = nN m := by
  show nN (keep kObs m') = nN (keep kObs m)
  rw [h]
theorem pV_o {m m' : qM} (h : keep kObs m' = keep kObs m) : pV m' = pV m := by
  show pV (keep kObs m') = pV (keep kObs m)
  rw [h]
theorem ansSpd_o {m m' : qM} (h : keep kObs m' = keep kObs m) (a k : Int) : ansSpd m' a k = ansSpd m a k := by
  have e : m' 17 = m 17 := congrFun h 17
  unfold ansSpd sv vL vN
  rw [nN_o h, pV_o h, e]
theorem nN_in {m : qM} (h : rXn m) {a : Int} (h0 : 0 ≤ a) (h1 : a < m 15 0) : m 18 a.toNat ≤ gHz m ↔ a < (nN m : Int) := by
  have := q_pfx_iff (z := gHz m) (h.2.2) (k := a.toNat) (by omega)
  unfold nN
  omega

set_option maxRecDepth 100000 in
theorem m_isName (u : qU) (m y : qM) (a : Int) (hX : rXn m) (hd8 : rA m) (h1 : qr a) : qCt YX12_isName 2 0 0 [qR 77, qI a] (qLy u, m, y) (fun r h => ∃ z : Int, r = some (qI z) ∧ (z = 1 ∧ (0 ≤ a ∧ a < (nN m : Int)) ∨ z = 0 ∧ ¬ (0 ≤ a ∧ a < (nN m : Int))) ∧ h = (qLy u, m, y)) := by
  refine qCt.intro okX12_isName (Nat.le_of_ble_eq_true rfl) (fun κ hκ => ?_)
  have hd9 := hd8
  obtain ⟨-, ⟨a3, a4, a5⟩, -, ⟨a6, a7, a8⟩⟩ := hd9
  have hV : qr (m 83 0) := by rw [a7]; omega
  have zr := gHz_r hd8
  have n0 := hX.1.1
  have n1 := hX.1.2
  have nl := nN_le hX
  show qJ YX12_isName κ _ (qLy u, m, y) 0 0 0 [some (qR 77), some (qI a)] []
  refine qJ.run hκ 5 (pc' := 7) (ls' := [some (qR 77), some (qI a)]) (st' := [qI 0, qR 101, qI 0, qI a]) rfl ?_
  refine qJ.ald hκ rfl rfl rfl (by decide) (by omega) ?_
  show qJ YX12_isName κ _ (qLy u, m, y) 0 0 8 [some (qR 77), some (qI a)] [qI (m 101 0), qI 0, qI a]
  refine qJ.run hκ 2 (pc' := 10) (ls' := [some (qR 77), some (qI a)]) (st' := [qI ((m 101 0) - 1), qI 0, qI a]) rfl ?_
  refine qJ.callS (As := [qI a, qI 0, qI ((m 101 0) - 1)]) (rest := []) hκ rfl kX12_167 (c_in u m y a 0 ((m 101 0) - 1) (by omega) (by omega) (by omega)) (by decide) rfl rfl (Nat.le_of_ble_eq_true rfl) (Nat.le_of_ble_eq_true rfl) (Nat.le_of_ble_eq_true rfl) (Or.inl (fun r h' e => by obtain ⟨z10, rfl, hz10, rfl⟩ := e; rfl)) (fun r h' e => ?_)
  obtain ⟨z10, rfl, hz10, rfl⟩ := e
  show qJ YX12_isName κ _ (qLy u, m, y) 0 0 13 [some (qR 77), some (qI a)] [qI z10]
  refine qJ.if_eq hκ (tgt := 33) rfl rfl (by omega) (fun c13 => ?_) (fun c13 => ?_)
  · show qJ YX12_isName κ _ (qLy u, m, y) 0 0 33 [some (qR 77), some (qI a)] []
    refine qJ.run hκ 1 (pc' := 34) (ls' := [some (qR 77), some (qI a)]) (st' := [qI 0]) rfl ?_
    exact qJ.bret hκ rfl rfl (by omega) (by decide) (by decide) (⟨_, rfl, by omega, rfl⟩)
  · show qJ YX12_isName κ _ (qLy u, m, y) 0 0 16 [some (qR 77), some (qI a)] []
    have e0 := hX.2.1 a (by omega) (by omega)
    have ni := nN_in hX (a := a) (by omega) (by omega)
    refine qJ.run hκ 3 (pc' := 21) (ls' := [some (qR 77), some (qI a)]) (st' := [qI a, qR 103]) rfl ?_
    refine qJ.ald hκ rfl rfl rfl (by decide) (by omega) ?_
    show qJ YX12_isName κ _ (qLy u, m, y) 0 0 22 [some (qR 77), some (qI a)] [qI (m 103 a.toNat)]
    refine qJ.run hκ 1 (pc' := 23) (ls' := [some (qR 77), some (qI a)]) (st' := [qR 77, qI (m 103 a.toNat)]) rfl ?_
    refine qJ.callV (As := []) (rest := [qI (m 103 a.toNat)]) hκ rfl kX12_175 (c_viewDay u m y hV) rfl rfl (by decide) rfl rfl (Nat.le_of_ble_eq_true rfl) (Nat.le_of_ble_eq_true rfl) (Nat.le_of_ble_eq_true rfl) (Or.inl (fun r h' e => by obtain ⟨rfl, rfl⟩ := e; rfl)) (fun r h' e => ?_)
    obtain ⟨rfl, rfl⟩ := e
    rw [hz_eq hd8]
    show qJ YX12_isName κ _ (qLy u, m, y) 0 0 26 [some (qR 77), some (qI a)] [qI (gHz m), qI (m 103 a.toNat)]
    refine qJ.icmp_gt hκ (tgt := 33) rfl rfl (by omega) (by omega) (fun c26 => ?_) (fun c26 => ?_)
    · show qJ YX12_isName κ _ (qLy u, m, y) 0 0 33 [some (qR 77), some (qI a)] []
      refine qJ.run hκ 1 (pc' := 34) (ls' := [some (qR 77), some (qI a)]) (st' := [qI 0]) rfl ?_
      exact qJ.bret hκ rfl rfl (by omega) (by decide) (by decide) (⟨_, rfl, by omega, rfl⟩)
    · show qJ YX12_isName κ _ (qLy u, m, y) 0 0 29 [some (qR 77), some (qI a)] []
      refine qJ.run hκ 2 (pc' := 34) (ls' := [some (qR 77), some (qI a)]) (st' := [qI 1]) rfl ?_
      exact qJ.bret hκ rfl rfl (by omega) (by decide) (by decide) (⟨_, rfl, by omega, rfl⟩)

/-- a name that is seen and spelled in one to five values -/
def isSp (m : qM) (a : Int) : Prop := (0 ≤ a ∧ a < (nN m : Int)) ∧ 1 ≤ vL m a ∧ vL m a ≤ 5
/-- what isSpelled leaves in the rows of values -/
def STn (m : qM) (f0 g0 f g : Nat → Int) (a : Int) : Prop := ((0 ≤ a ∧ a < (nN m : Int)) → STm m f0 g0 f g a (m 17 a.toNat)) ∧ (¬ (0 ≤ a ∧ a < (nN m : Int)) → f = f0 ∧ g = g0)

set_option maxRecDepth 100000 in
theorem m_isSpelled (u : qU) (m y : qM) (a : Int) (hX : rXn m) (hl : rXl m) (hd8 : rA m) (h1 : qr a) : qCt YX12_isSpelled 4 0 0 [qR 77, qI a] (qLy u, m, y) (fun r h => ∃ z : Int, r = some (qI z) ∧ (z = 1 ∧ isSp m a ∨ z = 0 ∧ ¬ isSp m a) ∧ ∃ f g, h = (qLy u, q_row (q_row m 117 f) 118 g, y) ∧ STn m (m 117) (m 118) f g a) := by
  refine qCt.intro okX12_isSpelled (Nat.le_of_ble_eq_true rfl) (fun κ hκ => ?_)
  have hd9 := hd8
  obtain ⟨-, ⟨a3, a4, a5⟩, -, ⟨a6, a7, a8⟩⟩ := hd9
  have hV : qr (m 83 0) := by rw [a7]; omega
  have zr := gHz_r hd8
  have n0 := hX.1.1
  have n1 := hX.1.2
  have nl := nN_le hX
  show qJ YX12_isSpelled κ _ (qLy u, m, y) 0 0 0 [some (qR 77), some (qI a)] []
  refine qJ.run hκ 2 (pc' := 2) (ls' := [some (qR 77), some (qI a)]) (st' := [qI a, qR 77]) rfl ?_
  refine qJ.callV (As := [qI a]) (rest := []) hκ rfl kX12_352 (m_isName u m y a (show rXn m from hX) (show rA m from hd8) (by omega)) rfl rfl (by decide) rfl rfl (Nat.le_of_ble_eq_true rfl) (Nat.le_of_ble_eq_true rfl) (Nat.le_of_ble_eq_true rfl) (Or.inl (fun r h' e => by obtain ⟨z2, rfl, hz2, rfl⟩ := e; rfl)) (fun r h' e => ?_)
  obtain ⟨z2, rfl, hz2, rfl⟩ := e
  show qJ YX12_isSpelled κ _ (qLy u, m, y) 0 0 5 [some (qR 77), some (qI a)] [qI z2]
  refine qJ.if_ne hκ (tgt := 10) rfl rfl (by omega) (fun c5 => ?_) (fun c5 => ?_)
  · show qJ YX12_isSpelled κ _ (qLy u, m, y) 0 0 10 [some (qR 77), some (qI a)] []
    refine qJ.run hκ 2 (pc' := 12) (ls' := [some (qR 77), some (qI a)]) (st' := [qI a, qR 77]) rfl ?_
    refine qJ.callV (As := [qI a]) (rest := []) hκ rfl kX12_355 (m_spell u m y a hX hl (by omega)) rfl rfl (by decide) rfl rfl (Nat.le_of_ble_eq_true rfl) (Nat.le_of_ble_eq_true rfl) (Nat.le_of_ble_eq_true rfl) (Or.inl (fun r h' e => by obtain ⟨rfl, f, g, rfl, hST⟩ := e; rfl)) (fun r h' e => ?_)
    obtain ⟨rfl, f, g, rfl, hST⟩ := e
    have ga : g a.toNat = (vL m a : Nat) := hST.2.2.1
    have vl : vL m a ≤ (m 17 a.toNat).toNat := vN_le m a _
    have e0 := (hX.2.1 a (by omega) (by omega)).2.1
    show qJ YX12_isSpelled κ _ (qLy u, (q_row (q_row m 117 f) 118 g), y) 0 0 15 [some (qR 77), some (qI a)] []
    refine qJ.run hκ 3 (pc' := 20) (ls' := [some (qR 77), some (qI a)]) (st' := [qI a, qR 118]) rfl ?_
    refine qJ.ald hκ rfl rfl rfl (by decide) (by omega) ?_
    show qJ YX12_isSpelled κ _ (qLy u, (q_row (q_row m 117 f) 118 g), y) 0 0 21 [some (qR 77), some (qI a)] [qI (g a.toNat)]
    refine qJ.run hκ 2 (pc' := 23) (ls' := [some (qR 77), some (qI a)]) (st' := [qI 5, qI 1, qI (g a.toNat)]) rfl ?_
    refine qJ.callS (As := [qI (g a.toNat), qI 1, qI 5]) (rest := []) hκ rfl kX12_167 (c_in u (q_row (q_row m 117 f) 118 g) y (g a.toNat) 1 5 (by omega) (by omega) (by omega)) (by decide) rfl rfl (Nat.le_of_ble_eq_true rfl) (Nat.le_of_ble_eq_true rfl) (Nat.le_of_ble_eq_true rfl) (Or.inl (fun r h' e => by obtain ⟨z23, rfl, hz23, rfl⟩ := e; rfl)) (fun r h' e => ?_)
    obtain ⟨z23, rfl, hz23, rfl⟩ := e
    show qJ YX12_isSpelled κ _ (qLy u, (q_row (q_row m 117 f) 118 g), y) 0 0 26 [some (qR 77), some (qI a)] [qI z23]
    exact qJ.bret hκ rfl rfl (by omega) (by decide) (by decide) (⟨_, rfl, by unfold isSp; omega, f, g, rfl, fun _ => hST, fun z => by omega⟩)
  · show qJ YX12_isSpelled κ _ (qLy u, m, y) 0 0 8 [some (qR 77), some (qI a)] []
    refine qJ.run hκ 1 (pc' := 9) (ls' := [some (qR 77), some (qI a)]) (st' := [qI 0]) rfl ?_
    exact qJ.bret hκ rfl rfl (by omega) (by decide) (by decide) (⟨0, rfl, Or.inr ⟨rfl, fun z => by have := z.1; omega⟩, m 117, m 118, by rw [q_row_self, q_row_self], fun z => by omega, fun _ => ⟨rfl, rfl⟩⟩)

set_option maxRecDepth 100000 in
theorem b_spelled (u : qU) (m y : qM) (a k : Int) (hX : rXn m) (hl : rXl m) (hd8 : rA m) (h1 : qr a) (h2 : qr k) {κ : qK} (hκ : qCx YX12_spelled 5 0 0 κ) : qJ YX12_spelled κ (qFin (fun r h => ∃ m', r = some (qI (ansSpd m a k)) ∧ h = (qLy u, m', y) ∧ keep kObs m' = keep kObs m) 0 0 κ) (qLy u, m, y) 0 0 5 [some (qR 77), some (qI a), some (qI k)] [] := by
  have hd9 := hd8
  obtain ⟨-, ⟨a3, a4, a5⟩, -, ⟨a6, a7, a8⟩⟩ := hd9
  have hV : qr (m 83 0) := by rw [a7]; omega
  have zr := gHz_r hd8
  have n0 := hX.1.1
  have n1 := hX.1.2
  have nl := nN_le hX
  refine qJ.run hκ 2 (pc' := 7) (ls' := [some (qR 77), some (qI a), some (qI k)]) (st' := [qI a, qR 77]) rfl ?_
  refine qJ.callV (As := [qI a]) (rest := []) hκ rfl kX12_358 (m_isSpelled u m y a hX hl hd8 (by omega)) rfl rfl (by decide) rfl rfl (Nat.le_of_ble_eq_true rfl) (Nat.le_of_ble_eq_true rfl) (Nat.le_of_ble_eq_true rfl) (Or.inl (fun r h' e => by obtain ⟨z7, rfl, hz7, f, g, rfl, hST⟩ := e; rfl)) (fun r h' e => ?_)
  obtain ⟨z7, rfl, hz7, f, g, rfl, hST⟩ := e
  show qJ YX12_spelled κ _ (qLy u, (q_row (q_row m 117 f) 118 g), y) 0 0 10 [some (qR 77), some (qI a), some (qI k)] [qI z7]
  refine qJ.if_eq hκ (tgt := 43) rfl rfl (by omega) (fun c10 => ?_) (fun c10 => ?_)
  · show qJ YX12_spelled κ _ (qLy u, (q_row (q_row m 117 f) 118 g), y) 0 0 43 [some (qR 77), some (qI a), some (qI k)] []
    refine qJ.run hκ 1 (pc' := 44) (ls' := [some (qR 77), some (qI a), some (qI k)]) (st' := [qI (-1)]) rfl ?_
    exact qJ.iret hκ rfl rfl (by decide) (by decide) (⟨_, by unfold ansSpd; rw [if_neg (fun z => by rcases hz7 with q | q; omega; exact q.2 ⟨z.1, by omega, z.2.1⟩)], rfl, (Eq.trans (keep_row (by intro j; rfl)) (Eq.trans (keep_row (by intro j; rfl)) rfl))⟩)
  · show qJ YX12_spelled κ _ (qLy u, (q_row (q_row m 117 f) 118 g), y) 0 0 13 [some (qR 77), some (qI a), some (qI k)] []
    have sp : isSp m a := by rcases hz7 with q | q; exact q.2; omega
    have st := hST.1 sp.1
    have ga : g a.toNat = (vL m a : Nat) := st.2.2.1
    have sp2 := sp.2
    have sp1 := sp.1
    refine qJ.run hκ 5 (pc' := 20) (ls' := [some (qR 77), some (qI a), some (qI k)]) (st' := [qI a, qR 118, qI 0, qI k]) rfl ?_
    refine qJ.ald hκ rfl rfl rfl (by decide) (by omega) ?_
    show qJ YX12_spelled κ _ (qLy u, (q_row (q_row m 117 f) 118 g), y) 0 0 21 [some (qR 77), some (qI a), some (qI k)] [qI (g a.toNat), qI 0, qI k]
    refine qJ.run hκ 2 (pc' := 23) (ls' := [some (qR 77), some (qI a), some (qI k)]) (st' := [qI ((g a.toNat) - 1), qI 0, qI k]) rfl ?_
    refine qJ.callS (As := [qI k, qI 0, qI ((g a.toNat) - 1)]) (rest := []) hκ rfl kX12_167 (c_in u (q_row (q_row m 117 f) 118 g) y k 0 ((g a.toNat) - 1) (by omega) (by omega) (by omega)) (by decide) rfl rfl (Nat.le_of_ble_eq_true rfl) (Nat.le_of_ble_eq_true rfl) (Nat.le_of_ble_eq_true rfl) (Or.inl (fun r h' e => by obtain ⟨z23, rfl, hz23, rfl⟩ := e; rfl)) (fun r h' e => ?_)
    obtain ⟨z23, rfl, hz23, rfl⟩ := e
    show qJ YX12_spelled κ _ (qLy u, (q_row (q_row m 117 f) 118 g), y) 0 0 26 [some (qR 77), some (qI a), some (qI k)] [qI z23]
    refine qJ.if_eq hκ (tgt := 43) rfl rfl (by omega) (fun c26 => ?_) (fun c26 => ?_)
    · show qJ YX12_spelled κ _ (qLy u, (q_row (q_row m 117 f) 118 g), y) 0 0 43 [some (qR 77), some (qI a), some (qI k)] []
      refine qJ.run hκ 1 (pc' := 44) (ls' := [some (qR 77), some (qI a), some (qI k)]) (st' := [qI (-1)]) rfl ?_
      exact qJ.iret hκ rfl rfl (by decide) (by decide) (⟨_, by unfold ansSpd; rw [if_neg (fun z => by rcases hz7 with q | q; omega; exact q.2 ⟨z.1, by omega, z.2.1⟩)], rfl, (Eq.trans (keep_row (by intro j; rfl)) (Eq.trans (keep_row (by intro j; rfl)) rfl))⟩)
    · show qJ YX12_spelled κ _ (qLy u, (q_row (q_row m 117 f) 118 g), y) 0 0 29 [some (qR 77), some (qI a), some (qI k)] []
      refine qJ.run hκ 7 (pc' := 39) (ls' := [some (qR 77), some (qI a), some (qI k)]) (st' := [qI ((10 * a) + k), qR 117]) rfl ?_
      refine qJ.ald hκ rfl rfl rfl (by decide) (by omega) ?_
      show qJ YX12_spelled κ _ (qLy u, (q_row (q_row m 117 f) 118 g), y) 0 0 40 [some (qR 77), some (qI a), some (qI k)] [qI (f (((10 * a) + k).toNat))]
      refine qJ.run hκ 1 (pc' := 44) (ls' := [some (qR 77), some (qI a), some (qI k)]) (st' := [qI (f (((10 * a) + k).toNat))]) rfl ?_
      exact qJ.iret hκ rfl rfl (by decide) (by decide) (⟨_, by unfold ansSpd; rw [if_pos ⟨sp1, by omega, by omega, by omega⟩, ← SP_sv st.2.2.2 (by omega) (by omega)]; congr 3; omega, rfl, (Eq.trans (keep_row (by intro j; rfl)) (Eq.trans (keep_row (by intro j; rfl)) rfl))⟩)
set_option maxRecDepth 100000 in
theorem w_spelled (u : qU) (m y : qM) (a k : Int) (hX : rXn m) (hl : rXl m) (hd8 : rA m) (h1 : qr a) (h2 : qr k) : qCt YX12_spelled 5 0 0 [qR 77, qI a, qI k] (qLy u, m, y) (fun r h => ∃ m', r = some (qI (ansSpd (q_up m 77 0 0) a k)) ∧ h = (qLy u, m', y) ∧ keep kObs m' = keep kObs (q_up m 77 0 0)) := by
  refine qCt.intro okX12_spelled (Nat.le_of_ble_eq_true rfl) (fun κ hκ => ?_)
  show qJ YX12_spelled κ _ (qLy u, m, y) 0 0 0 [some (qR 77), some (qI a), some (qI k)] []
  refine qJ.run hκ 2 (pc' := 2) (ls' := [some (qR 77), some (qI a), some (qI k)]) (st' := [qI 0, qR 77]) rfl ?_
  refine qJ.putI hκ rfl rfl rfl rfl (Or.inl rfl) ?_
  show qJ YX12_spelled κ _ (qLy u, (q_up m 77 0 0), y) 0 0 5 [some (qR 77), some (qI a), some (qI k)] []
  exact b_spelled u (q_up m 77 0 0) y a k (show rXn (q_up m 77 0 0) from hX) (show rXl (q_up m 77 0 0) from hl) (show rA (q_up m 77 0 0) from hd8) h1 h2 hκ
theorem m_spelled (u : qU) (m y : qM) (a k : Int) (hX : rXn m) (hl : rXl m) (hd8 : rA m) (h1 : qr a) (h2 : qr k) : qCt YX12_spelled 5 0 0 [qR 77, qI a, qI k] (qLy u, m, y) (fun r h => ∃ m', r = some (qI (ansSpd m a k)) ∧ h = (qLy u, m', y) ∧ keep kObs m' = keep kObs m) := by
  refine (w_spelled u m y a k hX hl hd8 h1 h2).weak ?_
  rintro r h ⟨m', e1, e2, e3⟩
  exact ⟨m', by rw [e1, ansSpd_o (keep_up (by rfl))], e2, e3.trans (keep_up (by rfl))⟩

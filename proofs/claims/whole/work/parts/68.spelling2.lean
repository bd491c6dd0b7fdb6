/-! printed by p68.py: spelling of the class, the walk -/
def kSf : Nat → Nat → Bool := fun i j => decide ((i = 1 ∧ 4 ≤ j ∧ j ≤ 6) ∨ (49 ≤ i ∧ i ≤ 52))
def kSg : Nat → Nat → Bool := fun i j => decide ((i = 1 ∧ 4 ≤ j ∧ j ≤ 6) ∨ (49 ≤ i ∧ i ≤ 52) ∨ (i = 0 ∧ 10 ≤ j ∧ j ≤ 14) ∨ (i = 15 ∧ j = 4) ∨ i = 19 ∨ i = 20)
theorem kSfx : ∀ i j, kN kSf i j = true → kN kTx i j = true := by
  intro i j h
  have h1 := kN_t.mp h
  refine kN_t.mpr fun z => h1 ?_
  unfold kTx at z
  unfold kSf
  have z2 := of_decide_eq_true z
  exact decide_eq_true (by omega)
theorem kSgx : ∀ i j, kN kSg i j = true → kN kTx i j = true := by
  intro i j h
  have h1 := kN_t.mp h
  refine kN_t.mpr fun z => h1 ?_
  unfold kTx at z
  unfold kSg
  have z2 := of_decide_eq_true z
  exact decide_eq_true (by omega)
theorem fF_r {t : Nat → Int} {L : Int} {f g : Nat → Int} {m : qM} {i : Nat} (hL : L ≤ 400) (h : (rRun t L f g m i ∧ tK t L (lnP t L i) = 0) ∨ rStk t L m i) : qr (m 49 8) ∧ (0 ≤ fF m ∧ fF m ≤ 3) ∧ (fF m = 0 → rRun t L f g m i ∧ tK t L (lnP t L i) = 0) := by
  rcases h with ⟨a, b⟩ | a
  · have e : m 49 8 = -1 := a.1.2.1.1
    have e2 : fF m = m 49 9 := by unfold fF; rw [if_neg (fun z => z e)]
    have := mu9_r t L i
    rw [← a.2.2.1.1] at this
    exact ⟨by omega, by omega, fun _ => ⟨a, b⟩⟩
  · obtain ⟨a1, a2, a3, a4, a5⟩ := a
    have e : ¬ m 49 8 = -1 := by rw [a4]; exact a3
    have e2 : fF m = 1 := by unfold fF; rw [if_pos e]
    have := lnX_r (t := t) a5.1 a5.2
    exact ⟨by omega, by omega, fun z => by omega⟩

set_option maxRecDepth 100000 in
theorem x_spelling (u : qU) (m y : qM) (hT : rTp m) : qCt YX11_spelling 9 0 0 [qR 0] (qLy u, m, y) (fun r h => ∃ m' i fa fp, r = some (qI (if fa = 0 then ((i : Nat) : Int) else -1)) ∧ h = (qLy u, m', y) ∧ rOut (m 21) (m 1 4) i fa fp ∧ (m' 1 4 = 0 ∧ m' 1 5 = fa ∧ m' 1 6 = fp) ∧ ((¬ fa = 0 ∧ keep (kN kSf) m' = keep (kN kSf) m) ∨ (fa = 0 ∧ keep (kN kSg) m' = keep (kN kSg) m ∧ m' 15 4 = (i : Int) ∧ (m' 0 10 = 1 ∧ m' 0 11 = 1 ∧ m' 0 12 = 1 ∧ m' 0 13 = 1 ∧ m' 0 14 = 1) ∧ ∀ j : Nat, j < 18 → m' 19 j = (rw5 (m 21) (m 1 4) (rF (m 50)) (rF (m 51)) i).1 j ∧ m' 20 j = (rw5 (m 21) (m 1 4) (rF (m 50)) (rF (m 51)) i).2 j))) := by
  refine qCt.intro okX11_spelling (Nat.le_of_ble_eq_true rfl) (fun κ hκ => ?_)
  show qJ YX11_spelling κ _ (qLy u, m, y) 0 0 0 [some (qR 0), none] []
  refine qJ.run hκ 2 (pc' := 4) (ls' := [some (qR 0), none]) (st' := [qR 1]) rfl ?_
  refine qJ.callV (As := []) (rest := []) hκ rfl kX11_279 (c_takeTape u m y) rfl rfl (by decide) rfl rfl (Nat.le_of_ble_eq_true rfl) (Nat.le_of_ble_eq_true rfl) (Nat.le_of_ble_eq_true rfl) (Or.inl (fun r h' e => by obtain ⟨rfl, rfl⟩ := e; rfl)) (fun r h' e => ?_)
  obtain ⟨rfl, rfl⟩ := e
  show qJ YX11_spelling κ _ (qLy u, (q_up m 1 4 0), y) 0 0 7 [some (qR 0), none] [qI (m 1 4)]
  refine qJ.run hκ 7 (pc' := 20) (ls' := [some (qR 0), some (qI (m 1 4))]) (st' := [qI (m 1 4), qR 21, qR 49]) rfl ?_
  refine qJ.callV (As := [qR 21, qI (m 1 4)]) (rest := []) hκ rfl kX11_306 (c_text u (q_up m 1 4 0) y (m 1 4) hT.1.1 (fun j hj => (hT.2.1 j hj).2)) rfl rfl (by decide) rfl rfl (Nat.le_of_ble_eq_true rfl) (Nat.le_of_ble_eq_true rfl) (Nat.le_of_ble_eq_true rfl) (Or.inl (fun r h' e => by obtain ⟨rfl, m7, i, rfl, KX, HT0⟩ := e; rfl)) (fun r h' e => ?_)
  obtain ⟨rfl, m7, i, rfl, KX, HT0⟩ := e
  have HT : (rRun (m 21) (m 1 4) (rF (m 50)) (rF (m 51)) m7 i ∧ tK (m 21) (m 1 4) (lnP (m 21) (m 1 4) i) = 0) ∨ rStk (m 21) (m 1 4) m7 i := HT0
  have fr := fF_r hT.1.1.2 HT
  have OU := rOut_of HT
  have k14 : m7 1 4 = 0 := congrFun (congrFun KX 1) 4
  have KX2 : keep (kN kTx) m7 = keep (kN kTx) (q_up m 1 4 0) := KX
  show qJ YX11_spelling κ _ (qLy u, m7, y) 0 0 23 [some (qR 0), some (qI (m 1 4))] []
  refine qJ.run hκ 4 (pc' := 31) (ls' := [some (qR 0), some (qI (m 1 4))]) (st' := [qR 49, qR 1]) rfl ?_
  refine qJ.callV (As := []) (rest := [qR 1]) hκ rfl kX11_310 (c_ff u m7 y fr.1) rfl rfl (by decide) rfl rfl (Nat.le_of_ble_eq_true rfl) (Nat.le_of_ble_eq_true rfl) (Nat.le_of_ble_eq_true rfl) (Or.inl (fun r h' e => by obtain ⟨rfl, rfl⟩ := e; rfl)) (fun r h' e => ?_)
  obtain ⟨rfl, rfl⟩ := e
  show qJ YX11_spelling κ _ (qLy u, m7, y) 0 0 34 [some (qR 0), some (qI (m 1 4))] [qI (fF m7), qR 1]
  refine qJ.run hκ 2 (pc' := 38) (ls' := [some (qR 0), some (qI (m 1 4))]) (st' := [qR 49, qI (fF m7), qR 1]) rfl ?_
  refine qJ.callV (As := []) (rest := [qI (fF m7), qR 1]) hκ rfl kX11_313 (c_fp u m7 y fr.1) rfl rfl (by decide) rfl rfl (Nat.le_of_ble_eq_true rfl) (Nat.le_of_ble_eq_true rfl) (Nat.le_of_ble_eq_true rfl) (Or.inl (fun r h' e => by obtain ⟨rfl, rfl⟩ := e; rfl)) (fun r h' e => ?_)
  obtain ⟨rfl, rfl⟩ := e
  show qJ YX11_spelling κ _ (qLy u, m7, y) 0 0 41 [some (qR 0), some (qI (m 1 4))] [qI (fPl m7), qI (fF m7), qR 1]
  refine qJ.callV (As := [qI (fF m7), qI (fPl m7)]) (rest := []) hκ rfl kX11_282 (c_setFault u m7 y (fF m7) (fPl m7)) rfl rfl (by decide) rfl rfl (Nat.le_of_ble_eq_true rfl) (Nat.le_of_ble_eq_true rfl) (Nat.le_of_ble_eq_true rfl) (Or.inl (fun r h' e => by obtain ⟨rfl, rfl⟩ := e; rfl)) (fun r h' e => ?_)
  obtain ⟨rfl, rfl⟩ := e
  show qJ YX11_spelling κ _ (qLy u, (q_up (q_up m7 1 5 (fF m7)) 1 6 (fPl m7)), y) 0 0 44 [some (qR 0), some (qI (m 1 4))] []
  refine qJ.run hκ 3 (pc' := 51) (ls' := [some (qR 0), some (qI (m 1 4))]) (st' := [qI (fF m7)]) rfl ?_
  refine qJ.if_eq hκ (tgt := 56) rfl rfl (by omega) (fun c51 => ?_) (fun c51 => ?_)
  · show qJ YX11_spelling κ _ (qLy u, (q_up (q_up m7 1 5 (fF m7)) 1 6 (fPl m7)), y) 0 0 56 [some (qR 0), some (qI (m 1 4))] []
    refine qJ.run hκ 1 (pc' := 57) (ls' := [some (qR 0), some (qI (m 1 4))]) (st' := [qR 0]) rfl ?_
    refine qJ.callV (As := []) (rest := []) hκ rfl kX11_107 (c_forget u (q_up (q_up m7 1 5 (fF m7)) 1 6 (fPl m7)) y) rfl rfl (by decide) rfl rfl (Nat.le_of_ble_eq_true rfl) (Nat.le_of_ble_eq_true rfl) (Nat.le_of_ble_eq_true rfl) (Or.inl (fun r h' e => by obtain ⟨rfl, rfl⟩ := e; rfl)) (fun r h' e => ?_)
    obtain ⟨rfl, rfl⟩ := e
    show qJ YX11_spelling κ _ (qLy u, (q_up (q_up (q_up (q_up (q_up (q_up (q_up m7 1 5 (fF m7)) 1 6 (fPl m7)) 0 10 1) 0 11 1) 0 12 1) 0 13 1) 0 14 1), y) 0 0 60 [some (qR 0), some (qI (m 1 4))] []
    refine qJ.run hκ 12 (pc' := 88) (ls' := [some (qR 0), some (qI (m 1 4))]) (st' := [qR 51, qR 50, qI (m7 49 0), qR 15]) rfl ?_
    refine qJ.callV (As := [qI (m7 49 0), qR 50, qR 51]) (rest := []) hκ rfl kX11_328 (c_setLines u (q_up (q_up (q_up (q_up (q_up (q_up (q_up m7 1 5 (fF m7)) 1 6 (fPl m7)) 0 10 1) 0 11 1) 0 12 1) 0 13 1) 0 14 1) y (m7 49 0)) rfl rfl (by decide) rfl rfl (Nat.le_of_ble_eq_true rfl) (Nat.le_of_ble_eq_true rfl) (Nat.le_of_ble_eq_true rfl) (Or.inl (fun r h' e => by obtain ⟨rfl, rfl⟩ := e; rfl)) (fun r h' e => ?_)
    obtain ⟨rfl, rfl⟩ := e
    show qJ YX11_spelling κ _ (qLy u, (q_cpy (q_cpy (q_up (q_up (q_up (q_up (q_up (q_up (q_up (q_up m7 1 5 (fF m7)) 1 6 (fPl m7)) 0 10 1) 0 11 1) 0 12 1) 0 13 1) 0 14 1) 15 4 (m7 49 0)) 50 0 19 0 18) 51 0 20 0 18), y) 0 0 91 [some (qR 0), some (qI (m 1 4))] []
    refine qJ.run hκ 4 (pc' := 101) (ls' := [some (qR 0), some (qI (m 1 4))]) (st' := [qI (m7 49 0)]) rfl ?_
    exact qJ.iret hκ rfl rfl (by decide) (by decide) (by
      have RU := (fr.2.2 c51).1
      refine ⟨_, i, fF m7, fPl m7, by rw [if_pos c51, ← RU.2.1], rfl, OU, ⟨k14, rfl, rfl⟩, Or.inr ⟨c51, (Eq.trans (keep_cp (by intro j; rfl)) (Eq.trans (keep_cp (by intro j; rfl)) (Eq.trans (keep_up (by rfl)) (Eq.trans (keep_up (by rfl)) (Eq.trans (keep_up (by rfl)) (Eq.trans (keep_up (by rfl)) (Eq.trans (keep_up (by rfl)) (Eq.trans (keep_up (by rfl)) (Eq.trans (keep_up (by rfl)) (Eq.trans (keep_up (by rfl)) (Eq.trans (keep_of kSgx KX2) (keep_up (by rfl))))))))))))), RU.2.1, ⟨rfl, rfl, rfl, rfl, rfl⟩, fun j hj => ⟨?_, ?_⟩⟩⟩
      · rw [← RU.2.2.2.1.1]
        show q_cpy _ 50 0 19 0 18 19 j = _
        rw [q_cpy_at, if_pos ⟨by omega, by omega⟩, Nat.zero_add, Nat.sub_zero]
        rfl
      · rw [← RU.2.2.2.1.2]
        show q_cpy _ 51 0 20 0 18 20 j = _
        rw [q_cpy_at, if_pos ⟨by omega, by omega⟩, Nat.zero_add, Nat.sub_zero]
        rfl)
  · show qJ YX11_spelling κ _ (qLy u, (q_up (q_up m7 1 5 (fF m7)) 1 6 (fPl m7)), y) 0 0 54 [some (qR 0), some (qI (m 1 4))] []
    refine qJ.run hκ 1 (pc' := 55) (ls' := [some (qR 0), some (qI (m 1 4))]) (st' := [qI (-1)]) rfl ?_
    exact qJ.iret hκ rfl rfl (by decide) (by decide) (⟨_, i, fF m7, fPl m7, by rw [if_neg c51], rfl, OU, ⟨k14, rfl, rfl⟩, Or.inl ⟨c51, (Eq.trans (keep_up (by rfl)) (Eq.trans (keep_up (by rfl)) (Eq.trans (keep_of kSfx KX2) (keep_up (by rfl)))))⟩⟩)

/-! printed by p28.py: the model, its grid -/
set_option maxRecDepth 100000 in
theorem c_latest (u : qU) (m y : qM) (hR : rC m) : qCt YX12_latest 2 0 0 [qR 77] (qLy u, m, y) (fun r h => r = some (qI ((nT m : Int) - 1)) ∧ h = (qLy u, m, y)) := by
  refine qCt.intro okX12_latest (Nat.le_of_ble_eq_true rfl) (fun κ hκ => ?_)
  have hR2 := hR
  obtain ⟨⟨⟨a0, a1, a2⟩, ⟨a3, a4, a5⟩, ⟨b0, b1, b2⟩, b3, b4, b5⟩, hW, hRW, hT, hRT, hS⟩ := hR2
  have hV : qr (m 83 0) := by omega
  have zr := gHz_r hR.1
  have ze := hz_eq hR.1
  have nWl := nW_le hR.1
  have nTl := nT_le hR.1
  have L9 : ∀ (n : Nat) (t : Int), (-1 ≤ t) → (t < m 2 2) → ((nT m : Int) ≤ t + 1) → ((t + 1).toNat) < n → qJ YX12_latest κ (qFin (fun r h => r = some (qI ((nT m : Int) - 1)) ∧ h = (qLy u, m, y)) 0 0 κ) (qLy u, m, y) 0 0 9 [some (qR 77), some (qI t)] [] := by
    intro n
    induction n with
    | zero => intro t _ _ _ hz0; omega
    | succ n ih9 =>
      intro t v9_0 v9_1 v9_2 v9_m
      refine qJ.run hκ 1 (pc' := 10) (ls' := [some (qR 77), some (qI t)]) (st' := [qI t]) rfl ?_
      refine qJ.if_lt hκ (tgt := 32) rfl rfl (by omega) (fun c10 => ?_) (fun c10 => ?_)
      · show qJ YX12_latest κ _ (qLy u, m, y) 0 0 32 [some (qR 77), some (qI t)] []
        refine qJ.run hκ 1 (pc' := 33) (ls' := [some (qR 77), some (qI t)]) (st' := [qI t]) rfl ?_
        exact qJ.iret hκ rfl rfl (by decide) (by decide) (by refine ⟨?_, rfl⟩; congr 2; omega)
      · show qJ YX12_latest κ _ (qLy u, m, y) 0 0 13 [some (qR 77), some (qI t)] []
        have ts := t_seen hR (t := t) (by omega) (by omega)
        have tr := hRT t (by omega) (by omega)
        refine qJ.run hκ 3 (pc' := 18) (ls' := [some (qR 77), some (qI t)]) (st' := [qI t, qR 95]) rfl ?_
        refine qJ.ald hκ rfl rfl rfl (by decide) (by omega) ?_
        show qJ YX12_latest κ _ (qLy u, m, y) 0 0 19 [some (qR 77), some (qI t)] [qI (m 95 t.toNat)]
        refine qJ.run hκ 1 (pc' := 20) (ls' := [some (qR 77), some (qI t)]) (st' := [qR 77, qI (m 95 t.toNat)]) rfl ?_
        refine qJ.callV (As := []) (rest := [qI (m 95 t.toNat)]) hκ rfl kX12_175 (c_viewDay u m y hV) rfl rfl (by decide) rfl rfl (Nat.le_of_ble_eq_true rfl) (Nat.le_of_ble_eq_true rfl) (Nat.le_of_ble_eq_true rfl) (Or.inl (fun r h' e => by obtain ⟨rfl, rfl⟩ := e; rfl)) (fun r h' e => ?_)
        obtain ⟨rfl, rfl⟩ := e
        show qJ YX12_latest κ _ (qLy u, m, y) 0 0 23 [some (qR 77), some (qI t)] [qI (hHz m), qI (m 95 t.toNat)]
        refine qJ.icmp_le hκ (tgt := 32) rfl rfl (by omega) (by omega) (fun c23 => ?_) (fun c23 => ?_)
        · show qJ YX12_latest κ _ (qLy u, m, y) 0 0 32 [some (qR 77), some (qI t)] []
          refine qJ.run hκ 1 (pc' := 33) (ls' := [some (qR 77), some (qI t)]) (st' := [qI t]) rfl ?_
          exact qJ.iret hκ rfl rfl (by decide) (by decide) (by refine ⟨?_, rfl⟩; congr 2; omega)
        · show qJ YX12_latest κ _ (qLy u, m, y) 0 0 26 [some (qR 77), some (qI t)] []
          refine qJ.run hκ 2 (pc' := 9) (ls' := [some (qR 77), some (qI (t + (-1)))]) (st' := []) rfl ?_
          exact ih9  (t + (-1)) (by omega) (by omega) (by omega) (by omega)
  show qJ YX12_latest κ _ (qLy u, m, y) 0 0 0 [some (qR 77), none] []
  refine qJ.run hκ 3 (pc' := 5) (ls' := [some (qR 77), none]) (st' := [qI 0, qR 92]) rfl ?_
  refine qJ.ald hκ rfl rfl rfl (by decide) (by omega) ?_
  show qJ YX12_latest κ _ (qLy u, m, y) 0 0 6 [some (qR 77), none] [qI (m 92 0)]
  refine qJ.run hκ 3 (pc' := 9) (ls' := [some (qR 77), some (qI ((m 92 0) - 1))]) (st' := []) rfl ?_
  exact L9 152 ((m 92 0) - 1) (by omega) (by omega) (by omega) (by omega)

/-- cases and words that are there, behind the first n tellings -/
def lkI (m : qM) (n : Nat) (a b : Nat → Int) : Prop := ∀ w : Nat, w < 60 → a w = kst m (fun _ => -1) n w ∧ b w = if w < fN m n then 1 else 0
theorem lkI_f {m : qM} {t : Int} {a b : Nat → Int} (hR : rC m) (h0 : 0 ≤ t ∧ t < m 2 2) (e : m 10 t.toNat = -1) (h : lkI m t.toNat a b) : lkI m (t + 1).toNat a (q_fu b (m 9 t.toNat).toNat 1) := by
  intro w hw
  obtain ⟨h1, h2⟩ := h w hw
  have tl := tl_at hR.2.2.2.1 (t := t.toNat) (by omega)
  have e9 := tl.2.2.1 e
  rw [show (t + 1).toNat = t.toNat + 1 by omega, fN_s, if_pos e]
  constructor
  · show _ = q_fu (kst m (fun _ => -1) t.toNat) (m 9 t.toNat).toNat (m 10 t.toNat) w
    by_cases g : w = (m 9 t.toNat).toNat
    · subst g; rw [q_fu_eq, h1, kst_new hR.2.2.2.1 t.toNat (by omega) _ (by omega), e]
    · rw [q_fu_ne g]; exact h1
  · by_cases g : w = (m 9 t.toNat).toNat
    · subst g; rw [q_fu_eq, if_pos (by omega)]
    · rw [q_fu_ne g, h2]
      by_cases g2 : w < fN m t.toNat
      · rw [if_pos g2, if_pos (by omega)]
      · rw [if_neg g2, if_neg (by omega)]
theorem lkI_c {m : qM} {t : Int} {a b : Nat → Int} (h0 : 0 ≤ t) (e : ¬ m 10 t.toNat = -1) (h : lkI m t.toNat a b) : lkI m (t + 1).toNat (q_fu a (m 9 t.toNat).toNat (m 10 t.toNat)) b := by
  intro w hw
  obtain ⟨h1, h2⟩ := h w hw
  rw [show (t + 1).toNat = t.toNat + 1 by omega, fN_s, if_neg e]
  refine ⟨?_, h2⟩
  show _ = q_fu (kst m (fun _ => -1) t.toNat) (m 9 t.toNat).toNat (m 10 t.toNat) w
  by_cases g : w = (m 9 t.toNat).toNat
  · subst g; rw [q_fu_eq, q_fu_eq]
  · rw [q_fu_ne g, q_fu_ne g]; exact h1

set_option maxRecDepth 100000 in
theorem c_lookUpTo (u : qU) (m y : qM) (n0 : Nat) (t0 : Int) (hR : rC m) (h1 : (n0 : Int) = t0 + 1 ∧ (n0 : Int) ≤ m 2 2) : qCt YX12_lookUpTo 1 0 0 [qR 77, qI t0] (qLy u, m, y) (fun r h => r = none ∧ ∃ a b, h = (qLy u, q_row (q_row m 108 a) 109 b, y) ∧ lkI m n0 a b) := by
  refine qCt.intro okX12_lookUpTo (Nat.le_of_ble_eq_true rfl) (fun κ hκ => ?_)
  have hR2 := hR
  obtain ⟨⟨⟨a0, a1, a2⟩, ⟨a3, a4, a5⟩, ⟨b0, b1, b2⟩, b3, b4, b5⟩, hW, hRW, hT, hRT, hS⟩ := hR2
  have hV : qr (m 83 0) := by omega
  have zr := gHz_r hR.1
  have ze := hz_eq hR.1
  have nWl := nW_le hR.1
  have nTl := nT_le hR.1
  have L30 : ∀ (n : Nat) (a : Nat → Int) (b : Nat → Int) (t : Int), (0 ≤ t) → (t ≤ (n0 : Int)) → (lkI m t.toNat a b) → (((n0 : Int) - t).toNat) < n → qJ YX12_lookUpTo κ (qFin (fun r h => r = none ∧ ∃ a b, h = (qLy u, q_row (q_row m 108 a) 109 b, y) ∧ lkI m n0 a b) 0 0 κ) (qLy u, (q_row (q_row m 108 a) 109 b), y) 0 0 30 [some (qR 77), some (qI t0), some (qI t)] [] := by
    intro n
    induction n with
    | zero => intro a b t _ _ _ hz0; omega
    | succ n ih30 =>
      intro a b t v30_0 v30_1 v30_2 v30_m
      refine qJ.run hκ 2 (pc' := 32) (ls' := [some (qR 77), some (qI t0), some (qI t)]) (st' := [qI t0, qI t]) rfl ?_
      refine qJ.icmp_gt hκ (tgt := 83) rfl rfl (by omega) (by omega) (fun c32 => ?_) (fun c32 => ?_)
      · show qJ YX12_lookUpTo κ _ (qLy u, (q_row (q_row m 108 a) 109 b), y) 0 0 83 [some (qR 77), some (qI t0), some (qI t)] []
        exact qJ.vret hκ rfl rfl (by decide) (by decide) (⟨rfl, a, b, rfl, by rw [← show t.toNat = n0 by omega]; exact v30_2⟩)
      · show qJ YX12_lookUpTo κ _ (qLy u, (q_row (q_row m 108 a) 109 b), y) 0 0 35 [some (qR 77), some (qI t0), some (qI t)] []
        have tr := hRT t (by omega) (by omega)
        have tl := hT t (by omega) (by omega)
        refine qJ.run hκ 3 (pc' := 40) (ls' := [some (qR 77), some (qI t0), some (qI t)]) (st' := [qI t, qR 94]) rfl ?_
        refine qJ.ald hκ rfl rfl rfl (by decide) (by omega) ?_
        show qJ YX12_lookUpTo κ _ (qLy u, (q_row (q_row m 108 a) 109 b), y) 0 0 41 [some (qR 77), some (qI t0), some (qI t)] [qI (m 94 t.toNat)]
        refine qJ.run hκ 1 (pc' := 42) (ls' := [some (qR 77), some (qI t0), some (qI t)]) (st' := [qI (-1), qI (m 94 t.toNat)]) rfl ?_
        refine qJ.icmp_ne hκ (tgt := 60) rfl rfl (by omega) (by omega) (fun c42 => ?_) (fun c42 => ?_)
        · show qJ YX12_lookUpTo κ _ (qLy u, (q_row (q_row m 108 a) 109 b), y) 0 0 60 [some (qR 77), some (qI t0), some (qI t)] []
          refine qJ.run hκ 5 (pc' := 69) (ls' := [some (qR 77), some (qI t0), some (qI t)]) (st' := [qI t, qR 93, qR 108]) rfl ?_
          refine qJ.ald hκ rfl rfl rfl (by decide) (by omega) ?_
          show qJ YX12_lookUpTo κ _ (qLy u, (q_row (q_row m 108 a) 109 b), y) 0 0 70 [some (qR 77), some (qI t0), some (qI t)] [qI (m 93 t.toNat), qR 108]
          refine qJ.run hκ 3 (pc' := 75) (ls' := [some (qR 77), some (qI t0), some (qI t)]) (st' := [qI t, qR 94, qI (m 93 t.toNat), qR 108]) rfl ?_
          refine qJ.ald hκ rfl rfl rfl (by decide) (by omega) ?_
          show qJ YX12_lookUpTo κ _ (qLy u, (q_row (q_row m 108 a) 109 b), y) 0 0 76 [some (qR 77), some (qI t0), some (qI t)] [qI (m 94 t.toNat), qI (m 93 t.toNat), qR 108]
          refine qJ.ast hκ rfl rfl rfl (by decide) (by omega) ?_
          refine qJ.mc (m1 := (q_up (q_row (q_row m 108 a) 109 b) 108 ((m 93 t.toNat).toNat) (m 94 t.toNat))) (m2 := (q_row (q_row m 108 (q_fu a ((m 93 t.toNat).toNat) (m 94 t.toNat))) 109 b)) (by rw [q_up_row_ne (a := 108) (b := 109) (by decide), q_up_row_eq]) ?_
          show qJ YX12_lookUpTo κ _ (qLy u, (q_row (q_row m 108 (q_fu a ((m 93 t.toNat).toNat) (m 94 t.toNat))) 109 b), y) 0 0 77 [some (qR 77), some (qI t0), some (qI t)] []
          refine qJ.run hκ 2 (pc' := 30) (ls' := [some (qR 77), some (qI t0), some (qI (t + 1))]) (st' := []) rfl ?_
          exact ih30  (q_fu a ((m 93 t.toNat).toNat) (m 94 t.toNat)) b (t + 1) (by omega) (by omega) (by rw [tr.1.1, tr.1.2.1]; exact lkI_c v30_0 (by omega) v30_2) (by omega)
        · show qJ YX12_lookUpTo κ _ (qLy u, (q_row (q_row m 108 a) 109 b), y) 0 0 45 [some (qR 77), some (qI t0), some (qI t)] []
          refine qJ.run hκ 5 (pc' := 54) (ls' := [some (qR 77), some (qI t0), some (qI t)]) (st' := [qI t, qR 93, qR 109]) rfl ?_
          refine qJ.ald hκ rfl rfl rfl (by decide) (by omega) ?_
          show qJ YX12_lookUpTo κ _ (qLy u, (q_row (q_row m 108 a) 109 b), y) 0 0 55 [some (qR 77), some (qI t0), some (qI t)] [qI (m 93 t.toNat), qR 109]
          refine qJ.run hκ 1 (pc' := 56) (ls' := [some (qR 77), some (qI t0), some (qI t)]) (st' := [qI 1, qI (m 93 t.toNat), qR 109]) rfl ?_
          refine qJ.ast hκ rfl rfl rfl (by decide) (by omega) ?_
          refine qJ.mc (m1 := (q_up (q_row (q_row m 108 a) 109 b) 109 ((m 93 t.toNat).toNat) (q_nar 2 1))) (m2 := (q_up (q_row (q_row m 108 a) 109 b) 109 ((m 93 t.toNat).toNat) 1)) (by rw [q_n2 (by omega)]) ?_
          refine qJ.mc (m1 := (q_up (q_row (q_row m 108 a) 109 b) 109 ((m 93 t.toNat).toNat) 1)) (m2 := (q_row (q_row m 108 a) 109 (q_fu b ((m 93 t.toNat).toNat) 1))) (by rw [q_up_row_eq]) ?_
          show qJ YX12_lookUpTo κ _ (qLy u, (q_row (q_row m 108 a) 109 (q_fu b ((m 93 t.toNat).toNat) 1)), y) 0 0 57 [some (qR 77), some (qI t0), some (qI t)] []
          refine qJ.run hκ 3 (pc' := 30) (ls' := [some (qR 77), some (qI t0), some (qI (t + 1))]) (st' := []) rfl ?_
          exact ih30  a (q_fu b ((m 93 t.toNat).toNat) 1) (t + 1) (by omega) (by omega) (by rw [tr.1.1]; exact lkI_f hR (by omega) (by omega) v30_2) (by omega)
  have L2 : ∀ (n : Nat) (a : Nat → Int) (b : Nat → Int) (i : Int), (0 ≤ i) → (i ≤ 60) → (∀ w : Nat, (w : Int) < i → a w = -1 ∧ b w = 0) → ((60 - i).toNat) < n → qJ YX12_lookUpTo κ (qFin (fun r h => r = none ∧ ∃ a b, h = (qLy u, q_row (q_row m 108 a) 109 b, y) ∧ lkI m n0 a b) 0 0 κ) (qLy u, (q_row (q_row m 108 a) 109 b), y) 0 0 2 [some (qR 77), some (qI t0), some (qI i)] [] := by
    intro n
    induction n with
    | zero => intro a b i _ _ _ hz0; omega
    | succ n ih2 =>
      intro a b i v2_0 v2_1 v2_2 v2_m
      refine qJ.run hκ 2 (pc' := 5) (ls' := [some (qR 77), some (qI t0), some (qI i)]) (st' := [qI 60, qI i]) rfl ?_
      refine qJ.icmp_ge hκ (tgt := 28) rfl rfl (by omega) (by omega) (fun c5 => ?_) (fun c5 => ?_)
      · show qJ YX12_lookUpTo κ _ (qLy u, (q_row (q_row m 108 a) 109 b), y) 0 0 28 [some (qR 77), some (qI t0), some (qI i)] []
        refine qJ.run hκ 2 (pc' := 30) (ls' := [some (qR 77), some (qI t0), some (qI 0)]) (st' := []) rfl ?_
        exact L30 (n0 + 1) a b 0 (by omega) (by omega) (fun w hw => ⟨(v2_2 w (by omega)).1, by rw [(v2_2 w (by omega)).2]; rfl⟩) (by omega)
      · show qJ YX12_lookUpTo κ _ (qLy u, (q_row (q_row m 108 a) 109 b), y) 0 0 8 [some (qR 77), some (qI t0), some (qI i)] []
        refine qJ.run hκ 4 (pc' := 14) (ls' := [some (qR 77), some (qI t0), some (qI i)]) (st' := [qI (-1), qI i, qR 108]) rfl ?_
        refine qJ.ast hκ rfl rfl rfl (by decide) (by omega) ?_
        refine qJ.mc (m1 := (q_up (q_row (q_row m 108 a) 109 b) 108 i.toNat (-1))) (m2 := (q_row (q_row m 108 (q_fu a i.toNat (-1))) 109 b)) (by rw [q_up_row_ne (a := 108) (b := 109) (by decide), q_up_row_eq]) ?_
        show qJ YX12_lookUpTo κ _ (qLy u, (q_row (q_row m 108 (q_fu a i.toNat (-1))) 109 b), y) 0 0 15 [some (qR 77), some (qI t0), some (qI i)] []
        refine qJ.run hκ 4 (pc' := 21) (ls' := [some (qR 77), some (qI t0), some (qI i)]) (st' := [qI 0, qI i, qR 109]) rfl ?_
        refine qJ.ast hκ rfl rfl rfl (by decide) (by omega) ?_
        refine qJ.mc (m1 := (q_up (q_row (q_row m 108 (q_fu a i.toNat (-1))) 109 b) 109 i.toNat (q_nar 2 0))) (m2 := (q_up (q_row (q_row m 108 (q_fu a i.toNat (-1))) 109 b) 109 i.toNat 0)) (by rw [q_n2 (by omega)]) ?_
        refine qJ.mc (m1 := (q_up (q_row (q_row m 108 (q_fu a i.toNat (-1))) 109 b) 109 i.toNat 0)) (m2 := (q_row (q_row m 108 (q_fu a i.toNat (-1))) 109 (q_fu b i.toNat 0))) (by rw [q_up_row_eq]) ?_
        show qJ YX12_lookUpTo κ _ (qLy u, (q_row (q_row m 108 (q_fu a i.toNat (-1))) 109 (q_fu b i.toNat 0)), y) 0 0 22 [some (qR 77), some (qI t0), some (qI i)] []
        refine qJ.run hκ 2 (pc' := 2) (ls' := [some (qR 77), some (qI t0), some (qI (i + 1))]) (st' := []) rfl ?_
        exact qJ.cast (ih2  (q_fu a i.toNat (-1)) (q_fu b i.toNat 0) (i + 1) (by omega) (by omega) (fun w hw => by by_cases e : w = i.toNat; subst e; rw [q_fu_eq, q_fu_eq]; exact ⟨rfl, rfl⟩; rw [q_fu_ne e, q_fu_ne e]; exact v2_2 w (by omega)) (by omega)) (rfl) rfl rfl
  show qJ YX12_lookUpTo κ _ (qLy u, m, y) 0 0 0 [some (qR 77), some (qI t0), none] []
  refine qJ.run hκ 2 (pc' := 2) (ls' := [some (qR 77), some (qI t0), some (qI 0)]) (st' := []) rfl ?_
  exact qJ.cast (L2 61 (m 108) (m 109) 0 (by omega) (by omega) (fun w hw => by omega) (by omega)) (by rw [q_row_self, q_row_self]) rfl rfl

set_option maxRecDepth 100000 in
theorem c_mJoin110 (u : qU) (m y : qM) (a b : Int) (hl : lb (m 110)) (ha : 0 ≤ a ∧ a < 20) (hb : 0 ≤ b ∧ b < 20) : qCt YX12_joinIn 1 0 0 [qR 110, qI a, qI b] (qLy u, m, y) (fun r h => r = none ∧ h = (qLy u, q_row m 110 (jn (m 110) a b), y)) := by
  refine qCt.intro okX12_joinIn (Nat.le_of_ble_eq_true rfl) (fun κ hκ => ?_)
  have l1 := hl a.toNat (by omega)
  have l2 := hl b.toNat (by omega)
  have L42 : ∀ (n : Nat) (lo : Int) (hi : Int) (f : Nat → Int) (i : Int), (0 ≤ i) → (i ≤ 20) → (lo = min (m 110 a.toNat) (m 110 b.toNat)) → (hi = max (m 110 a.toNat) (m 110 b.toNat)) → (∀ k : Nat, f k = if (k : Int) < i ∧ m 110 k = hi then lo else m 110 k) → ((20 - i).toNat) < n → qJ YX12_joinIn κ (qFin (fun r h => r = none ∧ h = (qLy u, q_row m 110 (jn (m 110) a b), y)) 0 0 κ) (qLy u, (q_row m 110 f), y) 0 0 42 [some (qR 110), some (qI a), some (qI b), some (qI lo), some (qI hi), some (qI i)] [] := by
    intro n
    induction n with
    | zero => intro lo hi f i _ _ _ _ _ hz0; omega
    | succ n ih42 =>
      intro lo hi f i v42_0 v42_1 v42_2 v42_3 v42_4 v42_m
      refine qJ.run hκ 2 (pc' := 46) (ls' := [some (qR 110), some (qI a), some (qI b), some (qI lo), some (qI hi), some (qI i)]) (st' := [qI 20, qI i]) rfl ?_
      refine qJ.icmp_ge hκ (tgt := 76) rfl rfl (by omega) (by omega) (fun c46 => ?_) (fun c46 => ?_)
      · show qJ YX12_joinIn κ _ (qLy u, (q_row m 110 f), y) 0 0 76 [some (qR 110), some (qI a), some (qI b), some (qI lo), some (qI hi), some (qI i)] []
        exact qJ.vret hκ rfl rfl (by decide) (by decide) (by refine ⟨rfl, ?_⟩; rw [q_row_c (g := jn (m 110) a b) (fun k => by rw [v42_4 k, v42_2, v42_3]; unfold jn; by_cases g : k < 20 ∧ m 110 k = max (m 110 a.toNat) (m 110 b.toNat); rw [if_pos ⟨by omega, g.2⟩, if_pos g]; rw [if_neg (fun z => g ⟨by have := z.1; omega, z.2⟩), if_neg g])])
      · show qJ YX12_joinIn κ _ (qLy u, (q_row m 110 f), y) 0 0 49 [some (qR 110), some (qI a), some (qI b), some (qI lo), some (qI hi), some (qI i)] []
        have l3 := hl i.toNat (by omega)
        have fi : f i.toNat = m 110 i.toNat := by rw [v42_4, if_neg (by omega)]
        refine qJ.run hκ 4 (pc' := 55) (ls' := [some (qR 110), some (qI a), some (qI b), some (qI lo), some (qI hi), some (qI i)]) (st' := [qI i, qR 110, qI i, qR 110]) rfl ?_
        refine qJ.ald hκ rfl rfl rfl (by decide) (by omega) ?_
        show qJ YX12_joinIn κ _ (qLy u, (q_row m 110 f), y) 0 0 56 [some (qR 110), some (qI a), some (qI b), some (qI lo), some (qI hi), some (qI i)] [qI (f i.toNat), qI i, qR 110]
        refine qJ.run hκ 1 (pc' := 58) (ls' := [some (qR 110), some (qI a), some (qI b), some (qI lo), some (qI hi), some (qI i)]) (st' := [qI hi, qI (f i.toNat), qI i, qR 110]) rfl ?_
        refine qJ.icmp_ne hκ (tgt := 65) rfl rfl (by omega) (by omega) (fun c58 => ?_) (fun c58 => ?_)
        · show qJ YX12_joinIn κ _ (qLy u, (q_row m 110 f), y) 0 0 65 [some (qR 110), some (qI a), some (qI b), some (qI lo), some (qI hi), some (qI i)] [qI i, qR 110]
          refine qJ.run hκ 2 (pc' := 68) (ls' := [some (qR 110), some (qI a), some (qI b), some (qI lo), some (qI hi), some (qI i)]) (st' := [qI i, qR 110, qI i, qR 110]) rfl ?_
          refine qJ.ald hκ rfl rfl rfl (by decide) (by omega) ?_
          show qJ YX12_joinIn κ _ (qLy u, (q_row m 110 f), y) 0 0 69 [some (qR 110), some (qI a), some (qI b), some (qI lo), some (qI hi), some (qI i)] [qI (f i.toNat), qI i, qR 110]
          refine qJ.ast hκ rfl rfl rfl (by decide) (by omega) ?_
          refine qJ.mc (m1 := (q_up (q_row m 110 f) 110 i.toNat (f i.toNat))) (m2 := (q_row m 110 (q_fu f i.toNat (f i.toNat)))) (by rw [q_up_row_eq]) ?_
          show qJ YX12_joinIn κ _ (qLy u, (q_row m 110 (q_fu f i.toNat (f i.toNat))), y) 0 0 70 [some (qR 110), some (qI a), some (qI b), some (qI lo), some (qI hi), some (qI i)] []
          refine qJ.run hκ 2 (pc' := 42) (ls' := [some (qR 110), some (qI a), some (qI b), some (qI lo), some (qI hi), some (qI (i + 1))]) (st' := []) rfl ?_
          exact qJ.cast (ih42  lo hi (q_fu f i.toNat (f i.toNat)) (i + 1) (by omega) (by omega) (by omega) (by omega) (fun k => by by_cases e : k = i.toNat; subst e; rw [q_fu_eq, fi, if_neg (fun z => c58 (by rw [fi]; exact z.2))]; rw [q_fu_ne e, v42_4 k]; by_cases g : (k : Int) < i ∧ m 110 k = hi; rw [if_pos g, if_pos ⟨by omega, g.2⟩]; rw [if_neg g, if_neg (fun z => g ⟨by have := z.1; omega, z.2⟩)]) (by omega)) (rfl) rfl rfl
        · show qJ YX12_joinIn κ _ (qLy u, (q_row m 110 f), y) 0 0 61 [some (qR 110), some (qI a), some (qI b), some (qI lo), some (qI hi), some (qI i)] [qI i, qR 110]
          refine qJ.run hκ 2 (pc' := 69) (ls' := [some (qR 110), some (qI a), some (qI b), some (qI lo), some (qI hi), some (qI i)]) (st' := [qI lo, qI i, qR 110]) rfl ?_
          refine qJ.ast hκ rfl rfl rfl (by decide) (by omega) ?_
          refine qJ.mc (m1 := (q_up (q_row m 110 f) 110 i.toNat lo)) (m2 := (q_row m 110 (q_fu f i.toNat lo))) (by rw [q_up_row_eq]) ?_
          show qJ YX12_joinIn κ _ (qLy u, (q_row m 110 (q_fu f i.toNat lo)), y) 0 0 70 [some (qR 110), some (qI a), some (qI b), some (qI lo), some (qI hi), some (qI i)] []
          refine qJ.run hκ 2 (pc' := 42) (ls' := [some (qR 110), some (qI a), some (qI b), some (qI lo), some (qI hi), some (qI (i + 1))]) (st' := []) rfl ?_
          exact qJ.cast (ih42  lo hi (q_fu f i.toNat lo) (i + 1) (by omega) (by omega) (by omega) (by omega) (fun k => by by_cases e : k = i.toNat; subst e; rw [q_fu_eq, if_pos ⟨by omega, by rw [← fi]; exact c58⟩]; rw [q_fu_ne e, v42_4 k]; by_cases g : (k : Int) < i ∧ m 110 k = hi; rw [if_pos g, if_pos ⟨by omega, g.2⟩]; rw [if_neg g, if_neg (fun z => g ⟨by have := z.1; omega, z.2⟩)]) (by omega)) (rfl) rfl rfl
  show qJ YX12_joinIn κ _ (qLy u, m, y) 0 0 0 [some (qR 110), some (qI a), some (qI b), none, none, none] []
  refine qJ.run hκ 2 (pc' := 2) (ls' := [some (qR 110), some (qI a), some (qI b), none, none, none]) (st' := [qI a, qR 110]) rfl ?_
  refine qJ.ald hκ rfl rfl rfl (by decide) (by omega) ?_
  show qJ YX12_joinIn κ _ (qLy u, m, y) 0 0 3 [some (qR 110), some (qI a), some (qI b), none, none, none] [qI (m 110 a.toNat)]
  refine qJ.run hκ 2 (pc' := 5) (ls' := [some (qR 110), some (qI a), some (qI b), none, none, none]) (st' := [qI b, qR 110, qI (m 110 a.toNat)]) rfl ?_
  refine qJ.ald hκ rfl rfl rfl (by decide) (by omega) ?_
  show qJ YX12_joinIn κ _ (qLy u, m, y) 0 0 6 [some (qR 110), some (qI a), some (qI b), none, none, none] [qI (m 110 b.toNat), qI (m 110 a.toNat)]
  refine qJ.icmp_ge hκ (tgt := 15) rfl rfl (by omega) (by omega) (fun c6 => ?_) (fun c6 => ?_)
  · show qJ YX12_joinIn κ _ (qLy u, m, y) 0 0 15 [some (qR 110), some (qI a), some (qI b), none, none, none] []
    refine qJ.run hκ 2 (pc' := 17) (ls' := [some (qR 110), some (qI a), some (qI b), none, none, none]) (st' := [qI b, qR 110]) rfl ?_
    refine qJ.ald hκ rfl rfl rfl (by decide) (by omega) ?_
    show qJ YX12_joinIn κ _ (qLy u, m, y) 0 0 18 [some (qR 110), some (qI a), some (qI b), none, none, none] [qI (m 110 b.toNat)]
    refine qJ.run hκ 3 (pc' := 21) (ls' := [some (qR 110), some (qI a), some (qI b), some (qI (m 110 b.toNat)), none, none]) (st' := [qI a, qR 110]) rfl ?_
    refine qJ.ald hκ rfl rfl rfl (by decide) (by omega) ?_
    show qJ YX12_joinIn κ _ (qLy u, m, y) 0 0 22 [some (qR 110), some (qI a), some (qI b), some (qI (m 110 b.toNat)), none, none] [qI (m 110 a.toNat)]
    refine qJ.run hκ 2 (pc' := 24) (ls' := [some (qR 110), some (qI a), some (qI b), some (qI (m 110 b.toNat)), none, none]) (st' := [qI b, qR 110, qI (m 110 a.toNat)]) rfl ?_
    refine qJ.ald hκ rfl rfl rfl (by decide) (by omega) ?_
    show qJ YX12_joinIn κ _ (qLy u, m, y) 0 0 25 [some (qR 110), some (qI a), some (qI b), some (qI (m 110 b.toNat)), none, none] [qI (m 110 b.toNat), qI (m 110 a.toNat)]
    refine qJ.icmp_ge hκ (tgt := 34) rfl rfl (by omega) (by omega) (fun c25 => ?_) (fun c25 => ?_)
    · show qJ YX12_joinIn κ _ (qLy u, m, y) 0 0 34 [some (qR 110), some (qI a), some (qI b), some (qI (m 110 b.toNat)), none, none] []
      refine qJ.run hκ 2 (pc' := 36) (ls' := [some (qR 110), some (qI a), some (qI b), some (qI (m 110 b.toNat)), none, none]) (st' := [qI a, qR 110]) rfl ?_
      refine qJ.ald hκ rfl rfl rfl (by decide) (by omega) ?_
      show qJ YX12_joinIn κ _ (qLy u, m, y) 0 0 37 [some (qR 110), some (qI a), some (qI b), some (qI (m 110 b.toNat)), none, none] [qI (m 110 a.toNat)]
      refine qJ.run hκ 3 (pc' := 42) (ls' := [some (qR 110), some (qI a), some (qI b), some (qI (m 110 b.toNat)), some (qI (m 110 a.toNat)), some (qI 0)]) (st' := []) rfl ?_
      exact qJ.cast (L42 21 (m 110 b.toNat) (m 110 a.toNat) (m 110) 0 (by omega) (by omega) (by omega) (by omega) (fun k => by rw [if_neg (by omega)]) (by omega)) (by rw [q_row_self]) rfl rfl
    · show qJ YX12_joinIn κ _ (qLy u, m, y) 0 0 28 [some (qR 110), some (qI a), some (qI b), some (qI (m 110 b.toNat)), none, none] []
      refine qJ.run hκ 2 (pc' := 30) (ls' := [some (qR 110), some (qI a), some (qI b), some (qI (m 110 b.toNat)), none, none]) (st' := [qI b, qR 110]) rfl ?_
      refine qJ.ald hκ rfl rfl rfl (by decide) (by omega) ?_
      show qJ YX12_joinIn κ _ (qLy u, m, y) 0 0 31 [some (qR 110), some (qI a), some (qI b), some (qI (m 110 b.toNat)), none, none] [qI (m 110 b.toNat)]
      refine qJ.run hκ 4 (pc' := 42) (ls' := [some (qR 110), some (qI a), some (qI b), some (qI (m 110 b.toNat)), some (qI (m 110 b.toNat)), some (qI 0)]) (st' := []) rfl ?_
      exact qJ.cast (L42 21 (m 110 b.toNat) (m 110 b.toNat) (m 110) 0 (by omega) (by omega) (by omega) (by omega) (fun k => by rw [if_neg (by omega)]) (by omega)) (by rw [q_row_self]) rfl rfl
  · show qJ YX12_joinIn κ _ (qLy u, m, y) 0 0 9 [some (qR 110), some (qI a), some (qI b), none, none, none] []
    refine qJ.run hκ 2 (pc' := 11) (ls' := [some (qR 110), some (qI a), some (qI b), none, none, none]) (st' := [qI a, qR 110]) rfl ?_
    refine qJ.ald hκ rfl rfl rfl (by decide) (by omega) ?_
    show qJ YX12_joinIn κ _ (qLy u, m, y) 0 0 12 [some (qR 110), some (qI a), some (qI b), none, none, none] [qI (m 110 a.toNat)]
    refine qJ.run hκ 4 (pc' := 21) (ls' := [some (qR 110), some (qI a), some (qI b), some (qI (m 110 a.toNat)), none, none]) (st' := [qI a, qR 110]) rfl ?_
    refine qJ.ald hκ rfl rfl rfl (by decide) (by omega) ?_
    show qJ YX12_joinIn κ _ (qLy u, m, y) 0 0 22 [some (qR 110), some (qI a), some (qI b), some (qI (m 110 a.toNat)), none, none] [qI (m 110 a.toNat)]
    refine qJ.run hκ 2 (pc' := 24) (ls' := [some (qR 110), some (qI a), some (qI b), some (qI (m 110 a.toNat)), none, none]) (st' := [qI b, qR 110, qI (m 110 a.toNat)]) rfl ?_
    refine qJ.ald hκ rfl rfl rfl (by decide) (by omega) ?_
    show qJ YX12_joinIn κ _ (qLy u, m, y) 0 0 25 [some (qR 110), some (qI a), some (qI b), some (qI (m 110 a.toNat)), none, none] [qI (m 110 b.toNat), qI (m 110 a.toNat)]
    refine qJ.icmp_ge hκ (tgt := 34) rfl rfl (by omega) (by omega) (fun c25 => ?_) (fun c25 => ?_)
    · show qJ YX12_joinIn κ _ (qLy u, m, y) 0 0 34 [some (qR 110), some (qI a), some (qI b), some (qI (m 110 a.toNat)), none, none] []
      refine qJ.run hκ 2 (pc' := 36) (ls' := [some (qR 110), some (qI a), some (qI b), some (qI (m 110 a.toNat)), none, none]) (st' := [qI a, qR 110]) rfl ?_
      refine qJ.ald hκ rfl rfl rfl (by decide) (by omega) ?_
      show qJ YX12_joinIn κ _ (qLy u, m, y) 0 0 37 [some (qR 110), some (qI a), some (qI b), some (qI (m 110 a.toNat)), none, none] [qI (m 110 a.toNat)]
      refine qJ.run hκ 3 (pc' := 42) (ls' := [some (qR 110), some (qI a), some (qI b), some (qI (m 110 a.toNat)), some (qI (m 110 a.toNat)), some (qI 0)]) (st' := []) rfl ?_
      exact qJ.cast (L42 21 (m 110 a.toNat) (m 110 a.toNat) (m 110) 0 (by omega) (by omega) (by omega) (by omega) (fun k => by rw [if_neg (by omega)]) (by omega)) (by rw [q_row_self]) rfl rfl
    · show qJ YX12_joinIn κ _ (qLy u, m, y) 0 0 28 [some (qR 110), some (qI a), some (qI b), some (qI (m 110 a.toNat)), none, none] []
      refine qJ.run hκ 2 (pc' := 30) (ls' := [some (qR 110), some (qI a), some (qI b), some (qI (m 110 a.toNat)), none, none]) (st' := [qI b, qR 110]) rfl ?_
      refine qJ.ald hκ rfl rfl rfl (by decide) (by omega) ?_
      show qJ YX12_joinIn κ _ (qLy u, m, y) 0 0 31 [some (qR 110), some (qI a), some (qI b), some (qI (m 110 a.toNat)), none, none] [qI (m 110 b.toNat)]
      refine qJ.run hκ 4 (pc' := 42) (ls' := [some (qR 110), some (qI a), some (qI b), some (qI (m 110 a.toNat)), some (qI (m 110 b.toNat)), some (qI 0)]) (st' := []) rfl ?_
      exact qJ.cast (L42 21 (m 110 a.toNat) (m 110 b.toNat) (m 110) 0 (by omega) (by omega) (by omega) (by omega) (fun k => by rw [if_neg (by omega)]) (by omega)) (by rw [q_row_self]) rfl rfl

set_option maxRecDepth 100000 in
theorem c_mJoin111 (u : qU) (m y : qM) (a b : Int) (hl : lb (m 111)) (ha : 0 ≤ a ∧ a < 20) (hb : 0 ≤ b ∧ b < 20) : qCt YX12_joinIn 1 0 0 [qR 111, qI a, qI b] (qLy u, m, y) (fun r h => r = none ∧ h = (qLy u, q_row m 111 (jn (m 111) a b), y)) := by
  refine qCt.intro okX12_joinIn (Nat.le_of_ble_eq_true rfl) (fun κ hκ => ?_)
  have l1 := hl a.toNat (by omega)
  have l2 := hl b.toNat (by omega)
  have L42 : ∀ (n : Nat) (lo : Int) (hi : Int) (f : Nat → Int) (i : Int), (0 ≤ i) → (i ≤ 20) → (lo = min (m 111 a.toNat) (m 111 b.toNat)) → (hi = max (m 111 a.toNat) (m 111 b.toNat)) → (∀ k : Nat, f k = if (k : Int) < i ∧ m 111 k = hi then lo else m 111 k) → ((20 - i).toNat) < n → qJ YX12_joinIn κ (qFin (fun r h => r = none ∧ h = (qLy u, q_row m 111 (jn (m 111) a b), y)) 0 0 κ) (qLy u, (q_row m 111 f), y) 0 0 42 [some (qR 111), some (qI a), some (qI b), some (qI lo), some (qI hi), some (qI i)] [] := by
    intro n
    induction n with
    | zero => intro lo hi f i _ _ _ _ _ hz0; omega
    | succ n ih42 =>
      intro lo hi f i v42_0 v42_1 v42_2 v42_3 v42_4 v42_m
      refine qJ.run hκ 2 (pc' := 46) (ls' := [some (qR 111), some (qI a), some (qI b), some (qI lo), some (qI hi), some (qI i)]) (st' := [qI 20, qI i]) rfl ?_
      refine qJ.icmp_ge hκ (tgt := 76) rfl rfl (by omega) (by omega) (fun c46 => ?_) (fun c46 => ?_)
      · show qJ YX12_joinIn κ _ (qLy u, (q_row m 111 f), y) 0 0 76 [some (qR 111), some (qI a), some (qI b), some (qI lo), some (qI hi), some (qI i)] []
        exact qJ.vret hκ rfl rfl (by decide) (by decide) (by refine ⟨rfl, ?_⟩; rw [q_row_c (g := jn (m 111) a b) (fun k => by rw [v42_4 k, v42_2, v42_3]; unfold jn; by_cases g : k < 20 ∧ m 111 k = max (m 111 a.toNat) (m 111 b.toNat); rw [if_pos ⟨by omega, g.2⟩, if_pos g]; rw [if_neg (fun z => g ⟨by have := z.1; omega, z.2⟩), if_neg g])])
      · show qJ YX12_joinIn κ _ (qLy u, (q_row m 111 f), y) 0 0 49 [some (qR 111), some (qI a), some (qI b), some (qI lo), some (qI hi), some (qI i)] []
        have l3 := hl i.toNat (by omega)
        have fi : f i.toNat = m 111 i.toNat := by rw [v42_4, if_neg (by omega)]
        refine qJ.run hκ 4 (pc' := 55) (ls' := [some (qR 111), some (qI a), some (qI b), some (qI lo), some (qI hi), some (qI i)]) (st' := [qI i, qR 111, qI i, qR 111]) rfl ?_
        refine qJ.ald hκ rfl rfl rfl (by decide) (by omega) ?_
        show qJ YX12_joinIn κ _ (qLy u, (q_row m 111 f), y) 0 0 56 [some (qR 111), some (qI a), some (qI b), some (qI lo), some (qI hi), some (qI i)] [qI (f i.toNat), qI i, qR 111]
        refine qJ.run hκ 1 (pc' := 58) (ls' := [some (qR 111), some (qI a), some (qI b), some (qI lo), some (qI hi), some (qI i)]) (st' := [qI hi, qI (f i.toNat), qI i, qR 111]) rfl ?_
        refine qJ.icmp_ne hκ (tgt := 65) rfl rfl (by omega) (by omega) (fun c58 => ?_) (fun c58 => ?_)
        · show qJ YX12_joinIn κ _ (qLy u, (q_row m 111 f), y) 0 0 65 [some (qR 111), some (qI a), some (qI b), some (qI lo), some (qI hi), some (qI i)] [qI i, qR 111]
          refine qJ.run hκ 2 (pc' := 68) (ls' := [some (qR 111), some (qI a), some (qI b), some (qI lo), some (qI hi), some (qI i)]) (st' := [qI i, qR 111, qI i, qR 111]) rfl ?_
          refine qJ.ald hκ rfl rfl rfl (by decide) (by omega) ?_
          show qJ YX12_joinIn κ _ (qLy u, (q_row m 111 f), y) 0 0 69 [some (qR 111), some (qI a), some (qI b), some (qI lo), some (qI hi), some (qI i)] [qI (f i.toNat), qI i, qR 111]
          refine qJ.ast hκ rfl rfl rfl (by decide) (by omega) ?_
          refine qJ.mc (m1 := (q_up (q_row m 111 f) 111 i.toNat (f i.toNat))) (m2 := (q_row m 111 (q_fu f i.toNat (f i.toNat)))) (by rw [q_up_row_eq]) ?_
          show qJ YX12_joinIn κ _ (qLy u, (q_row m 111 (q_fu f i.toNat (f i.toNat))), y) 0 0 70 [some (qR 111), some (qI a), some (qI b), some (qI lo), some (qI hi), some (qI i)] []
          refine qJ.run hκ 2 (pc' := 42) (ls' := [some (qR 111), some (qI a), some (qI b), some (qI lo), some (qI hi), some (qI (i + 1))]) (st' := []) rfl ?_
          exact qJ.cast (ih42  lo hi (q_fu f i.toNat (f i.toNat)) (i + 1) (by omega) (by omega) (by omega) (by omega) (fun k => by by_cases e : k = i.toNat; subst e; rw [q_fu_eq, fi, if_neg (fun z => c58 (by rw [fi]; exact z.2))]; rw [q_fu_ne e, v42_4 k]; by_cases g : (k : Int) < i ∧ m 111 k = hi; rw [if_pos g, if_pos ⟨by omega, g.2⟩]; rw [if_neg g, if_neg (fun z => g ⟨by have := z.1; omega, z.2⟩)]) (by omega)) (rfl) rfl rfl
        · show qJ YX12_joinIn κ _ (qLy u, (q_row m 111 f), y) 0 0 61 [some (qR 111), some (qI a), some (qI b), some (qI lo), some (qI hi), some (qI i)] [qI i, qR 111]
          refine qJ.run hκ 2 (pc' := 69) (ls' := [some (qR 111), some (qI a), some (qI b), some (qI lo), some (qI hi), some (qI i)]) (st' := [qI lo, qI i, qR 111]) rfl ?_
          refine qJ.ast hκ rfl rfl rfl (by decide) (by omega) ?_
          refine qJ.mc (m1 := (q_up (q_row m 111 f) 111 i.toNat lo)) (m2 := (q_row m 111 (q_fu f i.toNat lo))) (by rw [q_up_row_eq]) ?_
          show qJ YX12_joinIn κ _ (qLy u, (q_row m 111 (q_fu f i.toNat lo)), y) 0 0 70 [some (qR 111), some (qI a), some (qI b), some (qI lo), some (qI hi), some (qI i)] []
          refine qJ.run hκ 2 (pc' := 42) (ls' := [some (qR 111), some (qI a), some (qI b), some (qI lo), some (qI hi), some (qI (i + 1))]) (st' := []) rfl ?_
          exact qJ.cast (ih42  lo hi (q_fu f i.toNat lo) (i + 1) (by omega) (by omega) (by omega) (by omega) (fun k => by by_cases e : k = i.toNat; subst e; rw [q_fu_eq, if_pos ⟨by omega, by rw [← fi]; exact c58⟩]; rw [q_fu_ne e, v42_4 k]; by_cases g : (k : Int) < i ∧ m 111 k = hi; rw [if_pos g, if_pos ⟨by omega, g.2⟩]; rw [if_neg g, if_neg (fun z => g ⟨by have := z.1; omega, z.2⟩)]) (by omega)) (rfl) rfl rfl
  show qJ YX12_joinIn κ _ (qLy u, m, y) 0 0 0 [some (qR 111), some (qI a), some (qI b), none, none, none] []
  refine qJ.run hκ 2 (pc' := 2) (ls' := [some (qR 111), some (qI a), some (qI b), none, none, none]) (st' := [qI a, qR 111]) rfl ?_
  refine qJ.ald hκ rfl rfl rfl (by decide) (by omega) ?_
  show qJ YX12_joinIn κ _ (qLy u, m, y) 0 0 3 [some (qR 111), some (qI a), some (qI b), none, none, none] [qI (m 111 a.toNat)]
  refine qJ.run hκ 2 (pc' := 5) (ls' := [some (qR 111), some (qI a), some (qI b), none, none, none]) (st' := [qI b, qR 111, qI (m 111 a.toNat)]) rfl ?_
  refine qJ.ald hκ rfl rfl rfl (by decide) (by omega) ?_
  show qJ YX12_joinIn κ _ (qLy u, m, y) 0 0 6 [some (qR 111), some (qI a), some (qI b), none, none, none] [qI (m 111 b.toNat), qI (m 111 a.toNat)]
  refine qJ.icmp_ge hκ (tgt := 15) rfl rfl (by omega) (by omega) (fun c6 => ?_) (fun c6 => ?_)
  · show qJ YX12_joinIn κ _ (qLy u, m, y) 0 0 15 [some (qR 111), some (qI a), some (qI b), none, none, none] []
    refine qJ.run hκ 2 (pc' := 17) (ls' := [some (qR 111), some (qI a), some (qI b), none, none, none]) (st' := [qI b, qR 111]) rfl ?_
    refine qJ.ald hκ rfl rfl rfl (by decide) (by omega) ?_
    show qJ YX12_joinIn κ _ (qLy u, m, y) 0 0 18 [some (qR 111), some (qI a), some (qI b), none, none, none] [qI (m 111 b.toNat)]
    refine qJ.run hκ 3 (pc' := 21) (ls' := [some (qR 111), some (qI a), some (qI b), some (qI (m 111 b.toNat)), none, none]) (st' := [qI a, qR 111]) rfl ?_
    refine qJ.ald hκ rfl rfl rfl (by decide) (by omega) ?_
    show qJ YX12_joinIn κ _ (qLy u, m, y) 0 0 22 [some (qR 111), some (qI a), some (qI b), some (qI (m 111 b.toNat)), none, none] [qI (m 111 a.toNat)]
    refine qJ.run hκ 2 (pc' := 24) (ls' := [some (qR 111), some (qI a), some (qI b), some (qI (m 111 b.toNat)), none, none]) (st' := [qI b, qR 111, qI (m 111 a.toNat)]) rfl ?_
    refine qJ.ald hκ rfl rfl rfl (by decide) (by omega) ?_
    show qJ YX12_joinIn κ _ (qLy u, m, y) 0 0 25 [some (qR 111), some (qI a), some (qI b), some (qI (m 111 b.toNat)), none, none] [qI (m 111 b.toNat), qI (m 111 a.toNat)]
    refine qJ.icmp_ge hκ (tgt := 34) rfl rfl (by omega) (by omega) (fun c25 => ?_) (fun c25 => ?_)
    · show qJ YX12_joinIn κ _ (qLy u, m, y) 0 0 34 [some (qR 111), some (qI a), some (qI b), some (qI (m 111 b.toNat)), none, none] []
      refine qJ.run hκ 2 (pc' := 36) (ls' := [some (qR 111), some (qI a), some (qI b), some (qI (m 111 b.toNat)), none, none]) (st' := [qI a, qR 111]) rfl ?_
      refine qJ.ald hκ rfl rfl rfl (by decide) (by omega) ?_
      show qJ YX12_joinIn κ _ (qLy u, m, y) 0 0 37 [some (qR 111), some (qI a), some (qI b), some (qI (m 111 b.toNat)), none, none] [qI (m 111 a.toNat)]
      refine qJ.run hκ 3 (pc' := 42) (ls' := [some (qR 111), some (qI a), some (qI b), some (qI (m 111 b.toNat)), some (qI (m 111 a.toNat)), some (qI 0)]) (st' := []) rfl ?_
      exact qJ.cast (L42 21 (m 111 b.toNat) (m 111 a.toNat) (m 111) 0 (by omega) (by omega) (by omega) (by omega) (fun k => by rw [if_neg (by omega)]) (by omega)) (by rw [q_row_self]) rfl rfl
    · show qJ YX12_joinIn κ _ (qLy u, m, y) 0 0 28 [some (qR 111), some (qI a), some (qI b), some (qI (m 111 b.toNat)), none, none] []
      refine qJ.run hκ 2 (pc' := 30) (ls' := [some (qR 111), some (qI a), some (qI b), some (qI (m 111 b.toNat)), none, none]) (st' := [qI b, qR 111]) rfl ?_
      refine qJ.ald hκ rfl rfl rfl (by decide) (by omega) ?_
      show qJ YX12_joinIn κ _ (qLy u, m, y) 0 0 31 [some (qR 111), some (qI a), some (qI b), some (qI (m 111 b.toNat)), none, none] [qI (m 111 b.toNat)]
      refine qJ.run hκ 4 (pc' := 42) (ls' := [some (qR 111), some (qI a), some (qI b), some (qI (m 111 b.toNat)), some (qI (m 111 b.toNat)), some (qI 0)]) (st' := []) rfl ?_
      exact qJ.cast (L42 21 (m 111 b.toNat) (m 111 b.toNat) (m 111) 0 (by omega) (by omega) (by omega) (by omega) (fun k => by rw [if_neg (by omega)]) (by omega)) (by rw [q_row_self]) rfl rfl
  · show qJ YX12_joinIn κ _ (qLy u, m, y) 0 0 9 [some (qR 111), some (qI a), some (qI b), none, none, none] []
    refine qJ.run hκ 2 (pc' := 11) (ls' := [some (qR 111), some (qI a), some (qI b), none, none, none]) (st' := [qI a, qR 111]) rfl ?_
    refine qJ.ald hκ rfl rfl rfl (by decide) (by omega) ?_
    show qJ YX12_joinIn κ _ (qLy u, m, y) 0 0 12 [some (qR 111), some (qI a), some (qI b), none, none, none] [qI (m 111 a.toNat)]
    refine qJ.run hκ 4 (pc' := 21) (ls' := [some (qR 111), some (qI a), some (qI b), some (qI (m 111 a.toNat)), none, none]) (st' := [qI a, qR 111]) rfl ?_
    refine qJ.ald hκ rfl rfl rfl (by decide) (by omega) ?_
    show qJ YX12_joinIn κ _ (qLy u, m, y) 0 0 22 [some (qR 111), some (qI a), some (qI b), some (qI (m 111 a.toNat)), none, none] [qI (m 111 a.toNat)]
    refine qJ.run hκ 2 (pc' := 24) (ls' := [some (qR 111), some (qI a), some (qI b), some (qI (m 111 a.toNat)), none, none]) (st' := [qI b, qR 111, qI (m 111 a.toNat)]) rfl ?_
    refine qJ.ald hκ rfl rfl rfl (by decide) (by omega) ?_
    show qJ YX12_joinIn κ _ (qLy u, m, y) 0 0 25 [some (qR 111), some (qI a), some (qI b), some (qI (m 111 a.toNat)), none, none] [qI (m 111 b.toNat), qI (m 111 a.toNat)]
    refine qJ.icmp_ge hκ (tgt := 34) rfl rfl (by omega) (by omega) (fun c25 => ?_) (fun c25 => ?_)
    · show qJ YX12_joinIn κ _ (qLy u, m, y) 0 0 34 [some (qR 111), some (qI a), some (qI b), some (qI (m 111 a.toNat)), none, none] []
      refine qJ.run hκ 2 (pc' := 36) (ls' := [some (qR 111), some (qI a), some (qI b), some (qI (m 111 a.toNat)), none, none]) (st' := [qI a, qR 111]) rfl ?_
      refine qJ.ald hκ rfl rfl rfl (by decide) (by omega) ?_
      show qJ YX12_joinIn κ _ (qLy u, m, y) 0 0 37 [some (qR 111), some (qI a), some (qI b), some (qI (m 111 a.toNat)), none, none] [qI (m 111 a.toNat)]
      refine qJ.run hκ 3 (pc' := 42) (ls' := [some (qR 111), some (qI a), some (qI b), some (qI (m 111 a.toNat)), some (qI (m 111 a.toNat)), some (qI 0)]) (st' := []) rfl ?_
      exact qJ.cast (L42 21 (m 111 a.toNat) (m 111 a.toNat) (m 111) 0 (by omega) (by omega) (by omega) (by omega) (fun k => by rw [if_neg (by omega)]) (by omega)) (by rw [q_row_self]) rfl rfl
    · show qJ YX12_joinIn κ _ (qLy u, m, y) 0 0 28 [some (qR 111), some (qI a), some (qI b), some (qI (m 111 a.toNat)), none, none] []
      refine qJ.run hκ 2 (pc' := 30) (ls' := [some (qR 111), some (qI a), some (qI b), some (qI (m 111 a.toNat)), none, none]) (st' := [qI b, qR 111]) rfl ?_
      refine qJ.ald hκ rfl rfl rfl (by decide) (by omega) ?_
      show qJ YX12_joinIn κ _ (qLy u, m, y) 0 0 31 [some (qR 111), some (qI a), some (qI b), some (qI (m 111 a.toNat)), none, none] [qI (m 111 b.toNat)]
      refine qJ.run hκ 4 (pc' := 42) (ls' := [some (qR 111), some (qI a), some (qI b), some (qI (m 111 a.toNat)), some (qI (m 111 b.toNat)), some (qI 0)]) (st' := []) rfl ?_
      exact qJ.cast (L42 21 (m 111 a.toNat) (m 111 b.toNat) (m 111) 0 (by omega) (by omega) (by omega) (by omega) (fun k => by rw [if_neg (by omega)]) (by omega)) (by rw [q_row_self]) rfl rfl

theorem sg_e {m : qM} {l gr w i : Int} (hR : rC m) (hM : m 77 35 = gr ∧ m 77 36 = l) (hw : 0 ≤ w ∧ w < m 2 0) (hi : 0 ≤ i ∧ i < m 4 w.toNat) : hs m (m 87 (5 * w + i).toNat) = gs (gM m l gr) 34 (m 3 (w * 5 + i).toNat) := by
  rw [(hR.2.2.1 w hw.1 hw.2).2.2 i hi.1 hi.2]
  unfold hs gs
  rw [hM.1, hM.2]
  rfl
theorem gap_iff {m : qM} {w : Int} (hR : rC m) (hw : 0 ≤ w ∧ w < m 2 0) : q_cnt (hG m w) (m 88 w.toNat).toNat = 0 ↔ m 5 w.toNat = -1 := by
  have e := hR.2.2.1 w hw.1 hw.2
  have g := hR.2.1 w hw.1 hw.2
  rw [e.1.1]
  constructor
  · intro h
    by_cases z : m 5 w.toNat = -1
    · exact z
    · exfalso
      have g2 := (g.2.2 (m 5 w.toNat) (by omega) (by omega)).2.mpr rfl
      refine q_cnt_pos (p := hG m w) (i := m 5 w.toNat) (by omega) (by omega) ?_ h
      rw [hG_i (by omega), e.2.2 _ (by omega) (by omega)]
      exact g2
  · intro h
    have : ∀ n : Nat, (n : Int) ≤ m 4 w.toNat → q_cnt (hG m w) n = 0 := by
      intro n
      induction n with
      | zero => intro _; rfl
      | succ n ih =>
        intro hn
        show q_cnt (hG m w) n + _ = 0
        rw [ih (by omega), if_neg]
        intro z
        have e2 := e.2.2 (n : Int) (by omega) (by omega)
        have g2 := (g.2.2 (n : Int) (by omega) (by omega)).2
        have z2 : m 87 (5 * w + (n : Int)).toNat = 20 := z
        rw [e2] at z2
        have := g2.mp z2
        omega
    exact this _ (by omega)
theorem rC_hW {m : qM} (hR : rC m) : hW m := by
  intro w h0 h1
  have b0 := hR.1.2.2.1.1
  have e := hR.2.2.1 w h0 (by omega)
  have g := hR.2.1 w h0 (by omega)
  rw [e.1.1]
  refine ⟨g.1, fun i i0 i1 => ?_⟩
  rw [e.2.2 i i0 i1]
  exact (g.2.2 i i0 i1).1
theorem c_mGap (u : qU) (m y : qM) (w : Int) (hR : rC m) (hw : 0 ≤ w ∧ w < m 2 0) : qCt YX12_hasGap 1 0 0 [qR 77, qI w] (qLy u, m, y) (fun r h => ∃ z : Int, r = some (qI z) ∧ (z = 1 ∧ ¬ m 5 w.toNat = -1 ∨ z = 0 ∧ ¬ ¬ m 5 w.toNat = -1) ∧ h = (qLy u, m, y)) := by
  have a0 := hR.1.1.1
  have b0 := hR.1.2.2.1.1
  refine (c_hasGap u m y w (by omega) (rC_hW hR) (by omega)).weak ?_
  rintro r h ⟨z, h1, h2, h3⟩
  have := gap_iff hR hw
  exact ⟨z, h1, by rcases h2 with h2 | h2 <;> omega, h3⟩

set_option maxRecDepth 100000 in
theorem c_mSgn (u : qU) (m y : qM) (l gr w i : Int) (hR : rC m) (hM : m 77 35 = gr ∧ m 77 36 = l) (hg : gOK (gM m l gr) 34) (hw : 0 ≤ w ∧ w < m 2 0) (hi : 0 ≤ i ∧ i < m 4 w.toNat) : qCt YX12_signAt 1 0 0 [qR 77, qI w, qI i] (qLy u, m, y) (fun r h => r = some (qI (gs (gM m l gr) 34 (m 3 (w * 5 + i).toNat))) ∧ h = (qLy u, m, y)) := by
  refine qCt.intro okX12_signAt (Nat.le_of_ble_eq_true rfl) (fun κ hκ => ?_)
  have hR2 := hR
  obtain ⟨⟨⟨a0, a1, a2⟩, ⟨a3, a4, a5⟩, ⟨b0, b1, b2⟩, b3, b4, b5⟩, hW, hRW, hT, hRT, hS⟩ := hR2
  have hV : qr (m 83 0) := by omega
  have zr := gHz_r hR.1
  have ze := hz_eq hR.1
  have nWl := nW_le hR.1
  have nTl := nT_le hR.1
  have sgE := sg_e hR hM hw hi
  have w1 := hW w hw.1 hw.2
  have w2 := w1.2.2 i hi.1 hi.2
  have w3 := (hRW w hw.1 hw.2).2.2 i hi.1 hi.2
  have gq := gOK_r hg
  have gq1 : qr gr := gq.1
  show qJ YX12_signAt κ _ (qLy u, m, y) 0 0 0 [some (qR 77), some (qI w), some (qI i), none] []
  refine qJ.run hκ 7 (pc' := 9) (ls' := [some (qR 77), some (qI w), some (qI i), none]) (st' := [qI ((5 * w) + i), qR 87]) rfl ?_
  refine qJ.ald hκ rfl rfl rfl (by decide) (by omega) ?_
  show qJ YX12_signAt κ _ (qLy u, m, y) 0 0 10 [some (qR 77), some (qI w), some (qI i), none] [qI (m 87 (((5 * w) + i).toNat))]
  refine qJ.run hκ 4 (pc' := 16) (ls' := [some (qR 77), some (qI w), some (qI i), some (qI (m 87 (((5 * w) + i).toNat)))]) (st' := [qI (m 77 35), qI (m 87 (((5 * w) + i).toNat))]) rfl ?_
  refine qJ.icmp_ne hκ (tgt := 26) rfl rfl (by omega) (by omega) (fun c16 => ?_) (fun c16 => ?_)
  · show qJ YX12_signAt κ _ (qLy u, m, y) 0 0 26 [some (qR 77), some (qI w), some (qI i), some (qI (m 87 (((5 * w) + i).toNat)))] []
    refine qJ.run hκ 1 (pc' := 27) (ls' := [some (qR 77), some (qI w), some (qI i), some (qI (m 87 (((5 * w) + i).toNat)))]) (st' := [qI (m 87 (((5 * w) + i).toNat))]) rfl ?_
    exact qJ.iret hκ rfl rfl (by decide) (by decide) (by refine ⟨?_, rfl⟩; rw [← sgE]; unfold hs; first | rw [if_pos c16] | rw [if_neg c16])
  · show qJ YX12_signAt κ _ (qLy u, m, y) 0 0 19 [some (qR 77), some (qI w), some (qI i), some (qI (m 87 (((5 * w) + i).toNat)))] []
    refine qJ.run hκ 3 (pc' := 27) (ls' := [some (qR 77), some (qI w), some (qI i), some (qI (m 87 (((5 * w) + i).toNat)))]) (st' := [qI (m 77 36)]) rfl ?_
    exact qJ.iret hκ rfl rfl (by decide) (by decide) (by refine ⟨?_, rfl⟩; rw [← sgE]; unfold hs; first | rw [if_pos c16] | rw [if_neg c16])

set_option maxRecDepth 100000 in
theorem c_endUnlike (u : qU) (m y : qM) (l gr w v : Int) (hR : rC m) (hM : m 77 35 = gr ∧ m 77 36 = l) (hg : gOK (gM m l gr) 34) (hw : 0 ≤ w ∧ w < m 2 0) (hv : 0 ≤ v ∧ v < m 2 0) : qCt YX12_endUnlike 2 0 0 [qR 77, qI w, qI v] (qLy u, m, y) (fun r h => ∃ z : Int, r = some (qI z) ∧ (z = 1 ∧ (stq (gM m l gr) 34 w v ∧ ¬ lst (gM m l gr) 34 w = lst (gM m l gr) 34 v) ∨ z = 0 ∧ ¬ (stq (gM m l gr) 34 w v ∧ ¬ lst (gM m l gr) 34 w = lst (gM m l gr) 34 v)) ∧ h = (qLy u, m, y)) := by
  refine qCt.intro okX12_endUnlike (Nat.le_of_ble_eq_true rfl) (fun κ hκ => ?_)
  have hR2 := hR
  obtain ⟨⟨⟨a0, a1, a2⟩, ⟨a3, a4, a5⟩, ⟨b0, b1, b2⟩, b3, b4, b5⟩, hW, hRW, hT, hRT, hS⟩ := hR2
  have hV : qr (m 83 0) := by omega
  have zr := gHz_r hR.1
  have ze := hz_eq hR.1
  have nWl := nW_le hR.1
  have nTl := nT_le hR.1
  have w1 := hW w hw.1 hw.2
  have w2 := hW v hv.1 hv.2
  have e1 := (hRW w hw.1 hw.2).1.1
  have e2 := (hRW v hv.1 hv.2).1.1
  have ll1 : lst (gM m l gr) 34 w = gs (gM m l gr) 34 (m 3 (w * 5 + (m 4 w.toNat - 1)).toNat) := rfl
  have ll2 : lst (gM m l gr) 34 v = gs (gM m l gr) 34 (m 3 (v * 5 + (m 4 v.toNat - 1)).toNat) := rfl
  have L62 : ∀ (n : Nat) (i : Int), (0 ≤ i) → (i ≤ m 88 w.toNat - 1) → (3 ≤ m 4 w.toNat ∧ m 4 v.toNat = m 4 w.toNat ∧ m 5 w.toNat = -1 ∧ m 5 v.toNat = -1) → (q_cnt (jsD (gM m l gr) 34 w v) i.toNat = 0) → (¬ lst (gM m l gr) 34 w = lst (gM m l gr) 34 v) → ((m 4 w.toNat - i).toNat) < n → qJ YX12_endUnlike κ (qFin (fun r h => ∃ z : Int, r = some (qI z) ∧ (z = 1 ∧ (stq (gM m l gr) 34 w v ∧ ¬ lst (gM m l gr) 34 w = lst (gM m l gr) 34 v) ∨ z = 0 ∧ ¬ (stq (gM m l gr) 34 w v ∧ ¬ lst (gM m l gr) 34 w = lst (gM m l gr) 34 v)) ∧ h = (qLy u, m, y)) 0 0 κ) (qLy u, m, y) 0 0 62 [some (qR 77), some (qI w), some (qI v), some (qI (m 88 w.toNat)), some (qI i)] [] := by
    intro n
    induction n with
    | zero => intro i _ _ _ _ _ hz0; omega
    | succ n ih62 =>
      intro i v62_0 v62_1 v62_2 v62_3 v62_4 v62_m
      refine qJ.run hκ 4 (pc' := 67) (ls' := [some (qR 77), some (qI w), some (qI v), some (qI (m 88 w.toNat)), some (qI i)]) (st' := [qI ((m 88 w.toNat) - 1), qI i]) rfl ?_
      refine qJ.icmp_ge hκ (tgt := 95) rfl rfl (by omega) (by omega) (fun c67 => ?_) (fun c67 => ?_)
      · show qJ YX12_endUnlike κ _ (qLy u, m, y) 0 0 95 [some (qR 77), some (qI w), some (qI v), some (qI (m 88 w.toNat)), some (qI i)] []
        refine qJ.run hκ 1 (pc' := 96) (ls' := [some (qR 77), some (qI w), some (qI v), some (qI (m 88 w.toNat)), some (qI i)]) (st' := [qI 1]) rfl ?_
        exact qJ.bret hκ rfl rfl (by omega) (by decide) (by decide) (⟨1, rfl, Or.inl ⟨rfl, ⟨v62_2, by show q_cnt _ (m 4 w.toNat - 1).toNat = 0; rw [show m 4 w.toNat - 1 = i by omega]; exact v62_3⟩, v62_4⟩, rfl⟩)
      · show qJ YX12_endUnlike κ _ (qLy u, m, y) 0 0 70 [some (qR 77), some (qI w), some (qI v), some (qI (m 88 w.toNat)), some (qI i)] []
        have w3 := (w1.2.2 i (by omega) (by omega)).1
        have w4 := (w2.2.2 i (by omega) (by omega)).1
        have s1 := gs_r hg w3
        have s2 := gs_r hg w4
        refine qJ.run hκ 3 (pc' := 74) (ls' := [some (qR 77), some (qI w), some (qI v), some (qI (m 88 w.toNat)), some (qI i)]) (st' := [qI i, qI w, qR 77]) rfl ?_
        refine qJ.callV (As := [qI w, qI i]) (rest := []) hκ rfl kX12_199 (c_mSgn u m y l gr w i hR hM hg (by omega) (show 0 ≤ i ∧ i < m 4 w.toNat from by omega)) rfl rfl (by decide) rfl rfl (Nat.le_of_ble_eq_true rfl) (Nat.le_of_ble_eq_true rfl) (Nat.le_of_ble_eq_true rfl) (Or.inl (fun r h' e => by obtain ⟨rfl, rfl⟩ := e; rfl)) (fun r h' e => ?_)
        obtain ⟨rfl, rfl⟩ := e
        show qJ YX12_endUnlike κ _ (qLy u, m, y) 0 0 77 [some (qR 77), some (qI w), some (qI v), some (qI (m 88 w.toNat)), some (qI i)] [qI (gs (gM m l gr) 34 (m 3 (w * 5 + i).toNat))]
        refine qJ.run hκ 3 (pc' := 81) (ls' := [some (qR 77), some (qI w), some (qI v), some (qI (m 88 w.toNat)), some (qI i)]) (st' := [qI i, qI v, qR 77, qI (gs (gM m l gr) 34 (m 3 (w * 5 + i).toNat))]) rfl ?_
        refine qJ.callV (As := [qI v, qI i]) (rest := [qI (gs (gM m l gr) 34 (m 3 (w * 5 + i).toNat))]) hκ rfl kX12_199 (c_mSgn u m y l gr v i hR hM hg (by omega) (show 0 ≤ i ∧ i < m 4 v.toNat from by omega)) rfl rfl (by decide) rfl rfl (Nat.le_of_ble_eq_true rfl) (Nat.le_of_ble_eq_true rfl) (Nat.le_of_ble_eq_true rfl) (Or.inl (fun r h' e => by obtain ⟨rfl, rfl⟩ := e; rfl)) (fun r h' e => ?_)
        obtain ⟨rfl, rfl⟩ := e
        show qJ YX12_endUnlike κ _ (qLy u, m, y) 0 0 84 [some (qR 77), some (qI w), some (qI v), some (qI (m 88 w.toNat)), some (qI i)] [qI (gs (gM m l gr) 34 (m 3 (v * 5 + i).toNat)), qI (gs (gM m l gr) 34 (m 3 (w * 5 + i).toNat))]
        refine qJ.icmp_eq hκ (tgt := 89) rfl rfl (by omega) (by omega) (fun c84 => ?_) (fun c84 => ?_)
        · show qJ YX12_endUnlike κ _ (qLy u, m, y) 0 0 89 [some (qR 77), some (qI w), some (qI v), some (qI (m 88 w.toNat)), some (qI i)] []
          refine qJ.run hκ 2 (pc' := 62) (ls' := [some (qR 77), some (qI w), some (qI v), some (qI (m 88 w.toNat)), some (qI (i + 1))]) (st' := []) rfl ?_
          exact ih62  (i + 1) (by omega) (by omega) (by omega) (by rw [q_cnt_s v62_0, if_neg (fun z => (jsD_i v62_0).mp z c84)]; omega) (by omega) (by omega)
        · show qJ YX12_endUnlike κ _ (qLy u, m, y) 0 0 87 [some (qR 77), some (qI w), some (qI v), some (qI (m 88 w.toNat)), some (qI i)] []
          refine qJ.run hκ 1 (pc' := 88) (ls' := [some (qR 77), some (qI w), some (qI v), some (qI (m 88 w.toNat)), some (qI i)]) (st' := [qI 0]) rfl ?_
          exact qJ.bret hκ rfl rfl (by omega) (by decide) (by decide) (⟨0, rfl, Or.inr ⟨rfl, fun z => by obtain ⟨⟨⟨z1, z2, z3, z4⟩, z5⟩, z6⟩ := z; simp only [show (gM m l gr) 4 = m 4 from rfl, show (gM m l gr) 5 = m 5 from rfl] at z1 z2 z3 z4 z5; exact q_cnt_pos v62_0 (by omega) ((jsD_i v62_0).mpr c84) z5⟩, rfl⟩)
  show qJ YX12_endUnlike κ _ (qLy u, m, y) 0 0 0 [some (qR 77), some (qI w), some (qI v), none, none] []
  refine qJ.run hκ 3 (pc' := 5) (ls' := [some (qR 77), some (qI w), some (qI v), none, none]) (st' := [qI w, qR 88]) rfl ?_
  refine qJ.ald hκ rfl rfl rfl (by decide) (by omega) ?_
  show qJ YX12_endUnlike κ _ (qLy u, m, y) 0 0 6 [some (qR 77), some (qI w), some (qI v), none, none] [qI (m 88 w.toNat)]
  refine qJ.run hκ 5 (pc' := 13) (ls' := [some (qR 77), some (qI w), some (qI v), some (qI (m 88 w.toNat)), none]) (st' := [qI v, qR 88, qI (m 88 w.toNat)]) rfl ?_
  refine qJ.ald hκ rfl rfl rfl (by decide) (by omega) ?_
  show qJ YX12_endUnlike κ _ (qLy u, m, y) 0 0 14 [some (qR 77), some (qI w), some (qI v), some (qI (m 88 w.toNat)), none] [qI (m 88 v.toNat), qI (m 88 w.toNat)]
  refine qJ.icmp_ne hκ (tgt := 57) rfl rfl (by omega) (by omega) (fun c14 => ?_) (fun c14 => ?_)
  · show qJ YX12_endUnlike κ _ (qLy u, m, y) 0 0 57 [some (qR 77), some (qI w), some (qI v), some (qI (m 88 w.toNat)), none] []
    refine qJ.run hκ 1 (pc' := 58) (ls' := [some (qR 77), some (qI w), some (qI v), some (qI (m 88 w.toNat)), none]) (st' := [qI 0]) rfl ?_
    exact qJ.bret hκ rfl rfl (by omega) (by decide) (by decide) (by first | exact ⟨0, rfl, Or.inr ⟨rfl, fun z => by obtain ⟨⟨⟨z1, z2, z3, z4⟩, z5⟩, z6⟩ := z; simp only [show (gM m l gr) 4 = m 4 from rfl, show (gM m l gr) 5 = m 5 from rfl] at z1 z2 z3 z4 z5; omega⟩, rfl⟩ | exact ⟨0, rfl, Or.inr ⟨rfl, fun z => by obtain ⟨⟨⟨z1, z2, z3, z4⟩, z5⟩, z6⟩ := z; simp only [show (gM m l gr) 4 = m 4 from rfl, show (gM m l gr) 5 = m 5 from rfl] at z1 z2 z3 z4 z5; (rw [ll1, ll2, z2, ← e1] at z6; exact z6 (by omega))⟩, rfl⟩)
  · show qJ YX12_endUnlike κ _ (qLy u, m, y) 0 0 17 [some (qR 77), some (qI w), some (qI v), some (qI (m 88 w.toNat)), none] []
    refine qJ.run hκ 2 (pc' := 19) (ls' := [some (qR 77), some (qI w), some (qI v), some (qI (m 88 w.toNat)), none]) (st' := [qI 3, qI (m 88 w.toNat)]) rfl ?_
    refine qJ.icmp_lt hκ (tgt := 57) rfl rfl (by omega) (by omega) (fun c19 => ?_) (fun c19 => ?_)
    · show qJ YX12_endUnlike κ _ (qLy u, m, y) 0 0 57 [some (qR 77), some (qI w), some (qI v), some (qI (m 88 w.toNat)), none] []
      refine qJ.run hκ 1 (pc' := 58) (ls' := [some (qR 77), some (qI w), some (qI v), some (qI (m 88 w.toNat)), none]) (st' := [qI 0]) rfl ?_
      exact qJ.bret hκ rfl rfl (by omega) (by decide) (by decide) (by first | exact ⟨0, rfl, Or.inr ⟨rfl, fun z => by obtain ⟨⟨⟨z1, z2, z3, z4⟩, z5⟩, z6⟩ := z; simp only [show (gM m l gr) 4 = m 4 from rfl, show (gM m l gr) 5 = m 5 from rfl] at z1 z2 z3 z4 z5; omega⟩, rfl⟩ | exact ⟨0, rfl, Or.inr ⟨rfl, fun z => by obtain ⟨⟨⟨z1, z2, z3, z4⟩, z5⟩, z6⟩ := z; simp only [show (gM m l gr) 4 = m 4 from rfl, show (gM m l gr) 5 = m 5 from rfl] at z1 z2 z3 z4 z5; (rw [ll1, ll2, z2, ← e1] at z6; exact z6 (by omega))⟩, rfl⟩)
    · show qJ YX12_endUnlike κ _ (qLy u, m, y) 0 0 22 [some (qR 77), some (qI w), some (qI v), some (qI (m 88 w.toNat)), none] []
      refine qJ.run hκ 2 (pc' := 24) (ls' := [some (qR 77), some (qI w), some (qI v), some (qI (m 88 w.toNat)), none]) (st' := [qI w, qR 77]) rfl ?_
      refine qJ.callV (As := [qI w]) (rest := []) hκ rfl kX12_196 (c_mGap u m y w hR (by omega)) rfl rfl (by decide) rfl rfl (Nat.le_of_ble_eq_true rfl) (Nat.le_of_ble_eq_true rfl) (Nat.le_of_ble_eq_true rfl) (Or.inl (fun r h' e => by obtain ⟨z24, rfl, hz24, rfl⟩ := e; rfl)) (fun r h' e => ?_)
      obtain ⟨z24, rfl, hz24, rfl⟩ := e
      show qJ YX12_endUnlike κ _ (qLy u, m, y) 0 0 27 [some (qR 77), some (qI w), some (qI v), some (qI (m 88 w.toNat)), none] [qI z24]
      refine qJ.if_ne hκ (tgt := 57) rfl rfl (by omega) (fun c27 => ?_) (fun c27 => ?_)
      · show qJ YX12_endUnlike κ _ (qLy u, m, y) 0 0 57 [some (qR 77), some (qI w), some (qI v), some (qI (m 88 w.toNat)), none] []
        refine qJ.run hκ 1 (pc' := 58) (ls' := [some (qR 77), some (qI w), some (qI v), some (qI (m 88 w.toNat)), none]) (st' := [qI 0]) rfl ?_
        exact qJ.bret hκ rfl rfl (by omega) (by decide) (by decide) (by first | exact ⟨0, rfl, Or.inr ⟨rfl, fun z => by obtain ⟨⟨⟨z1, z2, z3, z4⟩, z5⟩, z6⟩ := z; simp only [show (gM m l gr) 4 = m 4 from rfl, show (gM m l gr) 5 = m 5 from rfl] at z1 z2 z3 z4 z5; omega⟩, rfl⟩ | exact ⟨0, rfl, Or.inr ⟨rfl, fun z => by obtain ⟨⟨⟨z1, z2, z3, z4⟩, z5⟩, z6⟩ := z; simp only [show (gM m l gr) 4 = m 4 from rfl, show (gM m l gr) 5 = m 5 from rfl] at z1 z2 z3 z4 z5; (rw [ll1, ll2, z2, ← e1] at z6; exact z6 (by omega))⟩, rfl⟩)
      · show qJ YX12_endUnlike κ _ (qLy u, m, y) 0 0 30 [some (qR 77), some (qI w), some (qI v), some (qI (m 88 w.toNat)), none] []
        refine qJ.run hκ 2 (pc' := 32) (ls' := [some (qR 77), some (qI w), some (qI v), some (qI (m 88 w.toNat)), none]) (st' := [qI v, qR 77]) rfl ?_
        refine qJ.callV (As := [qI v]) (rest := []) hκ rfl kX12_196 (c_mGap u m y v hR (by omega)) rfl rfl (by decide) rfl rfl (Nat.le_of_ble_eq_true rfl) (Nat.le_of_ble_eq_true rfl) (Nat.le_of_ble_eq_true rfl) (Or.inl (fun r h' e => by obtain ⟨z32, rfl, hz32, rfl⟩ := e; rfl)) (fun r h' e => ?_)
        obtain ⟨z32, rfl, hz32, rfl⟩ := e
        show qJ YX12_endUnlike κ _ (qLy u, m, y) 0 0 35 [some (qR 77), some (qI w), some (qI v), some (qI (m 88 w.toNat)), none] [qI z32]
        refine qJ.if_ne hκ (tgt := 57) rfl rfl (by omega) (fun c35 => ?_) (fun c35 => ?_)
        · show qJ YX12_endUnlike κ _ (qLy u, m, y) 0 0 57 [some (qR 77), some (qI w), some (qI v), some (qI (m 88 w.toNat)), none] []
          refine qJ.run hκ 1 (pc' := 58) (ls' := [some (qR 77), some (qI w), some (qI v), some (qI (m 88 w.toNat)), none]) (st' := [qI 0]) rfl ?_
          exact qJ.bret hκ rfl rfl (by omega) (by decide) (by decide) (by first | exact ⟨0, rfl, Or.inr ⟨rfl, fun z => by obtain ⟨⟨⟨z1, z2, z3, z4⟩, z5⟩, z6⟩ := z; simp only [show (gM m l gr) 4 = m 4 from rfl, show (gM m l gr) 5 = m 5 from rfl] at z1 z2 z3 z4 z5; omega⟩, rfl⟩ | exact ⟨0, rfl, Or.inr ⟨rfl, fun z => by obtain ⟨⟨⟨z1, z2, z3, z4⟩, z5⟩, z6⟩ := z; simp only [show (gM m l gr) 4 = m 4 from rfl, show (gM m l gr) 5 = m 5 from rfl] at z1 z2 z3 z4 z5; (rw [ll1, ll2, z2, ← e1] at z6; exact z6 (by omega))⟩, rfl⟩)
        · show qJ YX12_endUnlike κ _ (qLy u, m, y) 0 0 38 [some (qR 77), some (qI w), some (qI v), some (qI (m 88 w.toNat)), none] []
          have w3 := (w1.2.2 (m 88 w.toNat - 1) (by omega) (by omega)).1
          have w4 := (w2.2.2 (m 88 w.toNat - 1) (by omega) (by omega)).1
          have s1 := gs_r hg w3
          have s2 := gs_r hg w4
          refine qJ.run hκ 5 (pc' := 43) (ls' := [some (qR 77), some (qI w), some (qI v), some (qI (m 88 w.toNat)), none]) (st' := [qI ((m 88 w.toNat) - 1), qI w, qR 77]) rfl ?_
          refine qJ.callV (As := [qI w, qI ((m 88 w.toNat) - 1)]) (rest := []) hκ rfl kX12_199 (c_mSgn u m y l gr w ((m 88 w.toNat) - 1) hR hM hg (by omega) (show 0 ≤ ((m 88 w.toNat) - 1) ∧ ((m 88 w.toNat) - 1) < m 4 w.toNat from by omega)) rfl rfl (by decide) rfl rfl (Nat.le_of_ble_eq_true rfl) (Nat.le_of_ble_eq_true rfl) (Nat.le_of_ble_eq_true rfl) (Or.inl (fun r h' e => by obtain ⟨rfl, rfl⟩ := e; rfl)) (fun r h' e => ?_)
          obtain ⟨rfl, rfl⟩ := e
          show qJ YX12_endUnlike κ _ (qLy u, m, y) 0 0 46 [some (qR 77), some (qI w), some (qI v), some (qI (m 88 w.toNat)), none] [qI (gs (gM m l gr) 34 (m 3 (w * 5 + ((m 88 w.toNat) - 1)).toNat))]
          refine qJ.run hκ 5 (pc' := 51) (ls' := [some (qR 77), some (qI w), some (qI v), some (qI (m 88 w.toNat)), none]) (st' := [qI ((m 88 w.toNat) - 1), qI v, qR 77, qI (gs (gM m l gr) 34 (m 3 (w * 5 + ((m 88 w.toNat) - 1)).toNat))]) rfl ?_
          refine qJ.callV (As := [qI v, qI ((m 88 w.toNat) - 1)]) (rest := [qI (gs (gM m l gr) 34 (m 3 (w * 5 + ((m 88 w.toNat) - 1)).toNat))]) hκ rfl kX12_199 (c_mSgn u m y l gr v ((m 88 w.toNat) - 1) hR hM hg (by omega) (show 0 ≤ ((m 88 w.toNat) - 1) ∧ ((m 88 w.toNat) - 1) < m 4 v.toNat from by omega)) rfl rfl (by decide) rfl rfl (Nat.le_of_ble_eq_true rfl) (Nat.le_of_ble_eq_true rfl) (Nat.le_of_ble_eq_true rfl) (Or.inl (fun r h' e => by obtain ⟨rfl, rfl⟩ := e; rfl)) (fun r h' e => ?_)
          obtain ⟨rfl, rfl⟩ := e
          show qJ YX12_endUnlike κ _ (qLy u, m, y) 0 0 54 [some (qR 77), some (qI w), some (qI v), some (qI (m 88 w.toNat)), none] [qI (gs (gM m l gr) 34 (m 3 (v * 5 + ((m 88 w.toNat) - 1)).toNat)), qI (gs (gM m l gr) 34 (m 3 (w * 5 + ((m 88 w.toNat) - 1)).toNat))]
          refine qJ.icmp_ne hκ (tgt := 59) rfl rfl (by omega) (by omega) (fun c54 => ?_) (fun c54 => ?_)
          · show qJ YX12_endUnlike κ _ (qLy u, m, y) 0 0 59 [some (qR 77), some (qI w), some (qI v), some (qI (m 88 w.toNat)), none] []
            refine qJ.run hκ 2 (pc' := 62) (ls' := [some (qR 77), some (qI w), some (qI v), some (qI (m 88 w.toNat)), some (qI 0)]) (st' := []) rfl ?_
            exact L62 7 0 (by omega) (by omega) (by omega) (rfl) (by rw [ll1, ll2, show m 4 v.toNat = m 4 w.toNat by omega, ← e1]; exact c54) (by omega)
          · show qJ YX12_endUnlike κ _ (qLy u, m, y) 0 0 57 [some (qR 77), some (qI w), some (qI v), some (qI (m 88 w.toNat)), none] []
            refine qJ.run hκ 1 (pc' := 58) (ls' := [some (qR 77), some (qI w), some (qI v), some (qI (m 88 w.toNat)), none]) (st' := [qI 0]) rfl ?_
            exact qJ.bret hκ rfl rfl (by omega) (by decide) (by decide) (by first | exact ⟨0, rfl, Or.inr ⟨rfl, fun z => by obtain ⟨⟨⟨z1, z2, z3, z4⟩, z5⟩, z6⟩ := z; simp only [show (gM m l gr) 4 = m 4 from rfl, show (gM m l gr) 5 = m 5 from rfl] at z1 z2 z3 z4 z5; omega⟩, rfl⟩ | exact ⟨0, rfl, Or.inr ⟨rfl, fun z => by obtain ⟨⟨⟨z1, z2, z3, z4⟩, z5⟩, z6⟩ := z; simp only [show (gM m l gr) 4 = m 4 from rfl, show (gM m l gr) 5 = m 5 from rfl] at z1 z2 z3 z4 z5; (rw [ll1, ll2, z2, ← e1] at z6; exact z6 (by omega))⟩, rfl⟩)

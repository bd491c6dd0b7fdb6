/-! printed by p66.py: readText -/
theorem keep_cp {K : Nat → Nat → Bool} {m : qM} {a0 sp a1 dp n : Nat} (h : ∀ j, K a1 j = false) : keep K (q_cpy m a0 sp a1 dp n) = keep K m := by
  funext i j
  unfold keep
  by_cases e : i = a1
  · subst e
    have hf : ¬ K i j = true := fun z => by rw [h j] at z; exact absurd z (by decide)
    rw [if_neg hf, if_neg hf]
  · have : q_cpy m a0 sp a1 dp n i j = m i j := by
      unfold q_cpy
      rw [if_neg (fun z => e z.1)]
    rw [this]
theorem lnX_r {t : Nat → Int} {L p : Int} (h0 : 0 ≤ p) (h : p ≤ L) : -1 ≤ lnX t L p ∧ lnX t L p ≤ L := by
  have b0 := te0 (t := t) h0 h
  have b1 := te0 (t := t) b0.1 b0.2
  have b2 := te0 (t := t) b1.1 b1.2
  have b3 := te0 (t := t) b2.1 b2.2
  have b4 := te0 (t := t) b3.1 b3.2
  have a0 := tS_r t h
  have c1 := tS_r t b0.2
  have c3 := tS_r t b1.2
  have c5 := tS_r t b2.2
  have c7 := tS_r t b3.2
  have c9 := tS_r t b4.2
  have d5 : 0 ≤ q5 t L p ∧ q5 t L p ≤ L := by unfold q5 q3; split <;> omega
  have c6 := tS_r t d5.2
  have e3 : q3 t L p = tE t L (tE t L (tE t L p)) := rfl
  unfold lnX
  rw [e3]
  split
  · omega
  · split
    · omega
    · split
      · omega
      · split
        · omega
        · split
          · omega
          · split <;> omega
theorem lnGood_e {t t' : Nat → Int} {L : Int} (h : sB t L = sB t' L) {m m' : qM} {p : Int} (hG : lnGood t L m p m') : lnGood t' L m p m' := by
  unfold lnGood at hG ⊢
  rw [← tS_e h, ← tE_e h, ← q3_e h, ← q6_e h, ← tA_e h, ← tC_e h, ← tD_e h, ← lO_e h]
  exact hG
abbrev rF (f : Nat → Int) : Nat → Int := fun k => if k < 18 then -1 else f k
def rStk (t : Nat → Int) (L : Int) (m : qM) (i : Nat) : Prop := lOk t L i ∧ ¬ tK t L (lnP t L i) = 0 ∧ ¬ lnX t L (lnP t L i) = -1 ∧ m 49 8 = lnX t L (lnP t L i) ∧ (0 ≤ lnP t L i ∧ lnP t L i ≤ L)

set_option maxRecDepth 100000 in
theorem c_text (u : qU) (m y : qM) (n0 : Int) (hL : 0 ≤ n0 ∧ n0 ≤ 400) (hb : ∀ j : Nat, (j : Int) < n0 → -128 ≤ m 21 j ∧ m 21 j ≤ 127) : qCt YX5_readText 8 0 0 [qR 49, qR 21, qI n0] (qLy u, m, y) (fun r h => r = none ∧ ∃ m' i, h = (qLy u, m', y) ∧ keep (kN kTx) m' = keep (kN kTx) m ∧ ((rRun (m 21) n0 (rF (m 50)) (rF (m 51)) m' i ∧ tK (m 21) n0 (lnP (m 21) n0 i) = 0) ∨ rStk (m 21) n0 m' i)) := by
  refine qCt.intro okX5_readText (Nat.le_of_ble_eq_true rfl) (fun κ hκ => ?_)
  have L72 : ∀ (n : Nat) (M6 : qM) (i : Int), (0 ≤ i ∧ i ≤ 401) → (M6 49 4 = n0) → (sB (M6 52) n0 = sB (m 21) n0) → (keep (kN kTx) M6 = keep (kN kTx) m) → (rRun (m 21) n0 (rF (m 50)) (rF (m 51)) M6 i.toNat ∨ ∃ j, rStk (m 21) n0 M6 j) → ((402 - i).toNat) < n → qJ YX5_readText κ (qFin (fun r h => r = none ∧ ∃ m' i, h = (qLy u, m', y) ∧ keep (kN kTx) m' = keep (kN kTx) m ∧ ((rRun (m 21) n0 (rF (m 50)) (rF (m 51)) m' i ∧ tK (m 21) n0 (lnP (m 21) n0 i) = 0) ∨ rStk (m 21) n0 m' i)) 0 0 κ) (qLy u, M6, y) 0 0 72 [some (qR 49), some (qR 21), some (qI n0), some (qI i)] [] := by
    intro n
    induction n with
    | zero => intro M6 i _ _ _ _ _ hz0; omega
    | succ n ih72 =>
      intro M6 i v72_0 v72_1 v72_2 v72_3 v72_4 v72_m
      have a8 : qr (M6 49 8) := by rcases v72_4 with q | ⟨j, q⟩; (have := q.1.2.1; omega); (have := q.2.2.2.1; have := lnX_r (t := m 21) q.2.2.2.2.1 q.2.2.2.2.2; omega)
      refine qJ.run hκ 2 (pc' := 76) (ls' := [some (qR 49), some (qR 21), some (qI n0), some (qI i)]) (st' := [qI 400, qI i]) rfl ?_
      refine qJ.icmp_gt hκ (tgt := 104) rfl rfl (by omega) (by omega) (fun c76 => ?_) (fun c76 => ?_)
      · show qJ YX5_readText κ _ (qLy u, M6, y) 0 0 104 [some (qR 49), some (qR 21), some (qI n0), some (qI i)] []
        have Z : ∃ j, rStk (m 21) n0 M6 j := by rcases v72_4 with q | q; (have := q.2.2.2.2.2; have := q.1.2.2.1; omega); exact q
        exact qJ.vret hκ rfl rfl (by decide) (by decide) (by first | exact (let ⟨j, q⟩ := Z; ⟨rfl, M6, j, rfl, v72_3, Or.inr q⟩) | exact ⟨rfl, M6, i.toNat, rfl, v72_3, Or.inl ⟨RU, by rw [← k5]; omega⟩⟩)
      · show qJ YX5_readText κ _ (qLy u, M6, y) 0 0 79 [some (qR 49), some (qR 21), some (qI n0), some (qI i)] []
        refine qJ.run hκ 3 (pc' := 84) (ls' := [some (qR 49), some (qR 21), some (qI n0), some (qI i)]) (st' := [qI (-1), qI (M6 49 8)]) rfl ?_
        refine qJ.icmp_ne hκ (tgt := 104) rfl rfl (by omega) (by omega) (fun c84 => ?_) (fun c84 => ?_)
        · show qJ YX5_readText κ _ (qLy u, M6, y) 0 0 104 [some (qR 49), some (qR 21), some (qI n0), some (qI i)] []
          have Z : ∃ j, rStk (m 21) n0 M6 j := by rcases v72_4 with q | q; (exact absurd q.1.2.1.1 c84); exact q
          exact qJ.vret hκ rfl rfl (by decide) (by decide) (by first | exact (let ⟨j, q⟩ := Z; ⟨rfl, M6, j, rfl, v72_3, Or.inr q⟩) | exact ⟨rfl, M6, i.toNat, rfl, v72_3, Or.inl ⟨RU, by rw [← k5]; omega⟩⟩)
        · show qJ YX5_readText κ _ (qLy u, M6, y) 0 0 87 [some (qR 49), some (qR 21), some (qI n0), some (qI i)] []
          have RU : rRun (m 21) n0 (rF (m 50)) (rF (m 51)) M6 i.toNat := by rcases v72_4 with q | ⟨j, q⟩; exact q; exact absurd (q.2.2.2.1.symm.trans c84) q.2.2.1
          have k5 : M6 49 5 = tK (m 21) n0 (lnP (m 21) n0 i.toNat) := by have := RU.1.1.1; rw [v72_1, tK_e v72_2] at this; exact this
          have ki := tK_i (m 21) n0 (lnP (m 21) n0 i.toNat)
          have pl := RU.1.2.2.1
          have il := RU.2.2.2.2.2
          refine qJ.run hκ 2 (pc' := 91) (ls' := [some (qR 49), some (qR 21), some (qI n0), some (qI i)]) (st' := [qI (M6 49 5)]) rfl ?_
          refine qJ.if_eq hκ (tgt := 104) rfl rfl (by omega) (fun c91 => ?_) (fun c91 => ?_)
          · show qJ YX5_readText κ _ (qLy u, M6, y) 0 0 104 [some (qR 49), some (qR 21), some (qI n0), some (qI i)] []
            exact qJ.vret hκ rfl rfl (by decide) (by decide) (by first | exact (let ⟨j, q⟩ := Z; ⟨rfl, M6, j, rfl, v72_3, Or.inr q⟩) | exact ⟨rfl, M6, i.toNat, rfl, v72_3, Or.inl ⟨RU, by rw [← k5]; omega⟩⟩)
          · show qJ YX5_readText κ _ (qLy u, M6, y) 0 0 94 [some (qR 49), some (qR 21), some (qI n0), some (qI i)] []
            refine qJ.run hκ 1 (pc' := 95) (ls' := [some (qR 49), some (qR 21), some (qI n0), some (qI i)]) (st' := [qR 49]) rfl ?_
            refine qJ.callV (As := []) (rest := []) hκ rfl kX5_68 (c_line u M6 y (M6 52) n0 (lnP (m 21) n0 i.toNat) rfl v72_1 RU.1 (by rw [RU.2.2.1.1]; exact mu9_r _ _ _) (by rw [RU.2.1]; omega) (by rw [RU.2.2.2.1.1]; exact rw5_r _ _ _ _ (fun j hj => by show -1 ≤ (if j < 18 then _ else _) ∧ (if j < 18 then _ else _) ≤ (3 : Int); rw [if_pos hj]; omega) _)) rfl rfl (by decide) rfl rfl (Nat.le_of_ble_eq_true rfl) (Nat.le_of_ble_eq_true rfl) (Nat.le_of_ble_eq_true rfl) (Or.inl (fun r h' e => by obtain ⟨rfl, m7, rfl, KL, HL5⟩ := e; rfl)) (fun r h' e => ?_)
            obtain ⟨rfl, m7, rfl, KL, HL5⟩ := e
            show qJ YX5_readText κ _ (qLy u, m7, y) 0 0 98 [some (qR 49), some (qR 21), some (qI n0), some (qI i)] []
            refine qJ.run hκ 2 (pc' := 72) (ls' := [some (qR 49), some (qR 21), some (qI n0), some (qI (i + 1))]) (st' := []) rfl ?_
            exact ih72  m7 (i + 1) (by omega) ((congrFun (congrFun KL 49) 4).trans v72_1) (by rw [show m7 52 = M6 52 from congrFun KL 52]; exact v72_2) ((keep_of kTxl KL).trans v72_3) (by
        rw [lnX_e v72_2] at HL5
        rcases HL5 with ⟨x1, x2, x3⟩ | ⟨x1, x2⟩
        · exact Or.inr ⟨i.toNat, RU.2.2.2.2.1, by rw [← k5]; omega, x1, x2, by rw [v72_1] at pl; exact pl⟩
        · rw [show (i + 1).toNat = i.toNat + 1 by omega]
          exact Or.inl (rRun_s RU v72_1 (by rw [← k5]; omega) x1 (lnGood_e v72_2 x2))) (by omega)
  show qJ YX5_readText κ _ (qLy u, m, y) 0 0 0 [some (qR 49), some (qR 21), some (qI n0), none] []
  refine qJ.run hκ 3 (pc' := 5) (ls' := [some (qR 49), some (qR 21), some (qI n0), none]) (st' := [qI 400, qI n0, qR 49]) rfl ?_
  refine qJ.min hκ rfl kX5_47 (Nat.le_of_ble_eq_true rfl) (Nat.le_of_ble_eq_true rfl) (Nat.le_of_ble_eq_true rfl) (Nat.le_of_ble_eq_true rfl) (by omega) (by omega) ?_
  show qJ YX5_readText κ _ (qLy u, m, y) 0 0 8 [some (qR 49), some (qR 21), some (qI n0), none] [qI (min n0 400), qR 49]
  rw [show (min n0 400 : Int) = n0 from by omega]
  show qJ YX5_readText κ _ (qLy u, m, y) 0 0 8 [some (qR 49), some (qR 21), some (qI n0), none] [qI n0, qR 49]
  refine qJ.putI hκ rfl rfl rfl rfl (Or.inl rfl) ?_
  show qJ YX5_readText κ _ (qLy u, (q_up m 49 4 n0), y) 0 0 11 [some (qR 49), some (qR 21), some (qI n0), none] []
  refine qJ.run hκ 7 (pc' := 22) (ls' := [some (qR 49), some (qR 21), some (qI n0), none]) (st' := [qI n0, qI 0, qR 52, qI 0, qR 21]) rfl ?_
  refine qJ.copy hκ rfl kX5_53 (Nat.le_of_ble_eq_true rfl) (Nat.le_of_ble_eq_true rfl) rfl rfl (by decide) (by decide) (by omega) (by omega) (by omega) (by omega) (by omega) (Or.inr ⟨rfl, fun i hi => by show -128 ≤ m 21 (0 + i) ∧ m 21 (0 + i) ≤ 127; rw [Nat.zero_add]; exact hb i (by omega)⟩) ?_
  show qJ YX5_readText κ _ (qLy u, (q_cpy (q_up m 49 4 n0) 21 0 52 0 n0.toNat), y) 0 0 25 [some (qR 49), some (qR 21), some (qI n0), none] []
  refine qJ.run hκ 2 (pc' := 27) (ls' := [some (qR 49), some (qR 21), some (qI n0), none]) (st' := [qI 0, qR 49]) rfl ?_
  refine qJ.putI hκ rfl rfl rfl rfl (Or.inl rfl) ?_
  show qJ YX5_readText κ _ (qLy u, (q_up (q_cpy (q_up m 49 4 n0) 21 0 52 0 n0.toNat) 49 0 0), y) 0 0 30 [some (qR 49), some (qR 21), some (qI n0), none] []
  refine qJ.run hκ 3 (pc' := 35) (ls' := [some (qR 49), some (qR 21), some (qI n0), none]) (st' := [qI (-1), qR 50]) rfl ?_
  refine qJ.callS (As := [qR 50, qI (-1)]) (rest := []) hκ rfl kX5_59 (c_fill50 u (q_up (q_cpy (q_up m 49 4 n0) 21 0 52 0 n0.toNat) 49 0 0) y (-1)) (by decide) rfl rfl (Nat.le_of_ble_eq_true rfl) (Nat.le_of_ble_eq_true rfl) (Nat.le_of_ble_eq_true rfl) (Or.inl (fun r h' e => by obtain ⟨rfl, rfl⟩ := e; rfl)) (fun r h' e => ?_)
  obtain ⟨rfl, rfl⟩ := e
  show qJ YX5_readText κ _ (qLy u, (q_row (q_up (q_cpy (q_up m 49 4 n0) 21 0 52 0 n0.toNat) 49 0 0) 50 (fun k => if k < 18 then (-1) else m 50 k)), y) 0 0 38 [some (qR 49), some (qR 21), some (qI n0), none] []
  refine qJ.run hκ 3 (pc' := 43) (ls' := [some (qR 49), some (qR 21), some (qI n0), none]) (st' := [qI (-1), qR 51]) rfl ?_
  refine qJ.callS (As := [qR 51, qI (-1)]) (rest := []) hκ rfl kX5_59 (c_fill51 u (q_row (q_up (q_cpy (q_up m 49 4 n0) 21 0 52 0 n0.toNat) 49 0 0) 50 (fun k => if k < 18 then (-1) else m 50 k)) y (-1)) (by decide) rfl rfl (Nat.le_of_ble_eq_true rfl) (Nat.le_of_ble_eq_true rfl) (Nat.le_of_ble_eq_true rfl) (Or.inl (fun r h' e => by obtain ⟨rfl, rfl⟩ := e; rfl)) (fun r h' e => ?_)
  obtain ⟨rfl, rfl⟩ := e
  show qJ YX5_readText κ _ (qLy u, (q_row (q_row (q_up (q_cpy (q_up m 49 4 n0) 21 0 52 0 n0.toNat) 49 0 0) 50 (fun k => if k < 18 then (-1) else m 50 k)) 51 (fun k => if k < 18 then (-1) else m 51 k)), y) 0 0 46 [some (qR 49), some (qR 21), some (qI n0), none] []
  refine qJ.run hκ 2 (pc' := 48) (ls' := [some (qR 49), some (qR 21), some (qI n0), none]) (st' := [qI (-1), qR 49]) rfl ?_
  refine qJ.putI hκ rfl rfl rfl rfl (Or.inl rfl) ?_
  show qJ YX5_readText κ _ (qLy u, (q_up (q_row (q_row (q_up (q_cpy (q_up m 49 4 n0) 21 0 52 0 n0.toNat) 49 0 0) 50 (fun k => if k < 18 then (-1) else m 50 k)) 51 (fun k => if k < 18 then (-1) else m 51 k)) 49 8 (-1)), y) 0 0 51 [some (qR 49), some (qR 21), some (qI n0), none] []
  refine qJ.run hκ 2 (pc' := 53) (ls' := [some (qR 49), some (qR 21), some (qI n0), none]) (st' := [qI 0, qR 49]) rfl ?_
  refine qJ.putI hκ rfl rfl rfl rfl (Or.inl rfl) ?_
  show qJ YX5_readText κ _ (qLy u, (q_up (q_up (q_row (q_row (q_up (q_cpy (q_up m 49 4 n0) 21 0 52 0 n0.toNat) 49 0 0) 50 (fun k => if k < 18 then (-1) else m 50 k)) 51 (fun k => if k < 18 then (-1) else m 51 k)) 49 8 (-1)) 49 9 0), y) 0 0 56 [some (qR 49), some (qR 21), some (qI n0), none] []
  refine qJ.run hκ 2 (pc' := 58) (ls' := [some (qR 49), some (qR 21), some (qI n0), none]) (st' := [qI (-1), qR 49]) rfl ?_
  refine qJ.putI hκ rfl rfl rfl rfl (Or.inl rfl) ?_
  show qJ YX5_readText κ _ (qLy u, (q_up (q_up (q_up (q_row (q_row (q_up (q_cpy (q_up m 49 4 n0) 21 0 52 0 n0.toNat) 49 0 0) 50 (fun k => if k < 18 then (-1) else m 50 k)) 51 (fun k => if k < 18 then (-1) else m 51 k)) 49 8 (-1)) 49 9 0) 49 10 (-1)), y) 0 0 61 [some (qR 49), some (qR 21), some (qI n0), none] []
  refine qJ.run hκ 2 (pc' := 63) (ls' := [some (qR 49), some (qR 21), some (qI n0), none]) (st' := [qI 0, qR 49]) rfl ?_
  refine qJ.putI hκ rfl rfl rfl rfl (Or.inl rfl) ?_
  show qJ YX5_readText κ _ (qLy u, (q_up (q_up (q_up (q_up (q_row (q_row (q_up (q_cpy (q_up m 49 4 n0) 21 0 52 0 n0.toNat) 49 0 0) 50 (fun k => if k < 18 then (-1) else m 50 k)) 51 (fun k => if k < 18 then (-1) else m 51 k)) 49 8 (-1)) 49 9 0) 49 10 (-1)) 49 7 0), y) 0 0 66 [some (qR 49), some (qR 21), some (qI n0), none] []
  have hc : ∀ j : Nat, (j : Int) < n0 → (q_up (q_up (q_up (q_up (q_row (q_row (q_up (q_cpy (q_up m 49 4 n0) 21 0 52 0 n0.toNat) 49 0 0) 50 (fun k => if k < 18 then (-1) else m 50 k)) 51 (fun k => if k < 18 then (-1) else m 51 k)) 49 8 (-1)) 49 9 0) 49 10 (-1)) 49 7 0) 52 j = m 21 j := fun j hj => by
    show q_cpy (q_up m 49 4 n0) 21 0 52 0 n0.toNat 52 j = _
    rw [q_cpy_at, if_pos ⟨by omega, by omega⟩]
    show m 21 (0 + (j - 0)) = m 21 j
    rw [Nat.zero_add, Nat.sub_zero]
  have hb2 : ∀ j : Nat, (j : Int) < n0 → -128 ≤ (q_up (q_up (q_up (q_up (q_row (q_row (q_up (q_cpy (q_up m 49 4 n0) 21 0 52 0 n0.toNat) 49 0 0) 50 (fun k => if k < 18 then (-1) else m 50 k)) 51 (fun k => if k < 18 then (-1) else m 51 k)) 49 8 (-1)) 49 9 0) 49 10 (-1)) 49 7 0) 52 j ∧ (q_up (q_up (q_up (q_up (q_row (q_row (q_up (q_cpy (q_up m 49 4 n0) 21 0 52 0 n0.toNat) 49 0 0) 50 (fun k => if k < 18 then (-1) else m 50 k)) 51 (fun k => if k < 18 then (-1) else m 51 k)) 49 8 (-1)) 49 9 0) 49 10 (-1)) 49 7 0) 52 j ≤ 127 := fun j hj => by rw [hc j hj]; exact hb j hj
  have kc : keep (kN kTx) (q_up (q_up (q_up (q_up (q_row (q_row (q_up (q_cpy (q_up m 49 4 n0) 21 0 52 0 n0.toNat) 49 0 0) 50 (fun k => if k < 18 then (-1) else m 50 k)) 51 (fun k => if k < 18 then (-1) else m 51 k)) 49 8 (-1)) 49 9 0) 49 10 (-1)) 49 7 0) = keep (kN kTx) m := (Eq.trans (keep_up (by rfl)) (Eq.trans (keep_up (by rfl)) (Eq.trans (keep_up (by rfl)) (Eq.trans (keep_up (by rfl)) (Eq.trans (keep_row (by intro j; rfl)) (Eq.trans (keep_row (by intro j; rfl)) (Eq.trans (keep_up (by rfl)) (Eq.trans (keep_cp (by intro j; rfl)) (Eq.trans (keep_up (by rfl)) rfl)))))))))
  refine qJ.run hκ 1 (pc' := 67) (ls' := [some (qR 49), some (qR 21), some (qI n0), none]) (st' := [qR 49]) rfl ?_
  refine qJ.callV (As := []) (rest := []) hκ rfl kX5_65 (c_scan u (q_up (q_up (q_up (q_up (q_row (q_row (q_up (q_cpy (q_up m 49 4 n0) 21 0 52 0 n0.toNat) 49 0 0) 50 (fun k => if k < 18 then (-1) else m 50 k)) 51 (fun k => if k < 18 then (-1) else m 51 k)) 49 8 (-1)) 49 9 0) 49 10 (-1)) 49 7 0) y hb2 (show 0 ≤ n0 ∧ n0 ≤ 400 from hL) (show (0 : Int) ≤ 0 ∧ 0 ≤ n0 from by omega)) rfl rfl (by decide) rfl rfl (Nat.le_of_ble_eq_true rfl) (Nat.le_of_ble_eq_true rfl) (Nat.le_of_ble_eq_true rfl) (Or.inl (fun r h' e => by obtain ⟨rfl, rfl⟩ := e; rfl)) (fun r h' e => ?_)
  obtain ⟨rfl, rfl⟩ := e
  show qJ YX5_readText κ _ (qLy u, (SCm ((q_up (q_up (q_up (q_up (q_row (q_row (q_up (q_cpy (q_up m 49 4 n0) 21 0 52 0 n0.toNat) 49 0 0) 50 (fun k => if k < 18 then (-1) else m 50 k)) 51 (fun k => if k < 18 then (-1) else m 51 k)) 49 8 (-1)) 49 9 0) 49 10 (-1)) 49 7 0) 52) n0 (q_up (q_up (q_up (q_up (q_row (q_row (q_up (q_cpy (q_up m 49 4 n0) 21 0 52 0 n0.toNat) 49 0 0) 50 (fun k => if k < 18 then (-1) else m 50 k)) 51 (fun k => if k < 18 then (-1) else m 51 k)) 49 8 (-1)) 49 9 0) 49 10 (-1)) 49 7 0) 0), y) 0 0 70 [some (qR 49), some (qR 21), some (qI n0), none] []
  refine qJ.run hκ 2 (pc' := 72) (ls' := [some (qR 49), some (qR 21), some (qI n0), some (qI 0)]) (st' := []) rfl ?_
  exact L72 403 (SCm ((q_up (q_up (q_up (q_up (q_row (q_row (q_up (q_cpy (q_up m 49 4 n0) 21 0 52 0 n0.toNat) 49 0 0) 50 (fun k => if k < 18 then (-1) else m 50 k)) 51 (fun k => if k < 18 then (-1) else m 51 k)) 49 8 (-1)) 49 9 0) 49 10 (-1)) 49 7 0) 52) n0 (q_up (q_up (q_up (q_up (q_row (q_row (q_up (q_cpy (q_up m 49 4 n0) 21 0 52 0 n0.toNat) 49 0 0) 50 (fun k => if k < 18 then (-1) else m 50 k)) 51 (fun k => if k < 18 then (-1) else m 51 k)) 49 8 (-1)) 49 9 0) 49 10 (-1)) 49 7 0) 0) 0 (by omega) (rfl) (sB_e hc) (Eq.trans (keep_up (by rfl)) (Eq.trans (keep_up (by rfl)) (Eq.trans (keep_up (by rfl)) kc))) (Or.inl ⟨⟨⟨rfl, rfl, rfl⟩, ⟨rfl, by omega, by omega⟩, ⟨Int.le_refl 0, hL.1⟩, hL, hb2⟩, rfl, ⟨rfl, rfl⟩, ⟨rfl, rfl⟩, fun j hj => absurd hj (Nat.not_lt_zero j), Int.le_refl 0⟩) (by omega)

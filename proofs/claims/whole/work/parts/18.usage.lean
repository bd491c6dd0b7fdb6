/-! printed by p18.py: Usage -/
/-- how often a sign stands among a word's first i -/
def uC (m : qM) (w : Int) (s : Nat) (i : Nat) : Nat := q_cnt (fun k => m 3 (w * 5 + (k : Int)).toNat = (s : Int)) i
theorem uC_s {m : qM} {w i : Int} {s : Nat} (h : 0 ≤ i) : uC m w s (i + 1).toNat = uC m w s i.toNat + if m 3 (w * 5 + i).toNat = (s : Int) then 1 else 0 := by
  unfold uC
  rw [q_cnt_s h, show ((i.toNat : Nat) : Int) = i by omega]
/-- the four rows behind a word's first i signs -/
def uInv (m : qM) (w i : Int) (a0 b0 c0 d0 a b c d : Nat → Int) : Prop := ∀ s : Nat, s < 20 →
  a s = a0 s + (uC m w s i.toNat : Int) ∧ b s = b0 s + (if 0 < i ∧ m 3 (w * 5).toNat = (s : Int) then 1 else 0) ∧ c s = c0 s + (if i = m 4 w.toNat ∧ m 3 (w * 5 + (m 4 w.toNat - 1)).toNat = (s : Int) then 1 else 0) ∧
  d s = if uC m w s i.toNat = 0 then d0 s else q_or (d0 s) (q_shl 1 (m 6 w.toNat))
theorem q_or_idem (x e : Int) : q_or (q_or x e) e = q_or x e := by
  unfold q_or
  rw [q_i32, Int32.or_assoc, Int32.or_self]
theorem uInv_gap {m : qM} {w i : Int} {a0 b0 c0 d0 a b c d : Nat → Int} (h : uInv m w i a0 b0 c0 d0 a b c d) (hi : 0 ≤ i) (hl : i < m 4 w.toNat) (hg : m 3 (w * 5 + i).toNat = 20) : uInv m w (i + 1) a0 b0 c0 d0 a b c d := by
  intro s hs
  obtain ⟨h1, h2, h3, h4⟩ := h s hs
  have e : uC m w s (i + 1).toNat = uC m w s i.toNat := by rw [uC_s hi, if_neg (by omega)]; omega
  refine ⟨by rw [e]; exact h1, ?_, ?_, by rw [e]; exact h4⟩
  · rw [h2]
    by_cases g : i = 0
    · subst g
      rw [if_neg (by omega), if_neg (by rw [show w * 5 + 0 = w * 5 by omega] at hg; omega)]
    · by_cases g2 : m 3 (w * 5).toNat = (s : Int)
      · rw [if_pos (by omega), if_pos (by omega)]
      · rw [if_neg (by omega), if_neg (by omega)]
  · rw [h3, if_neg (by omega), if_neg]
    rintro ⟨g1, g2⟩
    rw [show m 4 w.toNat - 1 = i by omega] at g2
    omega
theorem uInv_sign {m : qM} {w i x1 x2 : Int} {a0 b0 c0 d0 a b c d : Nat → Int} (h : uInv m w i a0 b0 c0 d0 a b c d) (hi : 0 ≤ i) (hl : i < m 4 w.toNat) (hg : 0 ≤ m 3 (w * 5 + i).toNat ∧ m 3 (w * 5 + i).toNat < 20) (e1 : x1 = if i = 0 then 1 else 0) (e2 : x2 = if i = m 4 w.toNat - 1 then 1 else 0) :
    uInv m w (i + 1) a0 b0 c0 d0 (q_fu a (m 3 (w * 5 + i).toNat).toNat (a (m 3 (w * 5 + i).toNat).toNat + 1)) (q_fu b (m 3 (w * 5 + i).toNat).toNat (b (m 3 (w * 5 + i).toNat).toNat + x1)) (q_fu c (m 3 (w * 5 + i).toNat).toNat (c (m 3 (w * 5 + i).toNat).toNat + x2)) (q_fu d (m 3 (w * 5 + i).toNat).toNat (q_or (d (m 3 (w * 5 + i).toNat).toNat) (q_shl 1 (m 6 w.toNat)))) := by
  intro s hs
  obtain ⟨h1, h2, h3, h4⟩ := h s hs
  have ec := uC_s (m := m) (w := w) (s := s) hi
  by_cases g : s = (m 3 (w * 5 + i).toNat).toNat
  · have gs : m 3 (w * 5 + i).toNat = (s : Int) := by omega
    rw [if_pos gs] at ec
    rw [← g, q_fu_eq, q_fu_eq, q_fu_eq, q_fu_eq]
    refine ⟨by rw [ec, h1]; omega, ?_, ?_, ?_⟩
    · rw [h2, e1]
      by_cases g0 : i = 0
      · subst g0
        rw [show w * 5 + 0 = w * 5 by omega] at gs
        rw [if_neg (by omega), if_pos rfl, if_pos ⟨by omega, gs⟩]; omega
      · rw [if_neg g0]
        by_cases g2 : m 3 (w * 5).toNat = (s : Int)
        · rw [if_pos (by omega), if_pos (by omega)]; omega
        · rw [if_neg (by omega), if_neg (by omega)]; omega
    · rw [h3, e2, if_neg (by omega)]
      by_cases g0 : i = m 4 w.toNat - 1
      · rw [if_pos g0, if_pos ⟨by omega, by rw [← g0]; exact gs⟩]; omega
      · rw [if_neg g0, if_neg (by omega)]; omega
    · rw [if_neg (by omega), h4]
      by_cases g0 : uC m w s i.toNat = 0
      · rw [if_pos g0]
      · rw [if_neg g0, q_or_idem]
  · have gs : ¬ m 3 (w * 5 + i).toNat = (s : Int) := by omega
    rw [if_neg gs] at ec
    rw [q_fu_ne g, q_fu_ne g, q_fu_ne g, q_fu_ne g]
    have ec2 : uC m w s (i + 1).toNat = uC m w s i.toNat := by omega
    refine ⟨by rw [ec2]; exact h1, ?_, ?_, by rw [ec2]; exact h4⟩
    · rw [h2]
      by_cases g0 : i = 0
      · subst g0
        rw [show w * 5 + 0 = w * 5 by omega] at gs
        rw [if_neg (by omega), if_neg (by omega)]
      · by_cases g2 : m 3 (w * 5).toNat = (s : Int)
        · rw [if_pos (by omega), if_pos (by omega)]
        · rw [if_neg (by omega), if_neg (by omega)]
    · rw [h3, if_neg (by omega), if_neg]
      rintro ⟨g1, g2⟩
      rw [show m 4 w.toNat - 1 = i by omega] at g2
      exact gs g2

set_option maxRecDepth 100000 in
theorem c_uTake (u : qU) (m y : qM) (a0 b0 c0 d0 : Nat → Int) (w : Int) (h0 : 0 ≤ m 2 0 ∧ m 2 0 ≤ 60) (hW : gW m) (hw : 0 ≤ w ∧ w < m 2 0) (h6 : 0 ≤ m 6 w.toNat ∧ m 6 w.toNat ≤ 3) : qCt YX10_take 2 0 0 [qR 24, qR 2, qI w] (qLy u, (q_row (q_row (q_row (q_row m 25 a0) 26 b0) 27 c0) 28 d0), y) (fun r h => r = none ∧ ∃ a b c d, h = (qLy u, (q_row (q_row (q_row (q_row m 25 a) 26 b) 27 c) 28 d), y) ∧ uInv m w (m 4 w.toNat) a0 b0 c0 d0 a b c d) := by
  refine qCt.intro okX10_take (Nat.le_of_ble_eq_true rfl) (fun κ hκ => ?_)
  have w1 := hW w hw.1 hw.2
  have L12 : ∀ (n : Nat) (a : Nat → Int) (b : Nat → Int) (c : Nat → Int) (d : Nat → Int) (i : Int), (0 ≤ i) → (i ≤ m 4 w.toNat) → (uInv m w i a0 b0 c0 d0 a b c d) → ((m 4 w.toNat - i).toNat) < n → qJ YX10_take κ (qFin (fun r h => r = none ∧ ∃ a b c d, h = (qLy u, (q_row (q_row (q_row (q_row m 25 a) 26 b) 27 c) 28 d), y) ∧ uInv m w (m 4 w.toNat) a0 b0 c0 d0 a b c d) 0 0 κ) (qLy u, (q_row (q_row (q_row (q_row m 25 a) 26 b) 27 c) 28 d), y) 0 0 12 [some (qR 24), some (qR 2), some (qI w), some (qI (m 4 w.toNat - 1)), some (qI i), none] [] := by
    intro n
    induction n with
    | zero => intro a b c d i _ _ _ hz0; omega
    | succ n ih12 =>
      intro a b c d i v12_0 v12_1 v12_2 v12_m
      refine qJ.run hκ 2 (pc' := 15) (ls' := [some (qR 24), some (qR 2), some (qI w), some (qI (m 4 w.toNat - 1)), some (qI i), none]) (st' := [qI (m 4 w.toNat - 1), qI i]) rfl ?_
      refine qJ.icmp_gt hκ (tgt := 113) rfl rfl (by omega) (by omega) (fun c15 => ?_) (fun c15 => ?_)
      · show qJ YX10_take κ _ (qLy u, (q_row (q_row (q_row (q_row m 25 a) 26 b) 27 c) 28 d), y) 0 0 113 [some (qR 24), some (qR 2), some (qI w), some (qI (m 4 w.toNat - 1)), some (qI i), none] []
        exact qJ.vret hκ rfl rfl (by decide) (by decide) (by refine ⟨rfl, a, b, c, d, rfl, ?_⟩; rw [← show i = m 4 w.toNat by omega]; exact v12_2)
      · show qJ YX10_take κ _ (qLy u, (q_row (q_row (q_row (q_row m 25 a) 26 b) 27 c) 28 d), y) 0 0 18 [some (qR 24), some (qR 2), some (qI w), some (qI (m 4 w.toNat - 1)), some (qI i), none] []
        have w3 := w1.2.2 i v12_0 (by omega)
        refine qJ.run hκ 3 (pc' := 22) (ls' := [some (qR 24), some (qR 2), some (qI w), some (qI (m 4 w.toNat - 1)), some (qI i), none]) (st' := [qI i, qI w, qR 2]) rfl ?_
        refine qJ.callV (As := [qI w, qI i]) (rest := []) hκ rfl kX10_43 (c_signAt u (q_row (q_row (q_row (q_row m 25 a) 26 b) 27 c) 28 d) y w i (by omega)) rfl rfl (by decide) rfl rfl (Nat.le_of_ble_eq_true rfl) (Nat.le_of_ble_eq_true rfl) (Nat.le_of_ble_eq_true rfl) (Or.inl (fun r h' e => by obtain ⟨rfl, rfl⟩ := e; rfl)) (fun r h' e => ?_)
        obtain ⟨rfl, rfl⟩ := e
        show qJ YX10_take κ _ (qLy u, (q_row (q_row (q_row (q_row m 25 a) 26 b) 27 c) 28 d), y) 0 0 25 [some (qR 24), some (qR 2), some (qI w), some (qI (m 4 w.toNat - 1)), some (qI i), none] [qI (m 3 ((w * 5 + i).toNat))]
        refine qJ.run hκ 3 (pc' := 31) (ls' := [some (qR 24), some (qR 2), some (qI w), some (qI (m 4 w.toNat - 1)), some (qI i), some (qI (m 3 ((w * 5 + i).toNat)))]) (st' := [qI 20, qI (m 3 ((w * 5 + i).toNat))]) rfl ?_
        refine qJ.icmp_ne hκ (tgt := 37) rfl rfl (by omega) (by omega) (fun c31 => ?_) (fun c31 => ?_)
        · show qJ YX10_take κ _ (qLy u, (q_row (q_row (q_row (q_row m 25 a) 26 b) 27 c) 28 d), y) 0 0 37 [some (qR 24), some (qR 2), some (qI w), some (qI (m 4 w.toNat - 1)), some (qI i), some (qI (m 3 ((w * 5 + i).toNat)))] []
          refine qJ.run hκ 4 (pc' := 44) (ls' := [some (qR 24), some (qR 2), some (qI w), some (qI (m 4 w.toNat - 1)), some (qI i), some (qI (m 3 ((w * 5 + i).toNat)))]) (st' := [qI (m 3 ((w * 5 + i).toNat)), qR 25, qI (m 3 ((w * 5 + i).toNat)), qR 25]) rfl ?_
          refine qJ.ald hκ rfl rfl rfl (by decide) (by omega) ?_
          show qJ YX10_take κ _ (qLy u, (q_row (q_row (q_row (q_row m 25 a) 26 b) 27 c) 28 d), y) 0 0 45 [some (qR 24), some (qR 2), some (qI w), some (qI (m 4 w.toNat - 1)), some (qI i), some (qI (m 3 ((w * 5 + i).toNat)))] [qI (a ((m 3 ((w * 5 + i).toNat)).toNat)), qI (m 3 ((w * 5 + i).toNat)), qR 25]
          refine qJ.run hκ 2 (pc' := 47) (ls' := [some (qR 24), some (qR 2), some (qI w), some (qI (m 4 w.toNat - 1)), some (qI i), some (qI (m 3 ((w * 5 + i).toNat)))]) (st' := [qI ((a ((m 3 ((w * 5 + i).toNat)).toNat)) + 1), qI (m 3 ((w * 5 + i).toNat)), qR 25]) rfl ?_
          refine qJ.ast hκ rfl rfl rfl (by decide) (by omega) ?_
          refine qJ.mc (m1 := (q_up (q_row (q_row (q_row (q_row m 25 a) 26 b) 27 c) 28 d) 25 ((m 3 ((w * 5 + i).toNat)).toNat) ((a ((m 3 ((w * 5 + i).toNat)).toNat)) + 1))) (m2 := (q_row (q_row (q_row (q_row m 25 (q_fu a ((m 3 ((w * 5 + i).toNat)).toNat) ((a ((m 3 ((w * 5 + i).toNat)).toNat)) + 1))) 26 b) 27 c) 28 d)) (by rw [q_up_row_ne (a := 25) (b := 28) (by decide), q_up_row_ne (a := 25) (b := 27) (by decide), q_up_row_ne (a := 25) (b := 26) (by decide), q_up_row_eq]) ?_
          show qJ YX10_take κ _ (qLy u, (q_row (q_row (q_row (q_row m 25 (q_fu a ((m 3 ((w * 5 + i).toNat)).toNat) ((a ((m 3 ((w * 5 + i).toNat)).toNat)) + 1))) 26 b) 27 c) 28 d), y) 0 0 48 [some (qR 24), some (qR 2), some (qI w), some (qI (m 4 w.toNat - 1)), some (qI i), some (qI (m 3 ((w * 5 + i).toNat)))] []
          refine qJ.run hκ 4 (pc' := 55) (ls' := [some (qR 24), some (qR 2), some (qI w), some (qI (m 4 w.toNat - 1)), some (qI i), some (qI (m 3 ((w * 5 + i).toNat)))]) (st' := [qI (m 3 ((w * 5 + i).toNat)), qR 26, qI (m 3 ((w * 5 + i).toNat)), qR 26]) rfl ?_
          refine qJ.ald hκ rfl rfl rfl (by decide) (by omega) ?_
          show qJ YX10_take κ _ (qLy u, (q_row (q_row (q_row (q_row m 25 (q_fu a ((m 3 ((w * 5 + i).toNat)).toNat) ((a ((m 3 ((w * 5 + i).toNat)).toNat)) + 1))) 26 b) 27 c) 28 d), y) 0 0 56 [some (qR 24), some (qR 2), some (qI w), some (qI (m 4 w.toNat - 1)), some (qI i), some (qI (m 3 ((w * 5 + i).toNat)))] [qI (b ((m 3 ((w * 5 + i).toNat)).toNat)), qI (m 3 ((w * 5 + i).toNat)), qR 26]
          refine qJ.run hκ 1 (pc' := 58) (ls' := [some (qR 24), some (qR 2), some (qI w), some (qI (m 4 w.toNat - 1)), some (qI i), some (qI (m 3 ((w * 5 + i).toNat)))]) (st' := [qI i, qI (b ((m 3 ((w * 5 + i).toNat)).toNat)), qI (m 3 ((w * 5 + i).toNat)), qR 26]) rfl ?_
          refine qJ.if_ne hκ (tgt := 65) rfl rfl (by omega) (fun c58 => ?_) (fun c58 => ?_)
          · show qJ YX10_take κ _ (qLy u, (q_row (q_row (q_row (q_row m 25 (q_fu a ((m 3 ((w * 5 + i).toNat)).toNat) ((a ((m 3 ((w * 5 + i).toNat)).toNat)) + 1))) 26 b) 27 c) 28 d), y) 0 0 65 [some (qR 24), some (qR 2), some (qI w), some (qI (m 4 w.toNat - 1)), some (qI i), some (qI (m 3 ((w * 5 + i).toNat)))] [qI (b ((m 3 ((w * 5 + i).toNat)).toNat)), qI (m 3 ((w * 5 + i).toNat)), qR 26]
            refine qJ.run hκ 2 (pc' := 67) (ls' := [some (qR 24), some (qR 2), some (qI w), some (qI (m 4 w.toNat - 1)), some (qI i), some (qI (m 3 ((w * 5 + i).toNat)))]) (st' := [qI ((b ((m 3 ((w * 5 + i).toNat)).toNat)) + 0), qI (m 3 ((w * 5 + i).toNat)), qR 26]) rfl ?_
            refine qJ.ast hκ rfl rfl rfl (by decide) (by omega) ?_
            refine qJ.mc (m1 := (q_up (q_row (q_row (q_row (q_row m 25 (q_fu a ((m 3 ((w * 5 + i).toNat)).toNat) ((a ((m 3 ((w * 5 + i).toNat)).toNat)) + 1))) 26 b) 27 c) 28 d) 26 ((m 3 ((w * 5 + i).toNat)).toNat) ((b ((m 3 ((w * 5 + i).toNat)).toNat)) + 0))) (m2 := (q_row (q_row (q_row (q_row m 25 (q_fu a ((m 3 ((w * 5 + i).toNat)).toNat) ((a ((m 3 ((w * 5 + i).toNat)).toNat)) + 1))) 26 (q_fu b ((m 3 ((w * 5 + i).toNat)).toNat) ((b ((m 3 ((w * 5 + i).toNat)).toNat)) + 0))) 27 c) 28 d)) (by rw [q_up_row_ne (a := 26) (b := 28) (by decide), q_up_row_ne (a := 26) (b := 27) (by decide), q_up_row_eq]) ?_
            show qJ YX10_take κ _ (qLy u, (q_row (q_row (q_row (q_row m 25 (q_fu a ((m 3 ((w * 5 + i).toNat)).toNat) ((a ((m 3 ((w * 5 + i).toNat)).toNat)) + 1))) 26 (q_fu b ((m 3 ((w * 5 + i).toNat)).toNat) ((b ((m 3 ((w * 5 + i).toNat)).toNat)) + 0))) 27 c) 28 d), y) 0 0 68 [some (qR 24), some (qR 2), some (qI w), some (qI (m 4 w.toNat - 1)), some (qI i), some (qI (m 3 ((w * 5 + i).toNat)))] []
            refine qJ.run hκ 4 (pc' := 75) (ls' := [some (qR 24), some (qR 2), some (qI w), some (qI (m 4 w.toNat - 1)), some (qI i), some (qI (m 3 ((w * 5 + i).toNat)))]) (st' := [qI (m 3 ((w * 5 + i).toNat)), qR 27, qI (m 3 ((w * 5 + i).toNat)), qR 27]) rfl ?_
            refine qJ.ald hκ rfl rfl rfl (by decide) (by omega) ?_
            show qJ YX10_take κ _ (qLy u, (q_row (q_row (q_row (q_row m 25 (q_fu a ((m 3 ((w * 5 + i).toNat)).toNat) ((a ((m 3 ((w * 5 + i).toNat)).toNat)) + 1))) 26 (q_fu b ((m 3 ((w * 5 + i).toNat)).toNat) ((b ((m 3 ((w * 5 + i).toNat)).toNat)) + 0))) 27 c) 28 d), y) 0 0 76 [some (qR 24), some (qR 2), some (qI w), some (qI (m 4 w.toNat - 1)), some (qI i), some (qI (m 3 ((w * 5 + i).toNat)))] [qI (c ((m 3 ((w * 5 + i).toNat)).toNat)), qI (m 3 ((w * 5 + i).toNat)), qR 27]
            refine qJ.run hκ 2 (pc' := 79) (ls' := [some (qR 24), some (qR 2), some (qI w), some (qI (m 4 w.toNat - 1)), some (qI i), some (qI (m 3 ((w * 5 + i).toNat)))]) (st' := [qI (m 4 w.toNat - 1), qI i, qI (c ((m 3 ((w * 5 + i).toNat)).toNat)), qI (m 3 ((w * 5 + i).toNat)), qR 27]) rfl ?_
            refine qJ.icmp_ne hκ (tgt := 86) rfl rfl (by omega) (by omega) (fun c79 => ?_) (fun c79 => ?_)
            · show qJ YX10_take κ _ (qLy u, (q_row (q_row (q_row (q_row m 25 (q_fu a ((m 3 ((w * 5 + i).toNat)).toNat) ((a ((m 3 ((w * 5 + i).toNat)).toNat)) + 1))) 26 (q_fu b ((m 3 ((w * 5 + i).toNat)).toNat) ((b ((m 3 ((w * 5 + i).toNat)).toNat)) + 0))) 27 c) 28 d), y) 0 0 86 [some (qR 24), some (qR 2), some (qI w), some (qI (m 4 w.toNat - 1)), some (qI i), some (qI (m 3 ((w * 5 + i).toNat)))] [qI (c ((m 3 ((w * 5 + i).toNat)).toNat)), qI (m 3 ((w * 5 + i).toNat)), qR 27]
              refine qJ.run hκ 2 (pc' := 88) (ls' := [some (qR 24), some (qR 2), some (qI w), some (qI (m 4 w.toNat - 1)), some (qI i), some (qI (m 3 ((w * 5 + i).toNat)))]) (st' := [qI ((c ((m 3 ((w * 5 + i).toNat)).toNat)) + 0), qI (m 3 ((w * 5 + i).toNat)), qR 27]) rfl ?_
              refine qJ.ast hκ rfl rfl rfl (by decide) (by omega) ?_
              refine qJ.mc (m1 := (q_up (q_row (q_row (q_row (q_row m 25 (q_fu a ((m 3 ((w * 5 + i).toNat)).toNat) ((a ((m 3 ((w * 5 + i).toNat)).toNat)) + 1))) 26 (q_fu b ((m 3 ((w * 5 + i).toNat)).toNat) ((b ((m 3 ((w * 5 + i).toNat)).toNat)) + 0))) 27 c) 28 d) 27 ((m 3 ((w * 5 + i).toNat)).toNat) ((c ((m 3 ((w * 5 + i).toNat)).toNat)) + 0))) (m2 := (q_row (q_row (q_row (q_row m 25 (q_fu a ((m 3 ((w * 5 + i).toNat)).toNat) ((a ((m 3 ((w * 5 + i).toNat)).toNat)) + 1))) 26 (q_fu b ((m 3 ((w * 5 + i).toNat)).toNat) ((b ((m 3 ((w * 5 + i).toNat)).toNat)) + 0))) 27 (q_fu c ((m 3 ((w * 5 + i).toNat)).toNat) ((c ((m 3 ((w * 5 + i).toNat)).toNat)) + 0))) 28 d)) (by rw [q_up_row_ne (a := 27) (b := 28) (by decide), q_up_row_eq]) ?_
              show qJ YX10_take κ _ (qLy u, (q_row (q_row (q_row (q_row m 25 (q_fu a ((m 3 ((w * 5 + i).toNat)).toNat) ((a ((m 3 ((w * 5 + i).toNat)).toNat)) + 1))) 26 (q_fu b ((m 3 ((w * 5 + i).toNat)).toNat) ((b ((m 3 ((w * 5 + i).toNat)).toNat)) + 0))) 27 (q_fu c ((m 3 ((w * 5 + i).toNat)).toNat) ((c ((m 3 ((w * 5 + i).toNat)).toNat)) + 0))) 28 d), y) 0 0 89 [some (qR 24), some (qR 2), some (qI w), some (qI (m 4 w.toNat - 1)), some (qI i), some (qI (m 3 ((w * 5 + i).toNat)))] []
              refine qJ.run hκ 4 (pc' := 96) (ls' := [some (qR 24), some (qR 2), some (qI w), some (qI (m 4 w.toNat - 1)), some (qI i), some (qI (m 3 ((w * 5 + i).toNat)))]) (st' := [qI (m 3 ((w * 5 + i).toNat)), qR 28, qI (m 3 ((w * 5 + i).toNat)), qR 28]) rfl ?_
              refine qJ.ald hκ rfl rfl rfl (by decide) (by omega) ?_
              show qJ YX10_take κ _ (qLy u, (q_row (q_row (q_row (q_row m 25 (q_fu a ((m 3 ((w * 5 + i).toNat)).toNat) ((a ((m 3 ((w * 5 + i).toNat)).toNat)) + 1))) 26 (q_fu b ((m 3 ((w * 5 + i).toNat)).toNat) ((b ((m 3 ((w * 5 + i).toNat)).toNat)) + 0))) 27 (q_fu c ((m 3 ((w * 5 + i).toNat)).toNat) ((c ((m 3 ((w * 5 + i).toNat)).toNat)) + 0))) 28 d), y) 0 0 97 [some (qR 24), some (qR 2), some (qI w), some (qI (m 4 w.toNat - 1)), some (qI i), some (qI (m 3 ((w * 5 + i).toNat)))] [qI (d ((m 3 ((w * 5 + i).toNat)).toNat)), qI (m 3 ((w * 5 + i).toNat)), qR 28]
              refine qJ.run hκ 4 (pc' := 103) (ls' := [some (qR 24), some (qR 2), some (qI w), some (qI (m 4 w.toNat - 1)), some (qI i), some (qI (m 3 ((w * 5 + i).toNat)))]) (st' := [qI w, qR 6, qI 1, qI (d ((m 3 ((w * 5 + i).toNat)).toNat)), qI (m 3 ((w * 5 + i).toNat)), qR 28]) rfl ?_
              refine qJ.ald hκ rfl rfl rfl (by decide) (by omega) ?_
              show qJ YX10_take κ _ (qLy u, (q_row (q_row (q_row (q_row m 25 (q_fu a ((m 3 ((w * 5 + i).toNat)).toNat) ((a ((m 3 ((w * 5 + i).toNat)).toNat)) + 1))) 26 (q_fu b ((m 3 ((w * 5 + i).toNat)).toNat) ((b ((m 3 ((w * 5 + i).toNat)).toNat)) + 0))) 27 (q_fu c ((m 3 ((w * 5 + i).toNat)).toNat) ((c ((m 3 ((w * 5 + i).toNat)).toNat)) + 0))) 28 d), y) 0 0 104 [some (qR 24), some (qR 2), some (qI w), some (qI (m 4 w.toNat - 1)), some (qI i), some (qI (m 3 ((w * 5 + i).toNat)))] [qI (m 6 w.toNat), qI 1, qI (d ((m 3 ((w * 5 + i).toNat)).toNat)), qI (m 3 ((w * 5 + i).toNat)), qR 28]
              refine qJ.run hκ 2 (pc' := 106) (ls' := [some (qR 24), some (qR 2), some (qI w), some (qI (m 4 w.toNat - 1)), some (qI i), some (qI (m 3 ((w * 5 + i).toNat)))]) (st' := [qI (q_or (d ((m 3 ((w * 5 + i).toNat)).toNat)) (q_shl 1 (m 6 w.toNat))), qI (m 3 ((w * 5 + i).toNat)), qR 28]) rfl ?_
              refine qJ.ast hκ rfl rfl rfl (by decide) (by omega) ?_
              refine qJ.mc (m1 := (q_up (q_row (q_row (q_row (q_row m 25 (q_fu a ((m 3 ((w * 5 + i).toNat)).toNat) ((a ((m 3 ((w * 5 + i).toNat)).toNat)) + 1))) 26 (q_fu b ((m 3 ((w * 5 + i).toNat)).toNat) ((b ((m 3 ((w * 5 + i).toNat)).toNat)) + 0))) 27 (q_fu c ((m 3 ((w * 5 + i).toNat)).toNat) ((c ((m 3 ((w * 5 + i).toNat)).toNat)) + 0))) 28 d) 28 ((m 3 ((w * 5 + i).toNat)).toNat) (q_or (d ((m 3 ((w * 5 + i).toNat)).toNat)) (q_shl 1 (m 6 w.toNat))))) (m2 := (q_row (q_row (q_row (q_row m 25 (q_fu a ((m 3 ((w * 5 + i).toNat)).toNat) ((a ((m 3 ((w * 5 + i).toNat)).toNat)) + 1))) 26 (q_fu b ((m 3 ((w * 5 + i).toNat)).toNat) ((b ((m 3 ((w * 5 + i).toNat)).toNat)) + 0))) 27 (q_fu c ((m 3 ((w * 5 + i).toNat)).toNat) ((c ((m 3 ((w * 5 + i).toNat)).toNat)) + 0))) 28 (q_fu d ((m 3 ((w * 5 + i).toNat)).toNat) (q_or (d ((m 3 ((w * 5 + i).toNat)).toNat)) (q_shl 1 (m 6 w.toNat)))))) (by rw [q_up_row_eq]) ?_
              show qJ YX10_take κ _ (qLy u, (q_row (q_row (q_row (q_row m 25 (q_fu a ((m 3 ((w * 5 + i).toNat)).toNat) ((a ((m 3 ((w * 5 + i).toNat)).toNat)) + 1))) 26 (q_fu b ((m 3 ((w * 5 + i).toNat)).toNat) ((b ((m 3 ((w * 5 + i).toNat)).toNat)) + 0))) 27 (q_fu c ((m 3 ((w * 5 + i).toNat)).toNat) ((c ((m 3 ((w * 5 + i).toNat)).toNat)) + 0))) 28 (q_fu d ((m 3 ((w * 5 + i).toNat)).toNat) (q_or (d ((m 3 ((w * 5 + i).toNat)).toNat)) (q_shl 1 (m 6 w.toNat))))), y) 0 0 107 [some (qR 24), some (qR 2), some (qI w), some (qI (m 4 w.toNat - 1)), some (qI i), some (qI (m 3 ((w * 5 + i).toNat)))] []
              refine qJ.run hκ 2 (pc' := 12) (ls' := [some (qR 24), some (qR 2), some (qI w), some (qI (m 4 w.toNat - 1)), some (qI (i + 1)), some (qI (m 3 ((w * 5 + i).toNat)))]) (st' := []) rfl ?_
              refine qJ.dl [true, true, true, true, true, false] ?_
              show qJ YX10_take κ _ (qLy u, (q_row (q_row (q_row (q_row m 25 (q_fu a ((m 3 ((w * 5 + i).toNat)).toNat) ((a ((m 3 ((w * 5 + i).toNat)).toNat)) + 1))) 26 (q_fu b ((m 3 ((w * 5 + i).toNat)).toNat) ((b ((m 3 ((w * 5 + i).toNat)).toNat)) + 0))) 27 (q_fu c ((m 3 ((w * 5 + i).toNat)).toNat) ((c ((m 3 ((w * 5 + i).toNat)).toNat)) + 0))) 28 (q_fu d ((m 3 ((w * 5 + i).toNat)).toNat) (q_or (d ((m 3 ((w * 5 + i).toNat)).toNat)) (q_shl 1 (m 6 w.toNat))))), y) 0 0 12 [some (qR 24), some (qR 2), some (qI w), some (qI (m 4 w.toNat - 1)), some (qI (i + 1)), none] []
              exact ih12  (q_fu a ((m 3 ((w * 5 + i).toNat)).toNat) ((a ((m 3 ((w * 5 + i).toNat)).toNat)) + 1)) (q_fu b ((m 3 ((w * 5 + i).toNat)).toNat) ((b ((m 3 ((w * 5 + i).toNat)).toNat)) + 0)) (q_fu c ((m 3 ((w * 5 + i).toNat)).toNat) ((c ((m 3 ((w * 5 + i).toNat)).toNat)) + 0)) (q_fu d ((m 3 ((w * 5 + i).toNat)).toNat) (q_or (d ((m 3 ((w * 5 + i).toNat)).toNat)) (q_shl 1 (m 6 w.toNat)))) (i + 1) (by omega) (by omega) (uInv_sign v12_2 v12_0 (by omega) (by omega) (by first | rw [if_pos c58] | rw [if_neg c58]) (by first | rw [if_pos c79] | rw [if_neg c79])) (by omega)
            · show qJ YX10_take κ _ (qLy u, (q_row (q_row (q_row (q_row m 25 (q_fu a ((m 3 ((w * 5 + i).toNat)).toNat) ((a ((m 3 ((w * 5 + i).toNat)).toNat)) + 1))) 26 (q_fu b ((m 3 ((w * 5 + i).toNat)).toNat) ((b ((m 3 ((w * 5 + i).toNat)).toNat)) + 0))) 27 c) 28 d), y) 0 0 82 [some (qR 24), some (qR 2), some (qI w), some (qI (m 4 w.toNat - 1)), some (qI i), some (qI (m 3 ((w * 5 + i).toNat)))] [qI (c ((m 3 ((w * 5 + i).toNat)).toNat)), qI (m 3 ((w * 5 + i).toNat)), qR 27]
              refine qJ.run hκ 3 (pc' := 88) (ls' := [some (qR 24), some (qR 2), some (qI w), some (qI (m 4 w.toNat - 1)), some (qI i), some (qI (m 3 ((w * 5 + i).toNat)))]) (st' := [qI ((c ((m 3 ((w * 5 + i).toNat)).toNat)) + 1), qI (m 3 ((w * 5 + i).toNat)), qR 27]) rfl ?_
              refine qJ.ast hκ rfl rfl rfl (by decide) (by omega) ?_
              refine qJ.mc (m1 := (q_up (q_row (q_row (q_row (q_row m 25 (q_fu a ((m 3 ((w * 5 + i).toNat)).toNat) ((a ((m 3 ((w * 5 + i).toNat)).toNat)) + 1))) 26 (q_fu b ((m 3 ((w * 5 + i).toNat)).toNat) ((b ((m 3 ((w * 5 + i).toNat)).toNat)) + 0))) 27 c) 28 d) 27 ((m 3 ((w * 5 + i).toNat)).toNat) ((c ((m 3 ((w * 5 + i).toNat)).toNat)) + 1))) (m2 := (q_row (q_row (q_row (q_row m 25 (q_fu a ((m 3 ((w * 5 + i).toNat)).toNat) ((a ((m 3 ((w * 5 + i).toNat)).toNat)) + 1))) 26 (q_fu b ((m 3 ((w * 5 + i).toNat)).toNat) ((b ((m 3 ((w * 5 + i).toNat)).toNat)) + 0))) 27 (q_fu c ((m 3 ((w * 5 + i).toNat)).toNat) ((c ((m 3 ((w * 5 + i).toNat)).toNat)) + 1))) 28 d)) (by rw [q_up_row_ne (a := 27) (b := 28) (by decide), q_up_row_eq]) ?_
              show qJ YX10_take κ _ (qLy u, (q_row (q_row (q_row (q_row m 25 (q_fu a ((m 3 ((w * 5 + i).toNat)).toNat) ((a ((m 3 ((w * 5 + i).toNat)).toNat)) + 1))) 26 (q_fu b ((m 3 ((w * 5 + i).toNat)).toNat) ((b ((m 3 ((w * 5 + i).toNat)).toNat)) + 0))) 27 (q_fu c ((m 3 ((w * 5 + i).toNat)).toNat) ((c ((m 3 ((w * 5 + i).toNat)).toNat)) + 1))) 28 d), y) 0 0 89 [some (qR 24), some (qR 2), some (qI w), some (qI (m 4 w.toNat - 1)), some (qI i), some (qI (m 3 ((w * 5 + i).toNat)))] []
              refine qJ.run hκ 4 (pc' := 96) (ls' := [some (qR 24), some (qR 2), some (qI w), some (qI (m 4 w.toNat - 1)), some (qI i), some (qI (m 3 ((w * 5 + i).toNat)))]) (st' := [qI (m 3 ((w * 5 + i).toNat)), qR 28, qI (m 3 ((w * 5 + i).toNat)), qR 28]) rfl ?_
              refine qJ.ald hκ rfl rfl rfl (by decide) (by omega) ?_
              show qJ YX10_take κ _ (qLy u, (q_row (q_row (q_row (q_row m 25 (q_fu a ((m 3 ((w * 5 + i).toNat)).toNat) ((a ((m 3 ((w * 5 + i).toNat)).toNat)) + 1))) 26 (q_fu b ((m 3 ((w * 5 + i).toNat)).toNat) ((b ((m 3 ((w * 5 + i).toNat)).toNat)) + 0))) 27 (q_fu c ((m 3 ((w * 5 + i).toNat)).toNat) ((c ((m 3 ((w * 5 + i).toNat)).toNat)) + 1))) 28 d), y) 0 0 97 [some (qR 24), some (qR 2), some (qI w), some (qI (m 4 w.toNat - 1)), some (qI i), some (qI (m 3 ((w * 5 + i).toNat)))] [qI (d ((m 3 ((w * 5 + i).toNat)).toNat)), qI (m 3 ((w * 5 + i).toNat)), qR 28]
              refine qJ.run hκ 4 (pc' := 103) (ls' := [some (qR 24), some (qR 2), some (qI w), some (qI (m 4 w.toNat - 1)), some (qI i), some (qI (m 3 ((w * 5 + i).toNat)))]) (st' := [qI w, qR 6, qI 1, qI (d ((m 3 ((w * 5 + i).toNat)).toNat)), qI (m 3 ((w * 5 + i).toNat)), qR 28]) rfl ?_
              refine qJ.ald hκ rfl rfl rfl (by decide) (by omega) ?_
              show qJ YX10_take κ _ (qLy u, (q_row (q_row (q_row (q_row m 25 (q_fu a ((m 3 ((w * 5 + i).toNat)).toNat) ((a ((m 3 ((w * 5 + i).toNat)).toNat)) + 1))) 26 (q_fu b ((m 3 ((w * 5 + i).toNat)).toNat) ((b ((m 3 ((w * 5 + i).toNat)).toNat)) + 0))) 27 (q_fu c ((m 3 ((w * 5 + i).toNat)).toNat) ((c ((m 3 ((w * 5 + i).toNat)).toNat)) + 1))) 28 d), y) 0 0 104 [some (qR 24), some (qR 2), some (qI w), some (qI (m 4 w.toNat - 1)), some (qI i), some (qI (m 3 ((w * 5 + i).toNat)))] [qI (m 6 w.toNat), qI 1, qI (d ((m 3 ((w * 5 + i).toNat)).toNat)), qI (m 3 ((w * 5 + i).toNat)), qR 28]
              refine qJ.run hκ 2 (pc' := 106) (ls' := [some (qR 24), some (qR 2), some (qI w), some (qI (m 4 w.toNat - 1)), some (qI i), some (qI (m 3 ((w * 5 + i).toNat)))]) (st' := [qI (q_or (d ((m 3 ((w * 5 + i).toNat)).toNat)) (q_shl 1 (m 6 w.toNat))), qI (m 3 ((w * 5 + i).toNat)), qR 28]) rfl ?_
              refine qJ.ast hκ rfl rfl rfl (by decide) (by omega) ?_
              refine qJ.mc (m1 := (q_up (q_row (q_row (q_row (q_row m 25 (q_fu a ((m 3 ((w * 5 + i).toNat)).toNat) ((a ((m 3 ((w * 5 + i).toNat)).toNat)) + 1))) 26 (q_fu b ((m 3 ((w * 5 + i).toNat)).toNat) ((b ((m 3 ((w * 5 + i).toNat)).toNat)) + 0))) 27 (q_fu c ((m 3 ((w * 5 + i).toNat)).toNat) ((c ((m 3 ((w * 5 + i).toNat)).toNat)) + 1))) 28 d) 28 ((m 3 ((w * 5 + i).toNat)).toNat) (q_or (d ((m 3 ((w * 5 + i).toNat)).toNat)) (q_shl 1 (m 6 w.toNat))))) (m2 := (q_row (q_row (q_row (q_row m 25 (q_fu a ((m 3 ((w * 5 + i).toNat)).toNat) ((a ((m 3 ((w * 5 + i).toNat)).toNat)) + 1))) 26 (q_fu b ((m 3 ((w * 5 + i).toNat)).toNat) ((b ((m 3 ((w * 5 + i).toNat)).toNat)) + 0))) 27 (q_fu c ((m 3 ((w * 5 + i).toNat)).toNat) ((c ((m 3 ((w * 5 + i).toNat)).toNat)) + 1))) 28 (q_fu d ((m 3 ((w * 5 + i).toNat)).toNat) (q_or (d ((m 3 ((w * 5 + i).toNat)).toNat)) (q_shl 1 (m 6 w.toNat)))))) (by rw [q_up_row_eq]) ?_
              show qJ YX10_take κ _ (qLy u, (q_row (q_row (q_row (q_row m 25 (q_fu a ((m 3 ((w * 5 + i).toNat)).toNat) ((a ((m 3 ((w * 5 + i).toNat)).toNat)) + 1))) 26 (q_fu b ((m 3 ((w * 5 + i).toNat)).toNat) ((b ((m 3 ((w * 5 + i).toNat)).toNat)) + 0))) 27 (q_fu c ((m 3 ((w * 5 + i).toNat)).toNat) ((c ((m 3 ((w * 5 + i).toNat)).toNat)) + 1))) 28 (q_fu d ((m 3 ((w * 5 + i).toNat)).toNat) (q_or (d ((m 3 ((w * 5 + i).toNat)).toNat)) (q_shl 1 (m 6 w.toNat))))), y) 0 0 107 [some (qR 24), some (qR 2), some (qI w), some (qI (m 4 w.toNat - 1)), some (qI i), some (qI (m 3 ((w * 5 + i).toNat)))] []
              refine qJ.run hκ 2 (pc' := 12) (ls' := [some (qR 24), some (qR 2), some (qI w), some (qI (m 4 w.toNat - 1)), some (qI (i + 1)), some (qI (m 3 ((w * 5 + i).toNat)))]) (st' := []) rfl ?_
              refine qJ.dl [true, true, true, true, true, false] ?_
              show qJ YX10_take κ _ (qLy u, (q_row (q_row (q_row (q_row m 25 (q_fu a ((m 3 ((w * 5 + i).toNat)).toNat) ((a ((m 3 ((w * 5 + i).toNat)).toNat)) + 1))) 26 (q_fu b ((m 3 ((w * 5 + i).toNat)).toNat) ((b ((m 3 ((w * 5 + i).toNat)).toNat)) + 0))) 27 (q_fu c ((m 3 ((w * 5 + i).toNat)).toNat) ((c ((m 3 ((w * 5 + i).toNat)).toNat)) + 1))) 28 (q_fu d ((m 3 ((w * 5 + i).toNat)).toNat) (q_or (d ((m 3 ((w * 5 + i).toNat)).toNat)) (q_shl 1 (m 6 w.toNat))))), y) 0 0 12 [some (qR 24), some (qR 2), some (qI w), some (qI (m 4 w.toNat - 1)), some (qI (i + 1)), none] []
              exact ih12  (q_fu a ((m 3 ((w * 5 + i).toNat)).toNat) ((a ((m 3 ((w * 5 + i).toNat)).toNat)) + 1)) (q_fu b ((m 3 ((w * 5 + i).toNat)).toNat) ((b ((m 3 ((w * 5 + i).toNat)).toNat)) + 0)) (q_fu c ((m 3 ((w * 5 + i).toNat)).toNat) ((c ((m 3 ((w * 5 + i).toNat)).toNat)) + 1)) (q_fu d ((m 3 ((w * 5 + i).toNat)).toNat) (q_or (d ((m 3 ((w * 5 + i).toNat)).toNat)) (q_shl 1 (m 6 w.toNat)))) (i + 1) (by omega) (by omega) (uInv_sign v12_2 v12_0 (by omega) (by omega) (by first | rw [if_pos c58] | rw [if_neg c58]) (by first | rw [if_pos c79] | rw [if_neg c79])) (by omega)
          · show qJ YX10_take κ _ (qLy u, (q_row (q_row (q_row (q_row m 25 (q_fu a ((m 3 ((w * 5 + i).toNat)).toNat) ((a ((m 3 ((w * 5 + i).toNat)).toNat)) + 1))) 26 b) 27 c) 28 d), y) 0 0 61 [some (qR 24), some (qR 2), some (qI w), some (qI (m 4 w.toNat - 1)), some (qI i), some (qI (m 3 ((w * 5 + i).toNat)))] [qI (b ((m 3 ((w * 5 + i).toNat)).toNat)), qI (m 3 ((w * 5 + i).toNat)), qR 26]
            refine qJ.run hκ 3 (pc' := 67) (ls' := [some (qR 24), some (qR 2), some (qI w), some (qI (m 4 w.toNat - 1)), some (qI i), some (qI (m 3 ((w * 5 + i).toNat)))]) (st' := [qI ((b ((m 3 ((w * 5 + i).toNat)).toNat)) + 1), qI (m 3 ((w * 5 + i).toNat)), qR 26]) rfl ?_
            refine qJ.ast hκ rfl rfl rfl (by decide) (by omega) ?_
            refine qJ.mc (m1 := (q_up (q_row (q_row (q_row (q_row m 25 (q_fu a ((m 3 ((w * 5 + i).toNat)).toNat) ((a ((m 3 ((w * 5 + i).toNat)).toNat)) + 1))) 26 b) 27 c) 28 d) 26 ((m 3 ((w * 5 + i).toNat)).toNat) ((b ((m 3 ((w * 5 + i).toNat)).toNat)) + 1))) (m2 := (q_row (q_row (q_row (q_row m 25 (q_fu a ((m 3 ((w * 5 + i).toNat)).toNat) ((a ((m 3 ((w * 5 + i).toNat)).toNat)) + 1))) 26 (q_fu b ((m 3 ((w * 5 + i).toNat)).toNat) ((b ((m 3 ((w * 5 + i).toNat)).toNat)) + 1))) 27 c) 28 d)) (by rw [q_up_row_ne (a := 26) (b := 28) (by decide), q_up_row_ne (a := 26) (b := 27) (by decide), q_up_row_eq]) ?_
            show qJ YX10_take κ _ (qLy u, (q_row (q_row (q_row (q_row m 25 (q_fu a ((m 3 ((w * 5 + i).toNat)).toNat) ((a ((m 3 ((w * 5 + i).toNat)).toNat)) + 1))) 26 (q_fu b ((m 3 ((w * 5 + i).toNat)).toNat) ((b ((m 3 ((w * 5 + i).toNat)).toNat)) + 1))) 27 c) 28 d), y) 0 0 68 [some (qR 24), some (qR 2), some (qI w), some (qI (m 4 w.toNat - 1)), some (qI i), some (qI (m 3 ((w * 5 + i).toNat)))] []
            refine qJ.run hκ 4 (pc' := 75) (ls' := [some (qR 24), some (qR 2), some (qI w), some (qI (m 4 w.toNat - 1)), some (qI i), some (qI (m 3 ((w * 5 + i).toNat)))]) (st' := [qI (m 3 ((w * 5 + i).toNat)), qR 27, qI (m 3 ((w * 5 + i).toNat)), qR 27]) rfl ?_
            refine qJ.ald hκ rfl rfl rfl (by decide) (by omega) ?_
            show qJ YX10_take κ _ (qLy u, (q_row (q_row (q_row (q_row m 25 (q_fu a ((m 3 ((w * 5 + i).toNat)).toNat) ((a ((m 3 ((w * 5 + i).toNat)).toNat)) + 1))) 26 (q_fu b ((m 3 ((w * 5 + i).toNat)).toNat) ((b ((m 3 ((w * 5 + i).toNat)).toNat)) + 1))) 27 c) 28 d), y) 0 0 76 [some (qR 24), some (qR 2), some (qI w), some (qI (m 4 w.toNat - 1)), some (qI i), some (qI (m 3 ((w * 5 + i).toNat)))] [qI (c ((m 3 ((w * 5 + i).toNat)).toNat)), qI (m 3 ((w * 5 + i).toNat)), qR 27]
            refine qJ.run hκ 2 (pc' := 79) (ls' := [some (qR 24), some (qR 2), some (qI w), some (qI (m 4 w.toNat - 1)), some (qI i), some (qI (m 3 ((w * 5 + i).toNat)))]) (st' := [qI (m 4 w.toNat - 1), qI i, qI (c ((m 3 ((w * 5 + i).toNat)).toNat)), qI (m 3 ((w * 5 + i).toNat)), qR 27]) rfl ?_
            refine qJ.icmp_ne hκ (tgt := 86) rfl rfl (by omega) (by omega) (fun c79 => ?_) (fun c79 => ?_)
            · show qJ YX10_take κ _ (qLy u, (q_row (q_row (q_row (q_row m 25 (q_fu a ((m 3 ((w * 5 + i).toNat)).toNat) ((a ((m 3 ((w * 5 + i).toNat)).toNat)) + 1))) 26 (q_fu b ((m 3 ((w * 5 + i).toNat)).toNat) ((b ((m 3 ((w * 5 + i).toNat)).toNat)) + 1))) 27 c) 28 d), y) 0 0 86 [some (qR 24), some (qR 2), some (qI w), some (qI (m 4 w.toNat - 1)), some (qI i), some (qI (m 3 ((w * 5 + i).toNat)))] [qI (c ((m 3 ((w * 5 + i).toNat)).toNat)), qI (m 3 ((w * 5 + i).toNat)), qR 27]
              refine qJ.run hκ 2 (pc' := 88) (ls' := [some (qR 24), some (qR 2), some (qI w), some (qI (m 4 w.toNat - 1)), some (qI i), some (qI (m 3 ((w * 5 + i).toNat)))]) (st' := [qI ((c ((m 3 ((w * 5 + i).toNat)).toNat)) + 0), qI (m 3 ((w * 5 + i).toNat)), qR 27]) rfl ?_
              refine qJ.ast hκ rfl rfl rfl (by decide) (by omega) ?_
              refine qJ.mc (m1 := (q_up (q_row (q_row (q_row (q_row m 25 (q_fu a ((m 3 ((w * 5 + i).toNat)).toNat) ((a ((m 3 ((w * 5 + i).toNat)).toNat)) + 1))) 26 (q_fu b ((m 3 ((w * 5 + i).toNat)).toNat) ((b ((m 3 ((w * 5 + i).toNat)).toNat)) + 1))) 27 c) 28 d) 27 ((m 3 ((w * 5 + i).toNat)).toNat) ((c ((m 3 ((w * 5 + i).toNat)).toNat)) + 0))) (m2 := (q_row (q_row (q_row (q_row m 25 (q_fu a ((m 3 ((w * 5 + i).toNat)).toNat) ((a ((m 3 ((w * 5 + i).toNat)).toNat)) + 1))) 26 (q_fu b ((m 3 ((w * 5 + i).toNat)).toNat) ((b ((m 3 ((w * 5 + i).toNat)).toNat)) + 1))) 27 (q_fu c ((m 3 ((w * 5 + i).toNat)).toNat) ((c ((m 3 ((w * 5 + i).toNat)).toNat)) + 0))) 28 d)) (by rw [q_up_row_ne (a := 27) (b := 28) (by decide), q_up_row_eq]) ?_
              show qJ YX10_take κ _ (qLy u, (q_row (q_row (q_row (q_row m 25 (q_fu a ((m 3 ((w * 5 + i).toNat)).toNat) ((a ((m 3 ((w * 5 + i).toNat)).toNat)) + 1))) 26 (q_fu b ((m 3 ((w * 5 + i).toNat)).toNat) ((b ((m 3 ((w * 5 + i).toNat)).toNat)) + 1))) 27 (q_fu c ((m 3 ((w * 5 + i).toNat)).toNat) ((c ((m 3 ((w * 5 + i).toNat)).toNat)) + 0))) 28 d), y) 0 0 89 [some (qR 24), some (qR 2), some (qI w), some (qI (m 4 w.toNat - 1)), some (qI i), some (qI (m 3 ((w * 5 + i).toNat)))] []
              refine qJ.run hκ 4 (pc' := 96) (ls' := [some (qR 24), some (qR 2), some (qI w), some (qI (m 4 w.toNat - 1)), some (qI i), some (qI (m 3 ((w * 5 + i).toNat)))]) (st' := [qI (m 3 ((w * 5 + i).toNat)), qR 28, qI (m 3 ((w * 5 + i).toNat)), qR 28]) rfl ?_
              refine qJ.ald hκ rfl rfl rfl (by decide) (by omega) ?_
              show qJ YX10_take κ _ (qLy u, (q_row (q_row (q_row (q_row m 25 (q_fu a ((m 3 ((w * 5 + i).toNat)).toNat) ((a ((m 3 ((w * 5 + i).toNat)).toNat)) + 1))) 26 (q_fu b ((m 3 ((w * 5 + i).toNat)).toNat) ((b ((m 3 ((w * 5 + i).toNat)).toNat)) + 1))) 27 (q_fu c ((m 3 ((w * 5 + i).toNat)).toNat) ((c ((m 3 ((w * 5 + i).toNat)).toNat)) + 0))) 28 d), y) 0 0 97 [some (qR 24), some (qR 2), some (qI w), some (qI (m 4 w.toNat - 1)), some (qI i), some (qI (m 3 ((w * 5 + i).toNat)))] [qI (d ((m 3 ((w * 5 + i).toNat)).toNat)), qI (m 3 ((w * 5 + i).toNat)), qR 28]
              refine qJ.run hκ 4 (pc' := 103) (ls' := [some (qR 24), some (qR 2), some (qI w), some (qI (m 4 w.toNat - 1)), some (qI i), some (qI (m 3 ((w * 5 + i).toNat)))]) (st' := [qI w, qR 6, qI 1, qI (d ((m 3 ((w * 5 + i).toNat)).toNat)), qI (m 3 ((w * 5 + i).toNat)), qR 28]) rfl ?_
              refine qJ.ald hκ rfl rfl rfl (by decide) (by omega) ?_
              show qJ YX10_take κ _ (qLy u, (q_row (q_row (q_row (q_row m 25 (q_fu a ((m 3 ((w * 5 + i).toNat)).toNat) ((a ((m 3 ((w * 5 + i).toNat)).toNat)) + 1))) 26 (q_fu b ((m 3 ((w * 5 + i).toNat)).toNat) ((b ((m 3 ((w * 5 + i).toNat)).toNat)) + 1))) 27 (q_fu c ((m 3 ((w * 5 + i).toNat)).toNat) ((c ((m 3 ((w * 5 + i).toNat)).toNat)) + 0))) 28 d), y) 0 0 104 [some (qR 24), some (qR 2), some (qI w), some (qI (m 4 w.toNat - 1)), some (qI i), some (qI (m 3 ((w * 5 + i).toNat)))] [qI (m 6 w.toNat), qI 1, qI (d ((m 3 ((w * 5 + i).toNat)).toNat)), qI (m 3 ((w * 5 + i).toNat)), qR 28]
              refine qJ.run hκ 2 (pc' := 106) (ls' := [some (qR 24), some (qR 2), some (qI w), some (qI (m 4 w.toNat - 1)), some (qI i), some (qI (m 3 ((w * 5 + i).toNat)))]) (st' := [qI (q_or (d ((m 3 ((w * 5 + i).toNat)).toNat)) (q_shl 1 (m 6 w.toNat))), qI (m 3 ((w * 5 + i).toNat)), qR 28]) rfl ?_
              refine qJ.ast hκ rfl rfl rfl (by decide) (by omega) ?_
              refine qJ.mc (m1 := (q_up (q_row (q_row (q_row (q_row m 25 (q_fu a ((m 3 ((w * 5 + i).toNat)).toNat) ((a ((m 3 ((w * 5 + i).toNat)).toNat)) + 1))) 26 (q_fu b ((m 3 ((w * 5 + i).toNat)).toNat) ((b ((m 3 ((w * 5 + i).toNat)).toNat)) + 1))) 27 (q_fu c ((m 3 ((w * 5 + i).toNat)).toNat) ((c ((m 3 ((w * 5 + i).toNat)).toNat)) + 0))) 28 d) 28 ((m 3 ((w * 5 + i).toNat)).toNat) (q_or (d ((m 3 ((w * 5 + i).toNat)).toNat)) (q_shl 1 (m 6 w.toNat))))) (m2 := (q_row (q_row (q_row (q_row m 25 (q_fu a ((m 3 ((w * 5 + i).toNat)).toNat) ((a ((m 3 ((w * 5 + i).toNat)).toNat)) + 1))) 26 (q_fu b ((m 3 ((w * 5 + i).toNat)).toNat) ((b ((m 3 ((w * 5 + i).toNat)).toNat)) + 1))) 27 (q_fu c ((m 3 ((w * 5 + i).toNat)).toNat) ((c ((m 3 ((w * 5 + i).toNat)).toNat)) + 0))) 28 (q_fu d ((m 3 ((w * 5 + i).toNat)).toNat) (q_or (d ((m 3 ((w * 5 + i).toNat)).toNat)) (q_shl 1 (m 6 w.toNat)))))) (by rw [q_up_row_eq]) ?_
              show qJ YX10_take κ _ (qLy u, (q_row (q_row (q_row (q_row m 25 (q_fu a ((m 3 ((w * 5 + i).toNat)).toNat) ((a ((m 3 ((w * 5 + i).toNat)).toNat)) + 1))) 26 (q_fu b ((m 3 ((w * 5 + i).toNat)).toNat) ((b ((m 3 ((w * 5 + i).toNat)).toNat)) + 1))) 27 (q_fu c ((m 3 ((w * 5 + i).toNat)).toNat) ((c ((m 3 ((w * 5 + i).toNat)).toNat)) + 0))) 28 (q_fu d ((m 3 ((w * 5 + i).toNat)).toNat) (q_or (d ((m 3 ((w * 5 + i).toNat)).toNat)) (q_shl 1 (m 6 w.toNat))))), y) 0 0 107 [some (qR 24), some (qR 2), some (qI w), some (qI (m 4 w.toNat - 1)), some (qI i), some (qI (m 3 ((w * 5 + i).toNat)))] []
              refine qJ.run hκ 2 (pc' := 12) (ls' := [some (qR 24), some (qR 2), some (qI w), some (qI (m 4 w.toNat - 1)), some (qI (i + 1)), some (qI (m 3 ((w * 5 + i).toNat)))]) (st' := []) rfl ?_
              refine qJ.dl [true, true, true, true, true, false] ?_
              show qJ YX10_take κ _ (qLy u, (q_row (q_row (q_row (q_row m 25 (q_fu a ((m 3 ((w * 5 + i).toNat)).toNat) ((a ((m 3 ((w * 5 + i).toNat)).toNat)) + 1))) 26 (q_fu b ((m 3 ((w * 5 + i).toNat)).toNat) ((b ((m 3 ((w * 5 + i).toNat)).toNat)) + 1))) 27 (q_fu c ((m 3 ((w * 5 + i).toNat)).toNat) ((c ((m 3 ((w * 5 + i).toNat)).toNat)) + 0))) 28 (q_fu d ((m 3 ((w * 5 + i).toNat)).toNat) (q_or (d ((m 3 ((w * 5 + i).toNat)).toNat)) (q_shl 1 (m 6 w.toNat))))), y) 0 0 12 [some (qR 24), some (qR 2), some (qI w), some (qI (m 4 w.toNat - 1)), some (qI (i + 1)), none] []
              exact ih12  (q_fu a ((m 3 ((w * 5 + i).toNat)).toNat) ((a ((m 3 ((w * 5 + i).toNat)).toNat)) + 1)) (q_fu b ((m 3 ((w * 5 + i).toNat)).toNat) ((b ((m 3 ((w * 5 + i).toNat)).toNat)) + 1)) (q_fu c ((m 3 ((w * 5 + i).toNat)).toNat) ((c ((m 3 ((w * 5 + i).toNat)).toNat)) + 0)) (q_fu d ((m 3 ((w * 5 + i).toNat)).toNat) (q_or (d ((m 3 ((w * 5 + i).toNat)).toNat)) (q_shl 1 (m 6 w.toNat)))) (i + 1) (by omega) (by omega) (uInv_sign v12_2 v12_0 (by omega) (by omega) (by first | rw [if_pos c58] | rw [if_neg c58]) (by first | rw [if_pos c79] | rw [if_neg c79])) (by omega)
            · show qJ YX10_take κ _ (qLy u, (q_row (q_row (q_row (q_row m 25 (q_fu a ((m 3 ((w * 5 + i).toNat)).toNat) ((a ((m 3 ((w * 5 + i).toNat)).toNat)) + 1))) 26 (q_fu b ((m 3 ((w * 5 + i).toNat)).toNat) ((b ((m 3 ((w * 5 + i).toNat)).toNat)) + 1))) 27 c) 28 d), y) 0 0 82 [some (qR 24), some (qR 2), some (qI w), some (qI (m 4 w.toNat - 1)), some (qI i), some (qI (m 3 ((w * 5 + i).toNat)))] [qI (c ((m 3 ((w * 5 + i).toNat)).toNat)), qI (m 3 ((w * 5 + i).toNat)), qR 27]
              refine qJ.run hκ 3 (pc' := 88) (ls' := [some (qR 24), some (qR 2), some (qI w), some (qI (m 4 w.toNat - 1)), some (qI i), some (qI (m 3 ((w * 5 + i).toNat)))]) (st' := [qI ((c ((m 3 ((w * 5 + i).toNat)).toNat)) + 1), qI (m 3 ((w * 5 + i).toNat)), qR 27]) rfl ?_
              refine qJ.ast hκ rfl rfl rfl (by decide) (by omega) ?_
              refine qJ.mc (m1 := (q_up (q_row (q_row (q_row (q_row m 25 (q_fu a ((m 3 ((w * 5 + i).toNat)).toNat) ((a ((m 3 ((w * 5 + i).toNat)).toNat)) + 1))) 26 (q_fu b ((m 3 ((w * 5 + i).toNat)).toNat) ((b ((m 3 ((w * 5 + i).toNat)).toNat)) + 1))) 27 c) 28 d) 27 ((m 3 ((w * 5 + i).toNat)).toNat) ((c ((m 3 ((w * 5 + i).toNat)).toNat)) + 1))) (m2 := (q_row (q_row (q_row (q_row m 25 (q_fu a ((m 3 ((w * 5 + i).toNat)).toNat) ((a ((m 3 ((w * 5 + i).toNat)).toNat)) + 1))) 26 (q_fu b ((m 3 ((w * 5 + i).toNat)).toNat) ((b ((m 3 ((w * 5 + i).toNat)).toNat)) + 1))) 27 (q_fu c ((m 3 ((w * 5 + i).toNat)).toNat) ((c ((m 3 ((w * 5 + i).toNat)).toNat)) + 1))) 28 d)) (by rw [q_up_row_ne (a := 27) (b := 28) (by decide), q_up_row_eq]) ?_
              show qJ YX10_take κ _ (qLy u, (q_row (q_row (q_row (q_row m 25 (q_fu a ((m 3 ((w * 5 + i).toNat)).toNat) ((a ((m 3 ((w * 5 + i).toNat)).toNat)) + 1))) 26 (q_fu b ((m 3 ((w * 5 + i).toNat)).toNat) ((b ((m 3 ((w * 5 + i).toNat)).toNat)) + 1))) 27 (q_fu c ((m 3 ((w * 5 + i).toNat)).toNat) ((c ((m 3 ((w * 5 + i).toNat)).toNat)) + 1))) 28 d), y) 0 0 89 [some (qR 24), some (qR 2), some (qI w), some (qI (m 4 w.toNat - 1)), some (qI i), some (qI (m 3 ((w * 5 + i).toNat)))] []
              refine qJ.run hκ 4 (pc' := 96) (ls' := [some (qR 24), some (qR 2), some (qI w), some (qI (m 4 w.toNat - 1)), some (qI i), some (qI (m 3 ((w * 5 + i).toNat)))]) (st' := [qI (m 3 ((w * 5 + i).toNat)), qR 28, qI (m 3 ((w * 5 + i).toNat)), qR 28]) rfl ?_
              refine qJ.ald hκ rfl rfl rfl (by decide) (by omega) ?_
              show qJ YX10_take κ _ (qLy u, (q_row (q_row (q_row (q_row m 25 (q_fu a ((m 3 ((w * 5 + i).toNat)).toNat) ((a ((m 3 ((w * 5 + i).toNat)).toNat)) + 1))) 26 (q_fu b ((m 3 ((w * 5 + i).toNat)).toNat) ((b ((m 3 ((w * 5 + i).toNat)).toNat)) + 1))) 27 (q_fu c ((m 3 ((w * 5 + i).toNat)).toNat) ((c ((m 3 ((w * 5 + i).toNat)).toNat)) + 1))) 28 d), y) 0 0 97 [some (qR 24), some (qR 2), some (qI w), some (qI (m 4 w.toNat - 1)), some (qI i), some (qI (m 3 ((w * 5 + i).toNat)))] [qI (d ((m 3 ((w * 5 + i).toNat)).toNat)), qI (m 3 ((w * 5 + i).toNat)), qR 28]
              refine qJ.run hκ 4 (pc' := 103) (ls' := [some (qR 24), some (qR 2), some (qI w), some (qI (m 4 w.toNat - 1)), some (qI i), some (qI (m 3 ((w * 5 + i).toNat)))]) (st' := [qI w, qR 6, qI 1, qI (d ((m 3 ((w * 5 + i).toNat)).toNat)), qI (m 3 ((w * 5 + i).toNat)), qR 28]) rfl ?_
              refine qJ.ald hκ rfl rfl rfl (by decide) (by omega) ?_
              show qJ YX10_take κ _ (qLy u, (q_row (q_row (q_row (q_row m 25 (q_fu a ((m 3 ((w * 5 + i).toNat)).toNat) ((a ((m 3 ((w * 5 + i).toNat)).toNat)) + 1))) 26 (q_fu b ((m 3 ((w * 5 + i).toNat)).toNat) ((b ((m 3 ((w * 5 + i).toNat)).toNat)) + 1))) 27 (q_fu c ((m 3 ((w * 5 + i).toNat)).toNat) ((c ((m 3 ((w * 5 + i).toNat)).toNat)) + 1))) 28 d), y) 0 0 104 [some (qR 24), some (qR 2), some (qI w), some (qI (m 4 w.toNat - 1)), some (qI i), some (qI (m 3 ((w * 5 + i).toNat)))] [qI (m 6 w.toNat), qI 1, qI (d ((m 3 ((w * 5 + i).toNat)).toNat)), qI (m 3 ((w * 5 + i).toNat)), qR 28]
              refine qJ.run hκ 2 (pc' := 106) (ls' := [some (qR 24), some (qR 2), some (qI w), some (qI (m 4 w.toNat - 1)), some (qI i), some (qI (m 3 ((w * 5 + i).toNat)))]) (st' := [qI (q_or (d ((m 3 ((w * 5 + i).toNat)).toNat)) (q_shl 1 (m 6 w.toNat))), qI (m 3 ((w * 5 + i).toNat)), qR 28]) rfl ?_
              refine qJ.ast hκ rfl rfl rfl (by decide) (by omega) ?_
              refine qJ.mc (m1 := (q_up (q_row (q_row (q_row (q_row m 25 (q_fu a ((m 3 ((w * 5 + i).toNat)).toNat) ((a ((m 3 ((w * 5 + i).toNat)).toNat)) + 1))) 26 (q_fu b ((m 3 ((w * 5 + i).toNat)).toNat) ((b ((m 3 ((w * 5 + i).toNat)).toNat)) + 1))) 27 (q_fu c ((m 3 ((w * 5 + i).toNat)).toNat) ((c ((m 3 ((w * 5 + i).toNat)).toNat)) + 1))) 28 d) 28 ((m 3 ((w * 5 + i).toNat)).toNat) (q_or (d ((m 3 ((w * 5 + i).toNat)).toNat)) (q_shl 1 (m 6 w.toNat))))) (m2 := (q_row (q_row (q_row (q_row m 25 (q_fu a ((m 3 ((w * 5 + i).toNat)).toNat) ((a ((m 3 ((w * 5 + i).toNat)).toNat)) + 1))) 26 (q_fu b ((m 3 ((w * 5 + i).toNat)).toNat) ((b ((m 3 ((w * 5 + i).toNat)).toNat)) + 1))) 27 (q_fu c ((m 3 ((w * 5 + i).toNat)).toNat) ((c ((m 3 ((w * 5 + i).toNat)).toNat)) + 1))) 28 (q_fu d ((m 3 ((w * 5 + i).toNat)).toNat) (q_or (d ((m 3 ((w * 5 + i).toNat)).toNat)) (q_shl 1 (m 6 w.toNat)))))) (by rw [q_up_row_eq]) ?_
              show qJ YX10_take κ _ (qLy u, (q_row (q_row (q_row (q_row m 25 (q_fu a ((m 3 ((w * 5 + i).toNat)).toNat) ((a ((m 3 ((w * 5 + i).toNat)).toNat)) + 1))) 26 (q_fu b ((m 3 ((w * 5 + i).toNat)).toNat) ((b ((m 3 ((w * 5 + i).toNat)).toNat)) + 1))) 27 (q_fu c ((m 3 ((w * 5 + i).toNat)).toNat) ((c ((m 3 ((w * 5 + i).toNat)).toNat)) + 1))) 28 (q_fu d ((m 3 ((w * 5 + i).toNat)).toNat) (q_or (d ((m 3 ((w * 5 + i).toNat)).toNat)) (q_shl 1 (m 6 w.toNat))))), y) 0 0 107 [some (qR 24), some (qR 2), some (qI w), some (qI (m 4 w.toNat - 1)), some (qI i), some (qI (m 3 ((w * 5 + i).toNat)))] []
              refine qJ.run hκ 2 (pc' := 12) (ls' := [some (qR 24), some (qR 2), some (qI w), some (qI (m 4 w.toNat - 1)), some (qI (i + 1)), some (qI (m 3 ((w * 5 + i).toNat)))]) (st' := []) rfl ?_
              refine qJ.dl [true, true, true, true, true, false] ?_
              show qJ YX10_take κ _ (qLy u, (q_row (q_row (q_row (q_row m 25 (q_fu a ((m 3 ((w * 5 + i).toNat)).toNat) ((a ((m 3 ((w * 5 + i).toNat)).toNat)) + 1))) 26 (q_fu b ((m 3 ((w * 5 + i).toNat)).toNat) ((b ((m 3 ((w * 5 + i).toNat)).toNat)) + 1))) 27 (q_fu c ((m 3 ((w * 5 + i).toNat)).toNat) ((c ((m 3 ((w * 5 + i).toNat)).toNat)) + 1))) 28 (q_fu d ((m 3 ((w * 5 + i).toNat)).toNat) (q_or (d ((m 3 ((w * 5 + i).toNat)).toNat)) (q_shl 1 (m 6 w.toNat))))), y) 0 0 12 [some (qR 24), some (qR 2), some (qI w), some (qI (m 4 w.toNat - 1)), some (qI (i + 1)), none] []
              exact ih12  (q_fu a ((m 3 ((w * 5 + i).toNat)).toNat) ((a ((m 3 ((w * 5 + i).toNat)).toNat)) + 1)) (q_fu b ((m 3 ((w * 5 + i).toNat)).toNat) ((b ((m 3 ((w * 5 + i).toNat)).toNat)) + 1)) (q_fu c ((m 3 ((w * 5 + i).toNat)).toNat) ((c ((m 3 ((w * 5 + i).toNat)).toNat)) + 1)) (q_fu d ((m 3 ((w * 5 + i).toNat)).toNat) (q_or (d ((m 3 ((w * 5 + i).toNat)).toNat)) (q_shl 1 (m 6 w.toNat)))) (i + 1) (by omega) (by omega) (uInv_sign v12_2 v12_0 (by omega) (by omega) (by first | rw [if_pos c58] | rw [if_neg c58]) (by first | rw [if_pos c79] | rw [if_neg c79])) (by omega)
        · show qJ YX10_take κ _ (qLy u, (q_row (q_row (q_row (q_row m 25 a) 26 b) 27 c) 28 d), y) 0 0 34 [some (qR 24), some (qR 2), some (qI w), some (qI (m 4 w.toNat - 1)), some (qI i), some (qI (m 3 ((w * 5 + i).toNat)))] []
          refine qJ.run hκ 3 (pc' := 12) (ls' := [some (qR 24), some (qR 2), some (qI w), some (qI (m 4 w.toNat - 1)), some (qI (i + 1)), some (qI (m 3 ((w * 5 + i).toNat)))]) (st' := []) rfl ?_
          refine qJ.dl [true, true, true, true, true, false] ?_
          show qJ YX10_take κ _ (qLy u, (q_row (q_row (q_row (q_row m 25 a) 26 b) 27 c) 28 d), y) 0 0 12 [some (qR 24), some (qR 2), some (qI w), some (qI (m 4 w.toNat - 1)), some (qI (i + 1)), none] []
          exact ih12  a b c d (i + 1) (by omega) (by omega) (uInv_gap v12_2 v12_0 (by omega) c31) (by omega)
  show qJ YX10_take κ _ (qLy u, (q_row (q_row (q_row (q_row m 25 a0) 26 b0) 27 c0) 28 d0), y) 0 0 0 [some (qR 24), some (qR 2), some (qI w), none, none, none] []
  refine qJ.run hκ 3 (pc' := 5) (ls' := [some (qR 24), some (qR 2), some (qI w), none, none, none]) (st' := [qI w, qR 4]) rfl ?_
  refine qJ.ald hκ rfl rfl rfl (by decide) (by omega) ?_
  show qJ YX10_take κ _ (qLy u, (q_row (q_row (q_row (q_row m 25 a0) 26 b0) 27 c0) 28 d0), y) 0 0 6 [some (qR 24), some (qR 2), some (qI w), none, none, none] [qI (m 4 w.toNat)]
  refine qJ.run hκ 5 (pc' := 12) (ls' := [some (qR 24), some (qR 2), some (qI w), some (qI ((m 4 w.toNat) - 1)), some (qI 0), none]) (st' := []) rfl ?_
  exact L12 7 a0 b0 c0 d0 0 (by omega) (by omega) (fun s hs => ⟨by show _ = _ + ((0 : Nat) : Int); omega, by rw [if_neg (by omega)]; omega, by rw [if_neg (by omega)]; omega, by rw [if_pos (show uC m w s (Int.toNat 0) = 0 from rfl)]⟩) (by omega)

/-- USE: how often a sign stands in the first n words; as the first, as the last one; at which sites -/
def uAll (m : qM) (n : Nat) (s : Nat) : Int := q_sum (fun w => (uC m w s (m 4 w).toNat : Int)) n
def uFst (m : qM) (n : Nat) (s : Nat) : Int := q_sum (fun w => if m 3 ((w : Int) * 5).toNat = (s : Int) then 1 else 0) n
def uLst (m : qM) (n : Nat) (s : Nat) : Int := q_sum (fun w => if m 3 ((w : Int) * 5 + (m 4 w - 1)).toNat = (s : Int) then 1 else 0) n
def uSit (m : qM) (s : Nat) : Nat → Int
  | 0 => 0
  | w + 1 => if uC m w s (m 4 w).toNat = 0 then uSit m s w else q_or (uSit m s w) (q_shl 1 (m 6 w))
def uRep (m : qM) (n : Nat) (a b c d : Nat → Int) : Prop := ∀ s : Nat, s < 20 → a s = uAll m n s ∧ b s = uFst m n s ∧ c s = uLst m n s ∧ d s = uSit m s n
theorem uRep_step {m : qM} {w : Int} {a b c d a1 b1 c1 d1 : Nat → Int} (hw : 0 ≤ w) (hl : 1 ≤ m 4 w.toNat) (h : uRep m w.toNat a b c d) (h1 : uInv m w (m 4 w.toNat) a b c d a1 b1 c1 d1) : uRep m (w + 1).toNat a1 b1 c1 d1 := by
  intro s hs
  obtain ⟨g1, g2, g3, g4⟩ := h s hs
  obtain ⟨k1, k2, k3, k4⟩ := h1 s hs
  have it : ((w.toNat : Nat) : Int) = w := by omega
  rw [show (w + 1).toNat = w.toNat + 1 by omega]
  refine ⟨?_, ?_, ?_, ?_⟩
  · rw [k1, g1]; unfold uAll; rw [q_sum]; rw [it]
  · rw [k2, g2]; unfold uFst; rw [q_sum]; rw [it]
    congr 1
    by_cases e : m 3 (w * 5).toNat = (s : Int)
    · rw [if_pos ⟨by omega, e⟩, if_pos e]
    · rw [if_neg (fun z => e z.2), if_neg e]
  · rw [k3, g3]; unfold uLst; rw [q_sum]; rw [it]
    congr 1
    by_cases e : m 3 (w * 5 + (m 4 w.toNat - 1)).toNat = (s : Int)
    · rw [if_pos ⟨rfl, e⟩, if_pos e]
    · rw [if_neg (fun z => e z.2), if_neg e]
  · rw [k4, g4]; rw [uSit, it]

set_option maxRecDepth 100000 in
theorem c_uBuild (u : qU) (m y : qM) (hz : Int) (n0 : Nat) (hp : q_pfx (m 7) hz (m 2 0).toNat = n0) (h0 : 0 ≤ m 2 0 ∧ m 2 0 ≤ 60) (h1 : qr hz) (hW : gW m) (hS7 : ∀ k : Int, 0 ≤ k → k < m 2 0 → qr (m 7 k.toNat)) (h6 : ∀ k : Int, 0 ≤ k → k < m 2 0 → 0 ≤ m 6 k.toNat ∧ m 6 k.toNat ≤ 3) : qCt YX10_build 3 0 0 [qR 24, qR 2, qI hz] (qLy u, m, y) (fun r h => r = none ∧ ∃ a b c d, h = (qLy u, (q_row (q_row (q_row (q_row m 25 a) 26 b) 27 c) 28 d), y) ∧ uRep m n0 a b c d) := by
  refine qCt.intro okX10_build (Nat.le_of_ble_eq_true rfl) (fun κ hκ => ?_)
  have p0 := q_pfx_le (m 7) hz (m 2 0).toNat
  rw [hp] at p0
  have L41 : ∀ (n : Nat) (a : Nat → Int) (b : Nat → Int) (c : Nat → Int) (d : Nat → Int) (w : Int), (0 ≤ w) → (w ≤ (n0 : Int)) → (uRep m w.toNat a b c d) → (((n0 : Int) - w).toNat) < n → qJ YX10_build κ (qFin (fun r h => r = none ∧ ∃ a b c d, h = (qLy u, (q_row (q_row (q_row (q_row m 25 a) 26 b) 27 c) 28 d), y) ∧ uRep m n0 a b c d) 0 0 κ) (qLy u, (q_row (q_row (q_row (q_row m 25 a) 26 b) 27 c) 28 d), y) 0 0 41 [some (qR 24), some (qR 2), some (qI hz), some (qI (n0 : Int)), some (qI w)] [] := by
    intro n
    induction n with
    | zero => intro a b c d w _ _ _ hz0; omega
    | succ n ih41 =>
      intro a b c d w v41_0 v41_1 v41_2 v41_m
      refine qJ.run hκ 2 (pc' := 44) (ls' := [some (qR 24), some (qR 2), some (qI hz), some (qI (n0 : Int)), some (qI w)]) (st' := [qI (n0 : Int), qI w]) rfl ?_
      refine qJ.icmp_ge hκ (tgt := 60) rfl rfl (by omega) (by omega) (fun c44 => ?_) (fun c44 => ?_)
      · show qJ YX10_build κ _ (qLy u, (q_row (q_row (q_row (q_row m 25 a) 26 b) 27 c) 28 d), y) 0 0 60 [some (qR 24), some (qR 2), some (qI hz), some (qI (n0 : Int)), some (qI w)] []
        exact qJ.vret hκ rfl rfl (by decide) (by decide) (by refine ⟨rfl, a, b, c, d, rfl, ?_⟩; rw [← show w.toNat = n0 by omega]; exact v41_2)
      · show qJ YX10_build κ _ (qLy u, (q_row (q_row (q_row (q_row m 25 a) 26 b) 27 c) 28 d), y) 0 0 47 [some (qR 24), some (qR 2), some (qI hz), some (qI (n0 : Int)), some (qI w)] []
        refine qJ.run hκ 3 (pc' := 51) (ls' := [some (qR 24), some (qR 2), some (qI hz), some (qI (n0 : Int)), some (qI w)]) (st' := [qI w, qR 2, qR 24]) rfl ?_
        refine qJ.callV (As := [qR 2, qI w]) (rest := []) hκ rfl kX10_36 (c_uTake u m y a b c d w (by omega) hW (by omega) (h6 _ (by omega) (by omega))) rfl rfl (by decide) rfl rfl (Nat.le_of_ble_eq_true rfl) (Nat.le_of_ble_eq_true rfl) (Nat.le_of_ble_eq_true rfl) (Or.inl (fun r h' e => by obtain ⟨rfl, a1, b1, c1, d1, rfl, hU⟩ := e; rfl)) (fun r h' e => ?_)
        obtain ⟨rfl, a1, b1, c1, d1, rfl, hU⟩ := e
        show qJ YX10_build κ _ (qLy u, (q_row (q_row (q_row (q_row m 25 a1) 26 b1) 27 c1) 28 d1), y) 0 0 54 [some (qR 24), some (qR 2), some (qI hz), some (qI (n0 : Int)), some (qI w)] []
        refine qJ.run hκ 2 (pc' := 41) (ls' := [some (qR 24), some (qR 2), some (qI hz), some (qI (n0 : Int)), some (qI (w + 1))]) (st' := []) rfl ?_
        exact ih41  a1 b1 c1 d1 (w + 1) (by omega) (by omega) (uRep_step v41_0 (hW w v41_0 (by omega)).1.1 v41_2 hU) (by omega)
  show qJ YX10_build κ _ (qLy u, m, y) 0 0 0 [some (qR 24), some (qR 2), some (qI hz), none, none] []
  refine qJ.run hκ 3 (pc' := 5) (ls' := [some (qR 24), some (qR 2), some (qI hz), none, none]) (st' := [qI 0, qR 25]) rfl ?_
  refine qJ.callS (As := [qR 25, qI 0]) (rest := []) hκ rfl kX10_24 (c_fill25 u m y 0) (by decide) rfl rfl (Nat.le_of_ble_eq_true rfl) (Nat.le_of_ble_eq_true rfl) (Nat.le_of_ble_eq_true rfl) (Or.inl (fun r h' e => by obtain ⟨rfl, rfl⟩ := e; rfl)) (fun r h' e => ?_)
  obtain ⟨rfl, rfl⟩ := e
  show qJ YX10_build κ _ (qLy u, (q_row m 25 (fun k => if k < 20 then 0 else m 25 k)), y) 0 0 8 [some (qR 24), some (qR 2), some (qI hz), none, none] []
  refine qJ.run hκ 3 (pc' := 13) (ls' := [some (qR 24), some (qR 2), some (qI hz), none, none]) (st' := [qI 0, qR 26]) rfl ?_
  refine qJ.callS (As := [qR 26, qI 0]) (rest := []) hκ rfl kX10_24 (c_fill26 u (q_row m 25 (fun k => if k < 20 then 0 else m 25 k)) y 0) (by decide) rfl rfl (Nat.le_of_ble_eq_true rfl) (Nat.le_of_ble_eq_true rfl) (Nat.le_of_ble_eq_true rfl) (Or.inl (fun r h' e => by obtain ⟨rfl, rfl⟩ := e; rfl)) (fun r h' e => ?_)
  obtain ⟨rfl, rfl⟩ := e
  show qJ YX10_build κ _ (qLy u, (q_row (q_row m 25 (fun k => if k < 20 then 0 else m 25 k)) 26 (fun k => if k < 20 then 0 else m 26 k)), y) 0 0 16 [some (qR 24), some (qR 2), some (qI hz), none, none] []
  refine qJ.run hκ 3 (pc' := 21) (ls' := [some (qR 24), some (qR 2), some (qI hz), none, none]) (st' := [qI 0, qR 27]) rfl ?_
  refine qJ.callS (As := [qR 27, qI 0]) (rest := []) hκ rfl kX10_24 (c_fill27 u (q_row (q_row m 25 (fun k => if k < 20 then 0 else m 25 k)) 26 (fun k => if k < 20 then 0 else m 26 k)) y 0) (by decide) rfl rfl (Nat.le_of_ble_eq_true rfl) (Nat.le_of_ble_eq_true rfl) (Nat.le_of_ble_eq_true rfl) (Or.inl (fun r h' e => by obtain ⟨rfl, rfl⟩ := e; rfl)) (fun r h' e => ?_)
  obtain ⟨rfl, rfl⟩ := e
  show qJ YX10_build κ _ (qLy u, (q_row (q_row (q_row m 25 (fun k => if k < 20 then 0 else m 25 k)) 26 (fun k => if k < 20 then 0 else m 26 k)) 27 (fun k => if k < 20 then 0 else m 27 k)), y) 0 0 24 [some (qR 24), some (qR 2), some (qI hz), none, none] []
  refine qJ.run hκ 3 (pc' := 29) (ls' := [some (qR 24), some (qR 2), some (qI hz), none, none]) (st' := [qI 0, qR 28]) rfl ?_
  refine qJ.callS (As := [qR 28, qI 0]) (rest := []) hκ rfl kX10_24 (c_fill28 u (q_row (q_row (q_row m 25 (fun k => if k < 20 then 0 else m 25 k)) 26 (fun k => if k < 20 then 0 else m 26 k)) 27 (fun k => if k < 20 then 0 else m 27 k)) y 0) (by decide) rfl rfl (Nat.le_of_ble_eq_true rfl) (Nat.le_of_ble_eq_true rfl) (Nat.le_of_ble_eq_true rfl) (Or.inl (fun r h' e => by obtain ⟨rfl, rfl⟩ := e; rfl)) (fun r h' e => ?_)
  obtain ⟨rfl, rfl⟩ := e
  show qJ YX10_build κ _ (qLy u, (q_row (q_row (q_row (q_row m 25 (fun k => if k < 20 then 0 else m 25 k)) 26 (fun k => if k < 20 then 0 else m 26 k)) 27 (fun k => if k < 20 then 0 else m 27 k)) 28 (fun k => if k < 20 then 0 else m 28 k)), y) 0 0 32 [some (qR 24), some (qR 2), some (qI hz), none, none] []
  refine qJ.run hκ 2 (pc' := 34) (ls' := [some (qR 24), some (qR 2), some (qI hz), none, none]) (st' := [qI hz, qR 2]) rfl ?_
  refine qJ.callV (As := [qI hz]) (rest := []) hκ rfl kX10_30 (hp ▸ c_seenWords u (q_row (q_row (q_row (q_row m 25 (fun k => if k < 20 then 0 else m 25 k)) 26 (fun k => if k < 20 then 0 else m 26 k)) 27 (fun k => if k < 20 then 0 else m 27 k)) 28 (fun k => if k < 20 then 0 else m 28 k)) y hz h0 h1 hS7) rfl rfl (by decide) rfl rfl (Nat.le_of_ble_eq_true rfl) (Nat.le_of_ble_eq_true rfl) (Nat.le_of_ble_eq_true rfl) (Or.inl (fun r h' e => by obtain ⟨rfl, rfl⟩ := e; rfl)) (fun r h' e => ?_)
  obtain ⟨rfl, rfl⟩ := e
  show qJ YX10_build κ _ (qLy u, (q_row (q_row (q_row (q_row m 25 (fun k => if k < 20 then 0 else m 25 k)) 26 (fun k => if k < 20 then 0 else m 26 k)) 27 (fun k => if k < 20 then 0 else m 27 k)) 28 (fun k => if k < 20 then 0 else m 28 k)), y) 0 0 37 [some (qR 24), some (qR 2), some (qI hz), none, none] [qI (n0 : Int)]
  refine qJ.run hκ 3 (pc' := 41) (ls' := [some (qR 24), some (qR 2), some (qI hz), some (qI (n0 : Int)), some (qI 0)]) (st' := []) rfl ?_
  exact L41 (n0 + 1) (fun k => if k < 20 then 0 else m 25 k) (fun k => if k < 20 then 0 else m 26 k) (fun k => if k < 20 then 0 else m 27 k) (fun k => if k < 20 then 0 else m 28 k) 0 (by omega) (by omega) (fun s hs => ⟨by show (if s < 20 then (0 : Int) else _) = _; rw [if_pos hs]; rfl, by show (if s < 20 then (0 : Int) else _) = _; rw [if_pos hs]; rfl, by show (if s < 20 then (0 : Int) else _) = _; rw [if_pos hs]; rfl, by show (if s < 20 then (0 : Int) else _) = _; rw [if_pos hs]; rfl⟩) (by omega)

abbrev uAh (m : qM) (a b : Nat) : Prop := if ¬ m 26 a * m 25 b = m 26 b * m 25 a then m 26 b * m 25 a < m 26 a * m 25 b else if ¬ m 25 a = m 25 b then m 25 b < m 25 a else a < b
theorem q_ifI {P Q : Prop} [Decidable P] (e : P ↔ Q) : (Q → (if P then (1 : Int) else 0) = 1) ∧ (¬ Q → (if P then (1 : Int) else 0) = 0) := ⟨fun h => if_pos (e.mpr h), fun h => if_neg (fun z => h (e.mp z))⟩
theorem uAh_1 {m : qM} {a b : Nat} (h : ¬ m 26 a * m 25 b = m 26 b * m 25 a) : uAh m a b ↔ m 26 b * m 25 a < m 26 a * m 25 b := by unfold uAh; rw [if_pos h]
theorem uAh_2 {m : qM} {a b : Nat} (h : m 26 a * m 25 b = m 26 b * m 25 a) (h2 : ¬ m 25 a = m 25 b) : uAh m a b ↔ m 25 b < m 25 a := by unfold uAh; rw [if_neg (fun z => z h), if_pos h2]
theorem uAh_3 {m : qM} {a b : Nat} (h : m 26 a * m 25 b = m 26 b * m 25 a) (h2 : m 25 a = m 25 b) : uAh m a b ↔ a < b := by unfold uAh; rw [if_neg (fun z => z h), if_neg (fun z => z h2)]
theorem q_mulr {x y : Int} (h1 : 0 ≤ x ∧ x ≤ 300) (h2 : 0 ≤ y ∧ y ≤ 300) : 0 ≤ x * y ∧ x * y ≤ 90000 := by
  refine ⟨Int.mul_nonneg h1.1 h2.1, ?_⟩
  have := Int.mul_le_mul h1.2 h2.2 h2.1 (by omega)
  omega

set_option maxRecDepth 100000 in
theorem c_isAhead (u : qU) (m y : qM) (a b : Int) (ha : 0 ≤ a ∧ a < 20) (hb : 0 ≤ b ∧ b < 20) (hr : ∀ s : Nat, s < 20 → (0 ≤ m 25 s ∧ m 25 s ≤ 300) ∧ 0 ≤ m 26 s ∧ m 26 s ≤ 300) : qCt YX10_isAhead 1 0 0 [qR 24, qI a, qI b] (qLy u, m, y) (fun r h => r = some (qI (if uAh m a.toNat b.toNat then 1 else 0)) ∧ h = (qLy u, m, y)) := by
  refine qCt.intro okX10_isAhead (Nat.le_of_ble_eq_true rfl) (fun κ hκ => ?_)
  have r1 := hr a.toNat (by omega)
  have r2 := hr b.toNat (by omega)
  have q1 := q_mulr r1.2 r2.1
  have q2 := q_mulr r2.2 r1.1
  show qJ YX10_isAhead κ _ (qLy u, m, y) 0 0 0 [some (qR 24), some (qI a), some (qI b), none, none] []
  refine qJ.run hκ 3 (pc' := 5) (ls' := [some (qR 24), some (qI a), some (qI b), none, none]) (st' := [qI a, qR 26]) rfl ?_
  refine qJ.ald hκ rfl rfl rfl (by decide) (by omega) ?_
  show qJ YX10_isAhead κ _ (qLy u, m, y) 0 0 6 [some (qR 24), some (qI a), some (qI b), none, none] [qI (m 26 a.toNat)]
  refine qJ.run hκ 3 (pc' := 11) (ls' := [some (qR 24), some (qI a), some (qI b), none, none]) (st' := [qI b, qR 25, qI (m 26 a.toNat)]) rfl ?_
  refine qJ.ald hκ rfl rfl rfl (by decide) (by omega) ?_
  show qJ YX10_isAhead κ _ (qLy u, m, y) 0 0 12 [some (qR 24), some (qI a), some (qI b), none, none] [qI (m 25 b.toNat), qI (m 26 a.toNat)]
  refine qJ.run hκ 5 (pc' := 19) (ls' := [some (qR 24), some (qI a), some (qI b), some (qI ((m 26 a.toNat) * (m 25 b.toNat))), none]) (st' := [qI b, qR 26]) rfl ?_
  refine qJ.ald hκ rfl rfl rfl (by decide) (by omega) ?_
  show qJ YX10_isAhead κ _ (qLy u, m, y) 0 0 20 [some (qR 24), some (qI a), some (qI b), some (qI ((m 26 a.toNat) * (m 25 b.toNat))), none] [qI (m 26 b.toNat)]
  refine qJ.run hκ 3 (pc' := 25) (ls' := [some (qR 24), some (qI a), some (qI b), some (qI ((m 26 a.toNat) * (m 25 b.toNat))), none]) (st' := [qI a, qR 25, qI (m 26 b.toNat)]) rfl ?_
  refine qJ.ald hκ rfl rfl rfl (by decide) (by omega) ?_
  show qJ YX10_isAhead κ _ (qLy u, m, y) 0 0 26 [some (qR 24), some (qI a), some (qI b), some (qI ((m 26 a.toNat) * (m 25 b.toNat))), none] [qI (m 25 a.toNat), qI (m 26 b.toNat)]
  refine qJ.run hκ 4 (pc' := 32) (ls' := [some (qR 24), some (qI a), some (qI b), some (qI ((m 26 a.toNat) * (m 25 b.toNat))), some (qI ((m 26 b.toNat) * (m 25 a.toNat)))]) (st' := [qI ((m 26 b.toNat) * (m 25 a.toNat)), qI ((m 26 a.toNat) * (m 25 b.toNat))]) rfl ?_
  refine qJ.icmp_eq hκ (tgt := 47) rfl rfl (by omega) (by omega) (fun c32 => ?_) (fun c32 => ?_)
  · show qJ YX10_isAhead κ _ (qLy u, m, y) 0 0 47 [some (qR 24), some (qI a), some (qI b), some (qI ((m 26 a.toNat) * (m 25 b.toNat))), some (qI ((m 26 b.toNat) * (m 25 a.toNat)))] []
    refine qJ.run hκ 3 (pc' := 52) (ls' := [some (qR 24), some (qI a), some (qI b), some (qI ((m 26 a.toNat) * (m 25 b.toNat))), some (qI ((m 26 b.toNat) * (m 25 a.toNat)))]) (st' := [qI a, qR 25]) rfl ?_
    refine qJ.ald hκ rfl rfl rfl (by decide) (by omega) ?_
    show qJ YX10_isAhead κ _ (qLy u, m, y) 0 0 53 [some (qR 24), some (qI a), some (qI b), some (qI ((m 26 a.toNat) * (m 25 b.toNat))), some (qI ((m 26 b.toNat) * (m 25 a.toNat)))] [qI (m 25 a.toNat)]
    refine qJ.run hκ 3 (pc' := 58) (ls' := [some (qR 24), some (qI a), some (qI b), some (qI ((m 26 a.toNat) * (m 25 b.toNat))), some (qI ((m 26 b.toNat) * (m 25 a.toNat)))]) (st' := [qI b, qR 25, qI (m 25 a.toNat)]) rfl ?_
    refine qJ.ald hκ rfl rfl rfl (by decide) (by omega) ?_
    show qJ YX10_isAhead κ _ (qLy u, m, y) 0 0 59 [some (qR 24), some (qI a), some (qI b), some (qI ((m 26 a.toNat) * (m 25 b.toNat))), some (qI ((m 26 b.toNat) * (m 25 a.toNat)))] [qI (m 25 b.toNat), qI (m 25 a.toNat)]
    refine qJ.icmp_eq hκ (tgt := 85) rfl rfl (by omega) (by omega) (fun c59 => ?_) (fun c59 => ?_)
    · show qJ YX10_isAhead κ _ (qLy u, m, y) 0 0 85 [some (qR 24), some (qI a), some (qI b), some (qI ((m 26 a.toNat) * (m 25 b.toNat))), some (qI ((m 26 b.toNat) * (m 25 a.toNat)))] []
      refine qJ.run hκ 2 (pc' := 87) (ls' := [some (qR 24), some (qI a), some (qI b), some (qI ((m 26 a.toNat) * (m 25 b.toNat))), some (qI ((m 26 b.toNat) * (m 25 a.toNat)))]) (st' := [qI b, qI a]) rfl ?_
      refine qJ.icmp_ge hκ (tgt := 94) rfl rfl (by omega) (by omega) (fun c87 => ?_) (fun c87 => ?_)
      · show qJ YX10_isAhead κ _ (qLy u, m, y) 0 0 94 [some (qR 24), some (qI a), some (qI b), some (qI ((m 26 a.toNat) * (m 25 b.toNat))), some (qI ((m 26 b.toNat) * (m 25 a.toNat)))] []
        refine qJ.run hκ 1 (pc' := 95) (ls' := [some (qR 24), some (qI a), some (qI b), some (qI ((m 26 a.toNat) * (m 25 b.toNat))), some (qI ((m 26 b.toNat) * (m 25 a.toNat)))]) (st' := [qI 0]) rfl ?_
        exact qJ.bret hκ rfl rfl (by omega) (by decide) (by decide) (by first | exact ⟨congrArg (fun z => some (qI z)) ((q_ifI (uAh_2 c32 c59)).2 (by omega)).symm, rfl⟩ | exact ⟨congrArg (fun z => some (qI z)) ((q_ifI (uAh_3 c32 c59)).2 (by omega)).symm, rfl⟩)
      · show qJ YX10_isAhead κ _ (qLy u, m, y) 0 0 90 [some (qR 24), some (qI a), some (qI b), some (qI ((m 26 a.toNat) * (m 25 b.toNat))), some (qI ((m 26 b.toNat) * (m 25 a.toNat)))] []
        refine qJ.run hκ 2 (pc' := 95) (ls' := [some (qR 24), some (qI a), some (qI b), some (qI ((m 26 a.toNat) * (m 25 b.toNat))), some (qI ((m 26 b.toNat) * (m 25 a.toNat)))]) (st' := [qI 1]) rfl ?_
        exact qJ.bret hκ rfl rfl (by omega) (by decide) (by decide) (by first | exact ⟨congrArg (fun z => some (qI z)) ((q_ifI (uAh_2 c32 c59)).1 (by omega)).symm, rfl⟩ | exact ⟨congrArg (fun z => some (qI z)) ((q_ifI (uAh_3 c32 c59)).1 (by omega)).symm, rfl⟩)
    · show qJ YX10_isAhead κ _ (qLy u, m, y) 0 0 62 [some (qR 24), some (qI a), some (qI b), some (qI ((m 26 a.toNat) * (m 25 b.toNat))), some (qI ((m 26 b.toNat) * (m 25 a.toNat)))] []
      refine qJ.run hκ 3 (pc' := 67) (ls' := [some (qR 24), some (qI a), some (qI b), some (qI ((m 26 a.toNat) * (m 25 b.toNat))), some (qI ((m 26 b.toNat) * (m 25 a.toNat)))]) (st' := [qI a, qR 25]) rfl ?_
      refine qJ.ald hκ rfl rfl rfl (by decide) (by omega) ?_
      show qJ YX10_isAhead κ _ (qLy u, m, y) 0 0 68 [some (qR 24), some (qI a), some (qI b), some (qI ((m 26 a.toNat) * (m 25 b.toNat))), some (qI ((m 26 b.toNat) * (m 25 a.toNat)))] [qI (m 25 a.toNat)]
      refine qJ.run hκ 3 (pc' := 73) (ls' := [some (qR 24), some (qI a), some (qI b), some (qI ((m 26 a.toNat) * (m 25 b.toNat))), some (qI ((m 26 b.toNat) * (m 25 a.toNat)))]) (st' := [qI b, qR 25, qI (m 25 a.toNat)]) rfl ?_
      refine qJ.ald hκ rfl rfl rfl (by decide) (by omega) ?_
      show qJ YX10_isAhead κ _ (qLy u, m, y) 0 0 74 [some (qR 24), some (qI a), some (qI b), some (qI ((m 26 a.toNat) * (m 25 b.toNat))), some (qI ((m 26 b.toNat) * (m 25 a.toNat)))] [qI (m 25 b.toNat), qI (m 25 a.toNat)]
      refine qJ.icmp_le hκ (tgt := 81) rfl rfl (by omega) (by omega) (fun c74 => ?_) (fun c74 => ?_)
      · show qJ YX10_isAhead κ _ (qLy u, m, y) 0 0 81 [some (qR 24), some (qI a), some (qI b), some (qI ((m 26 a.toNat) * (m 25 b.toNat))), some (qI ((m 26 b.toNat) * (m 25 a.toNat)))] []
        refine qJ.run hκ 2 (pc' := 95) (ls' := [some (qR 24), some (qI a), some (qI b), some (qI ((m 26 a.toNat) * (m 25 b.toNat))), some (qI ((m 26 b.toNat) * (m 25 a.toNat)))]) (st' := [qI 0]) rfl ?_
        exact qJ.bret hκ rfl rfl (by omega) (by decide) (by decide) (by first | exact ⟨congrArg (fun z => some (qI z)) ((q_ifI (uAh_2 c32 c59)).2 (by omega)).symm, rfl⟩ | exact ⟨congrArg (fun z => some (qI z)) ((q_ifI (uAh_3 c32 c59)).2 (by omega)).symm, rfl⟩)
      · show qJ YX10_isAhead κ _ (qLy u, m, y) 0 0 77 [some (qR 24), some (qI a), some (qI b), some (qI ((m 26 a.toNat) * (m 25 b.toNat))), some (qI ((m 26 b.toNat) * (m 25 a.toNat)))] []
        refine qJ.run hκ 2 (pc' := 95) (ls' := [some (qR 24), some (qI a), some (qI b), some (qI ((m 26 a.toNat) * (m 25 b.toNat))), some (qI ((m 26 b.toNat) * (m 25 a.toNat)))]) (st' := [qI 1]) rfl ?_
        exact qJ.bret hκ rfl rfl (by omega) (by decide) (by decide) (by first | exact ⟨congrArg (fun z => some (qI z)) ((q_ifI (uAh_2 c32 c59)).1 (by omega)).symm, rfl⟩ | exact ⟨congrArg (fun z => some (qI z)) ((q_ifI (uAh_3 c32 c59)).1 (by omega)).symm, rfl⟩)
  · show qJ YX10_isAhead κ _ (qLy u, m, y) 0 0 35 [some (qR 24), some (qI a), some (qI b), some (qI ((m 26 a.toNat) * (m 25 b.toNat))), some (qI ((m 26 b.toNat) * (m 25 a.toNat)))] []
    refine qJ.run hκ 2 (pc' := 38) (ls' := [some (qR 24), some (qI a), some (qI b), some (qI ((m 26 a.toNat) * (m 25 b.toNat))), some (qI ((m 26 b.toNat) * (m 25 a.toNat)))]) (st' := [qI ((m 26 b.toNat) * (m 25 a.toNat)), qI ((m 26 a.toNat) * (m 25 b.toNat))]) rfl ?_
    refine qJ.icmp_le hκ (tgt := 45) rfl rfl (by omega) (by omega) (fun c38 => ?_) (fun c38 => ?_)
    · show qJ YX10_isAhead κ _ (qLy u, m, y) 0 0 45 [some (qR 24), some (qI a), some (qI b), some (qI ((m 26 a.toNat) * (m 25 b.toNat))), some (qI ((m 26 b.toNat) * (m 25 a.toNat)))] []
      refine qJ.run hκ 1 (pc' := 46) (ls' := [some (qR 24), some (qI a), some (qI b), some (qI ((m 26 a.toNat) * (m 25 b.toNat))), some (qI ((m 26 b.toNat) * (m 25 a.toNat)))]) (st' := [qI 0]) rfl ?_
      exact qJ.bret hκ rfl rfl (by omega) (by decide) (by decide) (⟨congrArg (fun z => some (qI z)) ((q_ifI (uAh_1 c32)).2 (by omega)).symm, rfl⟩)
    · show qJ YX10_isAhead κ _ (qLy u, m, y) 0 0 41 [some (qR 24), some (qI a), some (qI b), some (qI ((m 26 a.toNat) * (m 25 b.toNat))), some (qI ((m 26 b.toNat) * (m 25 a.toNat)))] []
      refine qJ.run hκ 2 (pc' := 46) (ls' := [some (qR 24), some (qI a), some (qI b), some (qI ((m 26 a.toNat) * (m 25 b.toNat))), some (qI ((m 26 b.toNat) * (m 25 a.toNat)))]) (st' := [qI 1]) rfl ?_
      exact qJ.bret hκ rfl rfl (by omega) (by decide) (by decide) (⟨congrArg (fun z => some (qI z)) ((q_ifI (uAh_1 c32)).1 (by omega)).symm, rfl⟩)

abbrev uAhd (m : qM) (s o : Nat) : Prop := 0 < m 25 o ∧ uAh m o s
theorem q_ite01 (P : Prop) [Decidable P] : 0 ≤ (if P then (1 : Int) else 0) ∧ (if P then (1 : Int) else 0) ≤ 1 := by split <;> decide

set_option maxRecDepth 100000 in
theorem c_signsAhead (u : qU) (m y : qM) (b : Int) (hb : 0 ≤ b ∧ b < 20) (hr : ∀ s : Nat, s < 20 → (0 ≤ m 25 s ∧ m 25 s ≤ 300) ∧ 0 ≤ m 26 s ∧ m 26 s ≤ 300) : qCt YX10_signsAhead 2 0 0 [qR 24, qI b] (qLy u, m, y) (fun r h => r = some (qI (q_cnt (uAhd m b.toNat) 20 : Nat)) ∧ h = (qLy u, m, y)) := by
  refine qCt.intro okX10_signsAhead (Nat.le_of_ble_eq_true rfl) (fun κ hκ => ?_)
  have L4 : ∀ (n : Nat) (c : Int) (i : Int), (0 ≤ i) → (i ≤ 20) → (c = (q_cnt (uAhd m b.toNat) i.toNat : Nat)) → ((20 - i).toNat) < n → qJ YX10_signsAhead κ (qFin (fun r h => r = some (qI (q_cnt (uAhd m b.toNat) 20 : Nat)) ∧ h = (qLy u, m, y)) 0 0 κ) (qLy u, m, y) 0 0 4 [some (qR 24), some (qI b), some (qI c), some (qI i)] [] := by
    intro n
    induction n with
    | zero => intro c i _ _ _ hz0; omega
    | succ n ih4 =>
      intro c i v4_0 v4_1 v4_2 v4_m
      refine qJ.run hκ 2 (pc' := 7) (ls' := [some (qR 24), some (qI b), some (qI c), some (qI i)]) (st' := [qI 20, qI i]) rfl ?_
      refine qJ.icmp_ge hκ (tgt := 42) rfl rfl (by omega) (by omega) (fun c7 => ?_) (fun c7 => ?_)
      · show qJ YX10_signsAhead κ _ (qLy u, m, y) 0 0 42 [some (qR 24), some (qI b), some (qI c), some (qI i)] []
        refine qJ.run hκ 1 (pc' := 43) (ls' := [some (qR 24), some (qI b), some (qI c), some (qI i)]) (st' := [qI c]) rfl ?_
        exact qJ.iret hκ rfl rfl (by decide) (by decide) (by refine ⟨?_, rfl⟩; rw [v4_2, show i = 20 by omega]; rfl)
      · show qJ YX10_signsAhead κ _ (qLy u, m, y) 0 0 10 [some (qR 24), some (qI b), some (qI c), some (qI i)] []
        have r1 := hr i.toNat (by omega)
        refine qJ.run hκ 4 (pc' := 16) (ls' := [some (qR 24), some (qI b), some (qI c), some (qI i)]) (st' := [qI i, qR 25, qI c]) rfl ?_
        refine qJ.ald hκ rfl rfl rfl (by decide) (by omega) ?_
        show qJ YX10_signsAhead κ _ (qLy u, m, y) 0 0 17 [some (qR 24), some (qI b), some (qI c), some (qI i)] [qI (m 25 i.toNat), qI c]
        refine qJ.if_le hκ (tgt := 33) rfl rfl (by omega) (fun c17 => ?_) (fun c17 => ?_)
        · show qJ YX10_signsAhead κ _ (qLy u, m, y) 0 0 33 [some (qR 24), some (qI b), some (qI c), some (qI i)] [qI c]
          refine qJ.run hκ 5 (pc' := 4) (ls' := [some (qR 24), some (qI b), some (qI (c + 0)), some (qI (i + 1))]) (st' := []) rfl ?_
          exact ih4  (c + 0) (i + 1) (by omega) (by omega) (by rw [q_cnt_s v4_0, if_neg (fun z => by have := z.1; omega)]; omega) (by omega)
        · show qJ YX10_signsAhead κ _ (qLy u, m, y) 0 0 20 [some (qR 24), some (qI b), some (qI c), some (qI i)] [qI c]
          refine qJ.run hκ 3 (pc' := 23) (ls' := [some (qR 24), some (qI b), some (qI c), some (qI i)]) (st' := [qI b, qI i, qR 24, qI c]) rfl ?_
          refine qJ.callV (As := [qI i, qI b]) (rest := [qI c]) hκ rfl kX10_53 (c_isAhead u m y i b (by omega) (by omega) hr) rfl rfl (by decide) rfl rfl (Nat.le_of_ble_eq_true rfl) (Nat.le_of_ble_eq_true rfl) (Nat.le_of_ble_eq_true rfl) (Or.inl (fun r h' e => by obtain ⟨rfl, rfl⟩ := e; rfl)) (fun r h' e => ?_)
          obtain ⟨rfl, rfl⟩ := e
          show qJ YX10_signsAhead κ _ (qLy u, m, y) 0 0 26 [some (qR 24), some (qI b), some (qI c), some (qI i)] [qI (if uAh m i.toNat b.toNat then 1 else 0), qI c]
          have q1 := q_ite01 (uAh m i.toNat b.toNat)
          refine qJ.if_eq hκ (tgt := 33) rfl rfl (by omega) (fun c26 => ?_) (fun c26 => ?_)
          · show qJ YX10_signsAhead κ _ (qLy u, m, y) 0 0 33 [some (qR 24), some (qI b), some (qI c), some (qI i)] [qI c]
            refine qJ.run hκ 5 (pc' := 4) (ls' := [some (qR 24), some (qI b), some (qI (c + 0)), some (qI (i + 1))]) (st' := []) rfl ?_
            exact ih4  (c + 0) (i + 1) (by omega) (by omega) (by rw [q_cnt_s v4_0, if_neg (fun z => by rw [if_pos z.2] at c26; omega)]; omega) (by omega)
          · show qJ YX10_signsAhead κ _ (qLy u, m, y) 0 0 29 [some (qR 24), some (qI b), some (qI c), some (qI i)] [qI c]
            refine qJ.run hκ 6 (pc' := 4) (ls' := [some (qR 24), some (qI b), some (qI (c + 1)), some (qI (i + 1))]) (st' := []) rfl ?_
            exact ih4  (c + 1) (i + 1) (by omega) (by omega) (by rw [q_cnt_s v4_0, if_pos ⟨by omega, by by_cases g : uAh m i.toNat b.toNat; exact g; rw [if_neg g] at c26; omega⟩]; omega) (by omega)
  show qJ YX10_signsAhead κ _ (qLy u, m, y) 0 0 0 [some (qR 24), some (qI b), none, none] []
  refine qJ.run hκ 4 (pc' := 4) (ls' := [some (qR 24), some (qI b), some (qI 0), some (qI 0)]) (st' := []) rfl ?_
  exact L4 21 0 0 (by omega) (by omega) (rfl) (by omega)

abbrev uRk (m : qM) (k : Int) (s : Nat) : Prop := 0 < m 25 s ∧ (q_cnt (uAhd m s) 20 : Nat) = k
theorem q_fst_hit {p : Nat → Prop} [DecidablePred p] {i : Int} (h0 : 0 ≤ i) (h : q_fst p i.toNat = -1) (hp : p i.toNat) : ∀ n, i.toNat < n → q_fst p n = i := by
  intro n hn
  induction n with
  | zero => omega
  | succ n ih =>
    by_cases e : i.toNat = n
    · subst e
      unfold q_fst; rw [if_pos ⟨h, hp⟩]; omega
    · have := ih (by omega)
      unfold q_fst; rw [if_neg (fun z => by omega), this]
theorem q_fst_no {p : Nat → Prop} [DecidablePred p] {i : Int} (h0 : 0 ≤ i) (h : q_fst p i.toNat = -1) (hp : ¬ p i.toNat) : q_fst p (i + 1).toNat = -1 := by
  rw [q_fst_s h0, if_neg (fun z => hp z.2)]; exact h

set_option maxRecDepth 100000 in
theorem c_ranked (u : qU) (m y : qM) (k : Int) (hk : qr k) (hr : ∀ s : Nat, s < 20 → (0 ≤ m 25 s ∧ m 25 s ≤ 300) ∧ 0 ≤ m 26 s ∧ m 26 s ≤ 300) : qCt YX10_ranked 3 0 0 [qR 24, qI k] (qLy u, m, y) (fun r h => r = some (qI (q_fst (uRk m k) 20)) ∧ h = (qLy u, m, y)) := by
  refine qCt.intro okX10_ranked (Nat.le_of_ble_eq_true rfl) (fun κ hκ => ?_)
  have L2 : ∀ (n : Nat) (i : Int), (0 ≤ i) → (i ≤ 20) → (q_fst (uRk m k) i.toNat = -1) → ((20 - i).toNat) < n → qJ YX10_ranked κ (qFin (fun r h => r = some (qI (q_fst (uRk m k) 20)) ∧ h = (qLy u, m, y)) 0 0 κ) (qLy u, m, y) 0 0 2 [some (qR 24), some (qI k), some (qI i)] [] := by
    intro n
    induction n with
    | zero => intro i _ _ _ hz0; omega
    | succ n ih2 =>
      intro i v2_0 v2_1 v2_2 v2_m
      refine qJ.run hκ 2 (pc' := 5) (ls' := [some (qR 24), some (qI k), some (qI i)]) (st' := [qI 20, qI i]) rfl ?_
      refine qJ.icmp_ge hκ (tgt := 34) rfl rfl (by omega) (by omega) (fun c5 => ?_) (fun c5 => ?_)
      · show qJ YX10_ranked κ _ (qLy u, m, y) 0 0 34 [some (qR 24), some (qI k), some (qI i)] []
        refine qJ.run hκ 1 (pc' := 35) (ls' := [some (qR 24), some (qI k), some (qI i)]) (st' := [qI (-1)]) rfl ?_
        exact qJ.iret hκ rfl rfl (by decide) (by decide) (by refine ⟨?_, rfl⟩; rw [show i = 20 by omega] at v2_2; rw [← v2_2]; rfl)
      · show qJ YX10_ranked κ _ (qLy u, m, y) 0 0 8 [some (qR 24), some (qI k), some (qI i)] []
        have r1 := hr i.toNat (by omega)
        refine qJ.run hκ 3 (pc' := 13) (ls' := [some (qR 24), some (qI k), some (qI i)]) (st' := [qI i, qR 25]) rfl ?_
        refine qJ.ald hκ rfl rfl rfl (by decide) (by omega) ?_
        show qJ YX10_ranked κ _ (qLy u, m, y) 0 0 14 [some (qR 24), some (qI k), some (qI i)] [qI (m 25 i.toNat)]
        refine qJ.if_le hκ (tgt := 28) rfl rfl (by omega) (fun c14 => ?_) (fun c14 => ?_)
        · show qJ YX10_ranked κ _ (qLy u, m, y) 0 0 28 [some (qR 24), some (qI k), some (qI i)] []
          refine qJ.run hκ 2 (pc' := 2) (ls' := [some (qR 24), some (qI k), some (qI (i + 1))]) (st' := []) rfl ?_
          exact ih2  (i + 1) (by omega) (by omega) (q_fst_no v2_0 v2_2 (fun z => by have := z.1; omega)) (by omega)
        · show qJ YX10_ranked κ _ (qLy u, m, y) 0 0 17 [some (qR 24), some (qI k), some (qI i)] []
          refine qJ.run hκ 2 (pc' := 19) (ls' := [some (qR 24), some (qI k), some (qI i)]) (st' := [qI i, qR 24]) rfl ?_
          refine qJ.callV (As := [qI i]) (rest := []) hκ rfl kX10_50 (c_signsAhead u m y i (by omega) hr) rfl rfl (by decide) rfl rfl (Nat.le_of_ble_eq_true rfl) (Nat.le_of_ble_eq_true rfl) (Nat.le_of_ble_eq_true rfl) (Or.inl (fun r h' e => by obtain ⟨rfl, rfl⟩ := e; rfl)) (fun r h' e => ?_)
          obtain ⟨rfl, rfl⟩ := e
          show qJ YX10_ranked κ _ (qLy u, m, y) 0 0 22 [some (qR 24), some (qI k), some (qI i)] [qI (q_cnt (uAhd m i.toNat) 20 : Nat)]
          refine qJ.run hκ 1 (pc' := 23) (ls' := [some (qR 24), some (qI k), some (qI i)]) (st' := [qI k, qI (q_cnt (uAhd m i.toNat) 20 : Nat)]) rfl ?_
          have q1 := q_cnt_le (uAhd m i.toNat) 20
          refine qJ.icmp_ne hκ (tgt := 28) rfl rfl (by omega) (by omega) (fun c23 => ?_) (fun c23 => ?_)
          · show qJ YX10_ranked κ _ (qLy u, m, y) 0 0 28 [some (qR 24), some (qI k), some (qI i)] []
            refine qJ.run hκ 2 (pc' := 2) (ls' := [some (qR 24), some (qI k), some (qI (i + 1))]) (st' := []) rfl ?_
            exact ih2  (i + 1) (by omega) (by omega) (q_fst_no v2_0 v2_2 (fun z => c23 z.2)) (by omega)
          · show qJ YX10_ranked κ _ (qLy u, m, y) 0 0 26 [some (qR 24), some (qI k), some (qI i)] []
            refine qJ.run hκ 1 (pc' := 27) (ls' := [some (qR 24), some (qI k), some (qI i)]) (st' := [qI i]) rfl ?_
            exact qJ.iret hκ rfl rfl (by decide) (by decide) (by refine ⟨?_, rfl⟩; rw [q_fst_hit v2_0 v2_2 ⟨by omega, c23⟩ 20 (by omega)])
  show qJ YX10_ranked κ _ (qLy u, m, y) 0 0 0 [some (qR 24), some (qI k), none] []
  refine qJ.run hκ 2 (pc' := 2) (ls' := [some (qR 24), some (qI k), some (qI 0)]) (st' := []) rfl ?_
  exact L2 21 0 (by omega) (by omega) (rfl) (by omega)

set_option maxRecDepth 100000 in
theorem c_usedSigns (u : qU) (m y : qM) (hr : ∀ s : Nat, s < 20 → (0 ≤ m 25 s ∧ m 25 s ≤ 300) ∧ 0 ≤ m 26 s ∧ m 26 s ≤ 300) : qCt YX10_usedSigns 1 0 0 [qR 24] (qLy u, m, y) (fun r h => r = some (qI (q_cnt (fun s => 0 < m 25 s) 20 : Nat)) ∧ h = (qLy u, m, y)) := by
  refine qCt.intro okX10_usedSigns (Nat.le_of_ble_eq_true rfl) (fun κ hκ => ?_)
  have L4 : ∀ (n : Nat) (c : Int) (i : Int), (0 ≤ i) → (i ≤ 20) → (c = (q_cnt (fun s => 0 < m 25 s) i.toNat : Nat)) → ((20 - i).toNat) < n → qJ YX10_usedSigns κ (qFin (fun r h => r = some (qI (q_cnt (fun s => 0 < m 25 s) 20 : Nat)) ∧ h = (qLy u, m, y)) 0 0 κ) (qLy u, m, y) 0 0 4 [some (qR 24), some (qI c), some (qI i)] [] := by
    intro n
    induction n with
    | zero => intro c i _ _ _ hz0; omega
    | succ n ih4 =>
      intro c i v4_0 v4_1 v4_2 v4_m
      refine qJ.run hκ 2 (pc' := 7) (ls' := [some (qR 24), some (qI c), some (qI i)]) (st' := [qI 20, qI i]) rfl ?_
      refine qJ.icmp_ge hκ (tgt := 33) rfl rfl (by omega) (by omega) (fun c7 => ?_) (fun c7 => ?_)
      · show qJ YX10_usedSigns κ _ (qLy u, m, y) 0 0 33 [some (qR 24), some (qI c), some (qI i)] []
        refine qJ.run hκ 1 (pc' := 34) (ls' := [some (qR 24), some (qI c), some (qI i)]) (st' := [qI c]) rfl ?_
        exact qJ.iret hκ rfl rfl (by decide) (by decide) (by refine ⟨?_, rfl⟩; rw [v4_2, show i = 20 by omega]; rfl)
      · show qJ YX10_usedSigns κ _ (qLy u, m, y) 0 0 10 [some (qR 24), some (qI c), some (qI i)] []
        have r1 := hr i.toNat (by omega)
        refine qJ.run hκ 4 (pc' := 16) (ls' := [some (qR 24), some (qI c), some (qI i)]) (st' := [qI i, qR 25, qI c]) rfl ?_
        refine qJ.ald hκ rfl rfl rfl (by decide) (by omega) ?_
        show qJ YX10_usedSigns κ _ (qLy u, m, y) 0 0 17 [some (qR 24), some (qI c), some (qI i)] [qI (m 25 i.toNat), qI c]
        refine qJ.if_le hκ (tgt := 24) rfl rfl (by omega) (fun c17 => ?_) (fun c17 => ?_)
        · show qJ YX10_usedSigns κ _ (qLy u, m, y) 0 0 24 [some (qR 24), some (qI c), some (qI i)] [qI c]
          refine qJ.run hκ 5 (pc' := 4) (ls' := [some (qR 24), some (qI (c + 0)), some (qI (i + 1))]) (st' := []) rfl ?_
          exact ih4  (c + 0) (i + 1) (by omega) (by omega) (by rw [q_cnt_s v4_0, if_neg (by omega)]; omega) (by omega)
        · show qJ YX10_usedSigns κ _ (qLy u, m, y) 0 0 20 [some (qR 24), some (qI c), some (qI i)] [qI c]
          refine qJ.run hκ 6 (pc' := 4) (ls' := [some (qR 24), some (qI (c + 1)), some (qI (i + 1))]) (st' := []) rfl ?_
          exact ih4  (c + 1) (i + 1) (by omega) (by omega) (by rw [q_cnt_s v4_0, if_pos (by omega)]; omega) (by omega)
  show qJ YX10_usedSigns κ _ (qLy u, m, y) 0 0 0 [some (qR 24), none, none] []
  refine qJ.run hκ 4 (pc' := 4) (ls' := [some (qR 24), some (qI 0), some (qI 0)]) (st' := []) rfl ?_
  exact L4 21 0 0 (by omega) (by omega) (rfl) (by omega)

set_option maxRecDepth 100000 in
theorem c_apart (u : qU) (m y : qM) (a b : Int) (ha : 0 ≤ a ∧ a < 20) (hb : 0 ≤ b ∧ b < 20) (hr : ∀ s : Nat, s < 20 → (0 ≤ m 25 s ∧ m 25 s ≤ 300) ∧ 0 ≤ m 26 s ∧ m 26 s ≤ 300) : qCt YX10_apart 1 0 0 [qR 24, qI a, qI b] (qLy u, m, y) (fun r h => r = some (qI (if 0 < m 25 a.toNat ∧ 0 < m 25 b.toNat ∧ q_and (m 28 a.toNat) (m 28 b.toNat) = 0 then 1 else 0)) ∧ h = (qLy u, m, y)) := by
  refine qCt.intro okX10_apart (Nat.le_of_ble_eq_true rfl) (fun κ hκ => ?_)
  have r1 := hr a.toNat (by omega)
  have r2 := hr b.toNat (by omega)
  have q1 := q_and_r (m 28 a.toNat) (m 28 b.toNat)
  show qJ YX10_apart κ _ (qLy u, m, y) 0 0 0 [some (qR 24), some (qI a), some (qI b)] []
  refine qJ.run hκ 3 (pc' := 5) (ls' := [some (qR 24), some (qI a), some (qI b)]) (st' := [qI a, qR 25]) rfl ?_
  refine qJ.ald hκ rfl rfl rfl (by decide) (by omega) ?_
  show qJ YX10_apart κ _ (qLy u, m, y) 0 0 6 [some (qR 24), some (qI a), some (qI b)] [qI (m 25 a.toNat)]
  refine qJ.if_le hκ (tgt := 38) rfl rfl (by omega) (fun c6 => ?_) (fun c6 => ?_)
  · show qJ YX10_apart κ _ (qLy u, m, y) 0 0 38 [some (qR 24), some (qI a), some (qI b)] []
    refine qJ.run hκ 1 (pc' := 39) (ls' := [some (qR 24), some (qI a), some (qI b)]) (st' := [qI 0]) rfl ?_
    exact qJ.bret hκ rfl rfl (by omega) (by decide) (by decide) (by refine ⟨?_, rfl⟩; congr 2; split <;> omega)
  · show qJ YX10_apart κ _ (qLy u, m, y) 0 0 9 [some (qR 24), some (qI a), some (qI b)] []
    refine qJ.run hκ 3 (pc' := 14) (ls' := [some (qR 24), some (qI a), some (qI b)]) (st' := [qI b, qR 25]) rfl ?_
    refine qJ.ald hκ rfl rfl rfl (by decide) (by omega) ?_
    show qJ YX10_apart κ _ (qLy u, m, y) 0 0 15 [some (qR 24), some (qI a), some (qI b)] [qI (m 25 b.toNat)]
    refine qJ.if_le hκ (tgt := 38) rfl rfl (by omega) (fun c15 => ?_) (fun c15 => ?_)
    · show qJ YX10_apart κ _ (qLy u, m, y) 0 0 38 [some (qR 24), some (qI a), some (qI b)] []
      refine qJ.run hκ 1 (pc' := 39) (ls' := [some (qR 24), some (qI a), some (qI b)]) (st' := [qI 0]) rfl ?_
      exact qJ.bret hκ rfl rfl (by omega) (by decide) (by decide) (by refine ⟨?_, rfl⟩; congr 2; split <;> omega)
    · show qJ YX10_apart κ _ (qLy u, m, y) 0 0 18 [some (qR 24), some (qI a), some (qI b)] []
      refine qJ.run hκ 3 (pc' := 23) (ls' := [some (qR 24), some (qI a), some (qI b)]) (st' := [qI a, qR 28]) rfl ?_
      refine qJ.ald hκ rfl rfl rfl (by decide) (by omega) ?_
      show qJ YX10_apart κ _ (qLy u, m, y) 0 0 24 [some (qR 24), some (qI a), some (qI b)] [qI (m 28 a.toNat)]
      refine qJ.run hκ 3 (pc' := 29) (ls' := [some (qR 24), some (qI a), some (qI b)]) (st' := [qI b, qR 28, qI (m 28 a.toNat)]) rfl ?_
      refine qJ.ald hκ rfl rfl rfl (by decide) (by omega) ?_
      show qJ YX10_apart κ _ (qLy u, m, y) 0 0 30 [some (qR 24), some (qI a), some (qI b)] [qI (m 28 b.toNat), qI (m 28 a.toNat)]
      refine qJ.run hκ 1 (pc' := 31) (ls' := [some (qR 24), some (qI a), some (qI b)]) (st' := [qI (q_and (m 28 a.toNat) (m 28 b.toNat))]) rfl ?_
      refine qJ.if_ne hκ (tgt := 38) rfl rfl (by omega) (fun c31 => ?_) (fun c31 => ?_)
      · show qJ YX10_apart κ _ (qLy u, m, y) 0 0 38 [some (qR 24), some (qI a), some (qI b)] []
        refine qJ.run hκ 1 (pc' := 39) (ls' := [some (qR 24), some (qI a), some (qI b)]) (st' := [qI 0]) rfl ?_
        exact qJ.bret hκ rfl rfl (by omega) (by decide) (by decide) (by refine ⟨?_, rfl⟩; congr 2; split <;> omega)
      · show qJ YX10_apart κ _ (qLy u, m, y) 0 0 34 [some (qR 24), some (qI a), some (qI b)] []
        refine qJ.run hκ 2 (pc' := 39) (ls' := [some (qR 24), some (qI a), some (qI b)]) (st' := [qI 1]) rfl ?_
        exact qJ.bret hκ rfl rfl (by omega) (by decide) (by decide) (by refine ⟨?_, rfl⟩; congr 2; split <;> omega)

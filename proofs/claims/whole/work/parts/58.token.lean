/-! printed by p58.py: tokens of a text of spelling lines, both -/
theorem andF : ∀ x : Fin 256, 0 ≤ q_and ((x.val : Int) - 128) 255 ∧ q_and ((x.val : Int) - 128) 255 ≤ 255 := by decide +kernel
theorem and_r {b : Int} (h : -128 ≤ b ∧ b ≤ 127) : 0 ≤ q_and b 255 ∧ q_and b 255 ≤ 255 := by
  have := andF ⟨(b + 128).toNat, by omega⟩
  have e : (((b + 128).toNat : Nat) : Int) - 128 = b := by omega
  rw [show (((⟨(b + 128).toNat, by omega⟩ : Fin 256).val : Int) - 128) = b from e] at this
  exact this
theorem q_up_cs {m : qM} {a j k : Nat} {v w : Int} (h : j ≠ k) : q_up (q_up m a j v) a k w = q_up (q_up m a k w) a j v := by
  funext x z
  by_cases e1 : x = a ∧ z = j
  · by_cases e2 : x = a ∧ z = k
    · exact absurd (e1.2.symm.trans e2.2) h
    · simp [q_up, e1, e2, h]
  · by_cases e2 : x = a ∧ z = k
    · simp [q_up, e2, Ne.symm h]
    · simp [q_up, e1, e2]
/-- the byte that is seen at a place of a text, -1 behind its end -/
def sB (t : Nat → Int) (L p : Int) : Int := if 0 ≤ p ∧ p < L then q_and (t p.toNat) 255 else -1
theorem sB_r {t : Nat → Int} {L : Int} (h : ∀ j : Nat, (j : Int) < L → -128 ≤ t j ∧ t j ≤ 127) {p : Int} (h0 : 0 ≤ p) : (-1 ≤ sB t L p ∧ sB t L p ≤ 255) ∧ (p < L → 0 ≤ sB t L p) ∧ (¬ p < L → sB t L p = -1) := by
  unfold sB
  by_cases q : p < L
  · rw [if_pos ⟨h0, q⟩]
    have := and_r (h p.toNat (by omega))
    refine ⟨by omega, fun _ => this.1, fun z => absurd q z⟩
  · rw [if_neg (fun z => q z.2)]
    refine ⟨by omega, fun z => absurd z q, fun _ => rfl⟩
theorem sB_e {t t' : Nat → Int} {L : Int} (h : ∀ j : Nat, (j : Int) < L → t j = t' j) : sB t L = sB t' L := by
  funext p
  unfold sB
  by_cases q : 0 ≤ p ∧ p < L
  · rw [if_pos q, if_pos q, h p.toNat (by omega)]
  · rw [if_neg q, if_neg q]
/-- on, as long as it holds -/
def sk (P : Int → Prop) [DecidablePred P] : Nat → Int → Int
  | 0, p => p
  | k + 1, p => if P p then sk P k (p + 1) else p
theorem sk_st {P : Int → Prop} [DecidablePred P] {L p : Int} (h : p < L) (hp : P p) : sk P (L - p).toNat p = sk P (L - (p + 1)).toNat (p + 1) := by
  rw [show (L - p).toNat = (L - (p + 1)).toNat + 1 by omega]
  show (if P p then _ else _) = _
  rw [if_pos hp]
theorem sk_no {P : Int → Prop} [DecidablePred P] {p : Int} (hp : ¬ P p) (k : Nat) : sk P k p = p := by
  cases k with
  | zero => rfl
  | succ k =>
    show (if P p then _ else _) = _
    rw [if_neg hp]
theorem sk_r (P : Int → Prop) [DecidablePred P] : ∀ (k : Nat) (p : Int), p ≤ sk P k p ∧ sk P k p ≤ p + k
  | 0, p => ⟨Int.le_refl p, by show p ≤ p + 0; omega⟩
  | k + 1, p => by
    have ih := sk_r P k (p + 1)
    show p ≤ (if P p then _ else _) ∧ (if P p then _ else _) ≤ _
    split <;> omega
abbrev tBl (t : Nat → Int) (L : Int) (p : Int) : Prop := sB t L p = 10 ∨ sB t L p = 32
abbrev tLo (t : Nat → Int) (L : Int) (p : Int) : Prop := 97 ≤ sB t L p ∧ sB t L p ≤ 122
/-- where the token behind p begins, where it ends, its kind -/
def tS (t : Nat → Int) (L p : Int) : Int := sk (tBl t L) (L - p).toNat p
def tE (t : Nat → Int) (L p : Int) : Int := if ¬ tS t L p < L then tS t L p else if tLo t L (tS t L p) then sk (tLo t L) (L - tS t L p).toNat (tS t L p) else tS t L p + 1
def tK (t : Nat → Int) (L p : Int) : Int := if ¬ tS t L p < L then 0 else if tLo t L (tS t L p) then 1 else if sB t L (tS t L p) = 58 ∨ sB t L (tS t L p) = 59 then 2 else 3
theorem tS_r (t : Nat → Int) {L p : Int} (h : p ≤ L) : p ≤ tS t L p ∧ tS t L p ≤ L := by
  have := sk_r (tBl t L) (L - p).toNat p
  unfold tS
  omega
def SCm (t : Nat → Int) (L : Int) (m : qM) (p : Int) : qM := q_up (q_up (q_up m 49 6 (tS t L p)) 49 5 (tK t L p)) 49 7 (tE t L p)
/-- the word as the model adds it up -/
def wf (t : Nat → Int) (L s : Int) : Nat → Int
  | 0 => 0
  | k + 1 => q_lor (q_lshl (wf t L s k) 8) (q_i2l (sB t L (s + (k : Int))))
def tM (t : Nat → Int) (L p : Int) : Int := if ¬ tS t L p < L then 0 else if tLo t L (tS t L p) then 2 else if sB t L (tS t L p) = 58 ∨ sB t L (tS t L p) = 59 then 3 else 1
def tW (t : Nat → Int) (L p : Int) : Int := if tM t L p = 2 then (if 8 < tE t L p - tS t L p then 0 else wf t L (tS t L p) (tE t L p - tS t L p).toNat) else 0
def TKm (t : Nat → Int) (L : Int) (m : qM) (p : Int) : qM := q_up (q_up (q_up (q_up m 77 43 (tS t L p)) 77 45 (sB t L (tS t L p))) 77 41 (tE t L p)) 77 44 (tM t L p)

set_option maxRecDepth 100000 in
theorem c_isBlank (u : qU) (m y : qM) (c : Int) (h1 : qr c) : qCt YX5_isBlank 1 0 0 [qI c] (qLy u, m, y) (fun r h => ∃ z : Int, r = some (qI z) ∧ (z = 1 ∧ (c = 10 ∨ c = 32) ∨ z = 0 ∧ ¬ (c = 10 ∨ c = 32)) ∧ h = (qLy u, m, y)) := by
  refine qCt.intro okX5_isBlank (Nat.le_of_ble_eq_true rfl) (fun κ hκ => ?_)
  show qJ YX5_isBlank κ _ (qLy u, m, y) 0 0 0 [some (qI c)] []
  refine qJ.run hκ 2 (pc' := 3) (ls' := [some (qI c)]) (st' := [qI 10, qI c]) rfl ?_
  refine qJ.icmp_eq hκ (tgt := 12) rfl rfl (by omega) (by omega) (fun c3 => ?_) (fun c3 => ?_)
  · show qJ YX5_isBlank κ _ (qLy u, m, y) 0 0 12 [some (qI c)] []
    refine qJ.run hκ 2 (pc' := 17) (ls' := [some (qI c)]) (st' := [qI 1]) rfl ?_
    exact qJ.bret hκ rfl rfl (by omega) (by decide) (by decide) (⟨_, rfl, by omega, rfl⟩)
  · show qJ YX5_isBlank κ _ (qLy u, m, y) 0 0 6 [some (qI c)] []
    refine qJ.run hκ 2 (pc' := 9) (ls' := [some (qI c)]) (st' := [qI 32, qI c]) rfl ?_
    refine qJ.icmp_ne hκ (tgt := 16) rfl rfl (by omega) (by omega) (fun c9 => ?_) (fun c9 => ?_)
    · show qJ YX5_isBlank κ _ (qLy u, m, y) 0 0 16 [some (qI c)] []
      refine qJ.run hκ 1 (pc' := 17) (ls' := [some (qI c)]) (st' := [qI 0]) rfl ?_
      exact qJ.bret hκ rfl rfl (by omega) (by decide) (by decide) (⟨_, rfl, by omega, rfl⟩)
    · show qJ YX5_isBlank κ _ (qLy u, m, y) 0 0 12 [some (qI c)] []
      refine qJ.run hκ 2 (pc' := 17) (ls' := [some (qI c)]) (st' := [qI 1]) rfl ?_
      exact qJ.bret hκ rfl rfl (by omega) (by decide) (by decide) (⟨_, rfl, by omega, rfl⟩)

set_option maxRecDepth 100000 in
theorem c_isLow (u : qU) (m y : qM) (c : Int) (h1 : qr c) : qCt YX5_isLowLetter 1 0 0 [qI c] (qLy u, m, y) (fun r h => ∃ z : Int, r = some (qI z) ∧ (z = 1 ∧ (97 ≤ c ∧ c ≤ 122) ∨ z = 0 ∧ ¬ (97 ≤ c ∧ c ≤ 122)) ∧ h = (qLy u, m, y)) := by
  refine qCt.intro okX5_isLowLetter (Nat.le_of_ble_eq_true rfl) (fun κ hκ => ?_)
  show qJ YX5_isLowLetter κ _ (qLy u, m, y) 0 0 0 [some (qI c)] []
  refine qJ.run hκ 2 (pc' := 3) (ls' := [some (qI c)]) (st' := [qI 97, qI c]) rfl ?_
  refine qJ.icmp_lt hκ (tgt := 16) rfl rfl (by omega) (by omega) (fun c3 => ?_) (fun c3 => ?_)
  · show qJ YX5_isLowLetter κ _ (qLy u, m, y) 0 0 16 [some (qI c)] []
    refine qJ.run hκ 1 (pc' := 17) (ls' := [some (qI c)]) (st' := [qI 0]) rfl ?_
    exact qJ.bret hκ rfl rfl (by omega) (by decide) (by decide) (⟨_, rfl, by omega, rfl⟩)
  · show qJ YX5_isLowLetter κ _ (qLy u, m, y) 0 0 6 [some (qI c)] []
    refine qJ.run hκ 2 (pc' := 9) (ls' := [some (qI c)]) (st' := [qI 122, qI c]) rfl ?_
    refine qJ.icmp_gt hκ (tgt := 16) rfl rfl (by omega) (by omega) (fun c9 => ?_) (fun c9 => ?_)
    · show qJ YX5_isLowLetter κ _ (qLy u, m, y) 0 0 16 [some (qI c)] []
      refine qJ.run hκ 1 (pc' := 17) (ls' := [some (qI c)]) (st' := [qI 0]) rfl ?_
      exact qJ.bret hκ rfl rfl (by omega) (by decide) (by decide) (⟨_, rfl, by omega, rfl⟩)
    · show qJ YX5_isLowLetter κ _ (qLy u, m, y) 0 0 12 [some (qI c)] []
      refine qJ.run hκ 2 (pc' := 17) (ls' := [some (qI c)]) (st' := [qI 1]) rfl ?_
      exact qJ.bret hκ rfl rfl (by omega) (by decide) (by decide) (⟨_, rfl, by omega, rfl⟩)

set_option maxRecDepth 100000 in
theorem c_byteAt (u : qU) (m y : qM) (p : Int) (h0 : 0 ≤ p ∧ p < m 49 4) (h1 : m 49 4 ≤ 400) : qCt YX5_byteAt 1 0 0 [qR 49, qI p] (qLy u, m, y) (fun r h => r = some (qI (sB (m 52) (m 49 4) p)) ∧ h = (qLy u, m, y)) := by
  refine qCt.intro okX5_byteAt (Nat.le_of_ble_eq_true rfl) (fun κ hκ => ?_)
  show qJ YX5_byteAt κ _ (qLy u, m, y) 0 0 0 [some (qR 49), some (qI p)] []
  refine qJ.run hκ 3 (pc' := 5) (ls' := [some (qR 49), some (qI p)]) (st' := [qI p, qR 52]) rfl ?_
  refine qJ.ald hκ rfl rfl rfl (by decide) (by omega) ?_
  show qJ YX5_byteAt κ _ (qLy u, m, y) 0 0 6 [some (qR 49), some (qI p)] [qI (m 52 p.toNat)]
  refine qJ.run hκ 2 (pc' := 10) (ls' := [some (qR 49), some (qI p)]) (st' := [qI (q_and (m 52 p.toNat) 255)]) rfl ?_
  exact qJ.iret hκ rfl rfl (by decide) (by decide) (⟨by unfold sB; rw [if_pos h0], rfl⟩)

set_option maxRecDepth 100000 in
theorem c_scan (u : qU) (m y : qM) (hb : ∀ j : Nat, (j : Int) < m 49 4 → -128 ≤ m 52 j ∧ m 52 j ≤ 127) (hL : 0 ≤ m 49 4 ∧ m 49 4 ≤ 400) (hp : 0 ≤ m 49 7 ∧ m 49 7 ≤ m 49 4) : qCt YX5_scan 2 0 0 [qR 49] (qLy u, m, y) (fun r h => r = none ∧ h = (qLy u, SCm (m 52) (m 49 4) m (m 49 7), y)) := by
  refine qCt.intro okX5_scan (Nat.le_of_ble_eq_true rfl) (fun κ hκ => ?_)
  have L70 : ∀ (n : Nat) (s : Int) (p : Int), (0 ≤ s) → (s < p) → (p ≤ m 49 4) → (tS (m 52) (m 49 4) (m 49 7) = s) → (tLo (m 52) (m 49 4) s) → (sk (tLo (m 52) (m 49 4)) (m 49 4 - p).toNat p = sk (tLo (m 52) (m 49 4)) (m 49 4 - s).toNat s) → ((m 49 4 - p).toNat) < n → qJ YX5_scan κ (qFin (fun r h => r = none ∧ h = (qLy u, SCm (m 52) (m 49 4) m (m 49 7), y)) 0 0 κ) (qLy u, (q_up m 49 6 s), y) 0 0 70 [some (qR 49), some (qI p), none] [] := by
    intro n
    induction n with
    | zero => intro s p _ _ _ _ _ _ hz0; omega
    | succ n ih70 =>
      intro s p v70_0 v70_1 v70_2 v70_3 v70_4 v70_5 v70_m
      have br := sB_r hb (p := p) (by omega)
      refine qJ.run hκ 3 (pc' := 75) (ls' := [some (qR 49), some (qI p), none]) (st' := [qI (m 49 4), qI p]) rfl ?_
      refine qJ.icmp_ge hκ (tgt := 95) rfl rfl (by omega) (by omega) (fun c75 => ?_) (fun c75 => ?_)
      · show qJ YX5_scan κ _ (qLy u, (q_up m 49 6 s), y) 0 0 95 [some (qR 49), some (qI p), none] []
        refine qJ.run hκ 2 (pc' := 97) (ls' := [some (qR 49), some (qI p), none]) (st' := [qI 1, qR 49]) rfl ?_
        refine qJ.putI hκ rfl rfl rfl rfl (Or.inl rfl) ?_
        show qJ YX5_scan κ _ (qLy u, (q_up (q_up m 49 6 s) 49 5 1), y) 0 0 100 [some (qR 49), some (qI p), none] []
        refine qJ.run hκ 3 (pc' := 126) (ls' := [some (qR 49), some (qI p), none]) (st' := [qI p, qR 49]) rfl ?_
        refine qJ.putI hκ rfl rfl rfl rfl (Or.inl rfl) ?_
        show qJ YX5_scan κ _ (qLy u, (q_up (q_up (q_up m 49 6 s) 49 5 1) 49 7 p), y) 0 0 129 [some (qR 49), some (qI p), none] []
        exact qJ.vret hκ rfl rfl (by decide) (by decide) (⟨rfl, by unfold SCm; rw [show tE (m 52) (m 49 4) (m 49 7) = p from by unfold tE; rw [v70_3, if_neg (by omega), if_pos v70_4, ← v70_5]; first | exact sk_no (fun z => by rcases hz83 with q | q; omega; exact q.2 z) _ | (rw [show (m 49 4 - p).toNat = 0 by omega]; rfl), show tK (m 52) (m 49 4) (m 49 7) = 1 from by unfold tK; rw [v70_3, if_neg (by omega), if_pos v70_4], v70_3]⟩)
      · show qJ YX5_scan κ _ (qLy u, (q_up m 49 6 s), y) 0 0 78 [some (qR 49), some (qI p), none] []
        refine qJ.run hκ 2 (pc' := 80) (ls' := [some (qR 49), some (qI p), none]) (st' := [qI p, qR 49]) rfl ?_
        refine qJ.callV (As := [qI p]) (rest := []) hκ rfl kX5_94 (c_byteAt u (q_up m 49 6 s) y p (show 0 ≤ p ∧ p < m 49 4 from by omega) (show m 49 4 ≤ 400 from by omega)) rfl rfl (by decide) rfl rfl (Nat.le_of_ble_eq_true rfl) (Nat.le_of_ble_eq_true rfl) (Nat.le_of_ble_eq_true rfl) (Or.inl (fun r h' e => by obtain ⟨rfl, rfl⟩ := e; rfl)) (fun r h' e => ?_)
        obtain ⟨rfl, rfl⟩ := e
        show qJ YX5_scan κ _ (qLy u, (q_up m 49 6 s), y) 0 0 83 [some (qR 49), some (qI p), none] [qI (sB (m 52) (m 49 4) p)]
        refine qJ.callS (As := [qI (sB (m 52) (m 49 4) p)]) (rest := []) hκ rfl kX5_102 (c_isLow u (q_up m 49 6 s) y (sB (m 52) (m 49 4) p) (by omega)) (by decide) rfl rfl (Nat.le_of_ble_eq_true rfl) (Nat.le_of_ble_eq_true rfl) (Nat.le_of_ble_eq_true rfl) (Or.inl (fun r h' e => by obtain ⟨z83, rfl, hz83, rfl⟩ := e; rfl)) (fun r h' e => ?_)
        obtain ⟨z83, rfl, hz83, rfl⟩ := e
        show qJ YX5_scan κ _ (qLy u, (q_up m 49 6 s), y) 0 0 86 [some (qR 49), some (qI p), none] [qI z83]
        refine qJ.if_eq hκ (tgt := 95) rfl rfl (by omega) (fun c86 => ?_) (fun c86 => ?_)
        · show qJ YX5_scan κ _ (qLy u, (q_up m 49 6 s), y) 0 0 95 [some (qR 49), some (qI p), none] []
          refine qJ.run hκ 2 (pc' := 97) (ls' := [some (qR 49), some (qI p), none]) (st' := [qI 1, qR 49]) rfl ?_
          refine qJ.putI hκ rfl rfl rfl rfl (Or.inl rfl) ?_
          show qJ YX5_scan κ _ (qLy u, (q_up (q_up m 49 6 s) 49 5 1), y) 0 0 100 [some (qR 49), some (qI p), none] []
          refine qJ.run hκ 3 (pc' := 126) (ls' := [some (qR 49), some (qI p), none]) (st' := [qI p, qR 49]) rfl ?_
          refine qJ.putI hκ rfl rfl rfl rfl (Or.inl rfl) ?_
          show qJ YX5_scan κ _ (qLy u, (q_up (q_up (q_up m 49 6 s) 49 5 1) 49 7 p), y) 0 0 129 [some (qR 49), some (qI p), none] []
          exact qJ.vret hκ rfl rfl (by decide) (by decide) (⟨rfl, by unfold SCm; rw [show tE (m 52) (m 49 4) (m 49 7) = p from by unfold tE; rw [v70_3, if_neg (by omega), if_pos v70_4, ← v70_5]; first | exact sk_no (fun z => by rcases hz83 with q | q; omega; exact q.2 z) _ | (rw [show (m 49 4 - p).toNat = 0 by omega]; rfl), show tK (m 52) (m 49 4) (m 49 7) = 1 from by unfold tK; rw [v70_3, if_neg (by omega), if_pos v70_4], v70_3]⟩)
        · show qJ YX5_scan κ _ (qLy u, (q_up m 49 6 s), y) 0 0 89 [some (qR 49), some (qI p), none] []
          refine qJ.run hκ 2 (pc' := 70) (ls' := [some (qR 49), some (qI (p + 1)), none]) (st' := []) rfl ?_
          exact ih70  s (p + 1) (by omega) (by omega) (by omega) (v70_3) (v70_4) ((sk_st (by omega) (show tLo (m 52) (m 49 4) p from by show 97 ≤ sB _ _ _ ∧ _; omega)).symm.trans v70_5) (by omega)
  have L5 : ∀ (n : Nat) (p : Int), (0 ≤ p) → (p ≤ m 49 4) → (sk (tBl (m 52) (m 49 4)) (m 49 4 - p).toNat p = tS (m 52) (m 49 4) (m 49 7)) → ((m 49 4 - p).toNat) < n → qJ YX5_scan κ (qFin (fun r h => r = none ∧ h = (qLy u, SCm (m 52) (m 49 4) m (m 49 7), y)) 0 0 κ) (qLy u, m, y) 0 0 5 [some (qR 49), some (qI p), none] [] := by
    intro n
    induction n with
    | zero => intro p _ _ _ hz0; omega
    | succ n ih5 =>
      intro p v5_0 v5_1 v5_2 v5_m
      have br := sB_r hb v5_0
      refine qJ.run hκ 3 (pc' := 10) (ls' := [some (qR 49), some (qI p), none]) (st' := [qI (m 49 4), qI p]) rfl ?_
      refine qJ.icmp_ge hκ (tgt := 30) rfl rfl (by omega) (by omega) (fun c10 => ?_) (fun c10 => ?_)
      · show qJ YX5_scan κ _ (qLy u, m, y) 0 0 30 [some (qR 49), some (qI p), none] []
        have hs : tS (m 52) (m 49 4) (m 49 7) = p := by rw [← v5_2, show (m 49 4 - p).toNat = 0 by omega]; rfl
        refine qJ.run hκ 2 (pc' := 32) (ls' := [some (qR 49), some (qI p), none]) (st' := [qI p, qR 49]) rfl ?_
        refine qJ.putI hκ rfl rfl rfl rfl (Or.inl rfl) ?_
        show qJ YX5_scan κ _ (qLy u, (q_up m 49 6 p), y) 0 0 35 [some (qR 49), some (qI p), none] []
        refine qJ.run hκ 3 (pc' := 40) (ls' := [some (qR 49), some (qI p), none]) (st' := [qI (m 49 4), qI p]) rfl ?_
        refine qJ.icmp_lt hκ (tgt := 54) rfl rfl (by omega) (by omega) (fun c40 => ?_) (fun c40 => ?_)
        · show qJ YX5_scan κ _ (qLy u, (q_up m 49 6 p), y) 0 0 54 [some (qR 49), some (qI p), none] []
          refine qJ.run hκ 2 (pc' := 56) (ls' := [some (qR 49), some (qI p), none]) (st' := [qI p, qR 49]) rfl ?_
          refine qJ.callV (As := [qI p]) (rest := []) hκ rfl kX5_94 (c_byteAt u (q_up m 49 6 p) y p (show 0 ≤ p ∧ p < m 49 4 from by omega) (show m 49 4 ≤ 400 from by omega)) rfl rfl (by decide) rfl rfl (Nat.le_of_ble_eq_true rfl) (Nat.le_of_ble_eq_true rfl) (Nat.le_of_ble_eq_true rfl) (Or.inl (fun r h' e => by obtain ⟨rfl, rfl⟩ := e; rfl)) (fun r h' e => ?_)
          obtain ⟨rfl, rfl⟩ := e
          show qJ YX5_scan κ _ (qLy u, (q_up m 49 6 p), y) 0 0 59 [some (qR 49), some (qI p), none] [qI (sB (m 52) (m 49 4) p)]
          refine qJ.run hκ 3 (pc' := 64) (ls' := [some (qR 49), some (qI (p + 1)), some (qI (sB (m 52) (m 49 4) p))]) (st' := [qI (sB (m 52) (m 49 4) p)]) rfl ?_
          refine qJ.callS (As := [qI (sB (m 52) (m 49 4) p)]) (rest := []) hκ rfl kX5_102 (c_isLow u (q_up m 49 6 p) y (sB (m 52) (m 49 4) p) (by omega)) (by decide) rfl rfl (Nat.le_of_ble_eq_true rfl) (Nat.le_of_ble_eq_true rfl) (Nat.le_of_ble_eq_true rfl) (Or.inl (fun r h' e => by obtain ⟨z64, rfl, hz64, rfl⟩ := e; rfl)) (fun r h' e => ?_)
          obtain ⟨z64, rfl, hz64, rfl⟩ := e
          show qJ YX5_scan κ _ (qLy u, (q_up m 49 6 p), y) 0 0 67 [some (qR 49), some (qI (p + 1)), some (qI (sB (m 52) (m 49 4) p))] [qI z64]
          refine qJ.if_eq hκ (tgt := 103) rfl rfl (by omega) (fun c67 => ?_) (fun c67 => ?_)
          · show qJ YX5_scan κ _ (qLy u, (q_up m 49 6 p), y) 0 0 103 [some (qR 49), some (qI (p + 1)), some (qI (sB (m 52) (m 49 4) p))] []
            refine qJ.run hκ 3 (pc' := 107) (ls' := [some (qR 49), some (qI (p + 1)), some (qI (sB (m 52) (m 49 4) p))]) (st' := [qI 58, qI (sB (m 52) (m 49 4) p), qR 49]) rfl ?_
            refine qJ.icmp_eq hκ (tgt := 116) rfl rfl (by omega) (by omega) (fun c107 => ?_) (fun c107 => ?_)
            · show qJ YX5_scan κ _ (qLy u, (q_up m 49 6 p), y) 0 0 116 [some (qR 49), some (qI (p + 1)), some (qI (sB (m 52) (m 49 4) p))] [qR 49]
              refine qJ.run hκ 2 (pc' := 121) (ls' := [some (qR 49), some (qI (p + 1)), some (qI (sB (m 52) (m 49 4) p))]) (st' := [qI 2, qR 49]) rfl ?_
              refine qJ.putI hκ rfl rfl rfl rfl (Or.inl rfl) ?_
              show qJ YX5_scan κ _ (qLy u, (q_up (q_up m 49 6 p) 49 5 2), y) 0 0 124 [some (qR 49), some (qI (p + 1)), some (qI (sB (m 52) (m 49 4) p))] []
              refine qJ.run hκ 2 (pc' := 126) (ls' := [some (qR 49), some (qI (p + 1)), some (qI (sB (m 52) (m 49 4) p))]) (st' := [qI (p + 1), qR 49]) rfl ?_
              refine qJ.putI hκ rfl rfl rfl rfl (Or.inl rfl) ?_
              show qJ YX5_scan κ _ (qLy u, (q_up (q_up (q_up m 49 6 p) 49 5 2) 49 7 (p + 1)), y) 0 0 129 [some (qR 49), some (qI (p + 1)), some (qI (sB (m 52) (m 49 4) p))] []
              exact qJ.vret hκ rfl rfl (by decide) (by decide) (⟨rfl, by unfold SCm; rw [show tE (m 52) (m 49 4) (m 49 7) = p + 1 from by unfold tE; rw [hs, if_neg (by omega), if_neg (fun z => by rcases hz64 with q | q; omega; exact q.2 z)], show tK (m 52) (m 49 4) (m 49 7) = 2 from by unfold tK; rw [hs, if_neg (by omega), if_neg (fun z => by rcases hz64 with q | q; omega; exact q.2 z), if_pos (by omega)], hs]⟩)
            · show qJ YX5_scan κ _ (qLy u, (q_up m 49 6 p), y) 0 0 110 [some (qR 49), some (qI (p + 1)), some (qI (sB (m 52) (m 49 4) p))] [qR 49]
              refine qJ.run hκ 2 (pc' := 113) (ls' := [some (qR 49), some (qI (p + 1)), some (qI (sB (m 52) (m 49 4) p))]) (st' := [qI 59, qI (sB (m 52) (m 49 4) p), qR 49]) rfl ?_
              refine qJ.icmp_ne hκ (tgt := 120) rfl rfl (by omega) (by omega) (fun c113 => ?_) (fun c113 => ?_)
              · show qJ YX5_scan κ _ (qLy u, (q_up m 49 6 p), y) 0 0 120 [some (qR 49), some (qI (p + 1)), some (qI (sB (m 52) (m 49 4) p))] [qR 49]
                refine qJ.run hκ 1 (pc' := 121) (ls' := [some (qR 49), some (qI (p + 1)), some (qI (sB (m 52) (m 49 4) p))]) (st' := [qI 3, qR 49]) rfl ?_
                refine qJ.putI hκ rfl rfl rfl rfl (Or.inl rfl) ?_
                show qJ YX5_scan κ _ (qLy u, (q_up (q_up m 49 6 p) 49 5 3), y) 0 0 124 [some (qR 49), some (qI (p + 1)), some (qI (sB (m 52) (m 49 4) p))] []
                refine qJ.run hκ 2 (pc' := 126) (ls' := [some (qR 49), some (qI (p + 1)), some (qI (sB (m 52) (m 49 4) p))]) (st' := [qI (p + 1), qR 49]) rfl ?_
                refine qJ.putI hκ rfl rfl rfl rfl (Or.inl rfl) ?_
                show qJ YX5_scan κ _ (qLy u, (q_up (q_up (q_up m 49 6 p) 49 5 3) 49 7 (p + 1)), y) 0 0 129 [some (qR 49), some (qI (p + 1)), some (qI (sB (m 52) (m 49 4) p))] []
                exact qJ.vret hκ rfl rfl (by decide) (by decide) (⟨rfl, by unfold SCm; rw [show tE (m 52) (m 49 4) (m 49 7) = p + 1 from by unfold tE; rw [hs, if_neg (by omega), if_neg (fun z => by rcases hz64 with q | q; omega; exact q.2 z)], show tK (m 52) (m 49 4) (m 49 7) = 3 from by unfold tK; rw [hs, if_neg (by omega), if_neg (fun z => by rcases hz64 with q | q; omega; exact q.2 z), if_neg (by omega)], hs]⟩)
              · show qJ YX5_scan κ _ (qLy u, (q_up m 49 6 p), y) 0 0 116 [some (qR 49), some (qI (p + 1)), some (qI (sB (m 52) (m 49 4) p))] [qR 49]
                refine qJ.run hκ 2 (pc' := 121) (ls' := [some (qR 49), some (qI (p + 1)), some (qI (sB (m 52) (m 49 4) p))]) (st' := [qI 2, qR 49]) rfl ?_
                refine qJ.putI hκ rfl rfl rfl rfl (Or.inl rfl) ?_
                show qJ YX5_scan κ _ (qLy u, (q_up (q_up m 49 6 p) 49 5 2), y) 0 0 124 [some (qR 49), some (qI (p + 1)), some (qI (sB (m 52) (m 49 4) p))] []
                refine qJ.run hκ 2 (pc' := 126) (ls' := [some (qR 49), some (qI (p + 1)), some (qI (sB (m 52) (m 49 4) p))]) (st' := [qI (p + 1), qR 49]) rfl ?_
                refine qJ.putI hκ rfl rfl rfl rfl (Or.inl rfl) ?_
                show qJ YX5_scan κ _ (qLy u, (q_up (q_up (q_up m 49 6 p) 49 5 2) 49 7 (p + 1)), y) 0 0 129 [some (qR 49), some (qI (p + 1)), some (qI (sB (m 52) (m 49 4) p))] []
                exact qJ.vret hκ rfl rfl (by decide) (by decide) (⟨rfl, by unfold SCm; rw [show tE (m 52) (m 49 4) (m 49 7) = p + 1 from by unfold tE; rw [hs, if_neg (by omega), if_neg (fun z => by rcases hz64 with q | q; omega; exact q.2 z)], show tK (m 52) (m 49 4) (m 49 7) = 2 from by unfold tK; rw [hs, if_neg (by omega), if_neg (fun z => by rcases hz64 with q | q; omega; exact q.2 z), if_pos (by omega)], hs]⟩)
          · show qJ YX5_scan κ _ (qLy u, (q_up m 49 6 p), y) 0 0 70 [some (qR 49), some (qI (p + 1)), some (qI (sB (m 52) (m 49 4) p))] []
            refine qJ.dl [true, true, false] ?_
            show qJ YX5_scan κ _ (qLy u, (q_up m 49 6 p), y) 0 0 70 [some (qR 49), some (qI (p + 1)), none] []
            exact L70 402 p (p + 1) (by omega) (by omega) (by omega) (hs) (by show 97 ≤ sB _ _ _ ∧ _; omega) ((sk_st (by omega) (show tLo (m 52) (m 49 4) p from by show 97 ≤ sB _ _ _ ∧ _; omega)).symm) (by omega)
        · show qJ YX5_scan κ _ (qLy u, (q_up m 49 6 p), y) 0 0 43 [some (qR 49), some (qI p), none] []
          refine qJ.run hκ 2 (pc' := 45) (ls' := [some (qR 49), some (qI p), none]) (st' := [qI p, qR 49]) rfl ?_
          refine qJ.putI hκ rfl rfl rfl rfl (Or.inl rfl) ?_
          show qJ YX5_scan κ _ (qLy u, (q_up (q_up m 49 6 p) 49 7 p), y) 0 0 48 [some (qR 49), some (qI p), none] []
          refine qJ.run hκ 2 (pc' := 50) (ls' := [some (qR 49), some (qI p), none]) (st' := [qI 0, qR 49]) rfl ?_
          refine qJ.putI hκ rfl rfl rfl rfl (Or.inl rfl) ?_
          show qJ YX5_scan κ _ (qLy u, (q_up (q_up (q_up m 49 6 p) 49 7 p) 49 5 0), y) 0 0 53 [some (qR 49), some (qI p), none] []
          exact qJ.vret hκ rfl rfl (by decide) (by decide) (⟨rfl, by unfold SCm; rw [show tE (m 52) (m 49 4) (m 49 7) = p from by unfold tE; rw [hs, if_pos (by omega)], show tK (m 52) (m 49 4) (m 49 7) = 0 from by unfold tK; rw [hs, if_pos (by omega)], hs, q_up_cs (j := 7) (k := 5) (by decide)]⟩)
      · show qJ YX5_scan κ _ (qLy u, m, y) 0 0 13 [some (qR 49), some (qI p), none] []
        refine qJ.run hκ 2 (pc' := 15) (ls' := [some (qR 49), some (qI p), none]) (st' := [qI p, qR 49]) rfl ?_
        refine qJ.callV (As := [qI p]) (rest := []) hκ rfl kX5_94 (c_byteAt u m y p (show 0 ≤ p ∧ p < m 49 4 from by omega) (show m 49 4 ≤ 400 from by omega)) rfl rfl (by decide) rfl rfl (Nat.le_of_ble_eq_true rfl) (Nat.le_of_ble_eq_true rfl) (Nat.le_of_ble_eq_true rfl) (Or.inl (fun r h' e => by obtain ⟨rfl, rfl⟩ := e; rfl)) (fun r h' e => ?_)
        obtain ⟨rfl, rfl⟩ := e
        show qJ YX5_scan κ _ (qLy u, m, y) 0 0 18 [some (qR 49), some (qI p), none] [qI (sB (m 52) (m 49 4) p)]
        refine qJ.callS (As := [qI (sB (m 52) (m 49 4) p)]) (rest := []) hκ rfl kX5_98 (c_isBlank u m y (sB (m 52) (m 49 4) p) (by omega)) (by decide) rfl rfl (Nat.le_of_ble_eq_true rfl) (Nat.le_of_ble_eq_true rfl) (Nat.le_of_ble_eq_true rfl) (Or.inl (fun r h' e => by obtain ⟨z18, rfl, hz18, rfl⟩ := e; rfl)) (fun r h' e => ?_)
        obtain ⟨z18, rfl, hz18, rfl⟩ := e
        show qJ YX5_scan κ _ (qLy u, m, y) 0 0 21 [some (qR 49), some (qI p), none] [qI z18]
        refine qJ.if_eq hκ (tgt := 30) rfl rfl (by omega) (fun c21 => ?_) (fun c21 => ?_)
        · show qJ YX5_scan κ _ (qLy u, m, y) 0 0 30 [some (qR 49), some (qI p), none] []
          have hs : tS (m 52) (m 49 4) (m 49 7) = p := by rw [← v5_2]; exact sk_no (fun z => by rcases hz18 with q | q; omega; exact q.2 z) _
          refine qJ.run hκ 2 (pc' := 32) (ls' := [some (qR 49), some (qI p), none]) (st' := [qI p, qR 49]) rfl ?_
          refine qJ.putI hκ rfl rfl rfl rfl (Or.inl rfl) ?_
          show qJ YX5_scan κ _ (qLy u, (q_up m 49 6 p), y) 0 0 35 [some (qR 49), some (qI p), none] []
          refine qJ.run hκ 3 (pc' := 40) (ls' := [some (qR 49), some (qI p), none]) (st' := [qI (m 49 4), qI p]) rfl ?_
          refine qJ.icmp_lt hκ (tgt := 54) rfl rfl (by omega) (by omega) (fun c40 => ?_) (fun c40 => ?_)
          · show qJ YX5_scan κ _ (qLy u, (q_up m 49 6 p), y) 0 0 54 [some (qR 49), some (qI p), none] []
            refine qJ.run hκ 2 (pc' := 56) (ls' := [some (qR 49), some (qI p), none]) (st' := [qI p, qR 49]) rfl ?_
            refine qJ.callV (As := [qI p]) (rest := []) hκ rfl kX5_94 (c_byteAt u (q_up m 49 6 p) y p (show 0 ≤ p ∧ p < m 49 4 from by omega) (show m 49 4 ≤ 400 from by omega)) rfl rfl (by decide) rfl rfl (Nat.le_of_ble_eq_true rfl) (Nat.le_of_ble_eq_true rfl) (Nat.le_of_ble_eq_true rfl) (Or.inl (fun r h' e => by obtain ⟨rfl, rfl⟩ := e; rfl)) (fun r h' e => ?_)
            obtain ⟨rfl, rfl⟩ := e
            show qJ YX5_scan κ _ (qLy u, (q_up m 49 6 p), y) 0 0 59 [some (qR 49), some (qI p), none] [qI (sB (m 52) (m 49 4) p)]
            refine qJ.run hκ 3 (pc' := 64) (ls' := [some (qR 49), some (qI (p + 1)), some (qI (sB (m 52) (m 49 4) p))]) (st' := [qI (sB (m 52) (m 49 4) p)]) rfl ?_
            refine qJ.callS (As := [qI (sB (m 52) (m 49 4) p)]) (rest := []) hκ rfl kX5_102 (c_isLow u (q_up m 49 6 p) y (sB (m 52) (m 49 4) p) (by omega)) (by decide) rfl rfl (Nat.le_of_ble_eq_true rfl) (Nat.le_of_ble_eq_true rfl) (Nat.le_of_ble_eq_true rfl) (Or.inl (fun r h' e => by obtain ⟨z64, rfl, hz64, rfl⟩ := e; rfl)) (fun r h' e => ?_)
            obtain ⟨z64, rfl, hz64, rfl⟩ := e
            show qJ YX5_scan κ _ (qLy u, (q_up m 49 6 p), y) 0 0 67 [some (qR 49), some (qI (p + 1)), some (qI (sB (m 52) (m 49 4) p))] [qI z64]
            refine qJ.if_eq hκ (tgt := 103) rfl rfl (by omega) (fun c67 => ?_) (fun c67 => ?_)
            · show qJ YX5_scan κ _ (qLy u, (q_up m 49 6 p), y) 0 0 103 [some (qR 49), some (qI (p + 1)), some (qI (sB (m 52) (m 49 4) p))] []
              refine qJ.run hκ 3 (pc' := 107) (ls' := [some (qR 49), some (qI (p + 1)), some (qI (sB (m 52) (m 49 4) p))]) (st' := [qI 58, qI (sB (m 52) (m 49 4) p), qR 49]) rfl ?_
              refine qJ.icmp_eq hκ (tgt := 116) rfl rfl (by omega) (by omega) (fun c107 => ?_) (fun c107 => ?_)
              · show qJ YX5_scan κ _ (qLy u, (q_up m 49 6 p), y) 0 0 116 [some (qR 49), some (qI (p + 1)), some (qI (sB (m 52) (m 49 4) p))] [qR 49]
                refine qJ.run hκ 2 (pc' := 121) (ls' := [some (qR 49), some (qI (p + 1)), some (qI (sB (m 52) (m 49 4) p))]) (st' := [qI 2, qR 49]) rfl ?_
                refine qJ.putI hκ rfl rfl rfl rfl (Or.inl rfl) ?_
                show qJ YX5_scan κ _ (qLy u, (q_up (q_up m 49 6 p) 49 5 2), y) 0 0 124 [some (qR 49), some (qI (p + 1)), some (qI (sB (m 52) (m 49 4) p))] []
                refine qJ.run hκ 2 (pc' := 126) (ls' := [some (qR 49), some (qI (p + 1)), some (qI (sB (m 52) (m 49 4) p))]) (st' := [qI (p + 1), qR 49]) rfl ?_
                refine qJ.putI hκ rfl rfl rfl rfl (Or.inl rfl) ?_
                show qJ YX5_scan κ _ (qLy u, (q_up (q_up (q_up m 49 6 p) 49 5 2) 49 7 (p + 1)), y) 0 0 129 [some (qR 49), some (qI (p + 1)), some (qI (sB (m 52) (m 49 4) p))] []
                exact qJ.vret hκ rfl rfl (by decide) (by decide) (⟨rfl, by unfold SCm; rw [show tE (m 52) (m 49 4) (m 49 7) = p + 1 from by unfold tE; rw [hs, if_neg (by omega), if_neg (fun z => by rcases hz64 with q | q; omega; exact q.2 z)], show tK (m 52) (m 49 4) (m 49 7) = 2 from by unfold tK; rw [hs, if_neg (by omega), if_neg (fun z => by rcases hz64 with q | q; omega; exact q.2 z), if_pos (by omega)], hs]⟩)
              · show qJ YX5_scan κ _ (qLy u, (q_up m 49 6 p), y) 0 0 110 [some (qR 49), some (qI (p + 1)), some (qI (sB (m 52) (m 49 4) p))] [qR 49]
                refine qJ.run hκ 2 (pc' := 113) (ls' := [some (qR 49), some (qI (p + 1)), some (qI (sB (m 52) (m 49 4) p))]) (st' := [qI 59, qI (sB (m 52) (m 49 4) p), qR 49]) rfl ?_
                refine qJ.icmp_ne hκ (tgt := 120) rfl rfl (by omega) (by omega) (fun c113 => ?_) (fun c113 => ?_)
                · show qJ YX5_scan κ _ (qLy u, (q_up m 49 6 p), y) 0 0 120 [some (qR 49), some (qI (p + 1)), some (qI (sB (m 52) (m 49 4) p))] [qR 49]
                  refine qJ.run hκ 1 (pc' := 121) (ls' := [some (qR 49), some (qI (p + 1)), some (qI (sB (m 52) (m 49 4) p))]) (st' := [qI 3, qR 49]) rfl ?_
                  refine qJ.putI hκ rfl rfl rfl rfl (Or.inl rfl) ?_
                  show qJ YX5_scan κ _ (qLy u, (q_up (q_up m 49 6 p) 49 5 3), y) 0 0 124 [some (qR 49), some (qI (p + 1)), some (qI (sB (m 52) (m 49 4) p))] []
                  refine qJ.run hκ 2 (pc' := 126) (ls' := [some (qR 49), some (qI (p + 1)), some (qI (sB (m 52) (m 49 4) p))]) (st' := [qI (p + 1), qR 49]) rfl ?_
                  refine qJ.putI hκ rfl rfl rfl rfl (Or.inl rfl) ?_
                  show qJ YX5_scan κ _ (qLy u, (q_up (q_up (q_up m 49 6 p) 49 5 3) 49 7 (p + 1)), y) 0 0 129 [some (qR 49), some (qI (p + 1)), some (qI (sB (m 52) (m 49 4) p))] []
                  exact qJ.vret hκ rfl rfl (by decide) (by decide) (⟨rfl, by unfold SCm; rw [show tE (m 52) (m 49 4) (m 49 7) = p + 1 from by unfold tE; rw [hs, if_neg (by omega), if_neg (fun z => by rcases hz64 with q | q; omega; exact q.2 z)], show tK (m 52) (m 49 4) (m 49 7) = 3 from by unfold tK; rw [hs, if_neg (by omega), if_neg (fun z => by rcases hz64 with q | q; omega; exact q.2 z), if_neg (by omega)], hs]⟩)
                · show qJ YX5_scan κ _ (qLy u, (q_up m 49 6 p), y) 0 0 116 [some (qR 49), some (qI (p + 1)), some (qI (sB (m 52) (m 49 4) p))] [qR 49]
                  refine qJ.run hκ 2 (pc' := 121) (ls' := [some (qR 49), some (qI (p + 1)), some (qI (sB (m 52) (m 49 4) p))]) (st' := [qI 2, qR 49]) rfl ?_
                  refine qJ.putI hκ rfl rfl rfl rfl (Or.inl rfl) ?_
                  show qJ YX5_scan κ _ (qLy u, (q_up (q_up m 49 6 p) 49 5 2), y) 0 0 124 [some (qR 49), some (qI (p + 1)), some (qI (sB (m 52) (m 49 4) p))] []
                  refine qJ.run hκ 2 (pc' := 126) (ls' := [some (qR 49), some (qI (p + 1)), some (qI (sB (m 52) (m 49 4) p))]) (st' := [qI (p + 1), qR 49]) rfl ?_
                  refine qJ.putI hκ rfl rfl rfl rfl (Or.inl rfl) ?_
                  show qJ YX5_scan κ _ (qLy u, (q_up (q_up (q_up m 49 6 p) 49 5 2) 49 7 (p + 1)), y) 0 0 129 [some (qR 49), some (qI (p + 1)), some (qI (sB (m 52) (m 49 4) p))] []
                  exact qJ.vret hκ rfl rfl (by decide) (by decide) (⟨rfl, by unfold SCm; rw [show tE (m 52) (m 49 4) (m 49 7) = p + 1 from by unfold tE; rw [hs, if_neg (by omega), if_neg (fun z => by rcases hz64 with q | q; omega; exact q.2 z)], show tK (m 52) (m 49 4) (m 49 7) = 2 from by unfold tK; rw [hs, if_neg (by omega), if_neg (fun z => by rcases hz64 with q | q; omega; exact q.2 z), if_pos (by omega)], hs]⟩)
            · show qJ YX5_scan κ _ (qLy u, (q_up m 49 6 p), y) 0 0 70 [some (qR 49), some (qI (p + 1)), some (qI (sB (m 52) (m 49 4) p))] []
              refine qJ.dl [true, true, false] ?_
              show qJ YX5_scan κ _ (qLy u, (q_up m 49 6 p), y) 0 0 70 [some (qR 49), some (qI (p + 1)), none] []
              exact L70 402 p (p + 1) (by omega) (by omega) (by omega) (hs) (by show 97 ≤ sB _ _ _ ∧ _; omega) ((sk_st (by omega) (show tLo (m 52) (m 49 4) p from by show 97 ≤ sB _ _ _ ∧ _; omega)).symm) (by omega)
          · show qJ YX5_scan κ _ (qLy u, (q_up m 49 6 p), y) 0 0 43 [some (qR 49), some (qI p), none] []
            refine qJ.run hκ 2 (pc' := 45) (ls' := [some (qR 49), some (qI p), none]) (st' := [qI p, qR 49]) rfl ?_
            refine qJ.putI hκ rfl rfl rfl rfl (Or.inl rfl) ?_
            show qJ YX5_scan κ _ (qLy u, (q_up (q_up m 49 6 p) 49 7 p), y) 0 0 48 [some (qR 49), some (qI p), none] []
            refine qJ.run hκ 2 (pc' := 50) (ls' := [some (qR 49), some (qI p), none]) (st' := [qI 0, qR 49]) rfl ?_
            refine qJ.putI hκ rfl rfl rfl rfl (Or.inl rfl) ?_
            show qJ YX5_scan κ _ (qLy u, (q_up (q_up (q_up m 49 6 p) 49 7 p) 49 5 0), y) 0 0 53 [some (qR 49), some (qI p), none] []
            exact qJ.vret hκ rfl rfl (by decide) (by decide) (⟨rfl, by unfold SCm; rw [show tE (m 52) (m 49 4) (m 49 7) = p from by unfold tE; rw [hs, if_pos (by omega)], show tK (m 52) (m 49 4) (m 49 7) = 0 from by unfold tK; rw [hs, if_pos (by omega)], hs, q_up_cs (j := 7) (k := 5) (by decide)]⟩)
        · show qJ YX5_scan κ _ (qLy u, m, y) 0 0 24 [some (qR 49), some (qI p), none] []
          refine qJ.run hκ 2 (pc' := 5) (ls' := [some (qR 49), some (qI (p + 1)), none]) (st' := []) rfl ?_
          exact ih5  (p + 1) (by omega) (by omega) ((sk_st (by omega) (show tBl (m 52) (m 49 4) p from by show sB _ _ _ = 10 ∨ _; omega)).symm.trans v5_2) (by omega)
  show qJ YX5_scan κ _ (qLy u, m, y) 0 0 0 [some (qR 49), none, none] []
  refine qJ.run hκ 3 (pc' := 5) (ls' := [some (qR 49), some (qI (m 49 7)), none]) (st' := []) rfl ?_
  exact L5 402 (m 49 7) (by omega) (by omega) (rfl) (by omega)

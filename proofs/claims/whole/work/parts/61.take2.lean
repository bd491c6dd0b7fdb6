/-! printed by p61.py: the class takes tokens, a line of it -/
/-- the consonant, the stand, the action that a token is -/
def tC (t : Nat → Int) (L p : Int) : Int := if tK t L p = 1 ∧ tE t L p - tS t L p = 1 then (if lcode (q_i2c (sB t L (tS t L p))) < 4 then -1 else lcode (q_i2c (sB t L (tS t L p))) - 4 + 1) else -1
def tD (t : Nat → Int) (L p : Int) : Int := if tIs 1 4 t L p then 0 else if tIs 2 7 t L p then 1 else if tIs 3 3 t L p then 2 else -1
def tA (t : Nat → Int) (L p : Int) : Int := if tIs 4 4 t L p then 0 else if tIs 5 4 t L p then 1 else if tIs 6 4 t L p then 2 else if tIs 7 2 t L p then 3 else -1
theorem nxt_stay {m : qM} {p k : Int} {D : Prop} (h : rdS m p k) (hk : ¬ k = -1) : nxt m p k D m p k := ⟨rfl, h, Or.inl ⟨hk, rfl, rfl⟩⟩
theorem nxt_go {m : qM} {p k : Int} {D : Prop} (h : rdS m p k) (hk : k = -1) (hD : D) : nxt m p k D (SCm (m 52) (m 49 4) m (m 49 7)) (tE (m 52) (m 49 4) p) (-1) := by
  obtain ⟨⟨s1, s2, s3⟩, ⟨s4, s5, s6⟩, s7, hL, hb⟩ := h
  have sr := tS_r (m 52) s7.2
  have er := tE_r (m 52) s7.2
  rw [s3]
  refine ⟨Eq.trans (keep_up (by rfl)) (Eq.trans (keep_up (by rfl)) (keep_up (by rfl))), ⟨⟨rfl, rfl, rfl⟩, ⟨s4.trans hk, by omega, by omega⟩, ⟨by omega, er.1.2⟩, hL, hb⟩, Or.inr (Or.inl ⟨hk, hD, rfl, rfl⟩)⟩
theorem nxt_stuck {m : qM} {p k : Int} {D : Prop} (h : rdS m p k) (hk : k = -1) (hD : ¬ D) : nxt m p k D (q_up m 49 8 (m 49 6)) p (tS (m 52) (m 49 4) p) := by
  obtain ⟨⟨s1, s2, s3⟩, ⟨s4, s5, s6⟩, s7, hL, hb⟩ := h
  have sr := tS_r (m 52) s7.2
  refine ⟨keep_up (by rfl), ⟨⟨s1, s2, s3⟩, ⟨s2, by omega, by omega⟩, s7, hL, hb⟩, Or.inr (Or.inr ⟨hk, hD, rfl, rfl⟩)⟩

theorem i2cF : ∀ x : Fin 256, q_i2c (x.val : Int) = (x.val : Int) := by decide +kernel

set_option maxRecDepth 100000 in
theorem c_step (u : qU) (m y : qM) (p k d : Int) (D : Prop) (hS : rdS m p k) (hd : (d = 1 ∧ D) ∨ (d = 0 ∧ ¬ D)) : qCt YX5_step 3 0 0 [qR 49, qI d] (qLy u, m, y) (fun r h => r = none ∧ ∃ m' p' k', h = (qLy u, m', y) ∧ nxt m p k D m' p' k') := by
  refine qCt.intro okX5_step (Nat.le_of_ble_eq_true rfl) (fun κ hκ => ?_)
  have hS2 := hS
  obtain ⟨⟨s1, s2, s3⟩, ⟨s4, s5, s6⟩, s7, hL, hb⟩ := hS
  have sr := tS_r (m 52) s7.2
  have er := tE_r (m 52) s7.2
  have ki := tK_i (m 52) (m 49 4) p
  rw [← s1] at ki
  rw [← s2] at sr er ki
  rw [← s3] at er
  show qJ YX5_step κ _ (qLy u, m, y) 0 0 0 [some (qR 49), some (qI d)] []
  refine qJ.run hκ 3 (pc' := 5) (ls' := [some (qR 49), some (qI d)]) (st' := [qI (-1), qI (m 49 8)]) rfl ?_
  refine qJ.icmp_eq hκ (tgt := 9) rfl rfl (by omega) (by omega) (fun c5 => ?_) (fun c5 => ?_)
  · show qJ YX5_step κ _ (qLy u, m, y) 0 0 9 [some (qR 49), some (qI d)] []
    refine qJ.run hκ 1 (pc' := 10) (ls' := [some (qR 49), some (qI d)]) (st' := [qI d]) rfl ?_
    refine qJ.if_eq hκ (tgt := 20) rfl rfl (by omega) (fun c10 => ?_) (fun c10 => ?_)
    · show qJ YX5_step κ _ (qLy u, m, y) 0 0 20 [some (qR 49), some (qI d)] []
      refine qJ.run hκ 3 (pc' := 25) (ls' := [some (qR 49), some (qI d)]) (st' := [qI (m 49 6), qR 49]) rfl ?_
      refine qJ.putI hκ rfl rfl rfl rfl (Or.inl rfl) ?_
      show qJ YX5_step κ _ (qLy u, (q_up m 49 8 (m 49 6)), y) 0 0 28 [some (qR 49), some (qI d)] []
      exact qJ.vret hκ rfl rfl (by decide) (by decide) (⟨rfl, _, _, _, rfl, nxt_stuck hS2 (by omega) (by rcases hd with q | q; omega; exact q.2)⟩)
    · show qJ YX5_step κ _ (qLy u, m, y) 0 0 13 [some (qR 49), some (qI d)] []
      refine qJ.run hκ 1 (pc' := 14) (ls' := [some (qR 49), some (qI d)]) (st' := [qR 49]) rfl ?_
      refine qJ.callV (As := []) (rest := []) hκ rfl kX5_65 (c_scan u m y hb hL (by omega)) rfl rfl (by decide) rfl rfl (Nat.le_of_ble_eq_true rfl) (Nat.le_of_ble_eq_true rfl) (Nat.le_of_ble_eq_true rfl) (Or.inl (fun r h' e => by obtain ⟨rfl, rfl⟩ := e; rfl)) (fun r h' e => ?_)
      obtain ⟨rfl, rfl⟩ := e
      show qJ YX5_step κ _ (qLy u, (SCm (m 52) (m 49 4) m (m 49 7)), y) 0 0 17 [some (qR 49), some (qI d)] []
      refine qJ.run hκ 1 (pc' := 28) (ls' := [some (qR 49), some (qI d)]) (st' := []) rfl ?_
      exact qJ.vret hκ rfl rfl (by decide) (by decide) (⟨rfl, _, _, _, rfl, nxt_go hS2 (by omega) (by rcases hd with q | q; exact q.2; omega)⟩)
  · show qJ YX5_step κ _ (qLy u, m, y) 0 0 8 [some (qR 49), some (qI d)] []
    exact qJ.vret hκ rfl rfl (by decide) (by decide) (⟨rfl, m, p, k, rfl, nxt_stay hS2 (by omega)⟩)

set_option maxRecDepth 100000 in
theorem c_tStand (u : qU) (m y : qM) (p k : Int) (hS : rdS m p k) : qCt YX5_takeStand 6 0 0 [qR 49] (qLy u, m, y) (fun r h => r = some (qI (tD (m 52) (m 49 4) p)) ∧ ∃ m' p' k', h = (qLy u, m', y) ∧ nxt m p k (¬ tD (m 52) (m 49 4) p = -1) m' p' k') := by
  refine qCt.intro okX5_takeStand (Nat.le_of_ble_eq_true rfl) (fun κ hκ => ?_)
  have hS2 := hS
  obtain ⟨⟨s1, s2, s3⟩, ⟨s4, s5, s6⟩, s7, hL, hb⟩ := hS
  have sr := tS_r (m 52) s7.2
  have er := tE_r (m 52) s7.2
  have ki := tK_i (m 52) (m 49 4) p
  rw [← s1] at ki
  rw [← s2] at sr er ki
  rw [← s3] at er
  show qJ YX5_takeStand κ _ (qLy u, m, y) 0 0 0 [some (qR 49), none] []
  refine qJ.run hκ 3 (pc' := 3) (ls' := [some (qR 49), some (qI (-1))]) (st' := [qR 49]) rfl ?_
  refine qJ.ldcS hκ rfl (i := 1) (List.mem_of_getElem? (i := 3) rfl) ?_
  show qJ YX5_takeStand κ _ (qLy u, m, y) 0 0 5 [some (qR 49), some (qI (-1))] [qR 1001, qR 49]
  refine qJ.callV (As := [qR 1001]) (rest := []) hκ rfl kX5_125 (c_isTok1 u m y p k hS2) rfl rfl (by decide) rfl rfl (Nat.le_of_ble_eq_true rfl) (Nat.le_of_ble_eq_true rfl) (Nat.le_of_ble_eq_true rfl) (Or.inl (fun r h' e => by obtain ⟨z5, rfl, hz5, rfl⟩ := e; rfl)) (fun r h' e => ?_)
  obtain ⟨z5, rfl, hz5, rfl⟩ := e
  show qJ YX5_takeStand κ _ (qLy u, m, y) 0 0 8 [some (qR 49), some (qI (-1))] [qI z5]
  refine qJ.if_eq hκ (tgt := 16) rfl rfl (by omega) (fun c8 => ?_) (fun c8 => ?_)
  · show qJ YX5_takeStand κ _ (qLy u, m, y) 0 0 16 [some (qR 49), some (qI (-1))] []
    refine qJ.run hκ 1 (pc' := 17) (ls' := [some (qR 49), some (qI (-1))]) (st' := [qR 49]) rfl ?_
    refine qJ.ldcS hκ rfl (i := 2) (List.mem_of_getElem? (i := 4) rfl) ?_
    show qJ YX5_takeStand κ _ (qLy u, m, y) 0 0 19 [some (qR 49), some (qI (-1))] [qR 1002, qR 49]
    refine qJ.callV (As := [qR 1002]) (rest := []) hκ rfl kX5_125 (c_isTok2 u m y p k hS2) rfl rfl (by decide) rfl rfl (Nat.le_of_ble_eq_true rfl) (Nat.le_of_ble_eq_true rfl) (Nat.le_of_ble_eq_true rfl) (Or.inl (fun r h' e => by obtain ⟨z19, rfl, hz19, rfl⟩ := e; rfl)) (fun r h' e => ?_)
    obtain ⟨z19, rfl, hz19, rfl⟩ := e
    show qJ YX5_takeStand κ _ (qLy u, m, y) 0 0 22 [some (qR 49), some (qI (-1))] [qI z19]
    refine qJ.if_eq hκ (tgt := 30) rfl rfl (by omega) (fun c22 => ?_) (fun c22 => ?_)
    · show qJ YX5_takeStand κ _ (qLy u, m, y) 0 0 30 [some (qR 49), some (qI (-1))] []
      refine qJ.run hκ 1 (pc' := 31) (ls' := [some (qR 49), some (qI (-1))]) (st' := [qR 49]) rfl ?_
      refine qJ.ldcS hκ rfl (i := 3) (List.mem_of_getElem? (i := 5) rfl) ?_
      show qJ YX5_takeStand κ _ (qLy u, m, y) 0 0 33 [some (qR 49), some (qI (-1))] [qR 1003, qR 49]
      refine qJ.callV (As := [qR 1003]) (rest := []) hκ rfl kX5_125 (c_isTok3 u m y p k hS2) rfl rfl (by decide) rfl rfl (Nat.le_of_ble_eq_true rfl) (Nat.le_of_ble_eq_true rfl) (Nat.le_of_ble_eq_true rfl) (Or.inl (fun r h' e => by obtain ⟨z33, rfl, hz33, rfl⟩ := e; rfl)) (fun r h' e => ?_)
      obtain ⟨z33, rfl, hz33, rfl⟩ := e
      show qJ YX5_takeStand κ _ (qLy u, m, y) 0 0 36 [some (qR 49), some (qI (-1))] [qI z33]
      refine qJ.if_eq hκ (tgt := 41) rfl rfl (by omega) (fun c36 => ?_) (fun c36 => ?_)
      · show qJ YX5_takeStand κ _ (qLy u, m, y) 0 0 41 [some (qR 49), some (qI (-1))] []
        have hv : tD (m 52) (m 49 4) p = -1 := by unfold tD; rw [if_neg (fun z => by rcases hz5 with q | q; omega; exact q.2 z), if_neg (fun z => by rcases hz19 with q | q; omega; exact q.2 z), if_neg (fun z => by rcases hz33 with q | q; omega; exact q.2 z)]
        refine qJ.run hκ 3 (pc' := 44) (ls' := [some (qR 49), some (qI (-1))]) (st' := [qI (-1), qI (-1), qR 49]) rfl ?_
        refine qJ.icmp_eq hκ (tgt := 51) rfl rfl (by omega) (by omega) (fun c44 => ?_) (fun c44 => ?_)
        · show qJ YX5_takeStand κ _ (qLy u, m, y) 0 0 51 [some (qR 49), some (qI (-1))] [qR 49]
          refine qJ.run hκ 1 (pc' := 52) (ls' := [some (qR 49), some (qI (-1))]) (st' := [qI 0, qR 49]) rfl ?_
          refine qJ.callV (As := [qI 0]) (rest := []) hκ rfl kX5_119 (c_step u m y p k 0 (¬ tD (m 52) (m 49 4) p = -1) hS2 (Or.inr ⟨rfl, by omega⟩)) rfl rfl (by decide) rfl rfl (Nat.le_of_ble_eq_true rfl) (Nat.le_of_ble_eq_true rfl) (Nat.le_of_ble_eq_true rfl) (Or.inl (fun r h' e => by obtain ⟨rfl, m1, p1, k1, rfl, hN⟩ := e; rfl)) (fun r h' e => ?_)
          obtain ⟨rfl, m1, p1, k1, rfl, hN⟩ := e
          show qJ YX5_takeStand κ _ (qLy u, m1, y) 0 0 55 [some (qR 49), some (qI (-1))] []
          refine qJ.run hκ 1 (pc' := 56) (ls' := [some (qR 49), some (qI (-1))]) (st' := [qI (-1)]) rfl ?_
          exact qJ.iret hκ rfl rfl (by decide) (by decide) (⟨by rw [hv], m1, p1, k1, rfl, hN⟩)
        · exact absurd c44 (by decide)
      · show qJ YX5_takeStand κ _ (qLy u, m, y) 0 0 39 [some (qR 49), some (qI (-1))] []
        have hv : tD (m 52) (m 49 4) p = 2 := by unfold tD; rw [if_neg (fun z => by rcases hz5 with q | q; omega; exact q.2 z), if_neg (fun z => by rcases hz19 with q | q; omega; exact q.2 z), if_pos (by rcases hz33 with q | q; exact q.2; omega)]
        refine qJ.run hκ 5 (pc' := 44) (ls' := [some (qR 49), some (qI 2)]) (st' := [qI (-1), qI 2, qR 49]) rfl ?_
        refine qJ.icmp_eq hκ (tgt := 51) rfl rfl (by omega) (by omega) (fun c44 => ?_) (fun c44 => ?_)
        · exact absurd c44 (by decide)
        · show qJ YX5_takeStand κ _ (qLy u, m, y) 0 0 47 [some (qR 49), some (qI 2)] [qR 49]
          refine qJ.run hκ 2 (pc' := 52) (ls' := [some (qR 49), some (qI 2)]) (st' := [qI 1, qR 49]) rfl ?_
          refine qJ.callV (As := [qI 1]) (rest := []) hκ rfl kX5_119 (c_step u m y p k 1 (¬ tD (m 52) (m 49 4) p = -1) hS2 (Or.inl ⟨rfl, by omega⟩)) rfl rfl (by decide) rfl rfl (Nat.le_of_ble_eq_true rfl) (Nat.le_of_ble_eq_true rfl) (Nat.le_of_ble_eq_true rfl) (Or.inl (fun r h' e => by obtain ⟨rfl, m1, p1, k1, rfl, hN⟩ := e; rfl)) (fun r h' e => ?_)
          obtain ⟨rfl, m1, p1, k1, rfl, hN⟩ := e
          show qJ YX5_takeStand κ _ (qLy u, m1, y) 0 0 55 [some (qR 49), some (qI 2)] []
          refine qJ.run hκ 1 (pc' := 56) (ls' := [some (qR 49), some (qI 2)]) (st' := [qI 2]) rfl ?_
          exact qJ.iret hκ rfl rfl (by decide) (by decide) (⟨by rw [hv], m1, p1, k1, rfl, hN⟩)
    · show qJ YX5_takeStand κ _ (qLy u, m, y) 0 0 25 [some (qR 49), some (qI (-1))] []
      have hv : tD (m 52) (m 49 4) p = 1 := by unfold tD; rw [if_neg (fun z => by rcases hz5 with q | q; omega; exact q.2 z), if_pos (by rcases hz19 with q | q; exact q.2; omega)]
      refine qJ.run hκ 6 (pc' := 44) (ls' := [some (qR 49), some (qI 1)]) (st' := [qI (-1), qI 1, qR 49]) rfl ?_
      refine qJ.icmp_eq hκ (tgt := 51) rfl rfl (by omega) (by omega) (fun c44 => ?_) (fun c44 => ?_)
      · exact absurd c44 (by decide)
      · show qJ YX5_takeStand κ _ (qLy u, m, y) 0 0 47 [some (qR 49), some (qI 1)] [qR 49]
        refine qJ.run hκ 2 (pc' := 52) (ls' := [some (qR 49), some (qI 1)]) (st' := [qI 1, qR 49]) rfl ?_
        refine qJ.callV (As := [qI 1]) (rest := []) hκ rfl kX5_119 (c_step u m y p k 1 (¬ tD (m 52) (m 49 4) p = -1) hS2 (Or.inl ⟨rfl, by omega⟩)) rfl rfl (by decide) rfl rfl (Nat.le_of_ble_eq_true rfl) (Nat.le_of_ble_eq_true rfl) (Nat.le_of_ble_eq_true rfl) (Or.inl (fun r h' e => by obtain ⟨rfl, m1, p1, k1, rfl, hN⟩ := e; rfl)) (fun r h' e => ?_)
        obtain ⟨rfl, m1, p1, k1, rfl, hN⟩ := e
        show qJ YX5_takeStand κ _ (qLy u, m1, y) 0 0 55 [some (qR 49), some (qI 1)] []
        refine qJ.run hκ 1 (pc' := 56) (ls' := [some (qR 49), some (qI 1)]) (st' := [qI 1]) rfl ?_
        exact qJ.iret hκ rfl rfl (by decide) (by decide) (⟨by rw [hv], m1, p1, k1, rfl, hN⟩)
  · show qJ YX5_takeStand κ _ (qLy u, m, y) 0 0 11 [some (qR 49), some (qI (-1))] []
    have hv : tD (m 52) (m 49 4) p = 0 := by unfold tD; rw [if_pos (by rcases hz5 with q | q; exact q.2; omega)]
    refine qJ.run hκ 6 (pc' := 44) (ls' := [some (qR 49), some (qI 0)]) (st' := [qI (-1), qI 0, qR 49]) rfl ?_
    refine qJ.icmp_eq hκ (tgt := 51) rfl rfl (by omega) (by omega) (fun c44 => ?_) (fun c44 => ?_)
    · exact absurd c44 (by decide)
    · show qJ YX5_takeStand κ _ (qLy u, m, y) 0 0 47 [some (qR 49), some (qI 0)] [qR 49]
      refine qJ.run hκ 2 (pc' := 52) (ls' := [some (qR 49), some (qI 0)]) (st' := [qI 1, qR 49]) rfl ?_
      refine qJ.callV (As := [qI 1]) (rest := []) hκ rfl kX5_119 (c_step u m y p k 1 (¬ tD (m 52) (m 49 4) p = -1) hS2 (Or.inl ⟨rfl, by omega⟩)) rfl rfl (by decide) rfl rfl (Nat.le_of_ble_eq_true rfl) (Nat.le_of_ble_eq_true rfl) (Nat.le_of_ble_eq_true rfl) (Or.inl (fun r h' e => by obtain ⟨rfl, m1, p1, k1, rfl, hN⟩ := e; rfl)) (fun r h' e => ?_)
      obtain ⟨rfl, m1, p1, k1, rfl, hN⟩ := e
      show qJ YX5_takeStand κ _ (qLy u, m1, y) 0 0 55 [some (qR 49), some (qI 0)] []
      refine qJ.run hκ 1 (pc' := 56) (ls' := [some (qR 49), some (qI 0)]) (st' := [qI 0]) rfl ?_
      exact qJ.iret hκ rfl rfl (by decide) (by decide) (⟨by rw [hv], m1, p1, k1, rfl, hN⟩)

set_option maxRecDepth 100000 in
theorem c_tAct (u : qU) (m y : qM) (p k : Int) (hS : rdS m p k) : qCt YX5_takeAction 6 0 0 [qR 49] (qLy u, m, y) (fun r h => r = some (qI (tA (m 52) (m 49 4) p)) ∧ ∃ m' p' k', h = (qLy u, m', y) ∧ nxt m p k (¬ tA (m 52) (m 49 4) p = -1) m' p' k') := by
  refine qCt.intro okX5_takeAction (Nat.le_of_ble_eq_true rfl) (fun κ hκ => ?_)
  have hS2 := hS
  obtain ⟨⟨s1, s2, s3⟩, ⟨s4, s5, s6⟩, s7, hL, hb⟩ := hS
  have sr := tS_r (m 52) s7.2
  have er := tE_r (m 52) s7.2
  have ki := tK_i (m 52) (m 49 4) p
  rw [← s1] at ki
  rw [← s2] at sr er ki
  rw [← s3] at er
  show qJ YX5_takeAction κ _ (qLy u, m, y) 0 0 0 [some (qR 49), none] []
  refine qJ.run hκ 3 (pc' := 3) (ls' := [some (qR 49), some (qI (-1))]) (st' := [qR 49]) rfl ?_
  refine qJ.ldcS hκ rfl (i := 4) (List.mem_of_getElem? (i := 6) rfl) ?_
  show qJ YX5_takeAction κ _ (qLy u, m, y) 0 0 5 [some (qR 49), some (qI (-1))] [qR 1004, qR 49]
  refine qJ.callV (As := [qR 1004]) (rest := []) hκ rfl kX5_125 (c_isTok4 u m y p k hS2) rfl rfl (by decide) rfl rfl (Nat.le_of_ble_eq_true rfl) (Nat.le_of_ble_eq_true rfl) (Nat.le_of_ble_eq_true rfl) (Or.inl (fun r h' e => by obtain ⟨z5, rfl, hz5, rfl⟩ := e; rfl)) (fun r h' e => ?_)
  obtain ⟨z5, rfl, hz5, rfl⟩ := e
  show qJ YX5_takeAction κ _ (qLy u, m, y) 0 0 8 [some (qR 49), some (qI (-1))] [qI z5]
  refine qJ.if_eq hκ (tgt := 16) rfl rfl (by omega) (fun c8 => ?_) (fun c8 => ?_)
  · show qJ YX5_takeAction κ _ (qLy u, m, y) 0 0 16 [some (qR 49), some (qI (-1))] []
    refine qJ.run hκ 1 (pc' := 17) (ls' := [some (qR 49), some (qI (-1))]) (st' := [qR 49]) rfl ?_
    refine qJ.ldcS hκ rfl (i := 5) (List.mem_of_getElem? (i := 7) rfl) ?_
    show qJ YX5_takeAction κ _ (qLy u, m, y) 0 0 19 [some (qR 49), some (qI (-1))] [qR 1005, qR 49]
    refine qJ.callV (As := [qR 1005]) (rest := []) hκ rfl kX5_125 (c_isTok5 u m y p k hS2) rfl rfl (by decide) rfl rfl (Nat.le_of_ble_eq_true rfl) (Nat.le_of_ble_eq_true rfl) (Nat.le_of_ble_eq_true rfl) (Or.inl (fun r h' e => by obtain ⟨z19, rfl, hz19, rfl⟩ := e; rfl)) (fun r h' e => ?_)
    obtain ⟨z19, rfl, hz19, rfl⟩ := e
    show qJ YX5_takeAction κ _ (qLy u, m, y) 0 0 22 [some (qR 49), some (qI (-1))] [qI z19]
    refine qJ.if_eq hκ (tgt := 30) rfl rfl (by omega) (fun c22 => ?_) (fun c22 => ?_)
    · show qJ YX5_takeAction κ _ (qLy u, m, y) 0 0 30 [some (qR 49), some (qI (-1))] []
      refine qJ.run hκ 1 (pc' := 31) (ls' := [some (qR 49), some (qI (-1))]) (st' := [qR 49]) rfl ?_
      refine qJ.ldcS hκ rfl (i := 6) (List.mem_of_getElem? (i := 8) rfl) ?_
      show qJ YX5_takeAction κ _ (qLy u, m, y) 0 0 33 [some (qR 49), some (qI (-1))] [qR 1006, qR 49]
      refine qJ.callV (As := [qR 1006]) (rest := []) hκ rfl kX5_125 (c_isTok6 u m y p k hS2) rfl rfl (by decide) rfl rfl (Nat.le_of_ble_eq_true rfl) (Nat.le_of_ble_eq_true rfl) (Nat.le_of_ble_eq_true rfl) (Or.inl (fun r h' e => by obtain ⟨z33, rfl, hz33, rfl⟩ := e; rfl)) (fun r h' e => ?_)
      obtain ⟨z33, rfl, hz33, rfl⟩ := e
      show qJ YX5_takeAction κ _ (qLy u, m, y) 0 0 36 [some (qR 49), some (qI (-1))] [qI z33]
      refine qJ.if_eq hκ (tgt := 44) rfl rfl (by omega) (fun c36 => ?_) (fun c36 => ?_)
      · show qJ YX5_takeAction κ _ (qLy u, m, y) 0 0 44 [some (qR 49), some (qI (-1))] []
        refine qJ.run hκ 1 (pc' := 45) (ls' := [some (qR 49), some (qI (-1))]) (st' := [qR 49]) rfl ?_
        refine qJ.ldcS hκ rfl (i := 7) (List.mem_of_getElem? (i := 9) rfl) ?_
        show qJ YX5_takeAction κ _ (qLy u, m, y) 0 0 47 [some (qR 49), some (qI (-1))] [qR 1007, qR 49]
        refine qJ.callV (As := [qR 1007]) (rest := []) hκ rfl kX5_125 (c_isTok7 u m y p k hS2) rfl rfl (by decide) rfl rfl (Nat.le_of_ble_eq_true rfl) (Nat.le_of_ble_eq_true rfl) (Nat.le_of_ble_eq_true rfl) (Or.inl (fun r h' e => by obtain ⟨z47, rfl, hz47, rfl⟩ := e; rfl)) (fun r h' e => ?_)
        obtain ⟨z47, rfl, hz47, rfl⟩ := e
        show qJ YX5_takeAction κ _ (qLy u, m, y) 0 0 50 [some (qR 49), some (qI (-1))] [qI z47]
        refine qJ.if_eq hκ (tgt := 55) rfl rfl (by omega) (fun c50 => ?_) (fun c50 => ?_)
        · show qJ YX5_takeAction κ _ (qLy u, m, y) 0 0 55 [some (qR 49), some (qI (-1))] []
          have hv : tA (m 52) (m 49 4) p = -1 := by unfold tA; rw [if_neg (fun z => by rcases hz5 with q | q; omega; exact q.2 z), if_neg (fun z => by rcases hz19 with q | q; omega; exact q.2 z), if_neg (fun z => by rcases hz33 with q | q; omega; exact q.2 z), if_neg (fun z => by rcases hz47 with q | q; omega; exact q.2 z)]
          refine qJ.run hκ 3 (pc' := 58) (ls' := [some (qR 49), some (qI (-1))]) (st' := [qI (-1), qI (-1), qR 49]) rfl ?_
          refine qJ.icmp_eq hκ (tgt := 65) rfl rfl (by omega) (by omega) (fun c58 => ?_) (fun c58 => ?_)
          · show qJ YX5_takeAction κ _ (qLy u, m, y) 0 0 65 [some (qR 49), some (qI (-1))] [qR 49]
            refine qJ.run hκ 1 (pc' := 66) (ls' := [some (qR 49), some (qI (-1))]) (st' := [qI 0, qR 49]) rfl ?_
            refine qJ.callV (As := [qI 0]) (rest := []) hκ rfl kX5_119 (c_step u m y p k 0 (¬ tA (m 52) (m 49 4) p = -1) hS2 (Or.inr ⟨rfl, by omega⟩)) rfl rfl (by decide) rfl rfl (Nat.le_of_ble_eq_true rfl) (Nat.le_of_ble_eq_true rfl) (Nat.le_of_ble_eq_true rfl) (Or.inl (fun r h' e => by obtain ⟨rfl, m1, p1, k1, rfl, hN⟩ := e; rfl)) (fun r h' e => ?_)
            obtain ⟨rfl, m1, p1, k1, rfl, hN⟩ := e
            show qJ YX5_takeAction κ _ (qLy u, m1, y) 0 0 69 [some (qR 49), some (qI (-1))] []
            refine qJ.run hκ 1 (pc' := 70) (ls' := [some (qR 49), some (qI (-1))]) (st' := [qI (-1)]) rfl ?_
            exact qJ.iret hκ rfl rfl (by decide) (by decide) (⟨by rw [hv], m1, p1, k1, rfl, hN⟩)
          · exact absurd c58 (by decide)
        · show qJ YX5_takeAction κ _ (qLy u, m, y) 0 0 53 [some (qR 49), some (qI (-1))] []
          have hv : tA (m 52) (m 49 4) p = 3 := by unfold tA; rw [if_neg (fun z => by rcases hz5 with q | q; omega; exact q.2 z), if_neg (fun z => by rcases hz19 with q | q; omega; exact q.2 z), if_neg (fun z => by rcases hz33 with q | q; omega; exact q.2 z), if_pos (by rcases hz47 with q | q; exact q.2; omega)]
          refine qJ.run hκ 5 (pc' := 58) (ls' := [some (qR 49), some (qI 3)]) (st' := [qI (-1), qI 3, qR 49]) rfl ?_
          refine qJ.icmp_eq hκ (tgt := 65) rfl rfl (by omega) (by omega) (fun c58 => ?_) (fun c58 => ?_)
          · exact absurd c58 (by decide)
          · show qJ YX5_takeAction κ _ (qLy u, m, y) 0 0 61 [some (qR 49), some (qI 3)] [qR 49]
            refine qJ.run hκ 2 (pc' := 66) (ls' := [some (qR 49), some (qI 3)]) (st' := [qI 1, qR 49]) rfl ?_
            refine qJ.callV (As := [qI 1]) (rest := []) hκ rfl kX5_119 (c_step u m y p k 1 (¬ tA (m 52) (m 49 4) p = -1) hS2 (Or.inl ⟨rfl, by omega⟩)) rfl rfl (by decide) rfl rfl (Nat.le_of_ble_eq_true rfl) (Nat.le_of_ble_eq_true rfl) (Nat.le_of_ble_eq_true rfl) (Or.inl (fun r h' e => by obtain ⟨rfl, m1, p1, k1, rfl, hN⟩ := e; rfl)) (fun r h' e => ?_)
            obtain ⟨rfl, m1, p1, k1, rfl, hN⟩ := e
            show qJ YX5_takeAction κ _ (qLy u, m1, y) 0 0 69 [some (qR 49), some (qI 3)] []
            refine qJ.run hκ 1 (pc' := 70) (ls' := [some (qR 49), some (qI 3)]) (st' := [qI 3]) rfl ?_
            exact qJ.iret hκ rfl rfl (by decide) (by decide) (⟨by rw [hv], m1, p1, k1, rfl, hN⟩)
      · show qJ YX5_takeAction κ _ (qLy u, m, y) 0 0 39 [some (qR 49), some (qI (-1))] []
        have hv : tA (m 52) (m 49 4) p = 2 := by unfold tA; rw [if_neg (fun z => by rcases hz5 with q | q; omega; exact q.2 z), if_neg (fun z => by rcases hz19 with q | q; omega; exact q.2 z), if_pos (by rcases hz33 with q | q; exact q.2; omega)]
        refine qJ.run hκ 6 (pc' := 58) (ls' := [some (qR 49), some (qI 2)]) (st' := [qI (-1), qI 2, qR 49]) rfl ?_
        refine qJ.icmp_eq hκ (tgt := 65) rfl rfl (by omega) (by omega) (fun c58 => ?_) (fun c58 => ?_)
        · exact absurd c58 (by decide)
        · show qJ YX5_takeAction κ _ (qLy u, m, y) 0 0 61 [some (qR 49), some (qI 2)] [qR 49]
          refine qJ.run hκ 2 (pc' := 66) (ls' := [some (qR 49), some (qI 2)]) (st' := [qI 1, qR 49]) rfl ?_
          refine qJ.callV (As := [qI 1]) (rest := []) hκ rfl kX5_119 (c_step u m y p k 1 (¬ tA (m 52) (m 49 4) p = -1) hS2 (Or.inl ⟨rfl, by omega⟩)) rfl rfl (by decide) rfl rfl (Nat.le_of_ble_eq_true rfl) (Nat.le_of_ble_eq_true rfl) (Nat.le_of_ble_eq_true rfl) (Or.inl (fun r h' e => by obtain ⟨rfl, m1, p1, k1, rfl, hN⟩ := e; rfl)) (fun r h' e => ?_)
          obtain ⟨rfl, m1, p1, k1, rfl, hN⟩ := e
          show qJ YX5_takeAction κ _ (qLy u, m1, y) 0 0 69 [some (qR 49), some (qI 2)] []
          refine qJ.run hκ 1 (pc' := 70) (ls' := [some (qR 49), some (qI 2)]) (st' := [qI 2]) rfl ?_
          exact qJ.iret hκ rfl rfl (by decide) (by decide) (⟨by rw [hv], m1, p1, k1, rfl, hN⟩)
    · show qJ YX5_takeAction κ _ (qLy u, m, y) 0 0 25 [some (qR 49), some (qI (-1))] []
      have hv : tA (m 52) (m 49 4) p = 1 := by unfold tA; rw [if_neg (fun z => by rcases hz5 with q | q; omega; exact q.2 z), if_pos (by rcases hz19 with q | q; exact q.2; omega)]
      refine qJ.run hκ 6 (pc' := 58) (ls' := [some (qR 49), some (qI 1)]) (st' := [qI (-1), qI 1, qR 49]) rfl ?_
      refine qJ.icmp_eq hκ (tgt := 65) rfl rfl (by omega) (by omega) (fun c58 => ?_) (fun c58 => ?_)
      · exact absurd c58 (by decide)
      · show qJ YX5_takeAction κ _ (qLy u, m, y) 0 0 61 [some (qR 49), some (qI 1)] [qR 49]
        refine qJ.run hκ 2 (pc' := 66) (ls' := [some (qR 49), some (qI 1)]) (st' := [qI 1, qR 49]) rfl ?_
        refine qJ.callV (As := [qI 1]) (rest := []) hκ rfl kX5_119 (c_step u m y p k 1 (¬ tA (m 52) (m 49 4) p = -1) hS2 (Or.inl ⟨rfl, by omega⟩)) rfl rfl (by decide) rfl rfl (Nat.le_of_ble_eq_true rfl) (Nat.le_of_ble_eq_true rfl) (Nat.le_of_ble_eq_true rfl) (Or.inl (fun r h' e => by obtain ⟨rfl, m1, p1, k1, rfl, hN⟩ := e; rfl)) (fun r h' e => ?_)
        obtain ⟨rfl, m1, p1, k1, rfl, hN⟩ := e
        show qJ YX5_takeAction κ _ (qLy u, m1, y) 0 0 69 [some (qR 49), some (qI 1)] []
        refine qJ.run hκ 1 (pc' := 70) (ls' := [some (qR 49), some (qI 1)]) (st' := [qI 1]) rfl ?_
        exact qJ.iret hκ rfl rfl (by decide) (by decide) (⟨by rw [hv], m1, p1, k1, rfl, hN⟩)
  · show qJ YX5_takeAction κ _ (qLy u, m, y) 0 0 11 [some (qR 49), some (qI (-1))] []
    have hv : tA (m 52) (m 49 4) p = 0 := by unfold tA; rw [if_pos (by rcases hz5 with q | q; exact q.2; omega)]
    refine qJ.run hκ 6 (pc' := 58) (ls' := [some (qR 49), some (qI 0)]) (st' := [qI (-1), qI 0, qR 49]) rfl ?_
    refine qJ.icmp_eq hκ (tgt := 65) rfl rfl (by omega) (by omega) (fun c58 => ?_) (fun c58 => ?_)
    · exact absurd c58 (by decide)
    · show qJ YX5_takeAction κ _ (qLy u, m, y) 0 0 61 [some (qR 49), some (qI 0)] [qR 49]
      refine qJ.run hκ 2 (pc' := 66) (ls' := [some (qR 49), some (qI 0)]) (st' := [qI 1, qR 49]) rfl ?_
      refine qJ.callV (As := [qI 1]) (rest := []) hκ rfl kX5_119 (c_step u m y p k 1 (¬ tA (m 52) (m 49 4) p = -1) hS2 (Or.inl ⟨rfl, by omega⟩)) rfl rfl (by decide) rfl rfl (Nat.le_of_ble_eq_true rfl) (Nat.le_of_ble_eq_true rfl) (Nat.le_of_ble_eq_true rfl) (Or.inl (fun r h' e => by obtain ⟨rfl, m1, p1, k1, rfl, hN⟩ := e; rfl)) (fun r h' e => ?_)
      obtain ⟨rfl, m1, p1, k1, rfl, hN⟩ := e
      show qJ YX5_takeAction κ _ (qLy u, m1, y) 0 0 69 [some (qR 49), some (qI 0)] []
      refine qJ.run hκ 1 (pc' := 70) (ls' := [some (qR 49), some (qI 0)]) (st' := [qI 0]) rfl ?_
      exact qJ.iret hκ rfl rfl (by decide) (by decide) (⟨by rw [hv], m1, p1, k1, rfl, hN⟩)

set_option maxRecDepth 100000 in
theorem c_tMark (u : qU) (m y : qM) (p k c : Int) (hS : rdS m p k) (h1 : 0 ≤ c ∧ c ≤ 255) : qCt YX5_takeMark 4 0 0 [qR 49, qI c] (qLy u, m, y) (fun r h => r = none ∧ ∃ m' p' k', h = (qLy u, m', y) ∧ nxt m p k (tK (m 52) (m 49 4) p = 2 ∧ sB (m 52) (m 49 4) (tS (m 52) (m 49 4) p) = c) m' p' k') := by
  refine qCt.intro okX5_takeMark (Nat.le_of_ble_eq_true rfl) (fun κ hκ => ?_)
  have hS2 := hS
  obtain ⟨⟨s1, s2, s3⟩, ⟨s4, s5, s6⟩, s7, hL, hb⟩ := hS
  have sr := tS_r (m 52) s7.2
  have er := tE_r (m 52) s7.2
  have ki := tK_i (m 52) (m 49 4) p
  rw [← s1] at ki
  rw [← s2] at sr er ki
  rw [← s3] at er
  show qJ YX5_takeMark κ _ (qLy u, m, y) 0 0 0 [some (qR 49), some (qI c)] []
  refine qJ.run hκ 4 (pc' := 6) (ls' := [some (qR 49), some (qI c)]) (st' := [qI 2, qI (m 49 5), qR 49]) rfl ?_
  refine qJ.icmp_ne hκ (tgt := 25) rfl rfl (by omega) (by omega) (fun c6 => ?_) (fun c6 => ?_)
  · show qJ YX5_takeMark κ _ (qLy u, m, y) 0 0 25 [some (qR 49), some (qI c)] [qR 49]
    refine qJ.run hκ 1 (pc' := 26) (ls' := [some (qR 49), some (qI c)]) (st' := [qI 0, qR 49]) rfl ?_
    refine qJ.callV (As := [qI 0]) (rest := []) hκ rfl kX5_119 (c_step u m y p k 0 (tK (m 52) (m 49 4) p = 2 ∧ sB (m 52) (m 49 4) (tS (m 52) (m 49 4) p) = c) hS2 (Or.inr ⟨rfl, fun z => by rw [← s1, ← s2] at z; omega⟩)) rfl rfl (by decide) rfl rfl (Nat.le_of_ble_eq_true rfl) (Nat.le_of_ble_eq_true rfl) (Nat.le_of_ble_eq_true rfl) (Or.inl (fun r h' e => by obtain ⟨rfl, m1, p1, k1, rfl, hN⟩ := e; rfl)) (fun r h' e => ?_)
    obtain ⟨rfl, m1, p1, k1, rfl, hN⟩ := e
    show qJ YX5_takeMark κ _ (qLy u, m1, y) 0 0 29 [some (qR 49), some (qI c)] []
    exact qJ.vret hκ rfl rfl (by decide) (by decide) (⟨rfl, m1, p1, k1, rfl, hN⟩)
  · show qJ YX5_takeMark κ _ (qLy u, m, y) 0 0 9 [some (qR 49), some (qI c)] [qR 49]
    refine qJ.run hκ 3 (pc' := 14) (ls' := [some (qR 49), some (qI c)]) (st' := [qI (m 49 6), qR 49, qR 49]) rfl ?_
    refine qJ.callV (As := [qI (m 49 6)]) (rest := [qR 49]) hκ rfl kX5_94 (c_byteAt u m y (m 49 6) (by omega) (by omega)) rfl rfl (by decide) rfl rfl (Nat.le_of_ble_eq_true rfl) (Nat.le_of_ble_eq_true rfl) (Nat.le_of_ble_eq_true rfl) (Or.inl (fun r h' e => by obtain ⟨rfl, rfl⟩ := e; rfl)) (fun r h' e => ?_)
    obtain ⟨rfl, rfl⟩ := e
    show qJ YX5_takeMark κ _ (qLy u, m, y) 0 0 17 [some (qR 49), some (qI c)] [qI (sB (m 52) (m 49 4) (m 49 6)), qR 49]
    have br := sB_r hb (p := m 49 6) (by omega)
    refine qJ.run hκ 1 (pc' := 18) (ls' := [some (qR 49), some (qI c)]) (st' := [qI c, qI (sB (m 52) (m 49 4) (m 49 6)), qR 49]) rfl ?_
    refine qJ.icmp_ne hκ (tgt := 25) rfl rfl (by omega) (by omega) (fun c18 => ?_) (fun c18 => ?_)
    · show qJ YX5_takeMark κ _ (qLy u, m, y) 0 0 25 [some (qR 49), some (qI c)] [qR 49]
      refine qJ.run hκ 1 (pc' := 26) (ls' := [some (qR 49), some (qI c)]) (st' := [qI 0, qR 49]) rfl ?_
      refine qJ.callV (As := [qI 0]) (rest := []) hκ rfl kX5_119 (c_step u m y p k 0 (tK (m 52) (m 49 4) p = 2 ∧ sB (m 52) (m 49 4) (tS (m 52) (m 49 4) p) = c) hS2 (Or.inr ⟨rfl, fun z => by rw [← s1, ← s2] at z; omega⟩)) rfl rfl (by decide) rfl rfl (Nat.le_of_ble_eq_true rfl) (Nat.le_of_ble_eq_true rfl) (Nat.le_of_ble_eq_true rfl) (Or.inl (fun r h' e => by obtain ⟨rfl, m1, p1, k1, rfl, hN⟩ := e; rfl)) (fun r h' e => ?_)
      obtain ⟨rfl, m1, p1, k1, rfl, hN⟩ := e
      show qJ YX5_takeMark κ _ (qLy u, m1, y) 0 0 29 [some (qR 49), some (qI c)] []
      exact qJ.vret hκ rfl rfl (by decide) (by decide) (⟨rfl, m1, p1, k1, rfl, hN⟩)
    · show qJ YX5_takeMark κ _ (qLy u, m, y) 0 0 21 [some (qR 49), some (qI c)] [qR 49]
      refine qJ.run hκ 2 (pc' := 26) (ls' := [some (qR 49), some (qI c)]) (st' := [qI 1, qR 49]) rfl ?_
      refine qJ.callV (As := [qI 1]) (rest := []) hκ rfl kX5_119 (c_step u m y p k 1 (tK (m 52) (m 49 4) p = 2 ∧ sB (m 52) (m 49 4) (tS (m 52) (m 49 4) p) = c) hS2 (Or.inl ⟨rfl, by rw [← s1, ← s2]; omega⟩)) rfl rfl (by decide) rfl rfl (Nat.le_of_ble_eq_true rfl) (Nat.le_of_ble_eq_true rfl) (Nat.le_of_ble_eq_true rfl) (Or.inl (fun r h' e => by obtain ⟨rfl, m1, p1, k1, rfl, hN⟩ := e; rfl)) (fun r h' e => ?_)
      obtain ⟨rfl, m1, p1, k1, rfl, hN⟩ := e
      show qJ YX5_takeMark κ _ (qLy u, m1, y) 0 0 29 [some (qR 49), some (qI c)] []
      exact qJ.vret hκ rfl rfl (by decide) (by decide) (⟨rfl, m1, p1, k1, rfl, hN⟩)

theorem sB_c {b : Int} (h : 0 ≤ b ∧ b ≤ 255) : 0 ≤ q_i2c b ∧ q_i2c b ≤ 255 := by
  have := i2cF ⟨b.toNat, by omega⟩
  have e : ((b.toNat : Nat) : Int) = b := by omega
  rw [show (((⟨b.toNat, by omega⟩ : Fin 256).val : Int)) = b from e] at this
  rw [this]; exact h

set_option maxRecDepth 100000 in
theorem c_tCons (u : qU) (m y : qM) (p k : Int) (hS : rdS m p k) : qCt YX5_takeConsonant 6 0 0 [qR 49] (qLy u, m, y) (fun r h => r = some (qI (tC (m 52) (m 49 4) p)) ∧ ∃ m' p' k', h = (qLy u, m', y) ∧ nxt m p k (¬ tC (m 52) (m 49 4) p = -1) m' p' k') := by
  refine qCt.intro okX5_takeConsonant (Nat.le_of_ble_eq_true rfl) (fun κ hκ => ?_)
  have hS2 := hS
  obtain ⟨⟨s1, s2, s3⟩, ⟨s4, s5, s6⟩, s7, hL, hb⟩ := hS
  have sr := tS_r (m 52) s7.2
  have er := tE_r (m 52) s7.2
  have ki := tK_i (m 52) (m 49 4) p
  rw [← s1] at ki
  rw [← s2] at sr er ki
  rw [← s3] at er
  show qJ YX5_takeConsonant κ _ (qLy u, m, y) 0 0 0 [some (qR 49), none, none] []
  refine qJ.run hκ 5 (pc' := 7) (ls' := [some (qR 49), some (qI (-1)), none]) (st' := [qI 1, qI (m 49 5)]) rfl ?_
  refine qJ.icmp_ne hκ (tgt := 53) rfl rfl (by omega) (by omega) (fun c7 => ?_) (fun c7 => ?_)
  · show qJ YX5_takeConsonant κ _ (qLy u, m, y) 0 0 53 [some (qR 49), some (qI (-1)), none] []
    have hv : tC (m 52) (m 49 4) p = -1 := by unfold tC; rw [if_neg (fun z => by omega)]
    refine qJ.run hκ 3 (pc' := 56) (ls' := [some (qR 49), some (qI (-1)), none]) (st' := [qI (-1), qI (-1), qR 49]) rfl ?_
    refine qJ.icmp_eq hκ (tgt := 63) rfl rfl (by omega) (by omega) (fun c56 => ?_) (fun c56 => ?_)
    · show qJ YX5_takeConsonant κ _ (qLy u, m, y) 0 0 63 [some (qR 49), some (qI (-1)), none] [qR 49]
      refine qJ.run hκ 1 (pc' := 64) (ls' := [some (qR 49), some (qI (-1)), none]) (st' := [qI 0, qR 49]) rfl ?_
      refine qJ.callV (As := [qI 0]) (rest := []) hκ rfl kX5_119 (c_step u m y p k 0 (¬ tC (m 52) (m 49 4) p = -1) hS2 (Or.inr ⟨rfl, by omega⟩)) rfl rfl (by decide) rfl rfl (Nat.le_of_ble_eq_true rfl) (Nat.le_of_ble_eq_true rfl) (Nat.le_of_ble_eq_true rfl) (Or.inl (fun r h' e => by obtain ⟨rfl, m1, p1, k1, rfl, hN⟩ := e; rfl)) (fun r h' e => ?_)
      obtain ⟨rfl, m1, p1, k1, rfl, hN⟩ := e
      show qJ YX5_takeConsonant κ _ (qLy u, m1, y) 0 0 67 [some (qR 49), some (qI (-1)), none] []
      refine qJ.run hκ 1 (pc' := 68) (ls' := [some (qR 49), some (qI (-1)), none]) (st' := [qI (-1)]) rfl ?_
      exact qJ.iret hκ rfl rfl (by decide) (by decide) (⟨by rw [hv], m1, p1, k1, rfl, hN⟩)
    · exact absurd c56 (by decide)
  · show qJ YX5_takeConsonant κ _ (qLy u, m, y) 0 0 10 [some (qR 49), some (qI (-1)), none] []
    refine qJ.run hκ 6 (pc' := 20) (ls' := [some (qR 49), some (qI (-1)), none]) (st' := [qI 1, qI ((m 49 7) - (m 49 6))]) rfl ?_
    refine qJ.icmp_ne hκ (tgt := 53) rfl rfl (by omega) (by omega) (fun c20 => ?_) (fun c20 => ?_)
    · show qJ YX5_takeConsonant κ _ (qLy u, m, y) 0 0 53 [some (qR 49), some (qI (-1)), none] []
      have hv : tC (m 52) (m 49 4) p = -1 := by unfold tC; rw [if_neg (fun z => by omega)]
      refine qJ.run hκ 3 (pc' := 56) (ls' := [some (qR 49), some (qI (-1)), none]) (st' := [qI (-1), qI (-1), qR 49]) rfl ?_
      refine qJ.icmp_eq hκ (tgt := 63) rfl rfl (by omega) (by omega) (fun c56 => ?_) (fun c56 => ?_)
      · show qJ YX5_takeConsonant κ _ (qLy u, m, y) 0 0 63 [some (qR 49), some (qI (-1)), none] [qR 49]
        refine qJ.run hκ 1 (pc' := 64) (ls' := [some (qR 49), some (qI (-1)), none]) (st' := [qI 0, qR 49]) rfl ?_
        refine qJ.callV (As := [qI 0]) (rest := []) hκ rfl kX5_119 (c_step u m y p k 0 (¬ tC (m 52) (m 49 4) p = -1) hS2 (Or.inr ⟨rfl, by omega⟩)) rfl rfl (by decide) rfl rfl (Nat.le_of_ble_eq_true rfl) (Nat.le_of_ble_eq_true rfl) (Nat.le_of_ble_eq_true rfl) (Or.inl (fun r h' e => by obtain ⟨rfl, m1, p1, k1, rfl, hN⟩ := e; rfl)) (fun r h' e => ?_)
        obtain ⟨rfl, m1, p1, k1, rfl, hN⟩ := e
        show qJ YX5_takeConsonant κ _ (qLy u, m1, y) 0 0 67 [some (qR 49), some (qI (-1)), none] []
        refine qJ.run hκ 1 (pc' := 68) (ls' := [some (qR 49), some (qI (-1)), none]) (st' := [qI (-1)]) rfl ?_
        exact qJ.iret hκ rfl rfl (by decide) (by decide) (⟨by rw [hv], m1, p1, k1, rfl, hN⟩)
      · exact absurd c56 (by decide)
    · show qJ YX5_takeConsonant κ _ (qLy u, m, y) 0 0 23 [some (qR 49), some (qI (-1)), none] []
      refine qJ.ldcS hκ rfl (i := 0) (List.mem_of_getElem? (i := 2) rfl) ?_
      show qJ YX5_takeConsonant κ _ (qLy u, m, y) 0 0 25 [some (qR 49), some (qI (-1)), none] [qR 1000]
      refine qJ.run hκ 3 (pc' := 30) (ls' := [some (qR 49), some (qI (-1)), none]) (st' := [qI (m 49 6), qR 49, qR 1000]) rfl ?_
      refine qJ.callV (As := [qI (m 49 6)]) (rest := [qR 1000]) hκ rfl kX5_94 (c_byteAt u m y (m 49 6) (by omega) (by omega)) rfl rfl (by decide) rfl rfl (Nat.le_of_ble_eq_true rfl) (Nat.le_of_ble_eq_true rfl) (Nat.le_of_ble_eq_true rfl) (Or.inl (fun r h' e => by obtain ⟨rfl, rfl⟩ := e; rfl)) (fun r h' e => ?_)
      obtain ⟨rfl, rfl⟩ := e
      show qJ YX5_takeConsonant κ _ (qLy u, m, y) 0 0 33 [some (qR 49), some (qI (-1)), none] [qI (sB (m 52) (m 49 4) (m 49 6)), qR 1000]
      have br := sB_r hb (p := m 49 6) (by omega)
      have cr := sB_c (b := sB (m 52) (m 49 4) (m 49 6)) (by omega)
      have lr := lcode_r (q_i2c (sB (m 52) (m 49 4) (m 49 6)))
      refine qJ.run hκ 1 (pc' := 34) (ls' := [some (qR 49), some (qI (-1)), none]) (st' := [qI (q_i2c (sB (m 52) (m 49 4) (m 49 6))), qR 1000]) rfl ?_
      refine qJ.callVS (i := 0) (As := [qI (q_i2c (sB (m 52) (m 49 4) (m 49 6)))]) (rest := []) hκ rfl kX5_116 (c_indexOf u m y (q_i2c (sB (m 52) (m 49 4) (m 49 6))) (by omega)) (by decide) rfl (by decide) rfl rfl (Nat.le_of_ble_eq_true rfl) (Nat.le_of_ble_eq_true rfl) (Nat.le_of_ble_eq_true rfl) (Or.inl (fun r h' e => by obtain ⟨rfl, rfl⟩ := e; rfl)) (fun r h' e => ?_)
      obtain ⟨rfl, rfl⟩ := e
      show qJ YX5_takeConsonant κ _ (qLy u, m, y) 0 0 37 [some (qR 49), some (qI (-1)), none] [qI (lcode (q_i2c (sB (m 52) (m 49 4) (m 49 6))))]
      refine qJ.run hκ 3 (pc' := 40) (ls' := [some (qR 49), some (qI (-1)), some (qI (lcode (q_i2c (sB (m 52) (m 49 4) (m 49 6)))))]) (st' := [qI 4, qI (lcode (q_i2c (sB (m 52) (m 49 4) (m 49 6))))]) rfl ?_
      refine qJ.icmp_ge hκ (tgt := 47) rfl rfl (by omega) (by omega) (fun c40 => ?_) (fun c40 => ?_)
      · show qJ YX5_takeConsonant κ _ (qLy u, m, y) 0 0 47 [some (qR 49), some (qI (-1)), some (qI (lcode (q_i2c (sB (m 52) (m 49 4) (m 49 6)))))] []
        have hv : tC (m 52) (m 49 4) p = lcode (q_i2c (sB (m 52) (m 49 4) (m 49 6))) - 4 + 1 := by unfold tC; rw [if_pos ⟨by omega, by omega⟩, ← s2, if_neg (by omega)]
        refine qJ.run hκ 9 (pc' := 56) (ls' := [some (qR 49), some (qI (((lcode (q_i2c (sB (m 52) (m 49 4) (m 49 6)))) - 4) + 1)), some (qI (lcode (q_i2c (sB (m 52) (m 49 4) (m 49 6)))))]) (st' := [qI (-1), qI (((lcode (q_i2c (sB (m 52) (m 49 4) (m 49 6)))) - 4) + 1), qR 49]) rfl ?_
        refine qJ.icmp_eq hκ (tgt := 63) rfl rfl (by omega) (by omega) (fun c56 => ?_) (fun c56 => ?_)
        · show qJ YX5_takeConsonant κ _ (qLy u, m, y) 0 0 63 [some (qR 49), some (qI (((lcode (q_i2c (sB (m 52) (m 49 4) (m 49 6)))) - 4) + 1)), some (qI (lcode (q_i2c (sB (m 52) (m 49 4) (m 49 6)))))] [qR 49]
          refine qJ.run hκ 1 (pc' := 64) (ls' := [some (qR 49), some (qI (((lcode (q_i2c (sB (m 52) (m 49 4) (m 49 6)))) - 4) + 1)), some (qI (lcode (q_i2c (sB (m 52) (m 49 4) (m 49 6)))))]) (st' := [qI 0, qR 49]) rfl ?_
          refine qJ.callV (As := [qI 0]) (rest := []) hκ rfl kX5_119 (c_step u m y p k 0 (¬ tC (m 52) (m 49 4) p = -1) hS2 (Or.inr ⟨rfl, by omega⟩)) rfl rfl (by decide) rfl rfl (Nat.le_of_ble_eq_true rfl) (Nat.le_of_ble_eq_true rfl) (Nat.le_of_ble_eq_true rfl) (Or.inl (fun r h' e => by obtain ⟨rfl, m1, p1, k1, rfl, hN⟩ := e; rfl)) (fun r h' e => ?_)
          obtain ⟨rfl, m1, p1, k1, rfl, hN⟩ := e
          show qJ YX5_takeConsonant κ _ (qLy u, m1, y) 0 0 67 [some (qR 49), some (qI (((lcode (q_i2c (sB (m 52) (m 49 4) (m 49 6)))) - 4) + 1)), some (qI (lcode (q_i2c (sB (m 52) (m 49 4) (m 49 6)))))] []
          refine qJ.run hκ 1 (pc' := 68) (ls' := [some (qR 49), some (qI (((lcode (q_i2c (sB (m 52) (m 49 4) (m 49 6)))) - 4) + 1)), some (qI (lcode (q_i2c (sB (m 52) (m 49 4) (m 49 6)))))]) (st' := [qI (((lcode (q_i2c (sB (m 52) (m 49 4) (m 49 6)))) - 4) + 1)]) rfl ?_
          exact qJ.iret hκ rfl rfl (by decide) (by decide) (⟨by rw [hv], m1, p1, k1, rfl, hN⟩)
        · show qJ YX5_takeConsonant κ _ (qLy u, m, y) 0 0 59 [some (qR 49), some (qI (((lcode (q_i2c (sB (m 52) (m 49 4) (m 49 6)))) - 4) + 1)), some (qI (lcode (q_i2c (sB (m 52) (m 49 4) (m 49 6)))))] [qR 49]
          refine qJ.run hκ 2 (pc' := 64) (ls' := [some (qR 49), some (qI (((lcode (q_i2c (sB (m 52) (m 49 4) (m 49 6)))) - 4) + 1)), some (qI (lcode (q_i2c (sB (m 52) (m 49 4) (m 49 6)))))]) (st' := [qI 1, qR 49]) rfl ?_
          refine qJ.callV (As := [qI 1]) (rest := []) hκ rfl kX5_119 (c_step u m y p k 1 (¬ tC (m 52) (m 49 4) p = -1) hS2 (Or.inl ⟨rfl, by omega⟩)) rfl rfl (by decide) rfl rfl (Nat.le_of_ble_eq_true rfl) (Nat.le_of_ble_eq_true rfl) (Nat.le_of_ble_eq_true rfl) (Or.inl (fun r h' e => by obtain ⟨rfl, m1, p1, k1, rfl, hN⟩ := e; rfl)) (fun r h' e => ?_)
          obtain ⟨rfl, m1, p1, k1, rfl, hN⟩ := e
          show qJ YX5_takeConsonant κ _ (qLy u, m1, y) 0 0 67 [some (qR 49), some (qI (((lcode (q_i2c (sB (m 52) (m 49 4) (m 49 6)))) - 4) + 1)), some (qI (lcode (q_i2c (sB (m 52) (m 49 4) (m 49 6)))))] []
          refine qJ.run hκ 1 (pc' := 68) (ls' := [some (qR 49), some (qI (((lcode (q_i2c (sB (m 52) (m 49 4) (m 49 6)))) - 4) + 1)), some (qI (lcode (q_i2c (sB (m 52) (m 49 4) (m 49 6)))))]) (st' := [qI (((lcode (q_i2c (sB (m 52) (m 49 4) (m 49 6)))) - 4) + 1)]) rfl ?_
          exact qJ.iret hκ rfl rfl (by decide) (by decide) (⟨by rw [hv], m1, p1, k1, rfl, hN⟩)
      · show qJ YX5_takeConsonant κ _ (qLy u, m, y) 0 0 43 [some (qR 49), some (qI (-1)), some (qI (lcode (q_i2c (sB (m 52) (m 49 4) (m 49 6)))))] []
        have hv : tC (m 52) (m 49 4) p = -1 := by unfold tC; rw [if_pos ⟨by omega, by omega⟩, ← s2, if_pos (by omega)]
        refine qJ.run hκ 6 (pc' := 56) (ls' := [some (qR 49), some (qI (-1)), some (qI (lcode (q_i2c (sB (m 52) (m 49 4) (m 49 6)))))]) (st' := [qI (-1), qI (-1), qR 49]) rfl ?_
        refine qJ.icmp_eq hκ (tgt := 63) rfl rfl (by omega) (by omega) (fun c56 => ?_) (fun c56 => ?_)
        · show qJ YX5_takeConsonant κ _ (qLy u, m, y) 0 0 63 [some (qR 49), some (qI (-1)), some (qI (lcode (q_i2c (sB (m 52) (m 49 4) (m 49 6)))))] [qR 49]
          refine qJ.run hκ 1 (pc' := 64) (ls' := [some (qR 49), some (qI (-1)), some (qI (lcode (q_i2c (sB (m 52) (m 49 4) (m 49 6)))))]) (st' := [qI 0, qR 49]) rfl ?_
          refine qJ.callV (As := [qI 0]) (rest := []) hκ rfl kX5_119 (c_step u m y p k 0 (¬ tC (m 52) (m 49 4) p = -1) hS2 (Or.inr ⟨rfl, by omega⟩)) rfl rfl (by decide) rfl rfl (Nat.le_of_ble_eq_true rfl) (Nat.le_of_ble_eq_true rfl) (Nat.le_of_ble_eq_true rfl) (Or.inl (fun r h' e => by obtain ⟨rfl, m1, p1, k1, rfl, hN⟩ := e; rfl)) (fun r h' e => ?_)
          obtain ⟨rfl, m1, p1, k1, rfl, hN⟩ := e
          show qJ YX5_takeConsonant κ _ (qLy u, m1, y) 0 0 67 [some (qR 49), some (qI (-1)), some (qI (lcode (q_i2c (sB (m 52) (m 49 4) (m 49 6)))))] []
          refine qJ.run hκ 1 (pc' := 68) (ls' := [some (qR 49), some (qI (-1)), some (qI (lcode (q_i2c (sB (m 52) (m 49 4) (m 49 6)))))]) (st' := [qI (-1)]) rfl ?_
          exact qJ.iret hκ rfl rfl (by decide) (by decide) (⟨by rw [hv], m1, p1, k1, rfl, hN⟩)
        · exact absurd c56 (by decide)

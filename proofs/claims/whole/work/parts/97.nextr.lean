/-! printed by p97.py: the model goes on to the next reading -/
theorem ftL_c {D : qD} {c c' : Nat → Int} {l : Nat} (h : ∀ i, i ≤ l → c i = c' i) (hf : ftL D c l) : ftL D c' l := by
  unfold ftL at hf ⊢
  rw [← VM_c (D := D) (c := c) (c' := c') l (fun i hi => h i (by omega)), ← h l (Nat.le_refl l)]
  exact ⟨fun i hi => by rw [← h i (by omega)]; exact hf.1 i hi, hf.2⟩
def kIt : Nat → Nat → Bool := fun i j => decide (i = 121 ∨ i = 122 ∨ (i = 77 ∧ (j = 60 ∨ j = 61)))
theorem kMrI : ∀ i j, kMr i j = true → kN kIt i j = true := by
  intro i j h
  refine kN_t.mpr fun z => ?_
  unfold kMr at h
  unfold kIt at z
  rw [decide_eq_true_eq] at h z
  omega
/-- the model's walk at place pl, with the words ch: what is left is L -/
def itP (m : qM) (ch : Nat → Int) (pl : Int) (L : List (Nat → Int)) : Prop := (pl = -1 ∧ L = []) ∨ (0 ≤ pl ∧ L = rem (DD m) (nS m) ch pl.toNat ∧ (-1 ≤ ch pl.toNat ∧ ch pl.toNat + 1 ≤ (nC m : Int)) ∧ (∀ e : Nat, pl.toNat < e → ch e = -1) ∧ ∀ e : Nat, e < pl.toNat → (0 ≤ ch e ∧ ch e < (nC m : Int)) ∧ ftL (DD m) ch e)
def itS (m M : qM) (L : List (Nat → Int)) : Prop := mR m M ∧ ((M 77 60 = 0 ∧ L = []) ∨ (M 77 60 = 1 ∧ ∃ ch p, (∀ e : Nat, e < 5 → M 121 e = ch e) ∧ (0 ≤ p ∧ p < (nS m : Int)) ∧ (M 77 61 = p ∨ (M 77 61 = (nS m : Int) ∧ p + 1 = (nS m : Int))) ∧ itP m ch p L))
def mzI (K : Int) (ch : Nat → Int) (pl : Int) : Nat := if pl < 0 then 0 else mz K ch pl.toNat + 1
theorem mzI_p {K : Int} {ch : Nat → Int} {pl : Int} (h : 0 ≤ pl) : mzI K ch pl = mz K ch pl.toNat + 1 := by unfold mzI; rw [if_neg (by omega)]
theorem itP_end {m : qM} {ch : Nat → Int} {pl : Int} {L : List (Nat → Int)} (h : itP m ch pl L) (h0 : 0 ≤ pl) (he : ch pl.toNat + 1 = (nC m : Int)) : itP m (q_fu ch pl.toNat (-1)) (pl - 1) L ∧ mzI (nC m : Int) (q_fu ch pl.toNat (-1)) (pl - 1) < mzI (nC m : Int) ch pl := by
  rcases h with h | ⟨a, b, c, d, e⟩
  · omega
  · rw [rem_end (D := DD m) he] at b
    have ml := mz_end (K := (nC m : Int)) (ch := ch) (p := pl.toNat) (by omega)
    rw [mzI_p h0]
    obtain ⟨q, hq⟩ : ∃ q, pl.toNat = q := ⟨_, rfl⟩
    rw [hq] at b d e ml ⊢
    cases q with
    | zero => exact ⟨Or.inl ⟨by omega, b⟩, by unfold mzI; rw [if_pos (by omega)]; omega⟩
    | succ q =>
      have t2 : (pl - 1).toNat = q := by omega
      refine ⟨Or.inr ⟨by omega, ?_, ?_, fun x hx => ?_, fun x hx => ?_⟩, ?_⟩
      · rw [t2]; exact b
      · rw [t2, q_fu_ne (by omega)]
        have := (e q (by omega)).1
        omega
      · rw [t2] at hx
        by_cases g : x = q + 1
        · rw [g, q_fu_eq]
        · rw [q_fu_ne g]; exact d x (by omega)
      · rw [t2] at hx
        rw [q_fu_ne (by omega)]
        exact ⟨(e x (by omega)).1, ftL_c (fun i hi => (q_fu_ne (by omega)).symm) (e x (by omega)).2⟩
      · rw [mzI_p (by omega), t2]
        have : mlw (nC m : Int) (q_fu ch (q + 1) (-1)) (q + 1) = mz (nC m : Int) (q_fu ch (q + 1) (-1)) q := rfl
        omega
theorem itP_no {m : qM} {ch : Nat → Int} {pl : Int} {L : List (Nat → Int)} (h : itP m ch pl L) (h0 : 0 ≤ pl) (he : ¬ ch pl.toNat + 1 = (nC m : Int)) (hn : ¬ ftL (DD m) (q_fu ch pl.toNat (ch pl.toNat + 1)) pl.toNat) : itP m (q_fu ch pl.toNat (ch pl.toNat + 1)) pl L ∧ mzI (nC m : Int) (q_fu ch pl.toNat (ch pl.toNat + 1)) pl < mzI (nC m : Int) ch pl := by
  rcases h with h | ⟨a, b, c, d, e⟩
  · omega
  · rw [rem_no (D := DD m) c.1 (show ch pl.toNat + 1 < (nC m : Int) by omega) hn] at b
    have st := mz_st (K := (nC m : Int)) (ch := ch) (p := pl.toNat) (by omega)
    have w := wz_p pl.toNat
    refine ⟨Or.inr ⟨a, b, by rw [q_fu_eq]; omega, fun x hx => ?_, fun x hx => ?_⟩, ?_⟩
    · rw [q_fu_ne (by omega)]; exact d x hx
    · rw [q_fu_ne (by omega)]
      exact ⟨(e x hx).1, ftL_c (fun i hi => (q_fu_ne (by omega)).symm) (e x hx).2⟩
    · rw [mzI_p a, mzI_p a]; omega
theorem itP_in {m : qM} {ch : Nat → Int} {pl : Int} {L : List (Nat → Int)} (hC : nC m ≤ 12) (hS : nS m ≤ 5) (h : itP m ch pl L) (h0 : 0 ≤ pl) (he : ¬ ch pl.toNat + 1 = (nC m : Int)) (hf : ftL (DD m) (q_fu ch pl.toNat (ch pl.toNat + 1)) pl.toNat) (hN : pl + 1 < (nS m : Int)) : itP m (q_fu ch pl.toNat (ch pl.toNat + 1)) (pl + 1) L ∧ mzI (nC m : Int) (q_fu ch pl.toNat (ch pl.toNat + 1)) (pl + 1) < mzI (nC m : Int) ch pl := by
  rcases h with h | ⟨a, b, c, d, e⟩
  · omega
  · rw [rem_in (D := DD m) c.1 (show ch pl.toNat + 1 < (nC m : Int) by omega) hf (by omega) (d _ (by omega))] at b
    have t : (pl + 1).toNat = pl.toNat + 1 := by omega
    have st := mz_in (K := (nC m : Int)) (ch := ch) (p := pl.toNat) (by omega) (by omega) (by omega) (d _ (by omega))
    refine ⟨Or.inr ⟨by omega, by rw [t]; exact b, ?_, fun x hx => ?_, fun x hx => ?_⟩, ?_⟩
    · rw [t, q_fu_ne (by omega), d _ (by omega)]; omega
    · rw [q_fu_ne (by omega)]; exact d x (by omega)
    · by_cases g : x = pl.toNat
      · rw [g, q_fu_eq]; exact ⟨by omega, hf⟩
      · rw [q_fu_ne g]
        exact ⟨(e x (by omega)).1, ftL_c (fun i hi => (q_fu_ne (by omega)).symm) (e x (by omega)).2⟩
    · rw [mzI_p a, mzI_p (by omega), t]; omega
theorem itP_hit {m : qM} {ch : Nat → Int} {pl : Int} {L : List (Nat → Int)} (h : itP m ch pl L) (h0 : 0 ≤ pl) (he : ¬ ch pl.toNat + 1 = (nC m : Int)) (hf : ftL (DD m) (q_fu ch pl.toNat (ch pl.toNat + 1)) pl.toNat) (hN : pl + 1 = (nS m : Int)) : ∃ L', L = q_fu ch pl.toNat (ch pl.toNat + 1) :: L' ∧ itP m (q_fu ch pl.toNat (ch pl.toNat + 1)) pl L' := by
  rcases h with h | ⟨a, b, c, d, e⟩
  · omega
  · rw [rem_hit (D := DD m) c.1 (show ch pl.toNat + 1 < (nC m : Int) by omega) hf (by omega)] at b
    refine ⟨_, b, Or.inr ⟨a, rfl, by rw [q_fu_eq]; omega, fun x hx => ?_, fun x hx => ?_⟩⟩
    · rw [q_fu_ne (by omega)]; exact d x hx
    · rw [q_fu_ne (by omega)]
      exact ⟨(e x hx).1, ftL_c (fun i hi => (q_fu_ne (by omega)).symm) (e x hx).2⟩
theorem itP_0 {m : qM} {ch : Nat → Int} {pl : Int} {L : List (Nat → Int)} (h : itP m ch pl L) (h0 : pl < 0) : L = [] := by
  rcases h with h | h
  · exact h.2
  · omega
theorem itP_r {m : qM} {ch : Nat → Int} {pl : Int} {L : List (Nat → Int)} (h : itP m ch pl L) (h0 : 0 ≤ pl) : (-1 ≤ ch pl.toNat ∧ ch pl.toNat + 1 ≤ (nC m : Int)) ∧ ∀ e : Nat, e < pl.toNat → (0 ≤ ch e ∧ ch e < (nC m : Int)) ∧ ftL (DD m) ch e := by
  rcases h with h | h
  · omega
  · exact ⟨h.2.2.1, h.2.2.2.2⟩

set_option maxRecDepth 100000 in
theorem m_nextR (u : qU) (m M y : qM) (L : List (Nat → Int)) (hR : rC m) (hX : rXn m) (hs : lxS m) (hD : dOk (DD m)) (hI : itS m M L) : qCt YX12_nextReading 3 0 0 [qR 77] (qLy u, M, y) (fun r h => ∃ (z : Int) (M' : qM), r = some (qI z) ∧ h = (qLy u, M', y) ∧ keep (kN kIt) M' = keep (kN kIt) M ∧ ((z = 0 ∧ L = [] ∧ itS m M' []) ∨ (z = 1 ∧ ∃ R L', L = R :: L' ∧ itS m M' L' ∧ (∀ e : Nat, e < 5 → M' 121 e = R e) ∧ ∀ s : Nat, s < 20 → M' 122 s = VM (DD m) R (nS m) s))) := by
  refine qCt.intro okX12_nextReading (Nat.le_of_ble_eq_true rfl) (fun κ hκ => ?_)
  obtain ⟨hm, hI2⟩ := hI
  have n54 := hm.2.1.1
  have nc := nC_le hR
  have ns := nS_le m
  have rd : M 77 60 = 0 ∨ M 77 60 = 1 := by rcases hI2 with q | q; (left; exact q.1); (right; exact q.1)
  have rp : M 77 60 = 1 → -1 ≤ M 77 61 ∧ M 77 61 ≤ 5 := fun z => by rcases hI2 with q | ⟨-, ch, p, -, q2, q3, -⟩; (have := q.1; omega); omega
  have L37 : ∀ (n : Nat) (ch : Nat → Int) (pl : Int) (M6 : qM), (mR m M6 ∧ (M6 77 60 = 1 ∧ M6 77 61 = pl)) → (-1 ≤ pl ∧ pl < (nS m : Int)) → (keep (kN kIt) M6 = keep (kN kIt) M) → (∀ e : Nat, e < 5 → M6 121 e = ch e) → (itP m ch pl L) → (mzI (nC m : Int) ch pl) < n → qJ YX12_nextReading κ (qFin (fun r h => ∃ (z : Int) (M' : qM), r = some (qI z) ∧ h = (qLy u, M', y) ∧ keep (kN kIt) M' = keep (kN kIt) M ∧ ((z = 0 ∧ L = [] ∧ itS m M' []) ∨ (z = 1 ∧ ∃ R L', L = R :: L' ∧ itS m M' L' ∧ (∀ e : Nat, e < 5 → M' 121 e = R e) ∧ ∀ s : Nat, s < 20 → M' 122 s = VM (DD m) R (nS m) s))) 0 0 κ) (qLy u, M6, y) 0 0 37 [some (qR 77)] [] := by
    intro n
    induction n with
    | zero => intro ch pl M6 _ _ _ _ _ hz0; omega
    | succ n ih37 =>
      intro ch pl M6 v37_0 v37_1 v37_2 v37_3 v37_4 v37_m
      have k56 : M6 77 56 = (nC m : Int) := v37_0.1.2.1.2
      have k54 : M6 77 54 = (nS m : Int) := v37_0.1.2.1.1
      have k61 := v37_0.2.2
      refine qJ.run hκ 2 (pc' := 41) (ls' := [some (qR 77)]) (st' := [qI (M6 77 61)]) rfl ?_
      refine qJ.if_lt hκ (tgt := 126) rfl rfl (by omega) (fun c41 => ?_) (fun c41 => ?_)
      · show qJ YX12_nextReading κ _ (qLy u, M6, y) 0 0 126 [some (qR 77)] []
        refine qJ.run hκ 2 (pc' := 128) (ls' := [some (qR 77)]) (st' := [qI 0, qR 77]) rfl ?_
        refine qJ.putI hκ rfl rfl rfl rfl (Or.inr ⟨rfl, by omega⟩) ?_
        show qJ YX12_nextReading κ _ (qLy u, (q_up M6 77 60 0), y) 0 0 131 [some (qR 77)] []
        refine qJ.run hκ 1 (pc' := 132) (ls' := [some (qR 77)]) (st' := [qI 0]) rfl ?_
        exact qJ.bret hκ rfl rfl (by omega) (by decide) (by decide) (⟨0, _, rfl, rfl, Eq.trans (keep_up (by rfl)) v37_2, Or.inl ⟨rfl, itP_0 v37_4 (by omega), mR_k (keep_up (by rfl)) v37_0.1, Or.inl ⟨rfl, rfl⟩⟩⟩)
      · show qJ YX12_nextReading κ _ (qLy u, M6, y) 0 0 44 [some (qR 77)] []
        have pl0 : 0 ≤ pl := by omega
        have itr := itP_r v37_4 pl0
        have cp : M6 121 (M6 77 61).toNat = ch pl.toNat := by rw [k61]; exact v37_3 pl.toNat (by omega)
        have ROW7 : ∀ e : Nat, e < 5 → (q_up M6 121 (M6 77 61).toNat ((M6 121 (M6 77 61).toNat) + 1)) 121 e = (q_fu ch pl.toNat (ch pl.toNat + 1)) e := fun e he => by
          rw [q_up_fu, k61]
          by_cases g : e = pl.toNat
          · have c2 := cp
            rw [k61] at c2
            rw [g, q_fu_eq, q_fu_eq, c2]
          · rw [q_fu_ne g, q_fu_ne g]; exact v37_3 e he
        refine qJ.run hκ 5 (pc' := 53) (ls' := [some (qR 77)]) (st' := [qI (M6 77 61), qR 121, qI (M6 77 61), qR 121]) rfl ?_
        refine qJ.ald hκ rfl rfl rfl (by decide) (by omega) ?_
        show qJ YX12_nextReading κ _ (qLy u, M6, y) 0 0 54 [some (qR 77)] [qI (M6 121 ((M6 77 61).toNat)), qI (M6 77 61), qR 121]
        refine qJ.run hκ 2 (pc' := 56) (ls' := [some (qR 77)]) (st' := [qI ((M6 121 ((M6 77 61).toNat)) + 1), qI (M6 77 61), qR 121]) rfl ?_
        refine qJ.ast hκ rfl rfl rfl (by decide) (by omega) ?_
        show qJ YX12_nextReading κ _ (qLy u, (q_up M6 121 ((M6 77 61).toNat) ((M6 121 ((M6 77 61).toNat)) + 1)), y) 0 0 57 [some (qR 77)] []
        refine qJ.run hκ 4 (pc' := 65) (ls' := [some (qR 77)]) (st' := [qI (M6 77 61), qR 121]) rfl ?_
        refine qJ.ald hκ rfl rfl rfl (by decide) (by omega) ?_
        show qJ YX12_nextReading κ _ (qLy u, (q_up M6 121 ((M6 77 61).toNat) ((M6 121 ((M6 77 61).toNat)) + 1)), y) 0 0 66 [some (qR 77)] [qI ((q_up M6 121 ((M6 77 61).toNat) ((M6 121 ((M6 77 61).toNat)) + 1)) 121 ((M6 77 61).toNat))]
        rw [show (q_up M6 121 ((M6 77 61).toNat) ((M6 121 ((M6 77 61).toNat)) + 1)) 121 ((M6 77 61).toNat) = ((M6 121 ((M6 77 61).toNat)) + 1) from by show (q_up M6 121 ((M6 77 61).toNat) ((M6 121 ((M6 77 61).toNat)) + 1)) 121 ((M6 77 61).toNat) = _; exact q_up_eq]
        show qJ YX12_nextReading κ _ (qLy u, (q_up M6 121 ((M6 77 61).toNat) ((M6 121 ((M6 77 61).toNat)) + 1)), y) 0 0 66 [some (qR 77)] [qI ((M6 121 ((M6 77 61).toNat)) + 1)]
        refine qJ.run hκ 2 (pc' := 70) (ls' := [some (qR 77)]) (st' := [qI (M6 77 56), qI ((M6 121 ((M6 77 61).toNat)) + 1)]) rfl ?_
        refine qJ.icmp_ne hκ (tgt := 96) rfl rfl (by omega) (by omega) (fun c70 => ?_) (fun c70 => ?_)
        · show qJ YX12_nextReading κ _ (qLy u, (q_up M6 121 ((M6 77 61).toNat) ((M6 121 ((M6 77 61).toNat)) + 1)), y) 0 0 96 [some (qR 77)] []
          have ne : ¬ ch pl.toNat + 1 = (nC m : Int) := by omega
          refine qJ.run hκ 1 (pc' := 97) (ls' := [some (qR 77)]) (st' := [qR 77]) rfl ?_
          refine qJ.callV (As := []) (rest := []) hκ rfl kX12_374 (m_fitR u m (q_up M6 121 ((M6 77 61).toNat) ((M6 121 ((M6 77 61).toNat)) + 1)) y (q_fu ch pl.toNat (ch pl.toNat + 1)) pl hR hX hs hD (mR_k (keep_up (by rfl)) v37_0.1) ⟨(show M6 77 61 = pl from v37_0.2.2), by omega, by omega⟩ (fun e he => ⟨ROW7 e (by omega), by
      by_cases g : e = pl.toNat
      · rw [g, q_fu_eq]; omega
      · rw [q_fu_ne g]; have := (itr.2 e (by omega)).1; omega⟩) (fun e he => ftL_c (fun i hi => (q_fu_ne (by omega)).symm) (itr.2 e (by omega)).2)) rfl rfl (by decide) rfl rfl (Nat.le_of_ble_eq_true rfl) (Nat.le_of_ble_eq_true rfl) (Nat.le_of_ble_eq_true rfl) (Or.inl (fun r h' e => by obtain ⟨z97, g, rfl, rfl, H97⟩ := e; rfl)) (fun r h' e => ?_)
          obtain ⟨z97, g, rfl, rfl, H97⟩ := e
          show qJ YX12_nextReading κ _ (qLy u, (q_row (q_up M6 121 ((M6 77 61).toNat) ((M6 121 ((M6 77 61).toNat)) + 1)) 122 g), y) 0 0 100 [some (qR 77)] [qI z97]
          have zr : z97 = 0 ∨ z97 = 1 := by rcases H97 with q | q; (right; exact q.1); (left; exact q.1)
          refine qJ.if_eq hκ (tgt := 37) rfl rfl (by omega) (fun c100 => ?_) (fun c100 => ?_)
          · show qJ YX12_nextReading κ _ (qLy u, (q_row (q_up M6 121 ((M6 77 61).toNat) ((M6 121 ((M6 77 61).toNat)) + 1)) 122 g), y) 0 0 37 [some (qR 77)] []
            have NF : ¬ ftL (DD m) (q_fu ch pl.toNat (ch pl.toNat + 1)) pl.toNat := by rcases H97 with q | q; (have := q.1; omega); (exact q.2)
            have IE := itP_no v37_4 pl0 ne NF
            exact ih37  (q_fu ch pl.toNat (ch pl.toNat + 1)) pl (q_row (q_up M6 121 ((M6 77 61).toNat) ((M6 121 ((M6 77 61).toNat)) + 1)) 122 g) (⟨mR_k (Eq.trans (keep_row (by intro j; rfl)) (keep_up (by rfl))) v37_0.1, v37_0.2⟩) (by omega) (Eq.trans (keep_row (by intro j; rfl)) (Eq.trans (keep_up (by rfl)) v37_2)) (fun e he => ROW7 e he) (IE.1) (by have := IE.2; omega)
          · show qJ YX12_nextReading κ _ (qLy u, (q_row (q_up M6 121 ((M6 77 61).toNat) ((M6 121 ((M6 77 61).toNat)) + 1)) 122 g), y) 0 0 103 [some (qR 77)] []
            have YF : ftL (DD m) (q_fu ch pl.toNat (ch pl.toNat + 1)) pl.toNat ∧ ∀ s : Nat, s < 20 → g s = VM (DD m) (q_fu ch pl.toNat (ch pl.toNat + 1)) (pl.toNat + 1) s := by rcases H97 with q | q; (exact q.2); (have := q.1; omega)
            refine qJ.run hκ 5 (pc' := 110) (ls' := [some (qR 77)]) (st' := [qI ((M6 77 61) + 1), qR 77]) rfl ?_
            refine qJ.putI hκ rfl rfl rfl rfl (Or.inl rfl) ?_
            show qJ YX12_nextReading κ _ (qLy u, (q_up (q_row (q_up M6 121 ((M6 77 61).toNat) ((M6 121 ((M6 77 61).toNat)) + 1)) 122 g) 77 61 ((M6 77 61) + 1)), y) 0 0 113 [some (qR 77)] []
            refine qJ.run hκ 4 (pc' := 121) (ls' := [some (qR 77)]) (st' := [qI (M6 77 54), qI ((M6 77 61) + 1)]) rfl ?_
            refine qJ.icmp_ne hκ (tgt := 37) rfl rfl (by omega) (by omega) (fun c121 => ?_) (fun c121 => ?_)
            · show qJ YX12_nextReading κ _ (qLy u, (q_up (q_row (q_up M6 121 ((M6 77 61).toNat) ((M6 121 ((M6 77 61).toNat)) + 1)) 122 g) 77 61 ((M6 77 61) + 1)), y) 0 0 37 [some (qR 77)] []
              have IE := itP_in nc.1 ns v37_4 pl0 ne YF.1 (by omega)
              exact ih37  (q_fu ch pl.toNat (ch pl.toNat + 1)) (pl + 1) (q_up (q_row (q_up M6 121 ((M6 77 61).toNat) ((M6 121 ((M6 77 61).toNat)) + 1)) 122 g) 77 61 ((M6 77 61) + 1)) (⟨mR_k (Eq.trans (keep_up (by rfl)) (Eq.trans (keep_row (by intro j; rfl)) (keep_up (by rfl)))) v37_0.1, v37_0.2.1, by show M6 77 61 + 1 = pl + 1; omega⟩) (by omega) (Eq.trans (keep_up (by rfl)) (Eq.trans (keep_row (by intro j; rfl)) (Eq.trans (keep_up (by rfl)) v37_2))) (fun e he => ROW7 e he) (IE.1) (by have := IE.2; omega)
            · show qJ YX12_nextReading κ _ (qLy u, (q_up (q_row (q_up M6 121 ((M6 77 61).toNat) ((M6 121 ((M6 77 61).toNat)) + 1)) 122 g) 77 61 ((M6 77 61) + 1)), y) 0 0 124 [some (qR 77)] []
              refine qJ.run hκ 1 (pc' := 125) (ls' := [some (qR 77)]) (st' := [qI 1]) rfl ?_
              exact qJ.bret hκ rfl rfl (by omega) (by decide) (by decide) (by
      obtain ⟨L', g1, g2⟩ := itP_hit v37_4 pl0 ne YF.1 (by omega)
      refine ⟨1, _, rfl, rfl, Eq.trans (keep_up (by rfl)) (Eq.trans (keep_row (by intro j; rfl)) (Eq.trans (keep_up (by rfl)) v37_2)), Or.inr ⟨rfl, (q_fu ch pl.toNat (ch pl.toNat + 1)), L', g1, ⟨mR_k (Eq.trans (keep_up (by rfl)) (Eq.trans (keep_row (by intro j; rfl)) (keep_up (by rfl)))) v37_0.1, Or.inr ⟨v37_0.2.1, (q_fu ch pl.toNat (ch pl.toNat + 1)), pl, fun e he => ?_, by omega, Or.inr ⟨?_, by omega⟩, g2⟩⟩, fun e he => ?_, fun s hs2 => ?_⟩⟩
      · exact ROW7 e he
      · show M6 77 61 + 1 = _; omega
      · exact ROW7 e he
      · show g s = _
        rw [YF.2 s hs2, show pl.toNat + 1 = nS m by omega])
        · show qJ YX12_nextReading κ _ (qLy u, (q_up M6 121 ((M6 77 61).toNat) ((M6 121 ((M6 77 61).toNat)) + 1)), y) 0 0 73 [some (qR 77)] []
          have en : ch pl.toNat + 1 = (nC m : Int) := by omega
          have IE := itP_end v37_4 pl0 en
          refine qJ.run hκ 5 (pc' := 82) (ls' := [some (qR 77)]) (st' := [qI (-1), qI (M6 77 61), qR 121]) rfl ?_
          refine qJ.ast hκ rfl rfl rfl (by decide) (by omega) ?_
          show qJ YX12_nextReading κ _ (qLy u, (q_up (q_up M6 121 ((M6 77 61).toNat) ((M6 121 ((M6 77 61).toNat)) + 1)) 121 ((M6 77 61).toNat) (-1)), y) 0 0 83 [some (qR 77)] []
          refine qJ.run hκ 5 (pc' := 90) (ls' := [some (qR 77)]) (st' := [qI ((M6 77 61) - 1), qR 77]) rfl ?_
          refine qJ.putI hκ rfl rfl rfl rfl (Or.inl rfl) ?_
          show qJ YX12_nextReading κ _ (qLy u, (q_up (q_up (q_up M6 121 ((M6 77 61).toNat) ((M6 121 ((M6 77 61).toNat)) + 1)) 121 ((M6 77 61).toNat) (-1)) 77 61 ((M6 77 61) - 1)), y) 0 0 93 [some (qR 77)] []
          refine qJ.run hκ 1 (pc' := 37) (ls' := [some (qR 77)]) (st' := []) rfl ?_
          exact ih37  (q_fu ch pl.toNat (-1)) (pl - 1) (q_up (q_up (q_up M6 121 ((M6 77 61).toNat) ((M6 121 ((M6 77 61).toNat)) + 1)) 121 ((M6 77 61).toNat) (-1)) 77 61 ((M6 77 61) - 1)) (⟨mR_k (Eq.trans (keep_up (by rfl)) (Eq.trans (keep_up (by rfl)) (keep_up (by rfl)))) v37_0.1, v37_0.2.1, by show M6 77 61 - 1 = pl - 1; omega⟩) (by omega) (Eq.trans (keep_up (by rfl)) (Eq.trans (keep_up (by rfl)) (Eq.trans (keep_up (by rfl)) v37_2))) (fun e he => by
        show q_up (q_up M6 121 (M6 77 61).toNat ((M6 121 (M6 77 61).toNat) + 1)) 121 (M6 77 61).toNat (-1) 121 e = _
        rw [q_up_fu, q_up_fu, fu_fu, k61]
        by_cases g : e = pl.toNat
        · rw [g, q_fu_eq, q_fu_eq]
        · rw [q_fu_ne g, q_fu_ne g]; exact v37_3 e he) (IE.1) (by have := IE.2; omega)
  show qJ YX12_nextReading κ _ (qLy u, M, y) 0 0 0 [some (qR 77)] []
  refine qJ.run hκ 2 (pc' := 4) (ls' := [some (qR 77)]) (st' := [qI (M 77 60)]) rfl ?_
  refine qJ.if_ne hκ (tgt := 9) rfl rfl (by omega) (fun c4 => ?_) (fun c4 => ?_)
  · show qJ YX12_nextReading κ _ (qLy u, M, y) 0 0 9 [some (qR 77)] []
    have Y : ∃ ch p, (∀ e : Nat, e < 5 → M 121 e = ch e) ∧ (0 ≤ p ∧ p < (nS m : Int)) ∧ (M 77 61 = p ∨ (M 77 61 = (nS m : Int) ∧ p + 1 = (nS m : Int))) ∧ itP m ch p L := by rcases hI2 with q | q; (exact absurd q.1 c4); (exact q.2)
    clear hI2
    obtain ⟨ch0, p0, y1, y2, y3, y4⟩ := Y
    refine qJ.run hκ 5 (pc' := 18) (ls' := [some (qR 77)]) (st' := [qI (M 77 54), qI (M 77 61), qR 77]) rfl ?_
    refine qJ.icmp_ne hκ (tgt := 30) rfl rfl (by omega) (by omega) (fun c18 => ?_) (fun c18 => ?_)
    · show qJ YX12_nextReading κ _ (qLy u, M, y) 0 0 30 [some (qR 77)] [qR 77]
      refine qJ.run hκ 2 (pc' := 34) (ls' := [some (qR 77)]) (st' := [qI (M 77 61), qR 77]) rfl ?_
      refine qJ.putI hκ rfl rfl rfl rfl (Or.inl rfl) ?_
      show qJ YX12_nextReading κ _ (qLy u, (q_up M 77 61 (M 77 61)), y) 0 0 37 [some (qR 77)] []
      exact L37 (mzI (nC m : Int) ch0 p0 + 1) ch0 p0 (q_up M 77 61 (M 77 61)) (⟨mR_k (keep_up (by rfl)) hm, by show M 77 60 = 1; omega, by show M 77 61 = p0; omega⟩) (by omega) (keep_up (by rfl)) (y1) (y4) (by omega)
    · show qJ YX12_nextReading κ _ (qLy u, M, y) 0 0 21 [some (qR 77)] [qR 77]
      refine qJ.run hκ 5 (pc' := 34) (ls' := [some (qR 77)]) (st' := [qI ((M 77 54) - 1), qR 77]) rfl ?_
      refine qJ.putI hκ rfl rfl rfl rfl (Or.inl rfl) ?_
      show qJ YX12_nextReading κ _ (qLy u, (q_up M 77 61 ((M 77 54) - 1)), y) 0 0 37 [some (qR 77)] []
      exact L37 (mzI (nC m : Int) ch0 p0 + 1) ch0 p0 (q_up M 77 61 ((M 77 54) - 1)) (⟨mR_k (keep_up (by rfl)) hm, by show M 77 60 = 1; omega, by show M 77 54 - 1 = p0; omega⟩) (by omega) (keep_up (by rfl)) (y1) (y4) (by omega)
  · show qJ YX12_nextReading κ _ (qLy u, M, y) 0 0 7 [some (qR 77)] []
    have Z : L = [] := by rcases hI2 with q | q; (exact q.2); (have := q.1; omega)
    refine qJ.run hκ 1 (pc' := 8) (ls' := [some (qR 77)]) (st' := [qI 0]) rfl ?_
    exact qJ.bret hκ rfl rfl (by omega) (by decide) (by decide) (⟨0, M, rfl, rfl, rfl, Or.inl ⟨rfl, Z, hm, Or.inl ⟨c4, rfl⟩⟩⟩)

/-! printed by p52.py: Speller, names spelled -/
theorem stE_i (m : qM) (a i : Int) : stA m a i = 0 ↔ (i + 1 < m 17 a.toNat ∧ Lc m a (i + 1) < 4) := by
  unfold stA
  by_cases h1 : m 17 a.toNat ≤ i + 1
  · rw [if_pos h1]; omega
  · rw [if_neg h1]
    by_cases h2 : Lc m a (i + 1) < 4
    · rw [if_pos h2]; omega
    · rw [if_neg h2]; omega

theorem vN_le (m : qM) (a : Int) (k : Nat) : vN m a k ≤ k := q_cnt_le _ _
theorem rX_lxS {m : qM} (h : rXl m) : lxS m := by
  intro c s c1 c2 s1 s2
  obtain ⟨h0, h1, h2⟩ := h
  obtain ⟨p1, p2⟩ := h2 c s c1 c2 s1 s2
  by_cases z : q_fst (fun l => m 106 (4 * (l : Int)).toNat = c ∧ m 106 (4 * (l : Int) + 1).toNat = s) (m 15 4).toNat = -1
  · have e := p1 z
    show (-1 ≤ m 19 ((c - 1) * 3 + s).toNat ∧ m 19 ((c - 1) * 3 + s).toNat ≤ 3) ∧ (m 19 ((c - 1) * 3 + s).toNat = 3 → _) ∧ (m 19 ((c - 1) * 3 + s).toNat = 1 → _) ∧ (m 19 ((c - 1) * 3 + s).toNat = 2 → _)
    rw [e]
    exact ⟨by omega, fun q => by omega, fun q => by omega, fun q => by omega⟩
  · obtain ⟨f1, f2, f3, -⟩ := fst_at (J := fun l => m 106 (4 * (l : Int)).toNat = c ∧ m 106 (4 * (l : Int) + 1).toNat = s) (m 15 4).toNat z
    obtain ⟨e1, e2⟩ := p2 z
    generalize q_fst (fun l => m 106 (4 * (l : Int)).toNat = c ∧ m 106 (4 * (l : Int) + 1).toNat = s) (m 15 4).toNat = F at *
    have f3 : m 106 (4 * ((F.toNat : Nat) : Int)).toNat = c ∧ m 106 (4 * ((F.toNat : Nat) : Int) + 1).toNat = s := f3
    rw [q_tn f1] at f3
    have q := h1 F f1 (by omega)
    show (-1 ≤ m 19 ((c - 1) * 3 + s).toNat ∧ m 19 ((c - 1) * 3 + s).toNat ≤ 3) ∧ (m 19 ((c - 1) * 3 + s).toNat = 3 → 1 ≤ m 20 ((c - 1) * 3 + s).toNat ∧ m 20 ((c - 1) * 3 + s).toNat ≤ 6) ∧ (m 19 ((c - 1) * 3 + s).toNat = 1 → s = 1) ∧ (m 19 ((c - 1) * 3 + s).toNat = 2 → ¬ s = 0)
    refine ⟨by rw [e1]; omega, fun w => ?_, fun w => ?_, fun w => ?_⟩
    · rw [e2 w]; rw [e1] at w; exact q.2.2.2.1 w
    · rw [e1] at w; rw [← f3.2]; exact q.2.2.2.2.1 w
    · rw [e1] at w; rw [← f3.2]; exact q.2.2.2.2.2 w
theorem rX_lxA {m : qM} (h : rXn m) {a : Int} (ha : 0 ≤ a ∧ a < m 15 0) : lxA m a := by
  have e := h.2.1 a ha.1 ha.2
  have n := h.1.1
  refine ⟨by omega, e.2.1, fun i i0 i1 => ?_⟩
  have l := e.2.2.2 i i0 i1
  have r := lcode_r (m 104 (10 * a + i).toNat)
  have l1 : Lc m a i = lcode (m 104 (10 * a + i).toNat) := l.1
  have l2 : 0 ≤ Lc m a i := l.2.1
  omega
def SP (m M : qM) (a : Int) : Prop := M 55 a.toNat = (vN m a (m 17 a.toNat).toNat : Nat) ∧ SPv m (M 54) a (m 17 a.toNat)
def nN (m : qM) : Nat := q_pfx (m 18) (gHz m) (m 15 0).toNat
theorem nN_le {m : qM} (h : rXn m) : (nN m : Int) ≤ m 15 0 := by
  have := q_pfx_le (m 18) (gHz m) (m 15 0).toNat
  have := h.1.1
  unfold nN; omega
theorem pV_k {m M : qM} (h : keep (kN kP) M = keep (kN kP) m) (a i : Int) : pV M a i = pV m a i := by
  show pV (keep (kN kP) M) a i = pV (keep (kN kP) m) a i
  rw [h]
theorem vN_k {m M : qM} (h : keep (kN kP) M = keep (kN kP) m) (a : Int) (k : Nat) : vN M a k = vN m a k := by
  show vN (keep (kN kP) M) a k = vN (keep (kN kP) m) a k
  rw [h]
theorem pV_c {m M : qM} (h16 : M 16 = m 16) (h17 : M 17 = m 17) (h19 : M 19 = m 19) (h20 : M 20 = m 20) (a i : Int) : pV M a i = pV m a i := by
  unfold pV cV stA vA vB vAf vBf Lc
  rw [h16, h17, h19, h20]
theorem vN_c {m M : qM} (h16 : M 16 = m 16) (h17 : M 17 = m 17) (h19 : M 19 = m 19) (h20 : M 20 = m 20) (a : Int) (k : Nat) : vN M a k = vN m a k := q_cnt_c k fun j _ => by rw [pV_c h16 h17 h19 h20]
theorem SP_c {m m' M : qM} (h16 : m 16 = m' 16) (h17 : m 17 = m' 17) (h19 : m 19 = m' 19) (h20 : m 20 = m' 20) {a : Int} (h : SP m M a) : SP m' M a := by
  obtain ⟨h1, h2⟩ := h
  refine ⟨by rw [h1, h17, vN_c h16 h17 h19 h20], fun j j0 j1 hp => ?_⟩
  rw [← h17] at j1
  rw [← pV_c h16 h17 h19 h20] at hp ⊢
  rw [← vN_c h16 h17 h19 h20]
  exact h2 j j0 j1 hp

set_option maxRecDepth 100000 in
theorem c_spell (u : qU) (m y : qM) (a : Int) (hx : lxA m a) (hs : lxS m) : qCt YX7_spell 4 0 0 [qR 53, qR 15, qI a] (qLy u, m, y) (fun r h => r = none ∧ ∃ f, h = (qLy u, q_up (q_row m 54 f) 55 a.toNat (vN m a (m 17 a.toNat).toNat : Nat), y) ∧ (∀ j : Nat, (j : Int) < a * 10 → f j = m 54 j) ∧ SPv m f a (m 17 a.toNat)) := by
  refine qCt.intro okX7_spell (Nat.le_of_ble_eq_true rfl) (fun κ hκ => ?_)
  have l0 := hx.1
  have l1 := hx.2.1
  have L22 : ∀ (n : Nat) (f : Nat → Int) (z : Int) (tk : Int) (i : Int), (0 ≤ i) → (i ≤ m 17 a.toNat) → (z = (vN m a i.toNat : Nat)) → ((tk = 1 ∧ 0 < i ∧ ¬ Lc m a (i - 1) < 4) ∨ (tk = 0 ∧ ¬ (0 < i ∧ i < m 17 a.toNat ∧ ¬ Lc m a (i - 1) < 4 ∧ Lc m a i < 4))) → ((∀ j : Nat, (j : Int) < a * 10 → f j = m 54 j) ∧ SPv m f a i) → ((m 17 a.toNat - i).toNat) < n → qJ YX7_spell κ (qFin (fun r h => r = none ∧ ∃ f, h = (qLy u, q_up (q_row m 54 f) 55 a.toNat (vN m a (m 17 a.toNat).toNat : Nat), y) ∧ (∀ j : Nat, (j : Int) < a * 10 → f j = m 54 j) ∧ SPv m f a (m 17 a.toNat)) 0 0 κ) (qLy u, (q_row m 54 f), y) 0 0 22 [some (qR 53), some (qR 15), some (qI a), some (qI (a * 10)), some (qI (m 17 a.toNat)), some (qI z), some (qI tk), some (qI i), none, none, none] [] := by
    intro n
    induction n with
    | zero => intro f z tk i _ _ _ _ _ hz0; omega
    | succ n ih22 =>
      intro f z tk i v22_0 v22_1 v22_2 v22_3 v22_4 v22_m
      have mr : tk = 0 ∨ tk = 1 := by rcases v22_3 with q | q <;> omega
      have vl := vN_le m a i.toNat
      refine qJ.run hκ 2 (pc' := 26) (ls' := [some (qR 53), some (qR 15), some (qI a), some (qI (a * 10)), some (qI (m 17 a.toNat)), some (qI z), some (qI tk), some (qI i), none, none, none]) (st' := [qI (m 17 a.toNat), qI i]) rfl ?_
      refine qJ.icmp_ge hκ (tgt := 126) rfl rfl (by omega) (by omega) (fun c26 => ?_) (fun c26 => ?_)
      · show qJ YX7_spell κ _ (qLy u, (q_row m 54 f), y) 0 0 126 [some (qR 53), some (qR 15), some (qI a), some (qI (a * 10)), some (qI (m 17 a.toNat)), some (qI z), some (qI tk), some (qI i), none, none, none] []
        refine qJ.run hκ 4 (pc' := 133) (ls' := [some (qR 53), some (qR 15), some (qI a), some (qI (a * 10)), some (qI (m 17 a.toNat)), some (qI z), some (qI tk), some (qI i), none, none, none]) (st' := [qI z, qI a, qR 55]) rfl ?_
        refine qJ.ast hκ rfl rfl rfl (by decide) (by omega) ?_
        show qJ YX7_spell κ _ (qLy u, (q_up (q_row m 54 f) 55 a.toNat z), y) 0 0 134 [some (qR 53), some (qR 15), some (qI a), some (qI (a * 10)), some (qI (m 17 a.toNat)), some (qI z), some (qI tk), some (qI i), none, none, none] []
        exact qJ.vret hκ rfl rfl (by decide) (by decide) (⟨rfl, f, by rw [v22_2, show i = m 17 a.toNat by omega], v22_4.1, by rw [← show i = m 17 a.toNat by omega]; exact v22_4.2⟩)
      · show qJ YX7_spell κ _ (qLy u, (q_row m 54 f), y) 0 0 29 [some (qR 53), some (qR 15), some (qI a), some (qI (a * 10)), some (qI (m 17 a.toNat)), some (qI z), some (qI tk), some (qI i), none, none, none] []
        have l := hx.2.2 i (by omega) (by omega)
        have lE : m 16 (a * 10 + i).toNat = Lc m a i := rfl
        have vs := vN_s (m := m) (a := a) (i := i) (by omega)
        have vl := vN_le m a i.toNat
        have pr := pV_r (i := i) hx hs (by omega)
        refine qJ.run hκ 5 (pc' := 37) (ls' := [some (qR 53), some (qR 15), some (qI a), some (qI (a * 10)), some (qI (m 17 a.toNat)), some (qI z), some (qI tk), some (qI i), none, none, none]) (st' := [qI ((a * 10) + i), qR 16]) rfl ?_
        refine qJ.ald hκ rfl rfl rfl (by decide) (by omega) ?_
        show qJ YX7_spell κ _ (qLy u, (q_row m 54 f), y) 0 0 38 [some (qR 53), some (qR 15), some (qI a), some (qI (a * 10)), some (qI (m 17 a.toNat)), some (qI z), some (qI tk), some (qI i), none, none, none] [qI (m 16 (((a * 10) + i).toNat))]
        refine qJ.run hκ 5 (pc' := 46) (ls' := [some (qR 53), some (qR 15), some (qI a), some (qI (a * 10)), some (qI (m 17 a.toNat)), some (qI z), some (qI tk), some (qI i), some (qI (m 16 (((a * 10) + i).toNat))), some (qI (-1)), none]) (st' := [qI 4, qI (m 16 (((a * 10) + i).toNat))]) rfl ?_
        refine qJ.icmp_lt hκ (tgt := 84) rfl rfl (by omega) (by omega) (fun c46 => ?_) (fun c46 => ?_)
        · show qJ YX7_spell κ _ (qLy u, (q_row m 54 f), y) 0 0 84 [some (qR 53), some (qR 15), some (qI a), some (qI (a * 10)), some (qI (m 17 a.toNat)), some (qI z), some (qI tk), some (qI i), some (qI (m 16 (((a * 10) + i).toNat))), some (qI (-1)), none] []
          refine qJ.run hκ 1 (pc' := 86) (ls' := [some (qR 53), some (qR 15), some (qI a), some (qI (a * 10)), some (qI (m 17 a.toNat)), some (qI z), some (qI tk), some (qI i), some (qI (m 16 (((a * 10) + i).toNat))), some (qI (-1)), none]) (st' := [qI tk]) rfl ?_
          refine qJ.if_eq hκ (tgt := 93) rfl rfl (by omega) (fun c86 => ?_) (fun c86 => ?_)
          · show qJ YX7_spell κ _ (qLy u, (q_row m 54 f), y) 0 0 93 [some (qR 53), some (qR 15), some (qI a), some (qI (a * 10)), some (qI (m 17 a.toNat)), some (qI z), some (qI tk), some (qI i), some (qI (m 16 (((a * 10) + i).toNat))), some (qI (-1)), none] []
            refine qJ.run hκ 4 (pc' := 100) (ls' := [some (qR 53), some (qR 15), some (qI a), some (qI (a * 10)), some (qI (m 17 a.toNat)), some (qI z), some (qI 0), some (qI i), some (qI (m 16 (((a * 10) + i).toNat))), some (qI (m 16 (((a * 10) + i).toNat))), none]) (st' := []) rfl ?_
            have pe : pV m a i = m 16 (((a * 10) + i).toNat) := by unfold pV; rw [if_pos (by omega), if_neg (by omega)]
            have tkn : ((0 : Int) = 1 ∧ 0 < i + 1 ∧ ¬ Lc m a (i + 1 - 1) < 4) ∨ ((0 : Int) = 0 ∧ ¬ (0 < i + 1 ∧ i + 1 < m 17 a.toNat ∧ ¬ Lc m a (i + 1 - 1) < 4 ∧ Lc m a (i + 1) < 4)) := by rw [show i + 1 - 1 = i by omega]; first | exact Or.inl ⟨rfl, by omega, by omega⟩ | (refine Or.inr ⟨rfl, fun q => ?_⟩; omega)
            refine qJ.run hκ 2 (pc' := 103) (ls' := [some (qR 53), some (qR 15), some (qI a), some (qI (a * 10)), some (qI (m 17 a.toNat)), some (qI z), some (qI 0), some (qI i), some (qI (m 16 (((a * 10) + i).toNat))), some (qI (m 16 (((a * 10) + i).toNat))), none]) (st' := [qI (-1), qI (m 16 (((a * 10) + i).toNat))]) rfl ?_
            refine qJ.icmp_eq hκ (tgt := 120) rfl rfl (by omega) (by omega) (fun c103 => ?_) (fun c103 => ?_)
            · show qJ YX7_spell κ _ (qLy u, (q_row m 54 f), y) 0 0 120 [some (qR 53), some (qR 15), some (qI a), some (qI (a * 10)), some (qI (m 17 a.toNat)), some (qI z), some (qI 0), some (qI i), some (qI (m 16 (((a * 10) + i).toNat))), some (qI (m 16 (((a * 10) + i).toNat))), none] []
              refine qJ.run hκ 2 (pc' := 22) (ls' := [some (qR 53), some (qR 15), some (qI a), some (qI (a * 10)), some (qI (m 17 a.toNat)), some (qI z), some (qI 0), some (qI (i + 1)), some (qI (m 16 (((a * 10) + i).toNat))), some (qI (m 16 (((a * 10) + i).toNat))), none]) (st' := []) rfl ?_
              refine qJ.dl [true, true, true, true, true, true, true, true, false, false, false] ?_
              show qJ YX7_spell κ _ (qLy u, (q_row m 54 f), y) 0 0 22 [some (qR 53), some (qR 15), some (qI a), some (qI (a * 10)), some (qI (m 17 a.toNat)), some (qI z), some (qI 0), some (qI (i + 1)), none, none, none] []
              exact qJ.cast (ih22  f z 0 (i + 1) (by omega) (by omega) (by rw [vs, if_neg (fun q => q (by omega))]; omega) (tkn) (⟨v22_4.1, SPv_n v22_4.2 (by omega)⟩) (by omega)) (rfl) rfl rfl
            · show qJ YX7_spell κ _ (qLy u, (q_row m 54 f), y) 0 0 106 [some (qR 53), some (qR 15), some (qI a), some (qI (a * 10)), some (qI (m 17 a.toNat)), some (qI z), some (qI 0), some (qI i), some (qI (m 16 (((a * 10) + i).toNat))), some (qI (m 16 (((a * 10) + i).toNat))), none] []
              refine qJ.run hκ 6 (pc' := 116) (ls' := [some (qR 53), some (qR 15), some (qI a), some (qI (a * 10)), some (qI (m 17 a.toNat)), some (qI z), some (qI 0), some (qI i), some (qI (m 16 (((a * 10) + i).toNat))), some (qI (m 16 (((a * 10) + i).toNat))), none]) (st' := [qI (m 16 (((a * 10) + i).toNat)), qI ((a * 10) + z), qR 54]) rfl ?_
              refine qJ.ast hκ rfl rfl rfl (by decide) (by omega) ?_
              refine qJ.mc (m1 := (q_up (q_row m 54 f) 54 (((a * 10) + z).toNat) (m 16 (((a * 10) + i).toNat)))) (m2 := (q_row m 54 (q_fu f (((a * 10) + z).toNat) (m 16 (((a * 10) + i).toNat))))) (by rw [q_up_row_eq]) ?_
              show qJ YX7_spell κ _ (qLy u, (q_row m 54 (q_fu f (((a * 10) + z).toNat) (m 16 (((a * 10) + i).toNat)))), y) 0 0 117 [some (qR 53), some (qR 15), some (qI a), some (qI (a * 10)), some (qI (m 17 a.toNat)), some (qI z), some (qI 0), some (qI i), some (qI (m 16 (((a * 10) + i).toNat))), some (qI (m 16 (((a * 10) + i).toNat))), none] []
              refine qJ.run hκ 3 (pc' := 22) (ls' := [some (qR 53), some (qR 15), some (qI a), some (qI (a * 10)), some (qI (m 17 a.toNat)), some (qI (z + 1)), some (qI 0), some (qI (i + 1)), some (qI (m 16 (((a * 10) + i).toNat))), some (qI (m 16 (((a * 10) + i).toNat))), none]) (st' := []) rfl ?_
              refine qJ.dl [true, true, true, true, true, true, true, true, false, false, false] ?_
              show qJ YX7_spell κ _ (qLy u, (q_row m 54 (q_fu f (((a * 10) + z).toNat) (m 16 (((a * 10) + i).toNat)))), y) 0 0 22 [some (qR 53), some (qR 15), some (qI a), some (qI (a * 10)), some (qI (m 17 a.toNat)), some (qI (z + 1)), some (qI 0), some (qI (i + 1)), none, none, none] []
              exact qJ.cast (ih22  (q_fu f (((a * 10) + z).toNat) (m 16 (((a * 10) + i).toNat))) (z + 1) 0 (i + 1) (by omega) (by omega) (by rw [vs, if_pos (by omega)]; omega) (tkn) (⟨fun j hj => by rw [q_fu_ne (by omega)]; exact v22_4.1 j hj, by rw [v22_2]; exact SPv_y v22_4.2 (by omega) (by omega) pe⟩) (by omega)) (rfl) rfl rfl
          · show qJ YX7_spell κ _ (qLy u, (q_row m 54 f), y) 0 0 89 [some (qR 53), some (qR 15), some (qI a), some (qI (a * 10)), some (qI (m 17 a.toNat)), some (qI z), some (qI tk), some (qI i), some (qI (m 16 (((a * 10) + i).toNat))), some (qI (-1)), none] []
            refine qJ.run hκ 5 (pc' := 100) (ls' := [some (qR 53), some (qR 15), some (qI a), some (qI (a * 10)), some (qI (m 17 a.toNat)), some (qI z), some (qI 0), some (qI i), some (qI (m 16 (((a * 10) + i).toNat))), some (qI (-1)), none]) (st' := []) rfl ?_
            have pe : pV m a i = -1 := by unfold pV; rw [if_pos (by omega), if_pos (by omega)]
            have tkn : ((0 : Int) = 1 ∧ 0 < i + 1 ∧ ¬ Lc m a (i + 1 - 1) < 4) ∨ ((0 : Int) = 0 ∧ ¬ (0 < i + 1 ∧ i + 1 < m 17 a.toNat ∧ ¬ Lc m a (i + 1 - 1) < 4 ∧ Lc m a (i + 1) < 4)) := by rw [show i + 1 - 1 = i by omega]; first | exact Or.inl ⟨rfl, by omega, by omega⟩ | (refine Or.inr ⟨rfl, fun q => ?_⟩; omega)
            refine qJ.run hκ 2 (pc' := 103) (ls' := [some (qR 53), some (qR 15), some (qI a), some (qI (a * 10)), some (qI (m 17 a.toNat)), some (qI z), some (qI 0), some (qI i), some (qI (m 16 (((a * 10) + i).toNat))), some (qI (-1)), none]) (st' := [qI (-1), qI (-1)]) rfl ?_
            refine qJ.icmp_eq hκ (tgt := 120) rfl rfl (by omega) (by omega) (fun c103 => ?_) (fun c103 => ?_)
            · show qJ YX7_spell κ _ (qLy u, (q_row m 54 f), y) 0 0 120 [some (qR 53), some (qR 15), some (qI a), some (qI (a * 10)), some (qI (m 17 a.toNat)), some (qI z), some (qI 0), some (qI i), some (qI (m 16 (((a * 10) + i).toNat))), some (qI (-1)), none] []
              refine qJ.run hκ 2 (pc' := 22) (ls' := [some (qR 53), some (qR 15), some (qI a), some (qI (a * 10)), some (qI (m 17 a.toNat)), some (qI z), some (qI 0), some (qI (i + 1)), some (qI (m 16 (((a * 10) + i).toNat))), some (qI (-1)), none]) (st' := []) rfl ?_
              refine qJ.dl [true, true, true, true, true, true, true, true, false, false, false] ?_
              show qJ YX7_spell κ _ (qLy u, (q_row m 54 f), y) 0 0 22 [some (qR 53), some (qR 15), some (qI a), some (qI (a * 10)), some (qI (m 17 a.toNat)), some (qI z), some (qI 0), some (qI (i + 1)), none, none, none] []
              exact qJ.cast (ih22  f z 0 (i + 1) (by omega) (by omega) (by rw [vs, if_neg (fun q => q (by omega))]; omega) (tkn) (⟨v22_4.1, SPv_n v22_4.2 (by omega)⟩) (by omega)) (rfl) rfl rfl
            · exact absurd c103 (by decide)
        · show qJ YX7_spell κ _ (qLy u, (q_row m 54 f), y) 0 0 49 [some (qR 53), some (qR 15), some (qI a), some (qI (a * 10)), some (qI (m 17 a.toNat)), some (qI z), some (qI tk), some (qI i), some (qI (m 16 (((a * 10) + i).toNat))), some (qI (-1)), none] []
          refine qJ.run hκ 3 (pc' := 53) (ls' := [some (qR 53), some (qR 15), some (qI a), some (qI (a * 10)), some (qI (m 17 a.toNat)), some (qI z), some (qI tk), some (qI i), some (qI (m 16 (((a * 10) + i).toNat))), some (qI (-1)), none]) (st' := [qI i, qI a, qR 15]) rfl ?_
          refine qJ.callS (As := [qR 15, qI a, qI i]) (rest := []) hκ rfl kX7_38 (c_standAt u (q_row m 54 f) y a i (show lxA (q_row m 54 f) a from hx) (show 0 ≤ i ∧ i < m 17 a.toNat from by omega)) (by decide) rfl rfl (Nat.le_of_ble_eq_true rfl) (Nat.le_of_ble_eq_true rfl) (Nat.le_of_ble_eq_true rfl) (Or.inl (fun r h' e => by obtain ⟨rfl, rfl⟩ := e; rfl)) (fun r h' e => ?_)
          obtain ⟨rfl, rfl⟩ := e
          show qJ YX7_spell κ _ (qLy u, (q_row m 54 f), y) 0 0 56 [some (qR 53), some (qR 15), some (qI a), some (qI (a * 10)), some (qI (m 17 a.toNat)), some (qI z), some (qI tk), some (qI i), some (qI (m 16 (((a * 10) + i).toNat))), some (qI (-1)), none] [qI (stA m a i)]
          have st := stA_r m a i
          have stE := stE_i m a i
          refine qJ.run hκ 5 (pc' := 64) (ls' := [some (qR 53), some (qR 15), some (qI a), some (qI (a * 10)), some (qI (m 17 a.toNat)), some (qI z), some (qI tk), some (qI i), some (qI (m 16 (((a * 10) + i).toNat))), some (qI (-1)), some (qI (stA m a i))]) (st' := [qI (stA m a i), qI i, qI a, qR 15]) rfl ?_
          refine qJ.callS (As := [qR 15, qI a, qI i, qI (stA m a i)]) (rest := []) hκ rfl kX7_42 (c_cV u (q_row m 54 f) y a i (stA m a i) (show lxA (q_row m 54 f) a from hx) (show lxS (q_row m 54 f) from hs) (show 0 ≤ i ∧ i < m 17 a.toNat from by omega) (show 4 ≤ Lc m a i from by omega) (stA_r m a i)) (by decide) rfl rfl (Nat.le_of_ble_eq_true rfl) (Nat.le_of_ble_eq_true rfl) (Nat.le_of_ble_eq_true rfl) (Or.inl (fun r h' e => by obtain ⟨rfl, rfl⟩ := e; rfl)) (fun r h' e => ?_)
          obtain ⟨rfl, rfl⟩ := e
          show qJ YX7_spell κ _ (qLy u, (q_row m 54 f), y) 0 0 67 [some (qR 53), some (qR 15), some (qI a), some (qI (a * 10)), some (qI (m 17 a.toNat)), some (qI z), some (qI tk), some (qI i), some (qI (m 16 (((a * 10) + i).toNat))), some (qI (-1)), some (qI (stA m a i))] [qI (cV m a i (stA m a i))]
          have cr := cV_r hx hs (show 0 ≤ i ∧ i < m 17 a.toNat by omega) (show 4 ≤ Lc m a i by omega) (stA_r m a i)
          refine qJ.run hκ 2 (pc' := 71) (ls' := [some (qR 53), some (qR 15), some (qI a), some (qI (a * 10)), some (qI (m 17 a.toNat)), some (qI z), some (qI tk), some (qI i), some (qI (m 16 (((a * 10) + i).toNat))), some (qI (cV m a i (stA m a i))), some (qI (stA m a i))]) (st' := [qI (stA m a i)]) rfl ?_
          refine qJ.if_ne hκ (tgt := 78) rfl rfl (by omega) (fun c71 => ?_) (fun c71 => ?_)
          · show qJ YX7_spell κ _ (qLy u, (q_row m 54 f), y) 0 0 78 [some (qR 53), some (qR 15), some (qI a), some (qI (a * 10)), some (qI (m 17 a.toNat)), some (qI z), some (qI tk), some (qI i), some (qI (m 16 (((a * 10) + i).toNat))), some (qI (cV m a i (stA m a i))), some (qI (stA m a i))] []
            refine qJ.run hκ 3 (pc' := 100) (ls' := [some (qR 53), some (qR 15), some (qI a), some (qI (a * 10)), some (qI (m 17 a.toNat)), some (qI z), some (qI 0), some (qI i), some (qI (m 16 (((a * 10) + i).toNat))), some (qI (cV m a i (stA m a i))), some (qI (stA m a i))]) (st' := []) rfl ?_
            have pe : pV m a i = cV m a i (stA m a i) := by unfold pV; rw [if_neg (by omega)]
            have tkn : ((0 : Int) = 1 ∧ 0 < i + 1 ∧ ¬ Lc m a (i + 1 - 1) < 4) ∨ ((0 : Int) = 0 ∧ ¬ (0 < i + 1 ∧ i + 1 < m 17 a.toNat ∧ ¬ Lc m a (i + 1 - 1) < 4 ∧ Lc m a (i + 1) < 4)) := by rw [show i + 1 - 1 = i by omega]; first | exact Or.inl ⟨rfl, by omega, by omega⟩ | (refine Or.inr ⟨rfl, fun q => ?_⟩; omega)
            refine qJ.run hκ 2 (pc' := 103) (ls' := [some (qR 53), some (qR 15), some (qI a), some (qI (a * 10)), some (qI (m 17 a.toNat)), some (qI z), some (qI 0), some (qI i), some (qI (m 16 (((a * 10) + i).toNat))), some (qI (cV m a i (stA m a i))), some (qI (stA m a i))]) (st' := [qI (-1), qI (cV m a i (stA m a i))]) rfl ?_
            refine qJ.icmp_eq hκ (tgt := 120) rfl rfl (by omega) (by omega) (fun c103 => ?_) (fun c103 => ?_)
            · show qJ YX7_spell κ _ (qLy u, (q_row m 54 f), y) 0 0 120 [some (qR 53), some (qR 15), some (qI a), some (qI (a * 10)), some (qI (m 17 a.toNat)), some (qI z), some (qI 0), some (qI i), some (qI (m 16 (((a * 10) + i).toNat))), some (qI (cV m a i (stA m a i))), some (qI (stA m a i))] []
              refine qJ.run hκ 2 (pc' := 22) (ls' := [some (qR 53), some (qR 15), some (qI a), some (qI (a * 10)), some (qI (m 17 a.toNat)), some (qI z), some (qI 0), some (qI (i + 1)), some (qI (m 16 (((a * 10) + i).toNat))), some (qI (cV m a i (stA m a i))), some (qI (stA m a i))]) (st' := []) rfl ?_
              refine qJ.dl [true, true, true, true, true, true, true, true, false, false, false] ?_
              show qJ YX7_spell κ _ (qLy u, (q_row m 54 f), y) 0 0 22 [some (qR 53), some (qR 15), some (qI a), some (qI (a * 10)), some (qI (m 17 a.toNat)), some (qI z), some (qI 0), some (qI (i + 1)), none, none, none] []
              exact qJ.cast (ih22  f z 0 (i + 1) (by omega) (by omega) (by rw [vs, if_neg (fun q => q (by omega))]; omega) (tkn) (⟨v22_4.1, SPv_n v22_4.2 (by omega)⟩) (by omega)) (rfl) rfl rfl
            · show qJ YX7_spell κ _ (qLy u, (q_row m 54 f), y) 0 0 106 [some (qR 53), some (qR 15), some (qI a), some (qI (a * 10)), some (qI (m 17 a.toNat)), some (qI z), some (qI 0), some (qI i), some (qI (m 16 (((a * 10) + i).toNat))), some (qI (cV m a i (stA m a i))), some (qI (stA m a i))] []
              refine qJ.run hκ 6 (pc' := 116) (ls' := [some (qR 53), some (qR 15), some (qI a), some (qI (a * 10)), some (qI (m 17 a.toNat)), some (qI z), some (qI 0), some (qI i), some (qI (m 16 (((a * 10) + i).toNat))), some (qI (cV m a i (stA m a i))), some (qI (stA m a i))]) (st' := [qI (cV m a i (stA m a i)), qI ((a * 10) + z), qR 54]) rfl ?_
              refine qJ.ast hκ rfl rfl rfl (by decide) (by omega) ?_
              refine qJ.mc (m1 := (q_up (q_row m 54 f) 54 (((a * 10) + z).toNat) (cV m a i (stA m a i)))) (m2 := (q_row m 54 (q_fu f (((a * 10) + z).toNat) (cV m a i (stA m a i))))) (by rw [q_up_row_eq]) ?_
              show qJ YX7_spell κ _ (qLy u, (q_row m 54 (q_fu f (((a * 10) + z).toNat) (cV m a i (stA m a i)))), y) 0 0 117 [some (qR 53), some (qR 15), some (qI a), some (qI (a * 10)), some (qI (m 17 a.toNat)), some (qI z), some (qI 0), some (qI i), some (qI (m 16 (((a * 10) + i).toNat))), some (qI (cV m a i (stA m a i))), some (qI (stA m a i))] []
              refine qJ.run hκ 3 (pc' := 22) (ls' := [some (qR 53), some (qR 15), some (qI a), some (qI (a * 10)), some (qI (m 17 a.toNat)), some (qI (z + 1)), some (qI 0), some (qI (i + 1)), some (qI (m 16 (((a * 10) + i).toNat))), some (qI (cV m a i (stA m a i))), some (qI (stA m a i))]) (st' := []) rfl ?_
              refine qJ.dl [true, true, true, true, true, true, true, true, false, false, false] ?_
              show qJ YX7_spell κ _ (qLy u, (q_row m 54 (q_fu f (((a * 10) + z).toNat) (cV m a i (stA m a i)))), y) 0 0 22 [some (qR 53), some (qR 15), some (qI a), some (qI (a * 10)), some (qI (m 17 a.toNat)), some (qI (z + 1)), some (qI 0), some (qI (i + 1)), none, none, none] []
              exact qJ.cast (ih22  (q_fu f (((a * 10) + z).toNat) (cV m a i (stA m a i))) (z + 1) 0 (i + 1) (by omega) (by omega) (by rw [vs, if_pos (by omega)]; omega) (tkn) (⟨fun j hj => by rw [q_fu_ne (by omega)]; exact v22_4.1 j hj, by rw [v22_2]; exact SPv_y v22_4.2 (by omega) (by omega) pe⟩) (by omega)) (rfl) rfl rfl
          · show qJ YX7_spell κ _ (qLy u, (q_row m 54 f), y) 0 0 74 [some (qR 53), some (qR 15), some (qI a), some (qI (a * 10)), some (qI (m 17 a.toNat)), some (qI z), some (qI tk), some (qI i), some (qI (m 16 (((a * 10) + i).toNat))), some (qI (cV m a i (stA m a i))), some (qI (stA m a i))] []
            refine qJ.run hκ 4 (pc' := 100) (ls' := [some (qR 53), some (qR 15), some (qI a), some (qI (a * 10)), some (qI (m 17 a.toNat)), some (qI z), some (qI 1), some (qI i), some (qI (m 16 (((a * 10) + i).toNat))), some (qI (cV m a i (stA m a i))), some (qI (stA m a i))]) (st' := []) rfl ?_
            have pe : pV m a i = cV m a i (stA m a i) := by unfold pV; rw [if_neg (by omega)]
            have tkn : ((1 : Int) = 1 ∧ 0 < i + 1 ∧ ¬ Lc m a (i + 1 - 1) < 4) ∨ ((1 : Int) = 0 ∧ ¬ (0 < i + 1 ∧ i + 1 < m 17 a.toNat ∧ ¬ Lc m a (i + 1 - 1) < 4 ∧ Lc m a (i + 1) < 4)) := by rw [show i + 1 - 1 = i by omega]; first | exact Or.inl ⟨rfl, by omega, by omega⟩ | (refine Or.inr ⟨rfl, fun q => ?_⟩; omega)
            refine qJ.run hκ 2 (pc' := 103) (ls' := [some (qR 53), some (qR 15), some (qI a), some (qI (a * 10)), some (qI (m 17 a.toNat)), some (qI z), some (qI 1), some (qI i), some (qI (m 16 (((a * 10) + i).toNat))), some (qI (cV m a i (stA m a i))), some (qI (stA m a i))]) (st' := [qI (-1), qI (cV m a i (stA m a i))]) rfl ?_
            refine qJ.icmp_eq hκ (tgt := 120) rfl rfl (by omega) (by omega) (fun c103 => ?_) (fun c103 => ?_)
            · show qJ YX7_spell κ _ (qLy u, (q_row m 54 f), y) 0 0 120 [some (qR 53), some (qR 15), some (qI a), some (qI (a * 10)), some (qI (m 17 a.toNat)), some (qI z), some (qI 1), some (qI i), some (qI (m 16 (((a * 10) + i).toNat))), some (qI (cV m a i (stA m a i))), some (qI (stA m a i))] []
              refine qJ.run hκ 2 (pc' := 22) (ls' := [some (qR 53), some (qR 15), some (qI a), some (qI (a * 10)), some (qI (m 17 a.toNat)), some (qI z), some (qI 1), some (qI (i + 1)), some (qI (m 16 (((a * 10) + i).toNat))), some (qI (cV m a i (stA m a i))), some (qI (stA m a i))]) (st' := []) rfl ?_
              refine qJ.dl [true, true, true, true, true, true, true, true, false, false, false] ?_
              show qJ YX7_spell κ _ (qLy u, (q_row m 54 f), y) 0 0 22 [some (qR 53), some (qR 15), some (qI a), some (qI (a * 10)), some (qI (m 17 a.toNat)), some (qI z), some (qI 1), some (qI (i + 1)), none, none, none] []
              exact qJ.cast (ih22  f z 1 (i + 1) (by omega) (by omega) (by rw [vs, if_neg (fun q => q (by omega))]; omega) (tkn) (⟨v22_4.1, SPv_n v22_4.2 (by omega)⟩) (by omega)) (rfl) rfl rfl
            · show qJ YX7_spell κ _ (qLy u, (q_row m 54 f), y) 0 0 106 [some (qR 53), some (qR 15), some (qI a), some (qI (a * 10)), some (qI (m 17 a.toNat)), some (qI z), some (qI 1), some (qI i), some (qI (m 16 (((a * 10) + i).toNat))), some (qI (cV m a i (stA m a i))), some (qI (stA m a i))] []
              refine qJ.run hκ 6 (pc' := 116) (ls' := [some (qR 53), some (qR 15), some (qI a), some (qI (a * 10)), some (qI (m 17 a.toNat)), some (qI z), some (qI 1), some (qI i), some (qI (m 16 (((a * 10) + i).toNat))), some (qI (cV m a i (stA m a i))), some (qI (stA m a i))]) (st' := [qI (cV m a i (stA m a i)), qI ((a * 10) + z), qR 54]) rfl ?_
              refine qJ.ast hκ rfl rfl rfl (by decide) (by omega) ?_
              refine qJ.mc (m1 := (q_up (q_row m 54 f) 54 (((a * 10) + z).toNat) (cV m a i (stA m a i)))) (m2 := (q_row m 54 (q_fu f (((a * 10) + z).toNat) (cV m a i (stA m a i))))) (by rw [q_up_row_eq]) ?_
              show qJ YX7_spell κ _ (qLy u, (q_row m 54 (q_fu f (((a * 10) + z).toNat) (cV m a i (stA m a i)))), y) 0 0 117 [some (qR 53), some (qR 15), some (qI a), some (qI (a * 10)), some (qI (m 17 a.toNat)), some (qI z), some (qI 1), some (qI i), some (qI (m 16 (((a * 10) + i).toNat))), some (qI (cV m a i (stA m a i))), some (qI (stA m a i))] []
              refine qJ.run hκ 3 (pc' := 22) (ls' := [some (qR 53), some (qR 15), some (qI a), some (qI (a * 10)), some (qI (m 17 a.toNat)), some (qI (z + 1)), some (qI 1), some (qI (i + 1)), some (qI (m 16 (((a * 10) + i).toNat))), some (qI (cV m a i (stA m a i))), some (qI (stA m a i))]) (st' := []) rfl ?_
              refine qJ.dl [true, true, true, true, true, true, true, true, false, false, false] ?_
              show qJ YX7_spell κ _ (qLy u, (q_row m 54 (q_fu f (((a * 10) + z).toNat) (cV m a i (stA m a i)))), y) 0 0 22 [some (qR 53), some (qR 15), some (qI a), some (qI (a * 10)), some (qI (m 17 a.toNat)), some (qI (z + 1)), some (qI 1), some (qI (i + 1)), none, none, none] []
              exact qJ.cast (ih22  (q_fu f (((a * 10) + z).toNat) (cV m a i (stA m a i))) (z + 1) 1 (i + 1) (by omega) (by omega) (by rw [vs, if_pos (by omega)]; omega) (tkn) (⟨fun j hj => by rw [q_fu_ne (by omega)]; exact v22_4.1 j hj, by rw [v22_2]; exact SPv_y v22_4.2 (by omega) (by omega) pe⟩) (by omega)) (rfl) rfl rfl
  show qJ YX7_spell κ _ (qLy u, m, y) 0 0 0 [some (qR 53), some (qR 15), some (qI a), none, none, none, none, none, none, none, none] []
  refine qJ.run hκ 7 (pc' := 10) (ls' := [some (qR 53), some (qR 15), some (qI a), some (qI (a * 10)), none, none, none, none, none, none, none]) (st' := [qI a, qR 17]) rfl ?_
  refine qJ.ald hκ rfl rfl rfl (by decide) (by omega) ?_
  show qJ YX7_spell κ _ (qLy u, m, y) 0 0 11 [some (qR 53), some (qR 15), some (qI a), some (qI (a * 10)), none, none, none, none, none, none, none] [qI (m 17 a.toNat)]
  refine qJ.run hκ 7 (pc' := 22) (ls' := [some (qR 53), some (qR 15), some (qI a), some (qI (a * 10)), some (qI (m 17 a.toNat)), some (qI 0), some (qI 0), some (qI 0), none, none, none]) (st' := []) rfl ?_
  exact qJ.cast (L22 12 (m 54) 0 0 0 (by omega) (by omega) (rfl) (Or.inr ⟨rfl, by omega⟩) (⟨fun j _ => rfl, fun j h1 h2 => by omega⟩) (by omega)) (by rw [q_row_self]) rfl rfl

/-! printed by p87.py: the class keeps a reading; how a list of readings is walked -/
def kKp : Nat → Nat → Bool := fun i _ => decide (i = 57 ∨ i = 58)
theorem hC_lvF {D : qD} {r l : Nat} {ch : Nat → Int} {i : Nat} : ∀ n, hC (lvF D (LV D r (l + 1)) l ch n) l (i : Int) = if i < n then ((ftI D (LV D r (l + 1)) l (q_fu ch l (i : Int))).length : Nat) else 0
  | 0 => by rw [if_neg (Nat.not_lt_zero i)]; rfl
  | n + 1 => by
    unfold lvF
    rw [hC_app, hC_lvF n]
    have bl : ∀ R, R ∈ ftI D (LV D r (l + 1)) l (q_fu ch l (n : Int)) → R l = (n : Int) := by
      intro R hR
      by_cases e : ftL D (q_fu ch l (n : Int)) l
      · rw [ftI_y e] at hR
        exact ((LV_mem r (l + 1) _ hR).1 l (by omega)).trans q_fu_eq
      · rw [ftI_n e] at hR; exact absurd hR List.not_mem_nil
    by_cases e : i = n
    · subst e
      rw [if_neg (Nat.lt_irrefl i), if_pos (Nat.lt_succ_self i), hC_all bl]; omega
    · rw [hC_none (B := ftI D (LV D r (l + 1)) l (q_fu ch l (n : Int))) (fun R hR z => by have := bl R hR; omega)]
      by_cases c : i < n
      · rw [if_pos c, if_pos (by omega)]; omega
      · rw [if_neg c, if_neg (by omega)]; omega
theorem lvF_at {D : qD} {G : (Nat → Int) → List (Nat → Int)} {l : Nat} {ch R : Nat → Int} {i n k : Nat} (hi : i < n) (h : (ftI D G l (q_fu ch l (i : Int)))[k]? = some R) : (lvF D G l ch n)[(lvF D G l ch i).length + k]? = some R := by
  have e := lvFT (D := D) (G := G) (l := l) (ch := ch) (n - (i + 1)) (i + 1)
  rw [show i + 1 + (n - (i + 1)) = n by omega] at e
  have hk : k < (ftI D G l (q_fu ch l (i : Int))).length := by
    by_cases c : k < (ftI D G l (q_fu ch l (i : Int))).length
    · exact c
    · rw [List.getElem?_eq_none (by omega)] at h; exact absurd h (by intro z; cases z)
  rw [e]
  have e2 : lvF D G l ch (i + 1) = lvF D G l ch i ++ ftI D G l (q_fu ch l (i : Int)) := rfl
  rw [List.getElem?_append_left (by rw [e2, List.length_append]; omega), e2, List.getElem?_append_right (by omega), Nat.add_sub_cancel_left]
  exact h
theorem lvF_le {D : qD} {G : (Nat → Int) → List (Nat → Int)} {l : Nat} {ch : Nat → Int} {i n : Nat} (hi : i ≤ n) : (lvF D G l ch i).length ≤ (lvF D G l ch n).length := by
  have e := lvFT (D := D) (G := G) (l := l) (ch := ch) (n - i) i
  rw [show i + (n - i) = n by omega] at e
  rw [e, List.length_append]; omega
/-- what is kept of a reading, from a level on -/
def KT (D : qD) (l : Nat) (R : Nat → Int) (M : qM) : Prop := (∀ s : Nat, s < 20 → M 58 s = VM D R (dN D).toNat s) ∧ ∀ a : Nat, a < 5 → ((∀ e : Nat, l ≤ e → (e : Int) < dN D → M 71 e = (a : Int) → M 57 a = M 68 (R e).toNat) ∧ ((∀ e : Nat, l ≤ e → (e : Int) < dN D → ¬ M 71 e = (a : Int)) → M 57 a = -1))
def sgS (D : qD) (M : qM) : Prop := ∀ e : Nat, (e : Int) < dN D → (0 ≤ M 71 e ∧ M 71 e < 5) ∧ ∀ e' : Nat, e' < e → ¬ M 71 e' = M 71 e
theorem KT_last {D : qD} {l : Nat} {R : Nat → Int} {m m' : qM} (hl : (l : Int) + 1 = dN D) (hs : sgS D m) (hA : aS D (VM D R (dN D).toNat) m) (h71 : m' 71 = m 71 ∧ m' 68 = m 68) (h57 : ∃ f : Nat → Int, (∀ a : Nat, a < 5 → f a = -1) ∧ m' 57 = q_fu f (m 71 l).toNat (m 68 (R l).toNat)) (h58 : ∀ s : Nat, s < 20 → m' 58 s = m 60 s) : KT D l R m' := by
  obtain ⟨f, f1, f2⟩ := h57
  refine ⟨fun s hs2 => (h58 s hs2).trans (hA.1.1 s hs2).1, fun a ha => ?_⟩
  rw [h71.1, h71.2, f2]
  have s0 := (hs l (by omega)).1
  refine ⟨fun e e1 e2 e3 => ?_, fun z => ?_⟩
  · have ee : e = l := by omega
    subst ee
    rw [show (m 71 e).toNat = a by omega, q_fu_eq]
  · have : ¬ a = (m 71 l).toNat := fun y => z l (Nat.le_refl l) (by omega) (by omega)
    rw [q_fu_ne this]
    exact f1 a ha
theorem KT_more {D : qD} {l : Nat} {R : Nat → Int} {m m' : qM} (hl : (l : Int) + 1 < dN D) (hs : sgS D m) (hk : KT D (l + 1) R m) (h71 : m' 71 = m 71 ∧ m' 68 = m 68) (h57 : m' 57 = q_fu (m 57) (m 71 l).toNat (m 68 (R l).toNat)) (h58 : m' 58 = m 58) : KT D l R m' := by
  refine ⟨fun s hs2 => by rw [h58]; exact hk.1 s hs2, fun a ha => ?_⟩
  rw [h71.1, h71.2, h57]
  have s0 := (hs l (by omega)).1
  have k := hk.2 a ha
  refine ⟨fun e e1 e2 e3 => ?_, fun z => ?_⟩
  · by_cases c : e = l
    · subst c
      rw [show (m 71 e).toNat = a by omega, q_fu_eq]
    · have d := (hs e e2).2 l (by omega)
      have : ¬ a = (m 71 l).toNat := fun y => d (by omega)
      rw [q_fu_ne this]
      exact k.1 e (by omega) e2 e3
  · have : ¬ a = (m 71 l).toNat := fun y => z l (Nat.le_refl l) (by omega) (by omega)
    rw [q_fu_ne this]
    exact k.2 (fun e e1 e2 => z e (by omega) e2)

set_option maxRecDepth 100000 in
theorem c_keep (u : qU) (m y : qM) (z i : Int) (hz : 0 ≤ z ∧ z < m 56 14) (hn : m 56 14 ≤ 5) (hi : 0 ≤ i ∧ i < 12) (hs : 0 ≤ m 71 z.toNat ∧ m 71 z.toNat < 5) : qCt YX6_keep 2 0 0 [qR 56, qI z, qI i] (qLy u, m, y) (fun r h => r = none ∧ ∃ m', h = (qLy u, m', y) ∧ keep (kN kKp) m' = keep (kN kKp) m ∧ ((z = m 56 14 - 1 ∧ (∃ f : Nat → Int, (∀ a : Nat, a < 5 → f a = -1) ∧ m' 57 = q_fu f (m 71 z.toNat).toNat (m 68 i.toNat)) ∧ ∀ s : Nat, s < 20 → m' 58 s = m 60 s) ∨ (¬ z = m 56 14 - 1 ∧ m' 57 = q_fu (m 57) (m 71 z.toNat).toNat (m 68 i.toNat) ∧ m' 58 = m 58))) := by
  refine qCt.intro okX6_keep (Nat.le_of_ble_eq_true rfl) (fun κ hκ => ?_)
  show qJ YX6_keep κ _ (qLy u, m, y) 0 0 0 [some (qR 56), some (qI z), some (qI i)] []
  refine qJ.run hκ 5 (pc' := 7) (ls' := [some (qR 56), some (qI z), some (qI i)]) (st' := [qI ((m 56 14) - 1), qI z]) rfl ?_
  refine qJ.icmp_ne hκ (tgt := 36) rfl rfl (by omega) (by omega) (fun c7 => ?_) (fun c7 => ?_)
  · show qJ YX6_keep κ _ (qLy u, m, y) 0 0 36 [some (qR 56), some (qI z), some (qI i)] []
    refine qJ.run hκ 5 (pc' := 45) (ls' := [some (qR 56), some (qI z), some (qI i)]) (st' := [qI z, qR 71, qR 57]) rfl ?_
    refine qJ.ald hκ rfl rfl rfl (by decide) (by omega) ?_
    show qJ YX6_keep κ _ (qLy u, m, y) 0 0 46 [some (qR 56), some (qI z), some (qI i)] [qI (m 71 z.toNat), qR 57]
    refine qJ.run hκ 3 (pc' := 51) (ls' := [some (qR 56), some (qI z), some (qI i)]) (st' := [qI i, qR 68, qI (m 71 z.toNat), qR 57]) rfl ?_
    refine qJ.ald hκ rfl rfl rfl (by decide) (by omega) ?_
    show qJ YX6_keep κ _ (qLy u, m, y) 0 0 52 [some (qR 56), some (qI z), some (qI i)] [qI (m 68 i.toNat), qI (m 71 z.toNat), qR 57]
    refine qJ.ast hκ rfl rfl rfl (by decide) (by omega) ?_
    show qJ YX6_keep κ _ (qLy u, (q_up m 57 ((m 71 z.toNat).toNat) (m 68 i.toNat)), y) 0 0 53 [some (qR 56), some (qI z), some (qI i)] []
    exact qJ.vret hκ rfl rfl (by decide) (by decide) (⟨rfl, _, rfl, keep_up (by rfl), Or.inr ⟨c7, q_up_fu, rfl⟩⟩)
  · show qJ YX6_keep κ _ (qLy u, m, y) 0 0 10 [some (qR 56), some (qI z), some (qI i)] []
    refine qJ.run hκ 3 (pc' := 15) (ls' := [some (qR 56), some (qI z), some (qI i)]) (st' := [qI (-1), qR 57]) rfl ?_
    refine qJ.callS (As := [qR 57, qI (-1)]) (rest := []) hκ rfl kX6_81 (c_fill57 u m y (-1)) (by decide) rfl rfl (Nat.le_of_ble_eq_true rfl) (Nat.le_of_ble_eq_true rfl) (Nat.le_of_ble_eq_true rfl) (Or.inl (fun r h' e => by obtain ⟨rfl, rfl⟩ := e; rfl)) (fun r h' e => ?_)
    obtain ⟨rfl, rfl⟩ := e
    show qJ YX6_keep κ _ (qLy u, (q_row m 57 (fun k => if k < 5 then (-1) else m 57 k)), y) 0 0 18 [some (qR 56), some (qI z), some (qI i)] []
    refine qJ.run hκ 8 (pc' := 33) (ls' := [some (qR 56), some (qI z), some (qI i)]) (st' := [qI 20, qI 0, qR 58, qI 0, qR 60]) rfl ?_
    refine qJ.copy hκ rfl kX6_149 (Nat.le_of_ble_eq_true rfl) (Nat.le_of_ble_eq_true rfl) rfl rfl (by decide) (by decide) (by omega) (by omega) (by omega) (by omega) (by omega) (Or.inl rfl) ?_
    show qJ YX6_keep κ _ (qLy u, (q_cpy (q_row m 57 (fun k => if k < 5 then (-1) else m 57 k)) 60 0 58 0 20), y) 0 0 36 [some (qR 56), some (qI z), some (qI i)] []
    refine qJ.run hκ 5 (pc' := 45) (ls' := [some (qR 56), some (qI z), some (qI i)]) (st' := [qI z, qR 71, qR 57]) rfl ?_
    refine qJ.ald hκ rfl rfl rfl (by decide) (by omega) ?_
    show qJ YX6_keep κ _ (qLy u, (q_cpy (q_row m 57 (fun k => if k < 5 then (-1) else m 57 k)) 60 0 58 0 20), y) 0 0 46 [some (qR 56), some (qI z), some (qI i)] [qI (m 71 z.toNat), qR 57]
    refine qJ.run hκ 3 (pc' := 51) (ls' := [some (qR 56), some (qI z), some (qI i)]) (st' := [qI i, qR 68, qI (m 71 z.toNat), qR 57]) rfl ?_
    refine qJ.ald hκ rfl rfl rfl (by decide) (by omega) ?_
    show qJ YX6_keep κ _ (qLy u, (q_cpy (q_row m 57 (fun k => if k < 5 then (-1) else m 57 k)) 60 0 58 0 20), y) 0 0 52 [some (qR 56), some (qI z), some (qI i)] [qI (m 68 i.toNat), qI (m 71 z.toNat), qR 57]
    refine qJ.ast hκ rfl rfl rfl (by decide) (by omega) ?_
    show qJ YX6_keep κ _ (qLy u, (q_up (q_cpy (q_row m 57 (fun k => if k < 5 then (-1) else m 57 k)) 60 0 58 0 20) 57 ((m 71 z.toNat).toNat) (m 68 i.toNat)), y) 0 0 53 [some (qR 56), some (qI z), some (qI i)] []
    exact qJ.vret hκ rfl rfl (by decide) (by decide) (by
      refine ⟨rfl, _, rfl, ?_, Or.inl ⟨c7, ⟨fun k => if k < 5 then -1 else m 57 k, fun a ha => if_pos ha, ?_⟩, fun t ht => ?_⟩⟩
      · exact Eq.trans (keep_up (by rfl)) (Eq.trans (keep_cp (by intro j; rfl)) (keep_row (by intro j; rfl)))
      · rw [q_up_fu]
        rfl
      · show q_cpy (q_row m 57 (fun k => if k < 5 then -1 else m 57 k)) 60 0 58 0 20 58 t = _
        rw [q_cpy_at, if_pos ⟨by omega, by omega⟩]
        show m 60 (0 + (t - 0)) = m 60 t
        rw [Nat.zero_add, Nat.sub_zero])

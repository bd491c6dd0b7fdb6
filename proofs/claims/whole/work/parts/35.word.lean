/-! printed by p35.py: word -/
theorem q_up_row {m : qM} {a k : Nat} {v : Int} : q_up m a k v = q_row m a (q_fu (m a) k v) := by
  rw [← q_up_row_eq, q_row_self]
theorem q_up5 {m : qM} {r : Nat} {a b c d e : Int} : q_up (q_up (q_up (q_up (q_up m r 0 a) r 1 b) r 2 c) r 3 d) r 4 e = q_row m r (q_fu (q_fu (q_fu (q_fu (q_fu (m r) 0 a) 1 b) 2 c) 3 d) 4 e) := by
  rw [q_up_row (m := m), q_up_row_eq, q_up_row_eq, q_up_row_eq, q_up_row_eq]
/-- five given numbers -/
def wv (a b c d e : Int) : Nat → Int := fun k => if k = 0 then a else if k = 1 then b else if k = 2 then c else if k = 3 then d else e
theorem wv_fu {f : Nat → Int} {a b c d e : Int} : ∀ k : Nat, k < 5 → q_fu (q_fu (q_fu (q_fu (q_fu f 0 a) 1 b) 2 c) 3 d) 4 e k = wv a b c d e k := by
  intro k hk
  have : k = 0 ∨ k = 1 ∨ k = 2 ∨ k = 3 ∨ k = 4 := by omega
  rcases this with rfl | rfl | rfl | rfl | rfl <;> rfl
theorem wv_r {a b c d e : Int} (ha : qr a) (hb : qr b) (hc : qr c) (hd : qr d) (he : qr e) (k : Nat) : qr (wv a b c d e k) := by
  unfold wv
  split
  · exact ha
  · split
    · exact hb
    · split
      · exact hc
      · split
        · exact hd
        · exact he
/-- n signs, then nothing -/
def wOK (g : Nat → Int) (n : Int) : Prop := (0 ≤ n ∧ n ≤ 5) ∧ (∀ k : Nat, (k : Int) < n → 0 ≤ g k ∧ g k ≤ 20) ∧ ∀ k : Nat, n ≤ (k : Int) → k < 5 → g k = -1
theorem wOK_u {g : Nat → Int} {n n' : Int} (h : wOK g n) (h' : wOK g n') : n = n' := by
  obtain ⟨a1, a2, a3⟩ := h
  obtain ⟨b1, b2, b3⟩ := h'
  by_cases e : n = n'
  · exact e
  · exfalso
    by_cases z : n < n'
    · have := a3 n.toNat (by omega) (by omega)
      have := b2 n.toNat (by omega)
      omega
    · have := b3 n'.toNat (by omega) (by omega)
      have := a2 n'.toNat (by omega)
      omega
theorem wOK_c {g g' : Nat → Int} {n : Int} (h : ∀ k : Nat, k < 5 → g k = g' k) (hw : wOK g n) : wOK g' n := by
  obtain ⟨a1, a2, a3⟩ := hw
  exact ⟨a1, fun k hk => by rw [← h k (by omega)]; exact a2 k hk, fun k hk h5 => by rw [← h k h5]; exact a3 k hk h5⟩
abbrev wG (g : Nat → Int) (n : Int) : Prop := q_cnt (fun k => g k = 20) n.toNat ≤ 1
theorem wG_c {g g' : Nat → Int} {n : Int} (hn : n ≤ 5) (h : ∀ k : Nat, k < 5 → g k = g' k) : wG g n ↔ wG g' n := by
  unfold wG
  rw [q_cnt_c (p := fun k => g k = 20) (q := fun k => g' k = 20) n.toNat (fun k hk => by rw [h k (by omega)])]
theorem wBad {g : Nat → Int} {i len : Int} (h0 : 0 ≤ len ∧ len ≤ i ∧ i < 5) (h1 : ∀ k : Nat, len ≤ (k : Int) → (k : Int) < i → g k = -1) (hi : ¬ g i.toNat = -1) (hb : ¬ i = len ∨ ¬ (0 ≤ g i.toNat ∧ g i.toNat ≤ 20)) : ∀ n : Int, ¬ wOK g n := by
  rintro n ⟨b1, b2, b3⟩
  by_cases z : i < n
  · have h3 := b2 i.toNat (by omega)
    rcases hb with q | q
    · have h4 := b2 len.toNat (by omega)
      have h5 := h1 len.toNat (by omega) (by omega)
      omega
    · exact q h3
  · exact hi (b3 i.toNat (by omega) (by omega))
theorem lst_u {p : Nat → Prop} [DecidablePred p] {n : Nat} (h : q_cnt p n ≤ 1) {i : Nat} (hi : i < n) (hp : p i) : q_lst p n = (i : Int) := by
  induction n with
  | zero => omega
  | succ n ih =>
    have e : q_cnt p (n + 1) = q_cnt p n + (if p n then 1 else 0) := rfl
    have e2 : q_lst p (n + 1) = if p n then (n : Int) else q_lst p n := rfl
    by_cases z : p n
    · rw [if_pos z] at e e2
      by_cases q : i = n
      · subst q; exact e2
      · exfalso
        exact q_cnt_pos (p := p) (i := (i : Int)) (n := n) (by omega) (by omega) (by rw [show ((i : Int)).toNat = i by omega]; exact hp) (by omega)
    · rw [if_neg z] at e e2
      rw [e2]
      refine ih (by omega) ?_
      by_cases q : i = n
      · subst q; exact absurd hp z
      · omega
theorem lst_p {p : Nat → Prop} [DecidablePred p] : ∀ n, ¬ q_lst p n = -1 → p (q_lst p n).toNat
  | 0, h => absurd rfl h
  | n + 1, h => by
    have e2 : q_lst p (n + 1) = if p n then (n : Int) else q_lst p n := rfl
    by_cases z : p n
    · rw [if_pos z] at e2
      rw [e2, show ((n : Int)).toNat = n by omega]; exact z
    · rw [if_neg z] at e2
      rw [e2] at h ⊢
      exact lst_p n h

set_option maxRecDepth 100000 in
theorem c_givenLength (u : qU) (m y : qM) (hg : ∀ k : Nat, k < 5 → qr (m 23 k)) : qCt YX11_givenLength 2 0 0 [qR 0] (qLy u, m, y) (fun r h => h = (qLy u, m, y) ∧ ∃ z : Int, r = some (qI z) ∧ ((1 ≤ z ∧ wOK (m 23) z ∧ wG (m 23) z) ∨ (z = 0 ∧ ∀ n : Int, 1 ≤ n → wOK (m 23) n → ¬ wG (m 23) n))) := by
  refine qCt.intro okX11_givenLength (Nat.le_of_ble_eq_true rfl) (fun κ hκ => ?_)
  have L6 : ∀ (n : Nat) (l : Int) (gp : Int) (i : Int), (0 ≤ i) → (i ≤ 5) → (0 ≤ l ∧ l ≤ i) → (∀ k : Nat, (k : Int) < l → 0 ≤ m 23 k ∧ m 23 k ≤ 20) → (∀ k : Nat, l ≤ (k : Int) → (k : Int) < i → m 23 k = -1) → (gp = (q_cnt (fun k => m 23 k = 20) l.toNat : Nat)) → ((5 - i).toNat) < n → qJ YX11_givenLength κ (qFin (fun r h => h = (qLy u, m, y) ∧ ∃ z : Int, r = some (qI z) ∧ ((1 ≤ z ∧ wOK (m 23) z ∧ wG (m 23) z) ∨ (z = 0 ∧ ∀ n : Int, 1 ≤ n → wOK (m 23) n → ¬ wG (m 23) n))) 0 0 κ) (qLy u, m, y) 0 0 6 [some (qR 0), some (qI l), some (qI gp), some (qI i), none] [] := by
    intro n
    induction n with
    | zero => intro l gp i _ _ _ _ _ _ hz0; omega
    | succ n ih6 =>
      intro l gp i v6_0 v6_1 v6_2 v6_3 v6_4 v6_5 v6_m
      have cl := q_cnt_le (fun k => m 23 k = 20) l.toNat
      refine qJ.run hκ 4 (pc' := 12) (ls' := [some (qR 0), some (qI l), some (qI gp), some (qI i), none]) (st' := [qI 5, qI i]) rfl ?_
      refine qJ.icmp_ge hκ (tgt := 78) rfl rfl (by omega) (by omega) (fun c12 => ?_) (fun c12 => ?_)
      · show qJ YX11_givenLength κ _ (qLy u, m, y) 0 0 78 [some (qR 0), some (qI l), some (qI gp), some (qI i), none] []
        have okl : wOK (m 23) l := ⟨by omega, v6_3, fun k h1 h2 => v6_4 k h1 (by omega)⟩
        refine qJ.run hκ 2 (pc' := 80) (ls' := [some (qR 0), some (qI l), some (qI gp), some (qI i), none]) (st' := [qI 1, qI gp]) rfl ?_
        refine qJ.icmp_le hκ (tgt := 87) rfl rfl (by omega) (by omega) (fun c80 => ?_) (fun c80 => ?_)
        · show qJ YX11_givenLength κ _ (qLy u, m, y) 0 0 87 [some (qR 0), some (qI l), some (qI gp), some (qI i), none] []
          refine qJ.run hκ 1 (pc' := 88) (ls' := [some (qR 0), some (qI l), some (qI gp), some (qI i), none]) (st' := [qI l]) rfl ?_
          exact qJ.iret hκ rfl rfl (by decide) (by decide) (⟨rfl, l, rfl, by by_cases q : 1 ≤ l; exact Or.inl ⟨q, okl, by unfold wG; omega⟩; exact Or.inr ⟨by omega, fun n n1 hn => by have e := wOK_u hn okl; omega⟩⟩)
        · show qJ YX11_givenLength κ _ (qLy u, m, y) 0 0 83 [some (qR 0), some (qI l), some (qI gp), some (qI i), none] []
          refine qJ.run hκ 2 (pc' := 88) (ls' := [some (qR 0), some (qI l), some (qI gp), some (qI i), none]) (st' := [qI 0]) rfl ?_
          exact qJ.iret hκ rfl rfl (by decide) (by decide) (⟨rfl, 0, rfl, Or.inr ⟨rfl, fun n _ hn hG => by have e := wOK_u hn okl; subst e; unfold wG at hG; omega⟩⟩)
      · show qJ YX11_givenLength κ _ (qLy u, m, y) 0 0 15 [some (qR 0), some (qI l), some (qI gp), some (qI i), none] []
        have q1 := hg i.toNat (by omega)
        have it := q_ite01 (0 ≤ m 23 i.toNat ∧ m 23 i.toNat ≤ 19)
        have cl := q_cnt_le (fun k => m 23 k = 20) l.toNat
        refine qJ.run hκ 3 (pc' := 20) (ls' := [some (qR 0), some (qI l), some (qI gp), some (qI i), none]) (st' := [qI i, qR 23]) rfl ?_
        refine qJ.ald hκ rfl rfl rfl (by decide) (by omega) ?_
        show qJ YX11_givenLength κ _ (qLy u, m, y) 0 0 21 [some (qR 0), some (qI l), some (qI gp), some (qI i), none] [qI (m 23 i.toNat)]
        refine qJ.run hκ 3 (pc' := 26) (ls' := [some (qR 0), some (qI l), some (qI gp), some (qI i), some (qI (m 23 i.toNat))]) (st' := [qI (-1), qI (m 23 i.toNat)]) rfl ?_
        refine qJ.icmp_ne hκ (tgt := 32) rfl rfl (by omega) (by omega) (fun c26 => ?_) (fun c26 => ?_)
        · show qJ YX11_givenLength κ _ (qLy u, m, y) 0 0 32 [some (qR 0), some (qI l), some (qI gp), some (qI i), some (qI (m 23 i.toNat))] []
          refine qJ.run hκ 2 (pc' := 34) (ls' := [some (qR 0), some (qI l), some (qI gp), some (qI i), some (qI (m 23 i.toNat))]) (st' := [qI l, qI i]) rfl ?_
          refine qJ.icmp_ne hκ (tgt := 52) rfl rfl (by omega) (by omega) (fun c34 => ?_) (fun c34 => ?_)
          · show qJ YX11_givenLength κ _ (qLy u, m, y) 0 0 52 [some (qR 0), some (qI l), some (qI gp), some (qI i), some (qI (m 23 i.toNat))] []
            refine qJ.run hκ 1 (pc' := 53) (ls' := [some (qR 0), some (qI l), some (qI gp), some (qI i), some (qI (m 23 i.toNat))]) (st' := [qI 0]) rfl ?_
            exact qJ.iret hκ rfl rfl (by decide) (by decide) (⟨rfl, 0, rfl, Or.inr ⟨rfl, fun n _ hn => absurd hn (wBad (i := i) (len := l) (by omega) v6_4 (by omega) (by first | exact Or.inl (by omega) | exact Or.inr (fun z => by have : ¬ (0 ≤ m 23 i.toNat ∧ m 23 i.toNat ≤ 19) := (fun q => by rw [if_pos q] at c42; exact absurd c42 (by decide)); omega)) n)⟩⟩)
          · show qJ YX11_givenLength κ _ (qLy u, m, y) 0 0 37 [some (qR 0), some (qI l), some (qI gp), some (qI i), some (qI (m 23 i.toNat))] []
            refine qJ.run hκ 1 (pc' := 39) (ls' := [some (qR 0), some (qI l), some (qI gp), some (qI i), some (qI (m 23 i.toNat))]) (st' := [qI (m 23 i.toNat)]) rfl ?_
            refine qJ.callS (As := [qI (m 23 i.toNat)]) (rest := []) hκ rfl kX11_162 (c_isSign u m y (m 23 i.toNat) (by omega)) (by decide) rfl rfl (Nat.le_of_ble_eq_true rfl) (Nat.le_of_ble_eq_true rfl) (Nat.le_of_ble_eq_true rfl) (Or.inl (fun r h' e => by obtain ⟨rfl, rfl⟩ := e; rfl)) (fun r h' e => ?_)
            obtain ⟨rfl, rfl⟩ := e
            show qJ YX11_givenLength κ _ (qLy u, m, y) 0 0 42 [some (qR 0), some (qI l), some (qI gp), some (qI i), some (qI (m 23 i.toNat))] [qI (if 0 ≤ (m 23 i.toNat) ∧ (m 23 i.toNat) ≤ 19 then 1 else 0)]
            refine qJ.if_ne hκ (tgt := 54) rfl rfl (by omega) (fun c42 => ?_) (fun c42 => ?_)
            · show qJ YX11_givenLength κ _ (qLy u, m, y) 0 0 54 [some (qR 0), some (qI l), some (qI gp), some (qI i), some (qI (m 23 i.toNat))] []
              have rg0 : 0 ≤ m 23 i.toNat ∧ m 23 i.toNat ≤ 19 := by by_cases z : 0 ≤ m 23 i.toNat ∧ m 23 i.toNat ≤ 19; exact z; rw [if_neg z] at c42; exact absurd rfl c42
              have rg : 0 ≤ m 23 i.toNat ∧ m 23 i.toNat ≤ 20 := by omega
              refine qJ.run hκ 4 (pc' := 62) (ls' := [some (qR 0), some (qI (l + 1)), some (qI gp), some (qI i), some (qI (m 23 i.toNat))]) (st' := [qI 20, qI (m 23 i.toNat), qI gp]) rfl ?_
              refine qJ.icmp_ne hκ (tgt := 69) rfl rfl (by omega) (by omega) (fun c62 => ?_) (fun c62 => ?_)
              · show qJ YX11_givenLength κ _ (qLy u, m, y) 0 0 69 [some (qR 0), some (qI (l + 1)), some (qI gp), some (qI i), some (qI (m 23 i.toNat))] [qI gp]
                refine qJ.run hκ 5 (pc' := 6) (ls' := [some (qR 0), some (qI (l + 1)), some (qI (gp + 0)), some (qI (i + 1)), some (qI (m 23 i.toNat))]) (st' := []) rfl ?_
                refine qJ.dl [true, true, true, true, false] ?_
                show qJ YX11_givenLength κ _ (qLy u, m, y) 0 0 6 [some (qR 0), some (qI (l + 1)), some (qI (gp + 0)), some (qI (i + 1)), none] []
                exact ih6  (l + 1) (gp + 0) (i + 1) (by omega) (by omega) (by omega) (fun k hk => by by_cases q : (k : Int) < l; exact v6_3 k q; rw [show k = i.toNat by omega]; omega) (fun k h1 h2 => by omega) (by rw [q_cnt_s v6_2.1, if_neg (by rw [show l.toNat = i.toNat by omega]; exact c62)]; omega) (by omega)
              · show qJ YX11_givenLength κ _ (qLy u, m, y) 0 0 65 [some (qR 0), some (qI (l + 1)), some (qI gp), some (qI i), some (qI (m 23 i.toNat))] [qI gp]
                refine qJ.run hκ 6 (pc' := 6) (ls' := [some (qR 0), some (qI (l + 1)), some (qI (gp + 1)), some (qI (i + 1)), some (qI (m 23 i.toNat))]) (st' := []) rfl ?_
                refine qJ.dl [true, true, true, true, false] ?_
                show qJ YX11_givenLength κ _ (qLy u, m, y) 0 0 6 [some (qR 0), some (qI (l + 1)), some (qI (gp + 1)), some (qI (i + 1)), none] []
                exact ih6  (l + 1) (gp + 1) (i + 1) (by omega) (by omega) (by omega) (fun k hk => by by_cases q : (k : Int) < l; exact v6_3 k q; rw [show k = i.toNat by omega]; omega) (fun k h1 h2 => by omega) (by rw [q_cnt_s v6_2.1, if_pos (by rw [show l.toNat = i.toNat by omega]; exact c62)]; omega) (by omega)
            · show qJ YX11_givenLength κ _ (qLy u, m, y) 0 0 45 [some (qR 0), some (qI l), some (qI gp), some (qI i), some (qI (m 23 i.toNat))] []
              refine qJ.run hκ 2 (pc' := 49) (ls' := [some (qR 0), some (qI l), some (qI gp), some (qI i), some (qI (m 23 i.toNat))]) (st' := [qI 20, qI (m 23 i.toNat)]) rfl ?_
              refine qJ.icmp_eq hκ (tgt := 54) rfl rfl (by omega) (by omega) (fun c49 => ?_) (fun c49 => ?_)
              · show qJ YX11_givenLength κ _ (qLy u, m, y) 0 0 54 [some (qR 0), some (qI l), some (qI gp), some (qI i), some (qI (m 23 i.toNat))] []
                have rg : 0 ≤ m 23 i.toNat ∧ m 23 i.toNat ≤ 20 := by omega
                refine qJ.run hκ 4 (pc' := 62) (ls' := [some (qR 0), some (qI (l + 1)), some (qI gp), some (qI i), some (qI (m 23 i.toNat))]) (st' := [qI 20, qI (m 23 i.toNat), qI gp]) rfl ?_
                refine qJ.icmp_ne hκ (tgt := 69) rfl rfl (by omega) (by omega) (fun c62 => ?_) (fun c62 => ?_)
                · show qJ YX11_givenLength κ _ (qLy u, m, y) 0 0 69 [some (qR 0), some (qI (l + 1)), some (qI gp), some (qI i), some (qI (m 23 i.toNat))] [qI gp]
                  refine qJ.run hκ 5 (pc' := 6) (ls' := [some (qR 0), some (qI (l + 1)), some (qI (gp + 0)), some (qI (i + 1)), some (qI (m 23 i.toNat))]) (st' := []) rfl ?_
                  refine qJ.dl [true, true, true, true, false] ?_
                  show qJ YX11_givenLength κ _ (qLy u, m, y) 0 0 6 [some (qR 0), some (qI (l + 1)), some (qI (gp + 0)), some (qI (i + 1)), none] []
                  exact ih6  (l + 1) (gp + 0) (i + 1) (by omega) (by omega) (by omega) (fun k hk => by by_cases q : (k : Int) < l; exact v6_3 k q; rw [show k = i.toNat by omega]; omega) (fun k h1 h2 => by omega) (by rw [q_cnt_s v6_2.1, if_neg (by rw [show l.toNat = i.toNat by omega]; exact c62)]; omega) (by omega)
                · show qJ YX11_givenLength κ _ (qLy u, m, y) 0 0 65 [some (qR 0), some (qI (l + 1)), some (qI gp), some (qI i), some (qI (m 23 i.toNat))] [qI gp]
                  refine qJ.run hκ 6 (pc' := 6) (ls' := [some (qR 0), some (qI (l + 1)), some (qI (gp + 1)), some (qI (i + 1)), some (qI (m 23 i.toNat))]) (st' := []) rfl ?_
                  refine qJ.dl [true, true, true, true, false] ?_
                  show qJ YX11_givenLength κ _ (qLy u, m, y) 0 0 6 [some (qR 0), some (qI (l + 1)), some (qI (gp + 1)), some (qI (i + 1)), none] []
                  exact ih6  (l + 1) (gp + 1) (i + 1) (by omega) (by omega) (by omega) (fun k hk => by by_cases q : (k : Int) < l; exact v6_3 k q; rw [show k = i.toNat by omega]; omega) (fun k h1 h2 => by omega) (by rw [q_cnt_s v6_2.1, if_pos (by rw [show l.toNat = i.toNat by omega]; exact c62)]; omega) (by omega)
              · show qJ YX11_givenLength κ _ (qLy u, m, y) 0 0 52 [some (qR 0), some (qI l), some (qI gp), some (qI i), some (qI (m 23 i.toNat))] []
                refine qJ.run hκ 1 (pc' := 53) (ls' := [some (qR 0), some (qI l), some (qI gp), some (qI i), some (qI (m 23 i.toNat))]) (st' := [qI 0]) rfl ?_
                exact qJ.iret hκ rfl rfl (by decide) (by decide) (⟨rfl, 0, rfl, Or.inr ⟨rfl, fun n _ hn => absurd hn (wBad (i := i) (len := l) (by omega) v6_4 (by omega) (by first | exact Or.inl (by omega) | exact Or.inr (fun z => by have : ¬ (0 ≤ m 23 i.toNat ∧ m 23 i.toNat ≤ 19) := (fun q => by rw [if_pos q] at c42; exact absurd c42 (by decide)); omega)) n)⟩⟩)
        · show qJ YX11_givenLength κ _ (qLy u, m, y) 0 0 29 [some (qR 0), some (qI l), some (qI gp), some (qI i), some (qI (m 23 i.toNat))] []
          refine qJ.run hκ 3 (pc' := 6) (ls' := [some (qR 0), some (qI l), some (qI gp), some (qI (i + 1)), some (qI (m 23 i.toNat))]) (st' := []) rfl ?_
          refine qJ.dl [true, true, true, true, false] ?_
          show qJ YX11_givenLength κ _ (qLy u, m, y) 0 0 6 [some (qR 0), some (qI l), some (qI gp), some (qI (i + 1)), none] []
          exact ih6  l gp (i + 1) (by omega) (by omega) (by omega) (v6_3) (fun k h1 h2 => by by_cases q : (k : Int) < i; exact v6_4 k h1 q; rw [show k = i.toNat by omega]; exact c26) (v6_5) (by omega)
  show qJ YX11_givenLength κ _ (qLy u, m, y) 0 0 0 [some (qR 0), none, none, none, none] []
  refine qJ.run hκ 6 (pc' := 6) (ls' := [some (qR 0), some (qI 0), some (qI 0), some (qI 0), none]) (st' := []) rfl ?_
  exact L6 6 0 0 0 (by omega) (by omega) (by omega) (fun k hk => by omega) (fun k h1 h2 => by omega) (rfl) (by omega)

set_option maxRecDepth 100000 in
theorem c_add (u : qU) (m y : qM) (l b st dy : Int) (h0 : 0 ≤ m 2 0 ∧ m 2 0 < 60) (h2 : 0 ≤ m 2 2 ∧ m 2 2 < 150) (hl : 0 ≤ l ∧ l ≤ 5) (hb : b = 0 ∨ b = 1) (hg : ∀ k : Nat, k < 5 → qr (m 23 k)) : qCt YX1_add 2 0 0 [qR 2, qR 23, qI l, qI b, qI st, qI dy] (qLy u, m, y) (fun r h => r = some (qI (m 2 0)) ∧ ∃ f g, h = (qLy u, (q_up (q_up (q_up (q_up (q_up (q_up (q_up (q_up (q_up (q_up (q_row (q_row m 5 g) 3 f) 4 ((m 2 0).toNat) l) 6 ((m 2 0).toNat) st) 7 ((m 2 0).toNat) dy) 8 ((m 2 0).toNat) b) 2 1 (m 2 1 + b)) 2 0 (m 2 0 + 1)) 9 ((m 2 2).toNat) (m 2 0)) 10 ((m 2 2).toNat) (-1)) 11 ((m 2 2).toNat) dy) 2 2 (m 2 2 + 1)), y) ∧ ((∀ j : Nat, (j : Int) < m 2 0 * 5 → f j = m 3 j) ∧ (∀ j : Int, 0 ≤ j → j < l → f (m 2 0 * 5 + j).toNat = m 23 j.toNat)) ∧ ((∀ j : Nat, ¬ j = (m 2 0).toNat → g j = m 5 j) ∧ g (m 2 0).toNat = q_lst (fun k => m 23 k = 20) l.toNat)) := by
  refine qCt.intro okX1_add (Nat.le_of_ble_eq_true rfl) (fun κ hκ => ?_)
  have L17 : ∀ (n : Nat) (g : Nat → Int) (f : Nat → Int) (i : Int), (0 ≤ i) → (i ≤ l) → ((∀ j : Nat, (j : Int) < m 2 0 * 5 → f j = m 3 j) ∧ (∀ j : Int, 0 ≤ j → j < i → f (m 2 0 * 5 + j).toNat = m 23 j.toNat)) → ((∀ j : Nat, ¬ j = (m 2 0).toNat → g j = m 5 j) ∧ g (m 2 0).toNat = q_lst (fun k => m 23 k = 20) i.toNat) → ((l - i).toNat) < n → qJ YX1_add κ (qFin (fun r h => r = some (qI (m 2 0)) ∧ ∃ f g, h = (qLy u, (q_up (q_up (q_up (q_up (q_up (q_up (q_up (q_up (q_up (q_up (q_row (q_row m 5 g) 3 f) 4 ((m 2 0).toNat) l) 6 ((m 2 0).toNat) st) 7 ((m 2 0).toNat) dy) 8 ((m 2 0).toNat) b) 2 1 (m 2 1 + b)) 2 0 (m 2 0 + 1)) 9 ((m 2 2).toNat) (m 2 0)) 10 ((m 2 2).toNat) (-1)) 11 ((m 2 2).toNat) dy) 2 2 (m 2 2 + 1)), y) ∧ ((∀ j : Nat, (j : Int) < m 2 0 * 5 → f j = m 3 j) ∧ (∀ j : Int, 0 ≤ j → j < l → f (m 2 0 * 5 + j).toNat = m 23 j.toNat)) ∧ ((∀ j : Nat, ¬ j = (m 2 0).toNat → g j = m 5 j) ∧ g (m 2 0).toNat = q_lst (fun k => m 23 k = 20) l.toNat)) 0 0 κ) (qLy u, (q_row (q_row m 5 g) 3 f), y) 0 0 17 [some (qR 2), some (qR 23), some (qI l), some (qI b), some (qI st), some (qI dy), some (qI (m 2 0)), some (qI i)] [] := by
    intro n
    induction n with
    | zero => intro g f i _ _ _ _ hz0; omega
    | succ n ih17 =>
      intro g f i v17_0 v17_1 v17_2 v17_3 v17_m
      refine qJ.run hκ 2 (pc' := 20) (ls' := [some (qR 2), some (qR 23), some (qI l), some (qI b), some (qI st), some (qI dy), some (qI (m 2 0)), some (qI i)]) (st' := [qI l, qI i]) rfl ?_
      refine qJ.icmp_ge hκ (tgt := 63) rfl rfl (by omega) (by omega) (fun c20 => ?_) (fun c20 => ?_)
      · show qJ YX1_add κ _ (qLy u, (q_row (q_row m 5 g) 3 f), y) 0 0 63 [some (qR 2), some (qR 23), some (qI l), some (qI b), some (qI st), some (qI dy), some (qI (m 2 0)), some (qI i)] []
        refine qJ.run hκ 4 (pc' := 70) (ls' := [some (qR 2), some (qR 23), some (qI l), some (qI b), some (qI st), some (qI dy), some (qI (m 2 0)), some (qI i)]) (st' := [qI l, qI (m 2 0), qR 4]) rfl ?_
        refine qJ.ast hκ rfl rfl rfl (by decide) (by omega) ?_
        show qJ YX1_add κ _ (qLy u, (q_up (q_row (q_row m 5 g) 3 f) 4 ((m 2 0).toNat) l), y) 0 0 71 [some (qR 2), some (qR 23), some (qI l), some (qI b), some (qI st), some (qI dy), some (qI (m 2 0)), some (qI i)] []
        refine qJ.run hκ 4 (pc' := 79) (ls' := [some (qR 2), some (qR 23), some (qI l), some (qI b), some (qI st), some (qI dy), some (qI (m 2 0)), some (qI i)]) (st' := [qI st, qI (m 2 0), qR 6]) rfl ?_
        refine qJ.ast hκ rfl rfl rfl (by decide) (by omega) ?_
        show qJ YX1_add κ _ (qLy u, (q_up (q_up (q_row (q_row m 5 g) 3 f) 4 ((m 2 0).toNat) l) 6 ((m 2 0).toNat) st), y) 0 0 80 [some (qR 2), some (qR 23), some (qI l), some (qI b), some (qI st), some (qI dy), some (qI (m 2 0)), some (qI i)] []
        refine qJ.run hκ 4 (pc' := 88) (ls' := [some (qR 2), some (qR 23), some (qI l), some (qI b), some (qI st), some (qI dy), some (qI (m 2 0)), some (qI i)]) (st' := [qI dy, qI (m 2 0), qR 7]) rfl ?_
        refine qJ.ast hκ rfl rfl rfl (by decide) (by omega) ?_
        show qJ YX1_add κ _ (qLy u, (q_up (q_up (q_up (q_row (q_row m 5 g) 3 f) 4 ((m 2 0).toNat) l) 6 ((m 2 0).toNat) st) 7 ((m 2 0).toNat) dy), y) 0 0 89 [some (qR 2), some (qR 23), some (qI l), some (qI b), some (qI st), some (qI dy), some (qI (m 2 0)), some (qI i)] []
        refine qJ.run hκ 4 (pc' := 96) (ls' := [some (qR 2), some (qR 23), some (qI l), some (qI b), some (qI st), some (qI dy), some (qI (m 2 0)), some (qI i)]) (st' := [qI b, qI (m 2 0), qR 8]) rfl ?_
        refine qJ.if_eq hκ (tgt := 103) rfl rfl (by omega) (fun c96 => ?_) (fun c96 => ?_)
        · show qJ YX1_add κ _ (qLy u, (q_up (q_up (q_up (q_row (q_row m 5 g) 3 f) 4 ((m 2 0).toNat) l) 6 ((m 2 0).toNat) st) 7 ((m 2 0).toNat) dy), y) 0 0 103 [some (qR 2), some (qR 23), some (qI l), some (qI b), some (qI st), some (qI dy), some (qI (m 2 0)), some (qI i)] [qI (m 2 0), qR 8]
          refine qJ.run hκ 1 (pc' := 104) (ls' := [some (qR 2), some (qR 23), some (qI l), some (qI b), some (qI st), some (qI dy), some (qI (m 2 0)), some (qI i)]) (st' := [qI 0, qI (m 2 0), qR 8]) rfl ?_
          refine qJ.ast hκ rfl rfl rfl (by decide) (by omega) ?_
          show qJ YX1_add κ _ (qLy u, (q_up (q_up (q_up (q_up (q_row (q_row m 5 g) 3 f) 4 ((m 2 0).toNat) l) 6 ((m 2 0).toNat) st) 7 ((m 2 0).toNat) dy) 8 ((m 2 0).toNat) 0), y) 0 0 105 [some (qR 2), some (qR 23), some (qI l), some (qI b), some (qI st), some (qI dy), some (qI (m 2 0)), some (qI i)] []
          refine qJ.run hκ 6 (pc' := 116) (ls' := [some (qR 2), some (qR 23), some (qI l), some (qI b), some (qI st), some (qI dy), some (qI (m 2 0)), some (qI i)]) (st' := [qI (m 2 0), qR 8, qI (m 2 1), qR 2]) rfl ?_
          refine qJ.ald hκ rfl rfl rfl (by decide) (by omega) ?_
          show qJ YX1_add κ _ (qLy u, (q_up (q_up (q_up (q_up (q_row (q_row m 5 g) 3 f) 4 ((m 2 0).toNat) l) 6 ((m 2 0).toNat) st) 7 ((m 2 0).toNat) dy) 8 ((m 2 0).toNat) 0), y) 0 0 117 [some (qR 2), some (qR 23), some (qI l), some (qI b), some (qI st), some (qI dy), some (qI (m 2 0)), some (qI i)] [qI ((q_up (q_up (q_up (q_up (q_row (q_row m 5 g) 3 f) 4 ((m 2 0).toNat) l) 6 ((m 2 0).toNat) st) 7 ((m 2 0).toNat) dy) 8 ((m 2 0).toNat) 0) 8 ((m 2 0).toNat)), qI (m 2 1), qR 2]
          rw [show (q_up (q_up (q_up (q_up (q_row (q_row m 5 g) 3 f) 4 ((m 2 0).toNat) l) 6 ((m 2 0).toNat) st) 7 ((m 2 0).toNat) dy) 8 ((m 2 0).toNat) 0) 8 ((m 2 0).toNat) = 0 from by show (q_up (q_up (q_up (q_up (q_row (q_row m 5 g) 3 f) 4 ((m 2 0).toNat) l) 6 ((m 2 0).toNat) st) 7 ((m 2 0).toNat) dy) 8 ((m 2 0).toNat) 0) 8 ((m 2 0).toNat) = _; exact q_up_eq]
          show qJ YX1_add κ _ (qLy u, (q_up (q_up (q_up (q_up (q_row (q_row m 5 g) 3 f) 4 ((m 2 0).toNat) l) 6 ((m 2 0).toNat) st) 7 ((m 2 0).toNat) dy) 8 ((m 2 0).toNat) 0), y) 0 0 117 [some (qR 2), some (qR 23), some (qI l), some (qI b), some (qI st), some (qI dy), some (qI (m 2 0)), some (qI i)] [qI 0, qI (m 2 1), qR 2]
          refine qJ.run hκ 1 (pc' := 118) (ls' := [some (qR 2), some (qR 23), some (qI l), some (qI b), some (qI st), some (qI dy), some (qI (m 2 0)), some (qI i)]) (st' := [qI ((m 2 1) + 0), qR 2]) rfl ?_
          refine qJ.putI hκ rfl rfl rfl rfl (Or.inl rfl) ?_
          show qJ YX1_add κ _ (qLy u, (q_up (q_up (q_up (q_up (q_up (q_row (q_row m 5 g) 3 f) 4 ((m 2 0).toNat) l) 6 ((m 2 0).toNat) st) 7 ((m 2 0).toNat) dy) 8 ((m 2 0).toNat) 0) 2 1 ((m 2 1) + 0)), y) 0 0 121 [some (qR 2), some (qR 23), some (qI l), some (qI b), some (qI st), some (qI dy), some (qI (m 2 0)), some (qI i)] []
          refine qJ.run hκ 5 (pc' := 128) (ls' := [some (qR 2), some (qR 23), some (qI l), some (qI b), some (qI st), some (qI dy), some (qI (m 2 0)), some (qI i)]) (st' := [qI ((m 2 0) + 1), qR 2]) rfl ?_
          refine qJ.putI hκ rfl rfl rfl rfl (Or.inl rfl) ?_
          show qJ YX1_add κ _ (qLy u, (q_up (q_up (q_up (q_up (q_up (q_up (q_row (q_row m 5 g) 3 f) 4 ((m 2 0).toNat) l) 6 ((m 2 0).toNat) st) 7 ((m 2 0).toNat) dy) 8 ((m 2 0).toNat) 0) 2 1 ((m 2 1) + 0)) 2 0 ((m 2 0) + 1)), y) 0 0 131 [some (qR 2), some (qR 23), some (qI l), some (qI b), some (qI st), some (qI dy), some (qI (m 2 0)), some (qI i)] []
          refine qJ.run hκ 4 (pc' := 137) (ls' := [some (qR 2), some (qR 23), some (qI l), some (qI b), some (qI st), some (qI dy), some (qI (m 2 0)), some (qI i)]) (st' := [qI dy, qI (-1), qI (m 2 0), qR 2]) rfl ?_
          refine qJ.callV (As := [qI (m 2 0), qI (-1), qI dy]) (rest := []) hκ rfl kX1_49 (c_addTelling u (q_up (q_up (q_up (q_up (q_up (q_up (q_row (q_row m 5 g) 3 f) 4 ((m 2 0).toNat) l) 6 ((m 2 0).toNat) st) 7 ((m 2 0).toNat) dy) 8 ((m 2 0).toNat) 0) 2 1 ((m 2 1) + 0)) 2 0 ((m 2 0) + 1)) y (m 2 0) (-1) dy (show 0 ≤ m 2 2 ∧ m 2 2 < 150 from by omega)) rfl rfl (by decide) rfl rfl (Nat.le_of_ble_eq_true rfl) (Nat.le_of_ble_eq_true rfl) (Nat.le_of_ble_eq_true rfl) (Or.inl (fun r h' e => by obtain ⟨rfl, rfl⟩ := e; rfl)) (fun r h' e => ?_)
          obtain ⟨rfl, rfl⟩ := e
          show qJ YX1_add κ _ (qLy u, (q_up (q_up (q_up (q_up (q_up (q_up (q_up (q_up (q_up (q_up (q_row (q_row m 5 g) 3 f) 4 ((m 2 0).toNat) l) 6 ((m 2 0).toNat) st) 7 ((m 2 0).toNat) dy) 8 ((m 2 0).toNat) 0) 2 1 ((m 2 1) + 0)) 2 0 ((m 2 0) + 1)) 9 ((m 2 2).toNat) (m 2 0)) 10 ((m 2 2).toNat) (-1)) 11 ((m 2 2).toNat) dy) 2 2 (m 2 2 + 1)), y) 0 0 140 [some (qR 2), some (qR 23), some (qI l), some (qI b), some (qI st), some (qI dy), some (qI (m 2 0)), some (qI i)] [qI (m 2 2)]
          refine qJ.run hκ 2 (pc' := 143) (ls' := [some (qR 2), some (qR 23), some (qI l), some (qI b), some (qI st), some (qI dy), some (qI (m 2 0)), some (qI i)]) (st' := [qI (m 2 0)]) rfl ?_
          exact qJ.iret hκ rfl rfl (by decide) (by decide) (by rcases hb with rfl | rfl <;> first | (exfalso; omega) | exact ⟨rfl, f, g, rfl, by rw [show l = i by omega]; exact v17_2, by rw [show l = i by omega]; exact v17_3⟩)
        · show qJ YX1_add κ _ (qLy u, (q_up (q_up (q_up (q_row (q_row m 5 g) 3 f) 4 ((m 2 0).toNat) l) 6 ((m 2 0).toNat) st) 7 ((m 2 0).toNat) dy), y) 0 0 99 [some (qR 2), some (qR 23), some (qI l), some (qI b), some (qI st), some (qI dy), some (qI (m 2 0)), some (qI i)] [qI (m 2 0), qR 8]
          refine qJ.run hκ 2 (pc' := 104) (ls' := [some (qR 2), some (qR 23), some (qI l), some (qI b), some (qI st), some (qI dy), some (qI (m 2 0)), some (qI i)]) (st' := [qI 1, qI (m 2 0), qR 8]) rfl ?_
          refine qJ.ast hκ rfl rfl rfl (by decide) (by omega) ?_
          show qJ YX1_add κ _ (qLy u, (q_up (q_up (q_up (q_up (q_row (q_row m 5 g) 3 f) 4 ((m 2 0).toNat) l) 6 ((m 2 0).toNat) st) 7 ((m 2 0).toNat) dy) 8 ((m 2 0).toNat) 1), y) 0 0 105 [some (qR 2), some (qR 23), some (qI l), some (qI b), some (qI st), some (qI dy), some (qI (m 2 0)), some (qI i)] []
          refine qJ.run hκ 6 (pc' := 116) (ls' := [some (qR 2), some (qR 23), some (qI l), some (qI b), some (qI st), some (qI dy), some (qI (m 2 0)), some (qI i)]) (st' := [qI (m 2 0), qR 8, qI (m 2 1), qR 2]) rfl ?_
          refine qJ.ald hκ rfl rfl rfl (by decide) (by omega) ?_
          show qJ YX1_add κ _ (qLy u, (q_up (q_up (q_up (q_up (q_row (q_row m 5 g) 3 f) 4 ((m 2 0).toNat) l) 6 ((m 2 0).toNat) st) 7 ((m 2 0).toNat) dy) 8 ((m 2 0).toNat) 1), y) 0 0 117 [some (qR 2), some (qR 23), some (qI l), some (qI b), some (qI st), some (qI dy), some (qI (m 2 0)), some (qI i)] [qI ((q_up (q_up (q_up (q_up (q_row (q_row m 5 g) 3 f) 4 ((m 2 0).toNat) l) 6 ((m 2 0).toNat) st) 7 ((m 2 0).toNat) dy) 8 ((m 2 0).toNat) 1) 8 ((m 2 0).toNat)), qI (m 2 1), qR 2]
          rw [show (q_up (q_up (q_up (q_up (q_row (q_row m 5 g) 3 f) 4 ((m 2 0).toNat) l) 6 ((m 2 0).toNat) st) 7 ((m 2 0).toNat) dy) 8 ((m 2 0).toNat) 1) 8 ((m 2 0).toNat) = 1 from by show (q_up (q_up (q_up (q_up (q_row (q_row m 5 g) 3 f) 4 ((m 2 0).toNat) l) 6 ((m 2 0).toNat) st) 7 ((m 2 0).toNat) dy) 8 ((m 2 0).toNat) 1) 8 ((m 2 0).toNat) = _; exact q_up_eq]
          show qJ YX1_add κ _ (qLy u, (q_up (q_up (q_up (q_up (q_row (q_row m 5 g) 3 f) 4 ((m 2 0).toNat) l) 6 ((m 2 0).toNat) st) 7 ((m 2 0).toNat) dy) 8 ((m 2 0).toNat) 1), y) 0 0 117 [some (qR 2), some (qR 23), some (qI l), some (qI b), some (qI st), some (qI dy), some (qI (m 2 0)), some (qI i)] [qI 1, qI (m 2 1), qR 2]
          refine qJ.run hκ 1 (pc' := 118) (ls' := [some (qR 2), some (qR 23), some (qI l), some (qI b), some (qI st), some (qI dy), some (qI (m 2 0)), some (qI i)]) (st' := [qI ((m 2 1) + 1), qR 2]) rfl ?_
          refine qJ.putI hκ rfl rfl rfl rfl (Or.inl rfl) ?_
          show qJ YX1_add κ _ (qLy u, (q_up (q_up (q_up (q_up (q_up (q_row (q_row m 5 g) 3 f) 4 ((m 2 0).toNat) l) 6 ((m 2 0).toNat) st) 7 ((m 2 0).toNat) dy) 8 ((m 2 0).toNat) 1) 2 1 ((m 2 1) + 1)), y) 0 0 121 [some (qR 2), some (qR 23), some (qI l), some (qI b), some (qI st), some (qI dy), some (qI (m 2 0)), some (qI i)] []
          refine qJ.run hκ 5 (pc' := 128) (ls' := [some (qR 2), some (qR 23), some (qI l), some (qI b), some (qI st), some (qI dy), some (qI (m 2 0)), some (qI i)]) (st' := [qI ((m 2 0) + 1), qR 2]) rfl ?_
          refine qJ.putI hκ rfl rfl rfl rfl (Or.inl rfl) ?_
          show qJ YX1_add κ _ (qLy u, (q_up (q_up (q_up (q_up (q_up (q_up (q_row (q_row m 5 g) 3 f) 4 ((m 2 0).toNat) l) 6 ((m 2 0).toNat) st) 7 ((m 2 0).toNat) dy) 8 ((m 2 0).toNat) 1) 2 1 ((m 2 1) + 1)) 2 0 ((m 2 0) + 1)), y) 0 0 131 [some (qR 2), some (qR 23), some (qI l), some (qI b), some (qI st), some (qI dy), some (qI (m 2 0)), some (qI i)] []
          refine qJ.run hκ 4 (pc' := 137) (ls' := [some (qR 2), some (qR 23), some (qI l), some (qI b), some (qI st), some (qI dy), some (qI (m 2 0)), some (qI i)]) (st' := [qI dy, qI (-1), qI (m 2 0), qR 2]) rfl ?_
          refine qJ.callV (As := [qI (m 2 0), qI (-1), qI dy]) (rest := []) hκ rfl kX1_49 (c_addTelling u (q_up (q_up (q_up (q_up (q_up (q_up (q_row (q_row m 5 g) 3 f) 4 ((m 2 0).toNat) l) 6 ((m 2 0).toNat) st) 7 ((m 2 0).toNat) dy) 8 ((m 2 0).toNat) 1) 2 1 ((m 2 1) + 1)) 2 0 ((m 2 0) + 1)) y (m 2 0) (-1) dy (show 0 ≤ m 2 2 ∧ m 2 2 < 150 from by omega)) rfl rfl (by decide) rfl rfl (Nat.le_of_ble_eq_true rfl) (Nat.le_of_ble_eq_true rfl) (Nat.le_of_ble_eq_true rfl) (Or.inl (fun r h' e => by obtain ⟨rfl, rfl⟩ := e; rfl)) (fun r h' e => ?_)
          obtain ⟨rfl, rfl⟩ := e
          show qJ YX1_add κ _ (qLy u, (q_up (q_up (q_up (q_up (q_up (q_up (q_up (q_up (q_up (q_up (q_row (q_row m 5 g) 3 f) 4 ((m 2 0).toNat) l) 6 ((m 2 0).toNat) st) 7 ((m 2 0).toNat) dy) 8 ((m 2 0).toNat) 1) 2 1 ((m 2 1) + 1)) 2 0 ((m 2 0) + 1)) 9 ((m 2 2).toNat) (m 2 0)) 10 ((m 2 2).toNat) (-1)) 11 ((m 2 2).toNat) dy) 2 2 (m 2 2 + 1)), y) 0 0 140 [some (qR 2), some (qR 23), some (qI l), some (qI b), some (qI st), some (qI dy), some (qI (m 2 0)), some (qI i)] [qI (m 2 2)]
          refine qJ.run hκ 2 (pc' := 143) (ls' := [some (qR 2), some (qR 23), some (qI l), some (qI b), some (qI st), some (qI dy), some (qI (m 2 0)), some (qI i)]) (st' := [qI (m 2 0)]) rfl ?_
          exact qJ.iret hκ rfl rfl (by decide) (by decide) (by rcases hb with rfl | rfl <;> first | (exfalso; omega) | exact ⟨rfl, f, g, rfl, by rw [show l = i by omega]; exact v17_2, by rw [show l = i by omega]; exact v17_3⟩)
      · show qJ YX1_add κ _ (qLy u, (q_row (q_row m 5 g) 3 f), y) 0 0 23 [some (qR 2), some (qR 23), some (qI l), some (qI b), some (qI st), some (qI dy), some (qI (m 2 0)), some (qI i)] []
        refine qJ.run hκ 9 (pc' := 37) (ls' := [some (qR 2), some (qR 23), some (qI l), some (qI b), some (qI st), some (qI dy), some (qI (m 2 0)), some (qI i)]) (st' := [qI i, qR 23, qI (((m 2 0) * 5) + i), qR 3]) rfl ?_
        refine qJ.ald hκ rfl rfl rfl (by decide) (by omega) ?_
        show qJ YX1_add κ _ (qLy u, (q_row (q_row m 5 g) 3 f), y) 0 0 38 [some (qR 2), some (qR 23), some (qI l), some (qI b), some (qI st), some (qI dy), some (qI (m 2 0)), some (qI i)] [qI (m 23 i.toNat), qI (((m 2 0) * 5) + i), qR 3]
        refine qJ.ast hκ rfl rfl rfl (by decide) (by omega) ?_
        refine qJ.mc (m1 := (q_up (q_row (q_row m 5 g) 3 f) 3 ((((m 2 0) * 5) + i).toNat) (m 23 i.toNat))) (m2 := (q_row (q_row m 5 g) 3 (q_fu f ((((m 2 0) * 5) + i).toNat) (m 23 i.toNat)))) (by rw [q_up_row_eq]) ?_
        show qJ YX1_add κ _ (qLy u, (q_row (q_row m 5 g) 3 (q_fu f ((((m 2 0) * 5) + i).toNat) (m 23 i.toNat))), y) 0 0 39 [some (qR 2), some (qR 23), some (qI l), some (qI b), some (qI st), some (qI dy), some (qI (m 2 0)), some (qI i)] []
        have q1 := hg i.toNat (by omega)
        have fst2 : (∀ j : Nat, (j : Int) < m 2 0 * 5 → q_fu f (m 2 0 * 5 + i).toNat (m 23 i.toNat) j = m 3 j) ∧ (∀ j : Int, 0 ≤ j → j < i + 1 → q_fu f (m 2 0 * 5 + i).toNat (m 23 i.toNat) (m 2 0 * 5 + j).toNat = m 23 j.toNat) := ⟨fun j hj => by rw [q_fu_ne (by omega)]; exact v17_2.1 j hj, fun j h1 h2 => by by_cases e : j = i; subst e; rw [q_fu_eq]; rw [q_fu_ne (by omega)]; exact v17_2.2 j h1 (by omega)⟩
        refine qJ.run hκ 2 (pc' := 42) (ls' := [some (qR 2), some (qR 23), some (qI l), some (qI b), some (qI st), some (qI dy), some (qI (m 2 0)), some (qI i)]) (st' := [qI i, qR 23]) rfl ?_
        refine qJ.ald hκ rfl rfl rfl (by decide) (by omega) ?_
        show qJ YX1_add κ _ (qLy u, (q_row (q_row m 5 g) 3 (q_fu f ((((m 2 0) * 5) + i).toNat) (m 23 i.toNat))), y) 0 0 43 [some (qR 2), some (qR 23), some (qI l), some (qI b), some (qI st), some (qI dy), some (qI (m 2 0)), some (qI i)] [qI (m 23 i.toNat)]
        refine qJ.run hκ 1 (pc' := 45) (ls' := [some (qR 2), some (qR 23), some (qI l), some (qI b), some (qI st), some (qI dy), some (qI (m 2 0)), some (qI i)]) (st' := [qI 20, qI (m 23 i.toNat)]) rfl ?_
        refine qJ.icmp_ne hκ (tgt := 57) rfl rfl (by omega) (by omega) (fun c45 => ?_) (fun c45 => ?_)
        · show qJ YX1_add κ _ (qLy u, (q_row (q_row m 5 g) 3 (q_fu f ((((m 2 0) * 5) + i).toNat) (m 23 i.toNat))), y) 0 0 57 [some (qR 2), some (qR 23), some (qI l), some (qI b), some (qI st), some (qI dy), some (qI (m 2 0)), some (qI i)] []
          refine qJ.run hκ 2 (pc' := 17) (ls' := [some (qR 2), some (qR 23), some (qI l), some (qI b), some (qI st), some (qI dy), some (qI (m 2 0)), some (qI (i + 1))]) (st' := []) rfl ?_
          exact qJ.cast (ih17  g (q_fu f ((((m 2 0) * 5) + i).toNat) (m 23 i.toNat)) (i + 1) (by omega) (by omega) (fst2) (⟨v17_3.1, by rw [q_lst_s v17_0, if_neg c45]; exact v17_3.2⟩) (by omega)) (rfl) rfl rfl
        · show qJ YX1_add κ _ (qLy u, (q_row (q_row m 5 g) 3 (q_fu f ((((m 2 0) * 5) + i).toNat) (m 23 i.toNat))), y) 0 0 48 [some (qR 2), some (qR 23), some (qI l), some (qI b), some (qI st), some (qI dy), some (qI (m 2 0)), some (qI i)] []
          refine qJ.run hκ 4 (pc' := 56) (ls' := [some (qR 2), some (qR 23), some (qI l), some (qI b), some (qI st), some (qI dy), some (qI (m 2 0)), some (qI i)]) (st' := [qI i, qI (m 2 0), qR 5]) rfl ?_
          refine qJ.ast hκ rfl rfl rfl (by decide) (by omega) ?_
          refine qJ.mc (m1 := (q_up (q_row (q_row m 5 g) 3 (q_fu f ((((m 2 0) * 5) + i).toNat) (m 23 i.toNat))) 5 ((m 2 0).toNat) i)) (m2 := (q_row (q_row m 5 (q_fu g ((m 2 0).toNat) i)) 3 (q_fu f ((((m 2 0) * 5) + i).toNat) (m 23 i.toNat)))) (by rw [q_up_row_ne (a := 5) (b := 3) (by decide), q_up_row_eq]) ?_
          show qJ YX1_add κ _ (qLy u, (q_row (q_row m 5 (q_fu g ((m 2 0).toNat) i)) 3 (q_fu f ((((m 2 0) * 5) + i).toNat) (m 23 i.toNat))), y) 0 0 57 [some (qR 2), some (qR 23), some (qI l), some (qI b), some (qI st), some (qI dy), some (qI (m 2 0)), some (qI i)] []
          refine qJ.run hκ 2 (pc' := 17) (ls' := [some (qR 2), some (qR 23), some (qI l), some (qI b), some (qI st), some (qI dy), some (qI (m 2 0)), some (qI (i + 1))]) (st' := []) rfl ?_
          exact qJ.cast (ih17  (q_fu g ((m 2 0).toNat) i) (q_fu f ((((m 2 0) * 5) + i).toNat) (m 23 i.toNat)) (i + 1) (by omega) (by omega) (fst2) (⟨fun j hj => by rw [q_fu_ne hj]; exact v17_3.1 j hj, by rw [q_lst_s v17_0, if_pos c45, q_fu_eq]⟩) (by omega)) (rfl) rfl rfl
  show qJ YX1_add κ _ (qLy u, m, y) 0 0 0 [some (qR 2), some (qR 23), some (qI l), some (qI b), some (qI st), some (qI dy), none, none] []
  refine qJ.run hκ 7 (pc' := 13) (ls' := [some (qR 2), some (qR 23), some (qI l), some (qI b), some (qI st), some (qI dy), some (qI (m 2 0)), none]) (st' := [qI (-1), qI (m 2 0), qR 5]) rfl ?_
  refine qJ.ast hκ rfl rfl rfl (by decide) (by omega) ?_
  show qJ YX1_add κ _ (qLy u, (q_up m 5 ((m 2 0).toNat) (-1)), y) 0 0 14 [some (qR 2), some (qR 23), some (qI l), some (qI b), some (qI st), some (qI dy), some (qI (m 2 0)), none] []
  refine qJ.run hκ 2 (pc' := 17) (ls' := [some (qR 2), some (qR 23), some (qI l), some (qI b), some (qI st), some (qI dy), some (qI (m 2 0)), some (qI 0)]) (st' := []) rfl ?_
  exact qJ.cast (L17 6 (q_fu (m 5) (m 2 0).toNat (-1)) (m 3) 0 (by omega) (by omega) (⟨fun j _ => rfl, fun j h1 h2 => by omega⟩) (⟨fun j hj => q_fu_ne hj, q_fu_eq⟩) (by omega)) (by rw [q_up_row, q_row_id (m := q_row m 5 (q_fu (m 5) (m 2 0).toNat (-1))) (a := 3) (f := m 3) rfl]) rfl rfl

/-- a word is taken -/
def wA (m : qM) (nm a b c d e : Int) (n : Int) : Prop := (1 ≤ n ∧ wOK (wv a b c d e) n ∧ wG (wv a b c d e) n) ∧ m 2 0 < 60 ∧ m 2 2 < 150 ∧ (nm = 0 ∨ m 2 1 < 12)
def kWd : Nat → Nat → Bool := fun i j => decide (¬ ((2 ≤ i ∧ i ≤ 11) ∨ i = 23 ∨ (i = 0 ∧ 10 ≤ j ∧ j ≤ 14)))
def cWd (m m' : qM) (n nm : Int) (g : Nat → Int) : Prop := keep kWd m' = keep kWd m ∧ (m' 0 10 = 1 ∧ m' 0 11 = 1 ∧ m' 0 12 = 1 ∧ m' 0 13 = 1 ∧ m' 0 14 = 1) ∧ (m' 2 0 = m 2 0 + 1 ∧ m' 2 1 = m 2 1 + nm ∧ m' 2 2 = m 2 2 + 1) ∧
  ((∀ j : Nat, (j : Int) < m 2 0 * 5 → m' 3 j = m 3 j) ∧ (∀ j : Int, 0 ≤ j → j < n → m' 3 (m 2 0 * 5 + j).toNat = g j.toNat)) ∧ ((∀ j : Nat, ¬ j = (m 2 0).toNat → m' 5 j = m 5 j) ∧ m' 5 (m 2 0).toNat = q_lst (fun k => g k = 20) n.toNat) ∧
  (m' 4 = q_fu (m 4) (m 2 0).toNat n ∧ m' 6 = q_fu (m 6) (m 2 0).toNat (m 1 7) ∧ m' 7 = q_fu (m 7) (m 2 0).toNat (m 1 8) ∧ m' 8 = q_fu (m 8) (m 2 0).toNat nm) ∧
  (m' 9 = q_fu (m 9) (m 2 2).toNat (m 2 0) ∧ m' 10 = q_fu (m 10) (m 2 2).toNat (-1) ∧ m' 11 = q_fu (m 11) (m 2 2).toNat (m 1 8))
theorem q_lst_c {p q : Nat → Prop} [DecidablePred p] [DecidablePred q] : ∀ n, (∀ k, k < n → (p k ↔ q k)) → q_lst p n = q_lst q n
  | 0, _ => rfl
  | n + 1, h => by
    have ih := q_lst_c n (fun k hk => h k (by omega))
    have := h n (by omega)
    unfold q_lst
    rw [ih]
    by_cases hp : p n
    · rw [if_pos hp, if_pos (this.mp hp)]
    · rw [if_neg hp, if_neg (fun z => hp (this.mpr z))]
theorem q_up_fu {m : qM} {a k : Nat} {v : Int} : q_up m a k v a = q_fu (m a) k v := by
  funext j
  unfold q_up q_fu
  by_cases h : j = k
  · rw [if_pos ⟨rfl, h⟩, if_pos h]
  · rw [if_neg (fun z => h z.2), if_neg h]

set_option maxRecDepth 100000 in
theorem x_word (u : qU) (m y : qM) (nm a b c d e : Int) (hR : rC m) (hnm : nm = 0 ∨ nm = 1) (ha : qr a) (hb : qr b) (hc : qr c) (hd : qr d) (he : qr e) : qCt YX11_word 4 0 0 [qR 0, qI nm, qI a, qI b, qI c, qI d, qI e] (qLy u, m, y) (fun r h => (∃ n m', r = some (qI (m 2 0)) ∧ wA m nm a b c d e n ∧ h = (qLy u, m', y) ∧ cWd m m' n nm (wv a b c d e)) ∨ (∃ gv, r = some (qI (-1)) ∧ (∀ n, ¬ wA m nm a b c d e n) ∧ h = (qLy u, q_row m 23 gv, y))) := by
  refine qCt.intro okX11_word (Nat.le_of_ble_eq_true rfl) (fun κ hκ => ?_)
  have hR2 := hR
  obtain ⟨⟨⟨a0, a1, a2⟩, ⟨a3, a4, a5⟩, ⟨b0, b1, b2⟩, b3, b4, b5⟩, hW, hRW, hT, hRT, hS⟩ := hR2
  have hV : qr (m 1 9) := by omega
  have zr := gHz_r hR.1
  have nWl := nW_le hR.1
  have nTl := nT_le hR.1
  have hS7 : ∀ k : Int, 0 ≤ k → k < m 2 0 → qr (m 7 k.toNat) := fun k k0 k1 => by have := (hRW k k0 k1).2.1.2.1; omega
  have hS11 : ∀ k : Int, 0 ≤ k → k < m 2 2 → qr (m 11 k.toNat) := fun k k0 k1 => by have := (hRT k k0 k1).2.1; omega
  have hS9 : ∀ k : Int, 0 ≤ k → k < m 2 2 → qr (m 9 k.toNat) := fun k k0 k1 => by have := (hT k k0 k1).2.1; omega
  have hcn : (q_cnt (fun j => m 10 j = -1) (m 2 2).toNat : Nat) ≤ m 2 0 := Int.le_of_eq hS.2.2.1
  obtain ⟨gv, hgv⟩ : ∃ gv, gv = q_fu (q_fu (q_fu (q_fu (q_fu (m 23) 0 a) 1 b) 2 c) 3 d) 4 e := ⟨_, rfl⟩
  have gve : ∀ k : Nat, k < 5 → gv k = wv a b c d e k := by rw [hgv]; exact wv_fu
  have gvr : ∀ k : Nat, k < 5 → qr (gv k) := fun k hk => by rw [gve k hk]; exact wv_r ha hb hc hd he k
  show qJ YX11_word κ _ (qLy u, m, y) 0 0 0 [some (qR 0), some (qI nm), some (qI a), some (qI b), some (qI c), some (qI d), some (qI e), none, none] []
  refine qJ.run hκ 6 (pc' := 9) (ls' := [some (qR 0), some (qI nm), some (qI a), some (qI b), some (qI c), some (qI d), some (qI e), none, none]) (st' := [qI e, qI d, qI c, qI b, qI a, qR 0]) rfl ?_
  refine qJ.callV (As := [qI a, qI b, qI c, qI d, qI e]) (rest := []) hκ rfl kX11_89 (c_give u m y a b c d e) rfl rfl (by decide) rfl rfl (Nat.le_of_ble_eq_true rfl) (Nat.le_of_ble_eq_true rfl) (Nat.le_of_ble_eq_true rfl) (Or.inl (fun r h' e => by obtain ⟨rfl, rfl⟩ := e; rfl)) (fun r h' e => ?_)
  obtain ⟨rfl, rfl⟩ := e
  refine qJ.mc (m1 := (q_up (q_up (q_up (q_up (q_up m 23 0 a) 23 1 b) 23 2 c) 23 3 d) 23 4 e)) (m2 := (q_row m 23 gv)) (by rw [hgv, q_up5]) ?_
  show qJ YX11_word κ _ (qLy u, (q_row m 23 gv), y) 0 0 12 [some (qR 0), some (qI nm), some (qI a), some (qI b), some (qI c), some (qI d), some (qI e), none, none] []
  refine qJ.run hκ 1 (pc' := 13) (ls' := [some (qR 0), some (qI nm), some (qI a), some (qI b), some (qI c), some (qI d), some (qI e), none, none]) (st' := [qR 0]) rfl ?_
  refine qJ.callV (As := []) (rest := []) hκ rfl kX11_93 (c_givenLength u (q_row m 23 gv) y gvr) rfl rfl (by decide) rfl rfl (Nat.le_of_ble_eq_true rfl) (Nat.le_of_ble_eq_true rfl) (Nat.le_of_ble_eq_true rfl) (Or.inl (fun r h' e => by obtain ⟨rfl, z, rfl, hz0⟩ := e; rfl)) (fun r h' e => ?_)
  obtain ⟨rfl, z, rfl, hz0⟩ := e
  show qJ YX11_word κ _ (qLy u, (q_row m 23 gv), y) 0 0 16 [some (qR 0), some (qI nm), some (qI a), some (qI b), some (qI c), some (qI d), some (qI e), none, none] [qI z]
  have hz : (1 ≤ z ∧ wOK gv z ∧ wG gv z) ∨ (z = 0 ∧ ∀ n : Int, 1 ≤ n → wOK gv n → ¬ wG gv n) := hz0
  have zr1 : 0 ≤ z ∧ z ≤ 5 := by rcases hz with q | q; exact q.2.1.1; omega
  have rr := q_ite01 (m 2 0 < 60 ∧ m 2 2 < 150 ∧ (nm = 0 ∨ m 2 1 < 12))
  refine qJ.run hκ 6 (pc' := 29) (ls' := [some (qR 0), some (qI nm), some (qI a), some (qI b), some (qI c), some (qI d), some (qI e), some (qI z), some (qR 2)]) (st' := [qI z]) rfl ?_
  refine qJ.if_eq hκ (tgt := 41) rfl rfl (by omega) (fun c29 => ?_) (fun c29 => ?_)
  · show qJ YX11_word κ _ (qLy u, (q_row m 23 gv), y) 0 0 41 [some (qR 0), some (qI nm), some (qI a), some (qI b), some (qI c), some (qI d), some (qI e), some (qI z), some (qR 2)] []
    refine qJ.run hκ 1 (pc' := 42) (ls' := [some (qR 0), some (qI nm), some (qI a), some (qI b), some (qI c), some (qI d), some (qI e), some (qI z), some (qR 2)]) (st' := [qI (-1)]) rfl ?_
    exact qJ.iret hκ rfl rfl (by decide) (by decide) (by first | exact Or.inr ⟨gv, rfl, fun n hn => by have hz2 : ∀ n : Int, 1 ≤ n → wOK gv n → ¬ wG gv n := (by rcases hz with q | q; omega; exact q.2); exact hz2 n hn.1.1 (wOK_c (fun k hk => (gve k hk).symm) hn.1.2.1) ((wG_c hn.1.2.1.1.2 gve).mpr hn.1.2.2), rfl⟩ | exact Or.inr ⟨gv, rfl, fun n hn => by rw [if_pos hn.2] at c38; exact absurd c38 (by decide), rfl⟩)
  · show qJ YX11_word κ _ (qLy u, (q_row m 23 gv), y) 0 0 32 [some (qR 0), some (qI nm), some (qI a), some (qI b), some (qI c), some (qI d), some (qI e), some (qI z), some (qR 2)] []
    have hz1 : 1 ≤ z ∧ wOK gv z ∧ wG gv z := by rcases hz with q | q; exact q; exact absurd q.1 c29
    refine qJ.run hκ 2 (pc' := 35) (ls' := [some (qR 0), some (qI nm), some (qI a), some (qI b), some (qI c), some (qI d), some (qI e), some (qI z), some (qR 2)]) (st' := [qI nm, qR 2]) rfl ?_
    refine qJ.callV (As := [qI nm]) (rest := []) hκ rfl kX11_101 (c_hasRoomFor u (q_row m 23 gv) y nm a0 a1 a2 hnm) rfl rfl (by decide) rfl rfl (Nat.le_of_ble_eq_true rfl) (Nat.le_of_ble_eq_true rfl) (Nat.le_of_ble_eq_true rfl) (Or.inl (fun r h' e => by obtain ⟨rfl, rfl⟩ := e; rfl)) (fun r h' e => ?_)
    obtain ⟨rfl, rfl⟩ := e
    show qJ YX11_word κ _ (qLy u, (q_row m 23 gv), y) 0 0 38 [some (qR 0), some (qI nm), some (qI a), some (qI b), some (qI c), some (qI d), some (qI e), some (qI z), some (qR 2)] [qI (if m 2 0 < 60 ∧ m 2 2 < 150 ∧ (nm = 0 ∨ m 2 1 < 12) then 1 else 0)]
    refine qJ.if_ne hκ (tgt := 43) rfl rfl (by omega) (fun c38 => ?_) (fun c38 => ?_)
    · show qJ YX11_word κ _ (qLy u, (q_row m 23 gv), y) 0 0 43 [some (qR 0), some (qI nm), some (qI a), some (qI b), some (qI c), some (qI d), some (qI e), some (qI z), some (qR 2)] []
      have rm : m 2 0 < 60 ∧ m 2 2 < 150 ∧ (nm = 0 ∨ m 2 1 < 12) := by by_cases q : m 2 0 < 60 ∧ m 2 2 < 150 ∧ (nm = 0 ∨ m 2 1 < 12); exact q; rw [if_neg q] at c38; exact absurd rfl c38
      refine qJ.run hκ 1 (pc' := 44) (ls' := [some (qR 0), some (qI nm), some (qI a), some (qI b), some (qI c), some (qI d), some (qI e), some (qI z), some (qR 2)]) (st' := [qR 0]) rfl ?_
      refine qJ.callV (As := []) (rest := []) hκ rfl kX11_107 (c_forget u (q_row m 23 gv) y) rfl rfl (by decide) rfl rfl (Nat.le_of_ble_eq_true rfl) (Nat.le_of_ble_eq_true rfl) (Nat.le_of_ble_eq_true rfl) (Or.inl (fun r h' e => by obtain ⟨rfl, rfl⟩ := e; rfl)) (fun r h' e => ?_)
      obtain ⟨rfl, rfl⟩ := e
      show qJ YX11_word κ _ (qLy u, (q_up (q_up (q_up (q_up (q_up (q_row m 23 gv) 0 10 1) 0 11 1) 0 12 1) 0 13 1) 0 14 1), y) 0 0 47 [some (qR 0), some (qI nm), some (qI a), some (qI b), some (qI c), some (qI d), some (qI e), some (qI z), some (qR 2)] []
      refine qJ.run hκ 11 (pc' := 70) (ls' := [some (qR 0), some (qI nm), some (qI a), some (qI b), some (qI c), some (qI d), some (qI e), some (qI z), some (qR 2)]) (st' := [qI (m 1 8), qI (m 1 7), qI nm, qI z, qR 23, qR 2]) rfl ?_
      refine qJ.callV (As := [qR 23, qI z, qI nm, qI (m 1 7), qI (m 1 8)]) (rest := []) hκ rfl kX11_113 (c_add u (q_up (q_up (q_up (q_up (q_up (q_row m 23 gv) 0 10 1) 0 11 1) 0 12 1) 0 13 1) 0 14 1) y z nm (m 1 7) (m 1 8) (show 0 ≤ m 2 0 ∧ m 2 0 < 60 from by omega) (show 0 ≤ m 2 2 ∧ m 2 2 < 150 from by omega) ⟨by omega, hz1.2.1.1.2⟩ hnm gvr) rfl rfl (by decide) rfl rfl (Nat.le_of_ble_eq_true rfl) (Nat.le_of_ble_eq_true rfl) (Nat.le_of_ble_eq_true rfl) (Or.inl (fun r h' e => by obtain ⟨rfl, f, g, rfl, hf0, hg0⟩ := e; rfl)) (fun r h' e => ?_)
      obtain ⟨rfl, f, g, rfl, hf0, hg0⟩ := e
      show qJ YX11_word κ _ (qLy u, (q_up (q_up (q_up (q_up (q_up (q_up (q_up (q_up (q_up (q_up (q_row (q_row (q_up (q_up (q_up (q_up (q_up (q_row m 23 gv) 0 10 1) 0 11 1) 0 12 1) 0 13 1) 0 14 1) 5 g) 3 f) 4 ((m 2 0).toNat) z) 6 ((m 2 0).toNat) (m 1 7)) 7 ((m 2 0).toNat) (m 1 8)) 8 ((m 2 0).toNat) nm) 2 1 (m 2 1 + nm)) 2 0 (m 2 0 + 1)) 9 ((m 2 2).toNat) (m 2 0)) 10 ((m 2 2).toNat) (-1)) 11 ((m 2 2).toNat) (m 1 8)) 2 2 (m 2 2 + 1)), y) 0 0 73 [some (qR 0), some (qI nm), some (qI a), some (qI b), some (qI c), some (qI d), some (qI e), some (qI z), some (qR 2)] [qI (m 2 0)]
      exact qJ.iret hκ rfl rfl (by decide) (by decide) (by
      have hf1 : (∀ j : Nat, (j : Int) < m 2 0 * 5 → f j = m 3 j) ∧ (∀ j : Int, 0 ≤ j → j < z → f (m 2 0 * 5 + j).toNat = gv j.toNat) := hf0
      have hg1 : (∀ j : Nat, ¬ j = (m 2 0).toNat → g j = m 5 j) ∧ g (m 2 0).toNat = q_lst (fun k => gv k = 20) z.toNat := hg0
      have hz3 := hz1.2.1.1
      refine Or.inl ⟨z, _, rfl, ⟨⟨hz1.1, wOK_c gve hz1.2.1, (wG_c hz3.2 gve).mp hz1.2.2⟩, by omega, by omega, by omega⟩, rfl, (Eq.trans (keep_up (by rfl)) (Eq.trans (keep_up (by rfl)) (Eq.trans (keep_up (by rfl)) (Eq.trans (keep_up (by rfl)) (Eq.trans (keep_up (by rfl)) (Eq.trans (keep_up (by rfl)) (Eq.trans (keep_up (by rfl)) (Eq.trans (keep_up (by rfl)) (Eq.trans (keep_up (by rfl)) (Eq.trans (keep_up (by rfl)) (Eq.trans (keep_row (by intro j; rfl)) (Eq.trans (keep_row (by intro j; rfl)) (Eq.trans (keep_up (by rfl)) (Eq.trans (keep_up (by rfl)) (Eq.trans (keep_up (by rfl)) (Eq.trans (keep_up (by rfl)) (Eq.trans (keep_up (by rfl)) (Eq.trans (keep_row (by intro j; rfl)) rfl)))))))))))))))))), ⟨rfl, rfl, rfl, rfl, rfl⟩, ⟨rfl, rfl, rfl⟩, ⟨hf1.1, fun j h1 h2 => ?_⟩, ⟨hg1.1, ?_⟩, ⟨q_up_fu, q_up_fu, q_up_fu, q_up_fu⟩, q_up_fu, q_up_fu, q_up_fu⟩
      · rw [← gve _ (by omega)]; exact hf1.2 j h1 h2
      · rw [← q_lst_c (p := fun k => gv k = 20) z.toNat (fun k hk => by rw [gve k (by omega)])]; exact hg1.2)
    · show qJ YX11_word κ _ (qLy u, (q_row m 23 gv), y) 0 0 41 [some (qR 0), some (qI nm), some (qI a), some (qI b), some (qI c), some (qI d), some (qI e), some (qI z), some (qR 2)] []
      refine qJ.run hκ 1 (pc' := 42) (ls' := [some (qR 0), some (qI nm), some (qI a), some (qI b), some (qI c), some (qI d), some (qI e), some (qI z), some (qR 2)]) (st' := [qI (-1)]) rfl ?_
      exact qJ.iret hκ rfl rfl (by decide) (by decide) (by first | exact Or.inr ⟨gv, rfl, fun n hn => by have hz2 : ∀ n : Int, 1 ≤ n → wOK gv n → ¬ wG gv n := (by rcases hz with q | q; omega; exact q.2); exact hz2 n hn.1.1 (wOK_c (fun k hk => (gve k hk).symm) hn.1.2.1) ((wG_c hn.1.2.1.1.2 gve).mpr hn.1.2.2), rfl⟩ | exact Or.inr ⟨gv, rfl, fun n hn => by rw [if_pos hn.2] at c38; exact absurd c38 (by decide), rfl⟩)

def mWd (m m' : qM) (n nm : Int) (g : Nat → Int) : Prop := keep (fun i _ => decide (¬ ((85 ≤ i ∧ i ≤ 95) ∨ i = 77 ∨ i = 107))) m' = keep (fun i _ => decide (¬ ((85 ≤ i ∧ i ≤ 95) ∨ i = 77 ∨ i = 107))) m ∧ (m' 85 0 = m 85 0 + 1 ∧ m' 86 0 = m 86 0 + nm ∧ m' 92 0 = m 92 0 + 1) ∧
  ((∀ j : Nat, (j : Int) < m 85 0 * 5 → m' 87 j = m 87 j) ∧ (∀ j : Int, 0 ≤ j → j < n → m' 87 (5 * m 85 0 + j).toNat = g j.toNat)) ∧
  (m' 88 = q_fu (m 88) (m 85 0).toNat n ∧ m' 89 = q_fu (m 89) (m 85 0).toNat (m 84 0) ∧ m' 90 = q_fu (m 90) (m 85 0).toNat (m 82 0) ∧ m' 91 = q_fu (m 91) (m 85 0).toNat nm) ∧
  (m' 93 = q_fu (m 93) (m 92 0).toNat (m 85 0) ∧ m' 94 = q_fu (m 94) (m 92 0).toNat (-1) ∧ m' 95 = q_fu (m 95) (m 92 0).toNat (m 82 0))
def mwA (m : qM) (nm a b c d e : Int) (n : Int) : Prop := (1 ≤ n ∧ wOK (wv a b c d e) n ∧ wG (wv a b c d e) n) ∧ m 85 0 < 60 ∧ m 92 0 < 150 ∧ (nm = 0 ∨ m 86 0 < 12)

theorem wBad2 {g : Nat → Int} {n k : Int} (h0 : 0 ≤ n ∧ n ≤ k ∧ k < 5) (h1 : ∀ k : Nat, (k : Int) < n → 0 ≤ g k ∧ g k ≤ 20) (h2 : n = 5 ∨ ¬ (0 ≤ g n.toNat ∧ g n.toNat ≤ 20)) (hk : ¬ g k.toNat = -1) : ∀ q : Int, ¬ wOK g q := by
  rintro q ⟨b1, b2, b3⟩
  by_cases z : n < q
  · have := b2 n.toNat (by omega)
    omega
  · exact hk (b3 k.toNat (by omega) (by omega))

set_option maxRecDepth 100000 in
theorem m_word (u : qU) (m y : qM) (nm a b c d e : Int) (hw : 0 ≤ m 85 0 ∧ m 85 0 ≤ 60) (hn2 : 0 ≤ m 86 0 ∧ m 86 0 ≤ 12) (ht : 0 ≤ m 92 0 ∧ m 92 0 ≤ 150) (hnm : nm = 0 ∨ nm = 1) (ha : qr a) (hb : qr b) (hc : qr c) (hd : qr d) (he : qr e) : qCt YX12_word 3 0 0 [qR 77, qI nm, qI a, qI b, qI c, qI d, qI e] (qLy u, m, y) (fun r h => (∃ n m', r = some (qI (m 85 0)) ∧ mwA m nm a b c d e n ∧ h = (qLy u, m', y) ∧ mWd m m' n nm (wv a b c d e)) ∨ (∃ gv, r = some (qI (-1)) ∧ (∀ n, ¬ mwA m nm a b c d e n) ∧ h = (qLy u, q_row (q_up m 77 0 0) 107 gv, y))) := by
  refine qCt.intro okX12_word (Nat.le_of_ble_eq_true rfl) (fun κ hκ => ?_)
  obtain ⟨gv, hgv⟩ : ∃ gv, gv = q_fu (q_fu (q_fu (q_fu (q_fu (m 107) 0 a) 1 b) 2 c) 3 d) 4 e := ⟨_, rfl⟩
  have gve : ∀ k : Nat, k < 5 → gv k = wv a b c d e k := by rw [hgv]; exact wv_fu
  have gvr : ∀ k : Nat, k < 5 → qr (gv k) := fun k hk => by rw [gve k hk]; exact wv_r ha hb hc hd he k
  have L218 : ∀ (n : Nat) (n1 : Int) (gp : Int) (f : Nat → Int) (k : Int), (0 ≤ k) → (k ≤ 5) → ((∀ j : Nat, (j : Int) < m 85 0 * 5 → f j = m 87 j) ∧ (∀ j : Int, 0 ≤ j → j < k → f (5 * m 85 0 + j).toNat = gv j.toNat)) → (wOK gv n1 ∧ wG gv n1) → (1 ≤ n1 ∧ n1 ≤ 5) → (m 85 0 < 60 ∧ m 92 0 < 150 ∧ (nm = 0 ∨ m 86 0 < 12)) → ((5 - k).toNat) < n → qJ YX12_word κ (qFin (fun r h => (∃ n m', r = some (qI (m 85 0)) ∧ mwA m nm a b c d e n ∧ h = (qLy u, m', y) ∧ mWd m m' n nm (wv a b c d e)) ∨ (∃ gv, r = some (qI (-1)) ∧ (∀ n, ¬ mwA m nm a b c d e n) ∧ h = (qLy u, q_row (q_up m 77 0 0) 107 gv, y))) 0 0 κ) (qLy u, (q_row (q_up (q_up (q_row (q_up m 77 0 0) 107 gv) 85 0 (m 85 0 + 1)) 86 0 (m 86 0 + nm)) 87 f), y) 0 0 218 [some (qR 77), some (qI nm), some (qI a), some (qI b), some (qI c), some (qI d), some (qI e), some (qI n1), some (qI gp), some (qI (m 85 0)), some (qI k)] [] := by
    intro n
    induction n with
    | zero => intro n1 gp f k _ _ _ _ _ _ hz0; omega
    | succ n ih218 =>
      intro n1 gp f k v218_0 v218_1 v218_2 v218_3 v218_4 v218_5 v218_m
      refine qJ.run hκ 2 (pc' := 221) (ls' := [some (qR 77), some (qI nm), some (qI a), some (qI b), some (qI c), some (qI d), some (qI e), some (qI n1), some (qI gp), some (qI (m 85 0)), some (qI k)]) (st' := [qI 5, qI k]) rfl ?_
      refine qJ.icmp_ge hκ (tgt := 249) rfl rfl (by omega) (by omega) (fun c221 => ?_) (fun c221 => ?_)
      · show qJ YX12_word κ _ (qLy u, (q_row (q_up (q_up (q_row (q_up m 77 0 0) 107 gv) 85 0 (m 85 0 + 1)) 86 0 (m 86 0 + nm)) 87 f), y) 0 0 249 [some (qR 77), some (qI nm), some (qI a), some (qI b), some (qI c), some (qI d), some (qI e), some (qI n1), some (qI gp), some (qI (m 85 0)), some (qI k)] []
        refine qJ.run hκ 4 (pc' := 257) (ls' := [some (qR 77), some (qI nm), some (qI a), some (qI b), some (qI c), some (qI d), some (qI e), some (qI n1), some (qI gp), some (qI (m 85 0)), some (qI k)]) (st' := [qI n1, qI (m 85 0), qR 88]) rfl ?_
        refine qJ.ast hκ rfl rfl rfl (by decide) (by omega) ?_
        show qJ YX12_word κ _ (qLy u, (q_up (q_row (q_up (q_up (q_row (q_up m 77 0 0) 107 gv) 85 0 (m 85 0 + 1)) 86 0 (m 86 0 + nm)) 87 f) 88 ((m 85 0).toNat) n1), y) 0 0 258 [some (qR 77), some (qI nm), some (qI a), some (qI b), some (qI c), some (qI d), some (qI e), some (qI n1), some (qI gp), some (qI (m 85 0)), some (qI k)] []
        refine qJ.run hκ 6 (pc' := 269) (ls' := [some (qR 77), some (qI nm), some (qI a), some (qI b), some (qI c), some (qI d), some (qI e), some (qI n1), some (qI gp), some (qI (m 85 0)), some (qI k)]) (st' := [qI 0, qR 84, qI (m 85 0), qR 89]) rfl ?_
        refine qJ.ald hκ rfl rfl rfl (by decide) (by omega) ?_
        show qJ YX12_word κ _ (qLy u, (q_up (q_row (q_up (q_up (q_row (q_up m 77 0 0) 107 gv) 85 0 (m 85 0 + 1)) 86 0 (m 86 0 + nm)) 87 f) 88 ((m 85 0).toNat) n1), y) 0 0 270 [some (qR 77), some (qI nm), some (qI a), some (qI b), some (qI c), some (qI d), some (qI e), some (qI n1), some (qI gp), some (qI (m 85 0)), some (qI k)] [qI (m 84 0), qI (m 85 0), qR 89]
        refine qJ.ast hκ rfl rfl rfl (by decide) (by omega) ?_
        show qJ YX12_word κ _ (qLy u, (q_up (q_up (q_row (q_up (q_up (q_row (q_up m 77 0 0) 107 gv) 85 0 (m 85 0 + 1)) 86 0 (m 86 0 + nm)) 87 f) 88 ((m 85 0).toNat) n1) 89 ((m 85 0).toNat) (m 84 0)), y) 0 0 271 [some (qR 77), some (qI nm), some (qI a), some (qI b), some (qI c), some (qI d), some (qI e), some (qI n1), some (qI gp), some (qI (m 85 0)), some (qI k)] []
        refine qJ.run hκ 6 (pc' := 282) (ls' := [some (qR 77), some (qI nm), some (qI a), some (qI b), some (qI c), some (qI d), some (qI e), some (qI n1), some (qI gp), some (qI (m 85 0)), some (qI k)]) (st' := [qI 0, qR 82, qI (m 85 0), qR 90]) rfl ?_
        refine qJ.ald hκ rfl rfl rfl (by decide) (by omega) ?_
        show qJ YX12_word κ _ (qLy u, (q_up (q_up (q_row (q_up (q_up (q_row (q_up m 77 0 0) 107 gv) 85 0 (m 85 0 + 1)) 86 0 (m 86 0 + nm)) 87 f) 88 ((m 85 0).toNat) n1) 89 ((m 85 0).toNat) (m 84 0)), y) 0 0 283 [some (qR 77), some (qI nm), some (qI a), some (qI b), some (qI c), some (qI d), some (qI e), some (qI n1), some (qI gp), some (qI (m 85 0)), some (qI k)] [qI (m 82 0), qI (m 85 0), qR 90]
        refine qJ.ast hκ rfl rfl rfl (by decide) (by omega) ?_
        show qJ YX12_word κ _ (qLy u, (q_up (q_up (q_up (q_row (q_up (q_up (q_row (q_up m 77 0 0) 107 gv) 85 0 (m 85 0 + 1)) 86 0 (m 86 0 + nm)) 87 f) 88 ((m 85 0).toNat) n1) 89 ((m 85 0).toNat) (m 84 0)) 90 ((m 85 0).toNat) (m 82 0)), y) 0 0 284 [some (qR 77), some (qI nm), some (qI a), some (qI b), some (qI c), some (qI d), some (qI e), some (qI n1), some (qI gp), some (qI (m 85 0)), some (qI k)] []
        refine qJ.run hκ 4 (pc' := 291) (ls' := [some (qR 77), some (qI nm), some (qI a), some (qI b), some (qI c), some (qI d), some (qI e), some (qI n1), some (qI gp), some (qI (m 85 0)), some (qI k)]) (st' := [qI nm, qI (m 85 0), qR 91]) rfl ?_
        refine qJ.ast hκ rfl rfl rfl (by decide) (by omega) ?_
        refine qJ.mc (m1 := (q_up (q_up (q_up (q_up (q_row (q_up (q_up (q_row (q_up m 77 0 0) 107 gv) 85 0 (m 85 0 + 1)) 86 0 (m 86 0 + nm)) 87 f) 88 ((m 85 0).toNat) n1) 89 ((m 85 0).toNat) (m 84 0)) 90 ((m 85 0).toNat) (m 82 0)) 91 ((m 85 0).toNat) (q_nar 2 nm))) (m2 := (q_up (q_up (q_up (q_up (q_row (q_up (q_up (q_row (q_up m 77 0 0) 107 gv) 85 0 (m 85 0 + 1)) 86 0 (m 86 0 + nm)) 87 f) 88 ((m 85 0).toNat) n1) 89 ((m 85 0).toNat) (m 84 0)) 90 ((m 85 0).toNat) (m 82 0)) 91 ((m 85 0).toNat) nm)) (by rw [q_n2 (by omega)]) ?_
        show qJ YX12_word κ _ (qLy u, (q_up (q_up (q_up (q_up (q_row (q_up (q_up (q_row (q_up m 77 0 0) 107 gv) 85 0 (m 85 0 + 1)) 86 0 (m 86 0 + nm)) 87 f) 88 ((m 85 0).toNat) n1) 89 ((m 85 0).toNat) (m 84 0)) 90 ((m 85 0).toNat) (m 82 0)) 91 ((m 85 0).toNat) nm), y) 0 0 292 [some (qR 77), some (qI nm), some (qI a), some (qI b), some (qI c), some (qI d), some (qI e), some (qI n1), some (qI gp), some (qI (m 85 0)), some (qI k)] []
        refine qJ.run hκ 3 (pc' := 296) (ls' := [some (qR 77), some (qI nm), some (qI a), some (qI b), some (qI c), some (qI d), some (qI e), some (qI n1), some (qI gp), some (qI (m 85 0)), some (qI k)]) (st' := [qI (-1), qI (m 85 0), qR 77]) rfl ?_
        refine qJ.callV (As := [qI (m 85 0), qI (-1)]) (rest := []) hκ rfl kX12_179 (c_mTold u (q_up (q_up (q_up (q_up (q_row (q_up (q_up (q_row (q_up m 77 0 0) 107 gv) 85 0 (m 85 0 + 1)) 86 0 (m 86 0 + nm)) 87 f) 88 ((m 85 0).toNat) n1) 89 ((m 85 0).toNat) (m 84 0)) 90 ((m 85 0).toNat) (m 82 0)) 91 ((m 85 0).toNat) nm) y (m 85 0) (-1) (show 0 ≤ m 92 0 ∧ m 92 0 < 150 from by omega)) rfl rfl (by decide) rfl rfl (Nat.le_of_ble_eq_true rfl) (Nat.le_of_ble_eq_true rfl) (Nat.le_of_ble_eq_true rfl) (Or.inl (fun r h' e => by obtain ⟨rfl, rfl⟩ := e; rfl)) (fun r h' e => ?_)
        obtain ⟨rfl, rfl⟩ := e
        show qJ YX12_word κ _ (qLy u, (q_up (q_up (q_up (q_up (q_up (q_up (q_up (q_up (q_row (q_up (q_up (q_row (q_up m 77 0 0) 107 gv) 85 0 (m 85 0 + 1)) 86 0 (m 86 0 + nm)) 87 f) 88 ((m 85 0).toNat) n1) 89 ((m 85 0).toNat) (m 84 0)) 90 ((m 85 0).toNat) (m 82 0)) 91 ((m 85 0).toNat) nm) 92 0 (m 92 0 + 1)) 93 ((m 92 0).toNat) (m 85 0)) 94 ((m 92 0).toNat) (-1)) 95 ((m 92 0).toNat) (m 82 0)), y) 0 0 299 [some (qR 77), some (qI nm), some (qI a), some (qI b), some (qI c), some (qI d), some (qI e), some (qI n1), some (qI gp), some (qI (m 85 0)), some (qI k)] []
        refine qJ.run hκ 1 (pc' := 301) (ls' := [some (qR 77), some (qI nm), some (qI a), some (qI b), some (qI c), some (qI d), some (qI e), some (qI n1), some (qI gp), some (qI (m 85 0)), some (qI k)]) (st' := [qI (m 85 0)]) rfl ?_
        exact qJ.iret hκ rfl rfl (by decide) (by decide) (Or.inl ⟨n1, _, rfl, ⟨⟨by omega, wOK_c gve v218_3.1, (wG_c (by omega) gve).mp v218_3.2⟩, by omega, by omega, by omega⟩, rfl, (Eq.trans (keep_up (by rfl)) (Eq.trans (keep_up (by rfl)) (Eq.trans (keep_up (by rfl)) (Eq.trans (keep_up (by rfl)) (Eq.trans (keep_up (by rfl)) (Eq.trans (keep_up (by rfl)) (Eq.trans (keep_up (by rfl)) (Eq.trans (keep_up (by rfl)) (Eq.trans (keep_row (by intro j; rfl)) (Eq.trans (keep_up (by rfl)) (Eq.trans (keep_up (by rfl)) (Eq.trans (keep_row (by intro j; rfl)) (Eq.trans (keep_up (by rfl)) rfl))))))))))))), ⟨rfl, rfl, rfl⟩, ⟨v218_2.1, fun j h1 h2 => by rw [← gve _ (by omega)]; exact v218_2.2 j h1 (by omega)⟩, ⟨q_up_fu, q_up_fu, q_up_fu, q_up_fu⟩, q_up_fu, q_up_fu, q_up_fu⟩)
      · show qJ YX12_word κ _ (qLy u, (q_row (q_up (q_up (q_row (q_up m 77 0 0) 107 gv) 85 0 (m 85 0 + 1)) 86 0 (m 86 0 + nm)) 87 f), y) 0 0 224 [some (qR 77), some (qI nm), some (qI a), some (qI b), some (qI c), some (qI d), some (qI e), some (qI n1), some (qI gp), some (qI (m 85 0)), some (qI k)] []
        refine qJ.run hκ 10 (pc' := 241) (ls' := [some (qR 77), some (qI nm), some (qI a), some (qI b), some (qI c), some (qI d), some (qI e), some (qI n1), some (qI gp), some (qI (m 85 0)), some (qI k)]) (st' := [qI k, qR 107, qI ((5 * (m 85 0)) + k), qR 87]) rfl ?_
        refine qJ.ald hκ rfl rfl rfl (by decide) (by omega) ?_
        show qJ YX12_word κ _ (qLy u, (q_row (q_up (q_up (q_row (q_up m 77 0 0) 107 gv) 85 0 (m 85 0 + 1)) 86 0 (m 86 0 + nm)) 87 f), y) 0 0 242 [some (qR 77), some (qI nm), some (qI a), some (qI b), some (qI c), some (qI d), some (qI e), some (qI n1), some (qI gp), some (qI (m 85 0)), some (qI k)] [qI (gv k.toNat), qI ((5 * (m 85 0)) + k), qR 87]
        refine qJ.ast hκ rfl rfl rfl (by decide) (by omega) ?_
        refine qJ.mc (m1 := (q_up (q_row (q_up (q_up (q_row (q_up m 77 0 0) 107 gv) 85 0 (m 85 0 + 1)) 86 0 (m 86 0 + nm)) 87 f) 87 (((5 * (m 85 0)) + k).toNat) (gv k.toNat))) (m2 := (q_row (q_up (q_up (q_row (q_up m 77 0 0) 107 gv) 85 0 (m 85 0 + 1)) 86 0 (m 86 0 + nm)) 87 (q_fu f (((5 * (m 85 0)) + k).toNat) (gv k.toNat)))) (by rw [q_up_row_eq]) ?_
        show qJ YX12_word κ _ (qLy u, (q_row (q_up (q_up (q_row (q_up m 77 0 0) 107 gv) 85 0 (m 85 0 + 1)) 86 0 (m 86 0 + nm)) 87 (q_fu f (((5 * (m 85 0)) + k).toNat) (gv k.toNat))), y) 0 0 243 [some (qR 77), some (qI nm), some (qI a), some (qI b), some (qI c), some (qI d), some (qI e), some (qI n1), some (qI gp), some (qI (m 85 0)), some (qI k)] []
        refine qJ.run hκ 2 (pc' := 218) (ls' := [some (qR 77), some (qI nm), some (qI a), some (qI b), some (qI c), some (qI d), some (qI e), some (qI n1), some (qI gp), some (qI (m 85 0)), some (qI (k + 1))]) (st' := []) rfl ?_
        exact qJ.cast (ih218  n1 gp (q_fu f (((5 * (m 85 0)) + k).toNat) (gv k.toNat)) (k + 1) (by omega) (by omega) (⟨fun j hj => by rw [q_fu_ne (by omega)]; exact v218_2.1 j hj, fun j h1 h2 => by by_cases e : j = k; subst e; rw [q_fu_eq]; rw [q_fu_ne (by omega)]; exact v218_2.2 j h1 (by omega)⟩) (v218_3) (by omega) (by omega) (by omega)) (rfl) rfl rfl
  have L103 : ∀ (n : Nat) (n1 : Int) (gp : Int) (k : Int), (0 ≤ n1) → (n1 ≤ k) → (k ≤ 5) → (∀ k : Nat, (k : Int) < n1 → 0 ≤ gv k ∧ gv k ≤ 20) → (gp = (q_cnt (fun k => gv k = 20) n1.toNat : Nat)) → (∀ j : Nat, n1 ≤ (j : Int) → (j : Int) < k → gv j = -1) → (n1 = 5 ∨ ¬ (0 ≤ gv n1.toNat ∧ gv n1.toNat ≤ 20)) → ((5 - k).toNat) < n → qJ YX12_word κ (qFin (fun r h => (∃ n m', r = some (qI (m 85 0)) ∧ mwA m nm a b c d e n ∧ h = (qLy u, m', y) ∧ mWd m m' n nm (wv a b c d e)) ∨ (∃ gv, r = some (qI (-1)) ∧ (∀ n, ¬ mwA m nm a b c d e n) ∧ h = (qLy u, q_row (q_up m 77 0 0) 107 gv, y))) 0 0 κ) (qLy u, (q_row (q_up m 77 0 0) 107 gv), y) 0 0 103 [some (qR 77), some (qI nm), some (qI a), some (qI b), some (qI c), some (qI d), some (qI e), some (qI n1), some (qI gp), some (qI k), none] [] := by
    intro n
    induction n with
    | zero => intro n1 gp k _ _ _ _ _ _ _ hz0; omega
    | succ n ih103 =>
      intro n1 gp k v103_0 v103_1 v103_2 v103_3 v103_4 v103_5 v103_6 v103_m
      refine qJ.run hκ 2 (pc' := 106) (ls' := [some (qR 77), some (qI nm), some (qI a), some (qI b), some (qI c), some (qI d), some (qI e), some (qI n1), some (qI gp), some (qI k), none]) (st' := [qI 5, qI k]) rfl ?_
      refine qJ.icmp_ge hκ (tgt := 128) rfl rfl (by omega) (by omega) (fun c106 => ?_) (fun c106 => ?_)
      · show qJ YX12_word κ _ (qLy u, (q_row (q_up m 77 0 0) 107 gv), y) 0 0 128 [some (qR 77), some (qI nm), some (qI a), some (qI b), some (qI c), some (qI d), some (qI e), some (qI n1), some (qI gp), some (qI k), none] []
        have cl := q_cnt_le (fun k => gv k = 20) n1.toNat
        have okg : wOK gv n1 := ⟨by omega, v103_3, fun j h1 h2 => v103_5 j h1 (by omega)⟩
        refine qJ.run hκ 3 (pc' := 133) (ls' := [some (qR 77), some (qI nm), some (qI a), some (qI b), some (qI c), some (qI d), some (qI e), some (qI n1), some (qI gp), some (qI k), none]) (st' := [qI 0, qR 85]) rfl ?_
        refine qJ.ald hκ rfl rfl rfl (by decide) (by omega) ?_
        show qJ YX12_word κ _ (qLy u, (q_row (q_up m 77 0 0) 107 gv), y) 0 0 134 [some (qR 77), some (qI nm), some (qI a), some (qI b), some (qI c), some (qI d), some (qI e), some (qI n1), some (qI gp), some (qI k), none] [qI (m 85 0)]
        refine qJ.run hκ 1 (pc' := 136) (ls' := [some (qR 77), some (qI nm), some (qI a), some (qI b), some (qI c), some (qI d), some (qI e), some (qI n1), some (qI gp), some (qI k), none]) (st' := [qI 60, qI (m 85 0)]) rfl ?_
        refine qJ.icmp_eq hκ (tgt := 177) rfl rfl (by omega) (by omega) (fun c136 => ?_) (fun c136 => ?_)
        · show qJ YX12_word κ _ (qLy u, (q_row (q_up m 77 0 0) 107 gv), y) 0 0 177 [some (qR 77), some (qI nm), some (qI a), some (qI b), some (qI c), some (qI d), some (qI e), some (qI n1), some (qI gp), some (qI k), none] []
          refine qJ.run hκ 1 (pc' := 178) (ls' := [some (qR 77), some (qI nm), some (qI a), some (qI b), some (qI c), some (qI d), some (qI e), some (qI n1), some (qI gp), some (qI k), none]) (st' := [qI (-1)]) rfl ?_
          exact qJ.iret hκ rfl rfl (by decide) (by decide) (Or.inr ⟨gv, rfl, fun q hq => by have h2 := wOK_u (wOK_c (fun k hk => (gve k hk).symm) hq.1.2.1) okg; subst h2; have h3 := (wG_c hq.1.2.1.1.2 gve).mpr hq.1.2.2; unfold wG at h3; have h4 := hq.2; have h5 := hq.1.1; omega, rfl⟩)
        · show qJ YX12_word κ _ (qLy u, (q_row (q_up m 77 0 0) 107 gv), y) 0 0 139 [some (qR 77), some (qI nm), some (qI a), some (qI b), some (qI c), some (qI d), some (qI e), some (qI n1), some (qI gp), some (qI k), none] []
          refine qJ.run hκ 3 (pc' := 144) (ls' := [some (qR 77), some (qI nm), some (qI a), some (qI b), some (qI c), some (qI d), some (qI e), some (qI n1), some (qI gp), some (qI k), none]) (st' := [qI 0, qR 92]) rfl ?_
          refine qJ.ald hκ rfl rfl rfl (by decide) (by omega) ?_
          show qJ YX12_word κ _ (qLy u, (q_row (q_up m 77 0 0) 107 gv), y) 0 0 145 [some (qR 77), some (qI nm), some (qI a), some (qI b), some (qI c), some (qI d), some (qI e), some (qI n1), some (qI gp), some (qI k), none] [qI (m 92 0)]
          refine qJ.run hκ 1 (pc' := 148) (ls' := [some (qR 77), some (qI nm), some (qI a), some (qI b), some (qI c), some (qI d), some (qI e), some (qI n1), some (qI gp), some (qI k), none]) (st' := [qI 150, qI (m 92 0)]) rfl ?_
          refine qJ.icmp_eq hκ (tgt := 177) rfl rfl (by omega) (by omega) (fun c148 => ?_) (fun c148 => ?_)
          · show qJ YX12_word κ _ (qLy u, (q_row (q_up m 77 0 0) 107 gv), y) 0 0 177 [some (qR 77), some (qI nm), some (qI a), some (qI b), some (qI c), some (qI d), some (qI e), some (qI n1), some (qI gp), some (qI k), none] []
            refine qJ.run hκ 1 (pc' := 178) (ls' := [some (qR 77), some (qI nm), some (qI a), some (qI b), some (qI c), some (qI d), some (qI e), some (qI n1), some (qI gp), some (qI k), none]) (st' := [qI (-1)]) rfl ?_
            exact qJ.iret hκ rfl rfl (by decide) (by decide) (Or.inr ⟨gv, rfl, fun q hq => by have h2 := wOK_u (wOK_c (fun k hk => (gve k hk).symm) hq.1.2.1) okg; subst h2; have h3 := (wG_c hq.1.2.1.1.2 gve).mpr hq.1.2.2; unfold wG at h3; have h4 := hq.2; have h5 := hq.1.1; omega, rfl⟩)
          · show qJ YX12_word κ _ (qLy u, (q_row (q_up m 77 0 0) 107 gv), y) 0 0 151 [some (qR 77), some (qI nm), some (qI a), some (qI b), some (qI c), some (qI d), some (qI e), some (qI n1), some (qI gp), some (qI k), none] []
            refine qJ.run hκ 1 (pc' := 152) (ls' := [some (qR 77), some (qI nm), some (qI a), some (qI b), some (qI c), some (qI d), some (qI e), some (qI n1), some (qI gp), some (qI k), none]) (st' := [qI nm]) rfl ?_
            refine qJ.if_eq hκ (tgt := 166) rfl rfl (by omega) (fun c152 => ?_) (fun c152 => ?_)
            · show qJ YX12_word κ _ (qLy u, (q_row (q_up m 77 0 0) 107 gv), y) 0 0 166 [some (qR 77), some (qI nm), some (qI a), some (qI b), some (qI c), some (qI d), some (qI e), some (qI n1), some (qI gp), some (qI k), none] []
              refine qJ.run hκ 1 (pc' := 168) (ls' := [some (qR 77), some (qI nm), some (qI a), some (qI b), some (qI c), some (qI d), some (qI e), some (qI n1), some (qI gp), some (qI k), none]) (st' := [qI n1]) rfl ?_
              refine qJ.if_eq hκ (tgt := 177) rfl rfl (by omega) (fun c168 => ?_) (fun c168 => ?_)
              · show qJ YX12_word κ _ (qLy u, (q_row (q_up m 77 0 0) 107 gv), y) 0 0 177 [some (qR 77), some (qI nm), some (qI a), some (qI b), some (qI c), some (qI d), some (qI e), some (qI n1), some (qI gp), some (qI k), none] []
                refine qJ.run hκ 1 (pc' := 178) (ls' := [some (qR 77), some (qI nm), some (qI a), some (qI b), some (qI c), some (qI d), some (qI e), some (qI n1), some (qI gp), some (qI k), none]) (st' := [qI (-1)]) rfl ?_
                exact qJ.iret hκ rfl rfl (by decide) (by decide) (Or.inr ⟨gv, rfl, fun q hq => by have h2 := wOK_u (wOK_c (fun k hk => (gve k hk).symm) hq.1.2.1) okg; subst h2; have h3 := (wG_c hq.1.2.1.1.2 gve).mpr hq.1.2.2; unfold wG at h3; have h4 := hq.2; have h5 := hq.1.1; omega, rfl⟩)
              · show qJ YX12_word κ _ (qLy u, (q_row (q_up m 77 0 0) 107 gv), y) 0 0 171 [some (qR 77), some (qI nm), some (qI a), some (qI b), some (qI c), some (qI d), some (qI e), some (qI n1), some (qI gp), some (qI k), none] []
                refine qJ.run hκ 2 (pc' := 174) (ls' := [some (qR 77), some (qI nm), some (qI a), some (qI b), some (qI c), some (qI d), some (qI e), some (qI n1), some (qI gp), some (qI k), none]) (st' := [qI 1, qI gp]) rfl ?_
                refine qJ.icmp_le hκ (tgt := 179) rfl rfl (by omega) (by omega) (fun c174 => ?_) (fun c174 => ?_)
                · show qJ YX12_word κ _ (qLy u, (q_row (q_up m 77 0 0) 107 gv), y) 0 0 179 [some (qR 77), some (qI nm), some (qI a), some (qI b), some (qI c), some (qI d), some (qI e), some (qI n1), some (qI gp), some (qI k), none] []
                  have okw : wOK gv n1 ∧ wG gv n1 := ⟨okg, by unfold wG; omega⟩
                  refine qJ.run hκ 3 (pc' := 184) (ls' := [some (qR 77), some (qI nm), some (qI a), some (qI b), some (qI c), some (qI d), some (qI e), some (qI n1), some (qI gp), some (qI k), none]) (st' := [qI 0, qR 85]) rfl ?_
                  refine qJ.ald hκ rfl rfl rfl (by decide) (by omega) ?_
                  show qJ YX12_word κ _ (qLy u, (q_row (q_up m 77 0 0) 107 gv), y) 0 0 185 [some (qR 77), some (qI nm), some (qI a), some (qI b), some (qI c), some (qI d), some (qI e), some (qI n1), some (qI gp), some (qI k), none] [qI (m 85 0)]
                  refine qJ.run hκ 5 (pc' := 193) (ls' := [some (qR 77), some (qI nm), some (qI a), some (qI b), some (qI c), some (qI d), some (qI e), some (qI n1), some (qI gp), some (qI (m 85 0)), none]) (st' := [qI 0, qR 85, qI 0, qR 85]) rfl ?_
                  refine qJ.ald hκ rfl rfl rfl (by decide) (by omega) ?_
                  show qJ YX12_word κ _ (qLy u, (q_row (q_up m 77 0 0) 107 gv), y) 0 0 194 [some (qR 77), some (qI nm), some (qI a), some (qI b), some (qI c), some (qI d), some (qI e), some (qI n1), some (qI gp), some (qI (m 85 0)), none] [qI (m 85 0), qI 0, qR 85]
                  refine qJ.run hκ 2 (pc' := 196) (ls' := [some (qR 77), some (qI nm), some (qI a), some (qI b), some (qI c), some (qI d), some (qI e), some (qI n1), some (qI gp), some (qI (m 85 0)), none]) (st' := [qI ((m 85 0) + 1), qI 0, qR 85]) rfl ?_
                  refine qJ.ast hκ rfl rfl rfl (by decide) (by omega) ?_
                  show qJ YX12_word κ _ (qLy u, (q_up (q_row (q_up m 77 0 0) 107 gv) 85 0 ((m 85 0) + 1)), y) 0 0 197 [some (qR 77), some (qI nm), some (qI a), some (qI b), some (qI c), some (qI d), some (qI e), some (qI n1), some (qI gp), some (qI (m 85 0)), none] []
                  refine qJ.run hκ 4 (pc' := 203) (ls' := [some (qR 77), some (qI nm), some (qI a), some (qI b), some (qI c), some (qI d), some (qI e), some (qI n1), some (qI gp), some (qI (m 85 0)), none]) (st' := [qI 0, qR 86, qI 0, qR 86]) rfl ?_
                  refine qJ.ald hκ rfl rfl rfl (by decide) (by omega) ?_
                  show qJ YX12_word κ _ (qLy u, (q_up (q_row (q_up m 77 0 0) 107 gv) 85 0 ((m 85 0) + 1)), y) 0 0 204 [some (qR 77), some (qI nm), some (qI a), some (qI b), some (qI c), some (qI d), some (qI e), some (qI n1), some (qI gp), some (qI (m 85 0)), none] [qI (m 86 0), qI 0, qR 86]
                  refine qJ.run hκ 1 (pc' := 205) (ls' := [some (qR 77), some (qI nm), some (qI a), some (qI b), some (qI c), some (qI d), some (qI e), some (qI n1), some (qI gp), some (qI (m 85 0)), none]) (st' := [qI nm, qI (m 86 0), qI 0, qR 86]) rfl ?_
                  refine qJ.if_eq hκ (tgt := 212) rfl rfl (by omega) (fun c205 => ?_) (fun c205 => ?_)
                  · show qJ YX12_word κ _ (qLy u, (q_up (q_row (q_up m 77 0 0) 107 gv) 85 0 ((m 85 0) + 1)), y) 0 0 212 [some (qR 77), some (qI nm), some (qI a), some (qI b), some (qI c), some (qI d), some (qI e), some (qI n1), some (qI gp), some (qI (m 85 0)), none] [qI (m 86 0), qI 0, qR 86]
                    refine qJ.run hκ 2 (pc' := 214) (ls' := [some (qR 77), some (qI nm), some (qI a), some (qI b), some (qI c), some (qI d), some (qI e), some (qI n1), some (qI gp), some (qI (m 85 0)), none]) (st' := [qI ((m 86 0) + 0), qI 0, qR 86]) rfl ?_
                    refine qJ.ast hκ rfl rfl rfl (by decide) (by omega) ?_
                    show qJ YX12_word κ _ (qLy u, (q_up (q_up (q_row (q_up m 77 0 0) 107 gv) 85 0 ((m 85 0) + 1)) 86 0 ((m 86 0) + 0)), y) 0 0 215 [some (qR 77), some (qI nm), some (qI a), some (qI b), some (qI c), some (qI d), some (qI e), some (qI n1), some (qI gp), some (qI (m 85 0)), none] []
                    refine qJ.run hκ 2 (pc' := 218) (ls' := [some (qR 77), some (qI nm), some (qI a), some (qI b), some (qI c), some (qI d), some (qI e), some (qI n1), some (qI gp), some (qI (m 85 0)), some (qI 0)]) (st' := []) rfl ?_
                    exact qJ.cast (L218 6 n1 gp (m 87) 0 (by omega) (by omega) (⟨fun j _ => rfl, fun j h1 h2 => by omega⟩) (okw) (by omega) (by omega) (by omega)) (by rcases hnm with rfl | rfl <;> first | (exfalso; omega) | exact congrArg (fun z => (qLy u, z, y)) (q_row_id (a := 87) (f := m 87) (by rfl)).symm) rfl rfl
                  · show qJ YX12_word κ _ (qLy u, (q_up (q_row (q_up m 77 0 0) 107 gv) 85 0 ((m 85 0) + 1)), y) 0 0 208 [some (qR 77), some (qI nm), some (qI a), some (qI b), some (qI c), some (qI d), some (qI e), some (qI n1), some (qI gp), some (qI (m 85 0)), none] [qI (m 86 0), qI 0, qR 86]
                    refine qJ.run hκ 3 (pc' := 214) (ls' := [some (qR 77), some (qI nm), some (qI a), some (qI b), some (qI c), some (qI d), some (qI e), some (qI n1), some (qI gp), some (qI (m 85 0)), none]) (st' := [qI ((m 86 0) + 1), qI 0, qR 86]) rfl ?_
                    refine qJ.ast hκ rfl rfl rfl (by decide) (by omega) ?_
                    show qJ YX12_word κ _ (qLy u, (q_up (q_up (q_row (q_up m 77 0 0) 107 gv) 85 0 ((m 85 0) + 1)) 86 0 ((m 86 0) + 1)), y) 0 0 215 [some (qR 77), some (qI nm), some (qI a), some (qI b), some (qI c), some (qI d), some (qI e), some (qI n1), some (qI gp), some (qI (m 85 0)), none] []
                    refine qJ.run hκ 2 (pc' := 218) (ls' := [some (qR 77), some (qI nm), some (qI a), some (qI b), some (qI c), some (qI d), some (qI e), some (qI n1), some (qI gp), some (qI (m 85 0)), some (qI 0)]) (st' := []) rfl ?_
                    exact qJ.cast (L218 6 n1 gp (m 87) 0 (by omega) (by omega) (⟨fun j _ => rfl, fun j h1 h2 => by omega⟩) (okw) (by omega) (by omega) (by omega)) (by rcases hnm with rfl | rfl <;> first | (exfalso; omega) | exact congrArg (fun z => (qLy u, z, y)) (q_row_id (a := 87) (f := m 87) (by rfl)).symm) rfl rfl
                · show qJ YX12_word κ _ (qLy u, (q_row (q_up m 77 0 0) 107 gv), y) 0 0 177 [some (qR 77), some (qI nm), some (qI a), some (qI b), some (qI c), some (qI d), some (qI e), some (qI n1), some (qI gp), some (qI k), none] []
                  refine qJ.run hκ 1 (pc' := 178) (ls' := [some (qR 77), some (qI nm), some (qI a), some (qI b), some (qI c), some (qI d), some (qI e), some (qI n1), some (qI gp), some (qI k), none]) (st' := [qI (-1)]) rfl ?_
                  exact qJ.iret hκ rfl rfl (by decide) (by decide) (Or.inr ⟨gv, rfl, fun q hq => by have h2 := wOK_u (wOK_c (fun k hk => (gve k hk).symm) hq.1.2.1) okg; subst h2; have h3 := (wG_c hq.1.2.1.1.2 gve).mpr hq.1.2.2; unfold wG at h3; have h4 := hq.2; have h5 := hq.1.1; omega, rfl⟩)
            · show qJ YX12_word κ _ (qLy u, (q_row (q_up m 77 0 0) 107 gv), y) 0 0 155 [some (qR 77), some (qI nm), some (qI a), some (qI b), some (qI c), some (qI d), some (qI e), some (qI n1), some (qI gp), some (qI k), none] []
              refine qJ.run hκ 3 (pc' := 160) (ls' := [some (qR 77), some (qI nm), some (qI a), some (qI b), some (qI c), some (qI d), some (qI e), some (qI n1), some (qI gp), some (qI k), none]) (st' := [qI 0, qR 86]) rfl ?_
              refine qJ.ald hκ rfl rfl rfl (by decide) (by omega) ?_
              show qJ YX12_word κ _ (qLy u, (q_row (q_up m 77 0 0) 107 gv), y) 0 0 161 [some (qR 77), some (qI nm), some (qI a), some (qI b), some (qI c), some (qI d), some (qI e), some (qI n1), some (qI gp), some (qI k), none] [qI (m 86 0)]
              refine qJ.run hκ 1 (pc' := 163) (ls' := [some (qR 77), some (qI nm), some (qI a), some (qI b), some (qI c), some (qI d), some (qI e), some (qI n1), some (qI gp), some (qI k), none]) (st' := [qI 12, qI (m 86 0)]) rfl ?_
              refine qJ.icmp_eq hκ (tgt := 177) rfl rfl (by omega) (by omega) (fun c163 => ?_) (fun c163 => ?_)
              · show qJ YX12_word κ _ (qLy u, (q_row (q_up m 77 0 0) 107 gv), y) 0 0 177 [some (qR 77), some (qI nm), some (qI a), some (qI b), some (qI c), some (qI d), some (qI e), some (qI n1), some (qI gp), some (qI k), none] []
                refine qJ.run hκ 1 (pc' := 178) (ls' := [some (qR 77), some (qI nm), some (qI a), some (qI b), some (qI c), some (qI d), some (qI e), some (qI n1), some (qI gp), some (qI k), none]) (st' := [qI (-1)]) rfl ?_
                exact qJ.iret hκ rfl rfl (by decide) (by decide) (Or.inr ⟨gv, rfl, fun q hq => by have h2 := wOK_u (wOK_c (fun k hk => (gve k hk).symm) hq.1.2.1) okg; subst h2; have h3 := (wG_c hq.1.2.1.1.2 gve).mpr hq.1.2.2; unfold wG at h3; have h4 := hq.2; have h5 := hq.1.1; omega, rfl⟩)
              · show qJ YX12_word κ _ (qLy u, (q_row (q_up m 77 0 0) 107 gv), y) 0 0 166 [some (qR 77), some (qI nm), some (qI a), some (qI b), some (qI c), some (qI d), some (qI e), some (qI n1), some (qI gp), some (qI k), none] []
                refine qJ.run hκ 1 (pc' := 168) (ls' := [some (qR 77), some (qI nm), some (qI a), some (qI b), some (qI c), some (qI d), some (qI e), some (qI n1), some (qI gp), some (qI k), none]) (st' := [qI n1]) rfl ?_
                refine qJ.if_eq hκ (tgt := 177) rfl rfl (by omega) (fun c168 => ?_) (fun c168 => ?_)
                · show qJ YX12_word κ _ (qLy u, (q_row (q_up m 77 0 0) 107 gv), y) 0 0 177 [some (qR 77), some (qI nm), some (qI a), some (qI b), some (qI c), some (qI d), some (qI e), some (qI n1), some (qI gp), some (qI k), none] []
                  refine qJ.run hκ 1 (pc' := 178) (ls' := [some (qR 77), some (qI nm), some (qI a), some (qI b), some (qI c), some (qI d), some (qI e), some (qI n1), some (qI gp), some (qI k), none]) (st' := [qI (-1)]) rfl ?_
                  exact qJ.iret hκ rfl rfl (by decide) (by decide) (Or.inr ⟨gv, rfl, fun q hq => by have h2 := wOK_u (wOK_c (fun k hk => (gve k hk).symm) hq.1.2.1) okg; subst h2; have h3 := (wG_c hq.1.2.1.1.2 gve).mpr hq.1.2.2; unfold wG at h3; have h4 := hq.2; have h5 := hq.1.1; omega, rfl⟩)
                · show qJ YX12_word κ _ (qLy u, (q_row (q_up m 77 0 0) 107 gv), y) 0 0 171 [some (qR 77), some (qI nm), some (qI a), some (qI b), some (qI c), some (qI d), some (qI e), some (qI n1), some (qI gp), some (qI k), none] []
                  refine qJ.run hκ 2 (pc' := 174) (ls' := [some (qR 77), some (qI nm), some (qI a), some (qI b), some (qI c), some (qI d), some (qI e), some (qI n1), some (qI gp), some (qI k), none]) (st' := [qI 1, qI gp]) rfl ?_
                  refine qJ.icmp_le hκ (tgt := 179) rfl rfl (by omega) (by omega) (fun c174 => ?_) (fun c174 => ?_)
                  · show qJ YX12_word κ _ (qLy u, (q_row (q_up m 77 0 0) 107 gv), y) 0 0 179 [some (qR 77), some (qI nm), some (qI a), some (qI b), some (qI c), some (qI d), some (qI e), some (qI n1), some (qI gp), some (qI k), none] []
                    have okw : wOK gv n1 ∧ wG gv n1 := ⟨okg, by unfold wG; omega⟩
                    refine qJ.run hκ 3 (pc' := 184) (ls' := [some (qR 77), some (qI nm), some (qI a), some (qI b), some (qI c), some (qI d), some (qI e), some (qI n1), some (qI gp), some (qI k), none]) (st' := [qI 0, qR 85]) rfl ?_
                    refine qJ.ald hκ rfl rfl rfl (by decide) (by omega) ?_
                    show qJ YX12_word κ _ (qLy u, (q_row (q_up m 77 0 0) 107 gv), y) 0 0 185 [some (qR 77), some (qI nm), some (qI a), some (qI b), some (qI c), some (qI d), some (qI e), some (qI n1), some (qI gp), some (qI k), none] [qI (m 85 0)]
                    refine qJ.run hκ 5 (pc' := 193) (ls' := [some (qR 77), some (qI nm), some (qI a), some (qI b), some (qI c), some (qI d), some (qI e), some (qI n1), some (qI gp), some (qI (m 85 0)), none]) (st' := [qI 0, qR 85, qI 0, qR 85]) rfl ?_
                    refine qJ.ald hκ rfl rfl rfl (by decide) (by omega) ?_
                    show qJ YX12_word κ _ (qLy u, (q_row (q_up m 77 0 0) 107 gv), y) 0 0 194 [some (qR 77), some (qI nm), some (qI a), some (qI b), some (qI c), some (qI d), some (qI e), some (qI n1), some (qI gp), some (qI (m 85 0)), none] [qI (m 85 0), qI 0, qR 85]
                    refine qJ.run hκ 2 (pc' := 196) (ls' := [some (qR 77), some (qI nm), some (qI a), some (qI b), some (qI c), some (qI d), some (qI e), some (qI n1), some (qI gp), some (qI (m 85 0)), none]) (st' := [qI ((m 85 0) + 1), qI 0, qR 85]) rfl ?_
                    refine qJ.ast hκ rfl rfl rfl (by decide) (by omega) ?_
                    show qJ YX12_word κ _ (qLy u, (q_up (q_row (q_up m 77 0 0) 107 gv) 85 0 ((m 85 0) + 1)), y) 0 0 197 [some (qR 77), some (qI nm), some (qI a), some (qI b), some (qI c), some (qI d), some (qI e), some (qI n1), some (qI gp), some (qI (m 85 0)), none] []
                    refine qJ.run hκ 4 (pc' := 203) (ls' := [some (qR 77), some (qI nm), some (qI a), some (qI b), some (qI c), some (qI d), some (qI e), some (qI n1), some (qI gp), some (qI (m 85 0)), none]) (st' := [qI 0, qR 86, qI 0, qR 86]) rfl ?_
                    refine qJ.ald hκ rfl rfl rfl (by decide) (by omega) ?_
                    show qJ YX12_word κ _ (qLy u, (q_up (q_row (q_up m 77 0 0) 107 gv) 85 0 ((m 85 0) + 1)), y) 0 0 204 [some (qR 77), some (qI nm), some (qI a), some (qI b), some (qI c), some (qI d), some (qI e), some (qI n1), some (qI gp), some (qI (m 85 0)), none] [qI (m 86 0), qI 0, qR 86]
                    refine qJ.run hκ 1 (pc' := 205) (ls' := [some (qR 77), some (qI nm), some (qI a), some (qI b), some (qI c), some (qI d), some (qI e), some (qI n1), some (qI gp), some (qI (m 85 0)), none]) (st' := [qI nm, qI (m 86 0), qI 0, qR 86]) rfl ?_
                    refine qJ.if_eq hκ (tgt := 212) rfl rfl (by omega) (fun c205 => ?_) (fun c205 => ?_)
                    · show qJ YX12_word κ _ (qLy u, (q_up (q_row (q_up m 77 0 0) 107 gv) 85 0 ((m 85 0) + 1)), y) 0 0 212 [some (qR 77), some (qI nm), some (qI a), some (qI b), some (qI c), some (qI d), some (qI e), some (qI n1), some (qI gp), some (qI (m 85 0)), none] [qI (m 86 0), qI 0, qR 86]
                      refine qJ.run hκ 2 (pc' := 214) (ls' := [some (qR 77), some (qI nm), some (qI a), some (qI b), some (qI c), some (qI d), some (qI e), some (qI n1), some (qI gp), some (qI (m 85 0)), none]) (st' := [qI ((m 86 0) + 0), qI 0, qR 86]) rfl ?_
                      refine qJ.ast hκ rfl rfl rfl (by decide) (by omega) ?_
                      show qJ YX12_word κ _ (qLy u, (q_up (q_up (q_row (q_up m 77 0 0) 107 gv) 85 0 ((m 85 0) + 1)) 86 0 ((m 86 0) + 0)), y) 0 0 215 [some (qR 77), some (qI nm), some (qI a), some (qI b), some (qI c), some (qI d), some (qI e), some (qI n1), some (qI gp), some (qI (m 85 0)), none] []
                      refine qJ.run hκ 2 (pc' := 218) (ls' := [some (qR 77), some (qI nm), some (qI a), some (qI b), some (qI c), some (qI d), some (qI e), some (qI n1), some (qI gp), some (qI (m 85 0)), some (qI 0)]) (st' := []) rfl ?_
                      exact qJ.cast (L218 6 n1 gp (m 87) 0 (by omega) (by omega) (⟨fun j _ => rfl, fun j h1 h2 => by omega⟩) (okw) (by omega) (by omega) (by omega)) (by rcases hnm with rfl | rfl <;> first | (exfalso; omega) | exact congrArg (fun z => (qLy u, z, y)) (q_row_id (a := 87) (f := m 87) (by rfl)).symm) rfl rfl
                    · show qJ YX12_word κ _ (qLy u, (q_up (q_row (q_up m 77 0 0) 107 gv) 85 0 ((m 85 0) + 1)), y) 0 0 208 [some (qR 77), some (qI nm), some (qI a), some (qI b), some (qI c), some (qI d), some (qI e), some (qI n1), some (qI gp), some (qI (m 85 0)), none] [qI (m 86 0), qI 0, qR 86]
                      refine qJ.run hκ 3 (pc' := 214) (ls' := [some (qR 77), some (qI nm), some (qI a), some (qI b), some (qI c), some (qI d), some (qI e), some (qI n1), some (qI gp), some (qI (m 85 0)), none]) (st' := [qI ((m 86 0) + 1), qI 0, qR 86]) rfl ?_
                      refine qJ.ast hκ rfl rfl rfl (by decide) (by omega) ?_
                      show qJ YX12_word κ _ (qLy u, (q_up (q_up (q_row (q_up m 77 0 0) 107 gv) 85 0 ((m 85 0) + 1)) 86 0 ((m 86 0) + 1)), y) 0 0 215 [some (qR 77), some (qI nm), some (qI a), some (qI b), some (qI c), some (qI d), some (qI e), some (qI n1), some (qI gp), some (qI (m 85 0)), none] []
                      refine qJ.run hκ 2 (pc' := 218) (ls' := [some (qR 77), some (qI nm), some (qI a), some (qI b), some (qI c), some (qI d), some (qI e), some (qI n1), some (qI gp), some (qI (m 85 0)), some (qI 0)]) (st' := []) rfl ?_
                      exact qJ.cast (L218 6 n1 gp (m 87) 0 (by omega) (by omega) (⟨fun j _ => rfl, fun j h1 h2 => by omega⟩) (okw) (by omega) (by omega) (by omega)) (by rcases hnm with rfl | rfl <;> first | (exfalso; omega) | exact congrArg (fun z => (qLy u, z, y)) (q_row_id (a := 87) (f := m 87) (by rfl)).symm) rfl rfl
                  · show qJ YX12_word κ _ (qLy u, (q_row (q_up m 77 0 0) 107 gv), y) 0 0 177 [some (qR 77), some (qI nm), some (qI a), some (qI b), some (qI c), some (qI d), some (qI e), some (qI n1), some (qI gp), some (qI k), none] []
                    refine qJ.run hκ 1 (pc' := 178) (ls' := [some (qR 77), some (qI nm), some (qI a), some (qI b), some (qI c), some (qI d), some (qI e), some (qI n1), some (qI gp), some (qI k), none]) (st' := [qI (-1)]) rfl ?_
                    exact qJ.iret hκ rfl rfl (by decide) (by decide) (Or.inr ⟨gv, rfl, fun q hq => by have h2 := wOK_u (wOK_c (fun k hk => (gve k hk).symm) hq.1.2.1) okg; subst h2; have h3 := (wG_c hq.1.2.1.1.2 gve).mpr hq.1.2.2; unfold wG at h3; have h4 := hq.2; have h5 := hq.1.1; omega, rfl⟩)
      · show qJ YX12_word κ _ (qLy u, (q_row (q_up m 77 0 0) 107 gv), y) 0 0 109 [some (qR 77), some (qI nm), some (qI a), some (qI b), some (qI c), some (qI d), some (qI e), some (qI n1), some (qI gp), some (qI k), none] []
        have q1 := gvr k.toNat (by omega)
        refine qJ.run hκ 3 (pc' := 115) (ls' := [some (qR 77), some (qI nm), some (qI a), some (qI b), some (qI c), some (qI d), some (qI e), some (qI n1), some (qI gp), some (qI k), none]) (st' := [qI k, qR 107]) rfl ?_
        refine qJ.ald hκ rfl rfl rfl (by decide) (by omega) ?_
        show qJ YX12_word κ _ (qLy u, (q_row (q_up m 77 0 0) 107 gv), y) 0 0 116 [some (qR 77), some (qI nm), some (qI a), some (qI b), some (qI c), some (qI d), some (qI e), some (qI n1), some (qI gp), some (qI k), none] [qI (gv k.toNat)]
        refine qJ.run hκ 1 (pc' := 117) (ls' := [some (qR 77), some (qI nm), some (qI a), some (qI b), some (qI c), some (qI d), some (qI e), some (qI n1), some (qI gp), some (qI k), none]) (st' := [qI (-1), qI (gv k.toNat)]) rfl ?_
        refine qJ.icmp_eq hκ (tgt := 122) rfl rfl (by omega) (by omega) (fun c117 => ?_) (fun c117 => ?_)
        · show qJ YX12_word κ _ (qLy u, (q_row (q_up m 77 0 0) 107 gv), y) 0 0 122 [some (qR 77), some (qI nm), some (qI a), some (qI b), some (qI c), some (qI d), some (qI e), some (qI n1), some (qI gp), some (qI k), none] []
          refine qJ.run hκ 2 (pc' := 103) (ls' := [some (qR 77), some (qI nm), some (qI a), some (qI b), some (qI c), some (qI d), some (qI e), some (qI n1), some (qI gp), some (qI (k + 1)), none]) (st' := []) rfl ?_
          exact ih103  n1 gp (k + 1) (by omega) (by omega) (by omega) (v103_3) (v103_4) (fun j h1 h2 => by by_cases q : (j : Int) < k; exact v103_5 j h1 q; rw [show j = k.toNat by omega]; exact c117) (v103_6) (by omega)
        · show qJ YX12_word κ _ (qLy u, (q_row (q_up m 77 0 0) 107 gv), y) 0 0 120 [some (qR 77), some (qI nm), some (qI a), some (qI b), some (qI c), some (qI d), some (qI e), some (qI n1), some (qI gp), some (qI k), none] []
          refine qJ.run hκ 1 (pc' := 121) (ls' := [some (qR 77), some (qI nm), some (qI a), some (qI b), some (qI c), some (qI d), some (qI e), some (qI n1), some (qI gp), some (qI k), none]) (st' := [qI (-1)]) rfl ?_
          exact qJ.iret hκ rfl rfl (by decide) (by decide) (Or.inr ⟨gv, rfl, fun q hq => by have h2 := wOK_c (fun k hk => (gve k hk).symm) hq.1.2.1; exact wBad2 (n := n1) (k := k) (by omega) v103_3 v103_6 c117 q h2, rfl⟩)
  have L49 : ∀ (n : Nat) (n1 : Int) (gp : Int), (0 ≤ n1) → (n1 ≤ 5) → (∀ k : Nat, (k : Int) < n1 → 0 ≤ gv k ∧ gv k ≤ 20) → (gp = (q_cnt (fun k => gv k = 20) n1.toNat : Nat)) → ((5 - n1).toNat) < n → qJ YX12_word κ (qFin (fun r h => (∃ n m', r = some (qI (m 85 0)) ∧ mwA m nm a b c d e n ∧ h = (qLy u, m', y) ∧ mWd m m' n nm (wv a b c d e)) ∨ (∃ gv, r = some (qI (-1)) ∧ (∀ n, ¬ mwA m nm a b c d e n) ∧ h = (qLy u, q_row (q_up m 77 0 0) 107 gv, y))) 0 0 κ) (qLy u, (q_row (q_up m 77 0 0) 107 gv), y) 0 0 49 [some (qR 77), some (qI nm), some (qI a), some (qI b), some (qI c), some (qI d), some (qI e), some (qI n1), some (qI gp), none, none] [] := by
    intro n
    induction n with
    | zero => intro n1 gp _ _ _ _ hz0; omega
    | succ n ih49 =>
      intro n1 gp v49_0 v49_1 v49_2 v49_3 v49_m
      have cl := q_cnt_le (fun k => gv k = 20) n1.toNat
      refine qJ.run hκ 2 (pc' := 52) (ls' := [some (qR 77), some (qI nm), some (qI a), some (qI b), some (qI c), some (qI d), some (qI e), some (qI n1), some (qI gp), none, none]) (st' := [qI 5, qI n1]) rfl ?_
      refine qJ.icmp_ge hκ (tgt := 99) rfl rfl (by omega) (by omega) (fun c52 => ?_) (fun c52 => ?_)
      · show qJ YX12_word κ _ (qLy u, (q_row (q_up m 77 0 0) 107 gv), y) 0 0 99 [some (qR 77), some (qI nm), some (qI a), some (qI b), some (qI c), some (qI d), some (qI e), some (qI n1), some (qI gp), none, none] []
        refine qJ.run hκ 2 (pc' := 103) (ls' := [some (qR 77), some (qI nm), some (qI a), some (qI b), some (qI c), some (qI d), some (qI e), some (qI n1), some (qI gp), some (qI n1), none]) (st' := []) rfl ?_
        exact L103 6 n1 gp n1 (by omega) (by omega) (by omega) (v49_2) (v49_3) (fun j h1 h2 => by omega) (Or.inl (by omega)) (by omega)
      · show qJ YX12_word κ _ (qLy u, (q_row (q_up m 77 0 0) 107 gv), y) 0 0 55 [some (qR 77), some (qI nm), some (qI a), some (qI b), some (qI c), some (qI d), some (qI e), some (qI n1), some (qI gp), none, none] []
        have q1 := gvr n1.toNat (by omega)
        refine qJ.run hκ 3 (pc' := 61) (ls' := [some (qR 77), some (qI nm), some (qI a), some (qI b), some (qI c), some (qI d), some (qI e), some (qI n1), some (qI gp), none, none]) (st' := [qI n1, qR 107]) rfl ?_
        refine qJ.ald hκ rfl rfl rfl (by decide) (by omega) ?_
        show qJ YX12_word κ _ (qLy u, (q_row (q_up m 77 0 0) 107 gv), y) 0 0 62 [some (qR 77), some (qI nm), some (qI a), some (qI b), some (qI c), some (qI d), some (qI e), some (qI n1), some (qI gp), none, none] [qI (gv n1.toNat)]
        refine qJ.run hκ 2 (pc' := 65) (ls' := [some (qR 77), some (qI nm), some (qI a), some (qI b), some (qI c), some (qI d), some (qI e), some (qI n1), some (qI gp), none, none]) (st' := [qI 20, qI 0, qI (gv n1.toNat)]) rfl ?_
        refine qJ.callS (As := [qI (gv n1.toNat), qI 0, qI 20]) (rest := []) hκ rfl kX12_167 (c_in u (q_row (q_up m 77 0 0) 107 gv) y (gv n1.toNat) 0 20 (by omega) (by omega) (by omega)) (by decide) rfl rfl (Nat.le_of_ble_eq_true rfl) (Nat.le_of_ble_eq_true rfl) (Nat.le_of_ble_eq_true rfl) (Or.inl (fun r h' e => by obtain ⟨z65, rfl, hz65, rfl⟩ := e; rfl)) (fun r h' e => ?_)
        obtain ⟨z65, rfl, hz65, rfl⟩ := e
        show qJ YX12_word κ _ (qLy u, (q_row (q_up m 77 0 0) 107 gv), y) 0 0 68 [some (qR 77), some (qI nm), some (qI a), some (qI b), some (qI c), some (qI d), some (qI e), some (qI n1), some (qI gp), none, none] [qI z65]
        refine qJ.if_eq hκ (tgt := 99) rfl rfl (by omega) (fun c68 => ?_) (fun c68 => ?_)
        · show qJ YX12_word κ _ (qLy u, (q_row (q_up m 77 0 0) 107 gv), y) 0 0 99 [some (qR 77), some (qI nm), some (qI a), some (qI b), some (qI c), some (qI d), some (qI e), some (qI n1), some (qI gp), none, none] []
          refine qJ.run hκ 2 (pc' := 103) (ls' := [some (qR 77), some (qI nm), some (qI a), some (qI b), some (qI c), some (qI d), some (qI e), some (qI n1), some (qI gp), some (qI n1), none]) (st' := []) rfl ?_
          exact L103 6 n1 gp n1 (by omega) (by omega) (by omega) (v49_2) (v49_3) (fun j h1 h2 => by omega) (Or.inr (by omega)) (by omega)
        · show qJ YX12_word κ _ (qLy u, (q_row (q_up m 77 0 0) 107 gv), y) 0 0 71 [some (qR 77), some (qI nm), some (qI a), some (qI b), some (qI c), some (qI d), some (qI e), some (qI n1), some (qI gp), none, none] []
          have nx2 : ∀ k : Nat, (k : Int) < n1 + 1 → 0 ≤ gv k ∧ gv k ≤ 20 := fun k hk => by by_cases q : (k : Int) < n1; exact v49_2 k q; rw [show k = n1.toNat by omega]; omega
          refine qJ.run hκ 4 (pc' := 79) (ls' := [some (qR 77), some (qI nm), some (qI a), some (qI b), some (qI c), some (qI d), some (qI e), some (qI n1), some (qI gp), none, none]) (st' := [qI n1, qR 107, qI gp]) rfl ?_
          refine qJ.ald hκ rfl rfl rfl (by decide) (by omega) ?_
          show qJ YX12_word κ _ (qLy u, (q_row (q_up m 77 0 0) 107 gv), y) 0 0 80 [some (qR 77), some (qI nm), some (qI a), some (qI b), some (qI c), some (qI d), some (qI e), some (qI n1), some (qI gp), none, none] [qI (gv n1.toNat), qI gp]
          refine qJ.run hκ 1 (pc' := 82) (ls' := [some (qR 77), some (qI nm), some (qI a), some (qI b), some (qI c), some (qI d), some (qI e), some (qI n1), some (qI gp), none, none]) (st' := [qI 20, qI (gv n1.toNat), qI gp]) rfl ?_
          refine qJ.icmp_ne hκ (tgt := 89) rfl rfl (by omega) (by omega) (fun c82 => ?_) (fun c82 => ?_)
          · show qJ YX12_word κ _ (qLy u, (q_row (q_up m 77 0 0) 107 gv), y) 0 0 89 [some (qR 77), some (qI nm), some (qI a), some (qI b), some (qI c), some (qI d), some (qI e), some (qI n1), some (qI gp), none, none] [qI gp]
            refine qJ.run hκ 5 (pc' := 49) (ls' := [some (qR 77), some (qI nm), some (qI a), some (qI b), some (qI c), some (qI d), some (qI e), some (qI (n1 + 1)), some (qI (gp + 0)), none, none]) (st' := []) rfl ?_
            exact ih49  (n1 + 1) (gp + 0) (by omega) (by omega) (nx2) (by rw [q_cnt_s v49_0, if_neg c82]; omega) (by omega)
          · show qJ YX12_word κ _ (qLy u, (q_row (q_up m 77 0 0) 107 gv), y) 0 0 85 [some (qR 77), some (qI nm), some (qI a), some (qI b), some (qI c), some (qI d), some (qI e), some (qI n1), some (qI gp), none, none] [qI gp]
            refine qJ.run hκ 6 (pc' := 49) (ls' := [some (qR 77), some (qI nm), some (qI a), some (qI b), some (qI c), some (qI d), some (qI e), some (qI (n1 + 1)), some (qI (gp + 1)), none, none]) (st' := []) rfl ?_
            exact ih49  (n1 + 1) (gp + 1) (by omega) (by omega) (nx2) (by rw [q_cnt_s v49_0, if_pos c82]; omega) (by omega)
  show qJ YX12_word κ _ (qLy u, m, y) 0 0 0 [some (qR 77), some (qI nm), some (qI a), some (qI b), some (qI c), some (qI d), some (qI e), none, none, none, none] []
  refine qJ.run hκ 2 (pc' := 2) (ls' := [some (qR 77), some (qI nm), some (qI a), some (qI b), some (qI c), some (qI d), some (qI e), none, none, none, none]) (st' := [qI 0, qR 77]) rfl ?_
  refine qJ.putI hκ rfl rfl rfl rfl (Or.inl rfl) ?_
  show qJ YX12_word κ _ (qLy u, (q_up m 77 0 0), y) 0 0 5 [some (qR 77), some (qI nm), some (qI a), some (qI b), some (qI c), some (qI d), some (qI e), none, none, none, none] []
  refine qJ.run hκ 4 (pc' := 11) (ls' := [some (qR 77), some (qI nm), some (qI a), some (qI b), some (qI c), some (qI d), some (qI e), none, none, none, none]) (st' := [qI a, qI 0, qR 107]) rfl ?_
  refine qJ.ast hκ rfl rfl rfl (by decide) (by omega) ?_
  show qJ YX12_word κ _ (qLy u, (q_up (q_up m 77 0 0) 107 0 a), y) 0 0 12 [some (qR 77), some (qI nm), some (qI a), some (qI b), some (qI c), some (qI d), some (qI e), none, none, none, none] []
  refine qJ.run hκ 4 (pc' := 18) (ls' := [some (qR 77), some (qI nm), some (qI a), some (qI b), some (qI c), some (qI d), some (qI e), none, none, none, none]) (st' := [qI b, qI 1, qR 107]) rfl ?_
  refine qJ.ast hκ rfl rfl rfl (by decide) (by omega) ?_
  show qJ YX12_word κ _ (qLy u, (q_up (q_up (q_up m 77 0 0) 107 0 a) 107 1 b), y) 0 0 19 [some (qR 77), some (qI nm), some (qI a), some (qI b), some (qI c), some (qI d), some (qI e), none, none, none, none] []
  refine qJ.run hκ 4 (pc' := 26) (ls' := [some (qR 77), some (qI nm), some (qI a), some (qI b), some (qI c), some (qI d), some (qI e), none, none, none, none]) (st' := [qI c, qI 2, qR 107]) rfl ?_
  refine qJ.ast hκ rfl rfl rfl (by decide) (by omega) ?_
  show qJ YX12_word κ _ (qLy u, (q_up (q_up (q_up (q_up m 77 0 0) 107 0 a) 107 1 b) 107 2 c), y) 0 0 27 [some (qR 77), some (qI nm), some (qI a), some (qI b), some (qI c), some (qI d), some (qI e), none, none, none, none] []
  refine qJ.run hκ 4 (pc' := 34) (ls' := [some (qR 77), some (qI nm), some (qI a), some (qI b), some (qI c), some (qI d), some (qI e), none, none, none, none]) (st' := [qI d, qI 3, qR 107]) rfl ?_
  refine qJ.ast hκ rfl rfl rfl (by decide) (by omega) ?_
  show qJ YX12_word κ _ (qLy u, (q_up (q_up (q_up (q_up (q_up m 77 0 0) 107 0 a) 107 1 b) 107 2 c) 107 3 d), y) 0 0 35 [some (qR 77), some (qI nm), some (qI a), some (qI b), some (qI c), some (qI d), some (qI e), none, none, none, none] []
  refine qJ.run hκ 4 (pc' := 42) (ls' := [some (qR 77), some (qI nm), some (qI a), some (qI b), some (qI c), some (qI d), some (qI e), none, none, none, none]) (st' := [qI e, qI 4, qR 107]) rfl ?_
  refine qJ.ast hκ rfl rfl rfl (by decide) (by omega) ?_
  show qJ YX12_word κ _ (qLy u, (q_up (q_up (q_up (q_up (q_up (q_up m 77 0 0) 107 0 a) 107 1 b) 107 2 c) 107 3 d) 107 4 e), y) 0 0 43 [some (qR 77), some (qI nm), some (qI a), some (qI b), some (qI c), some (qI d), some (qI e), none, none, none, none] []
  refine qJ.mc (m1 := (q_up (q_up (q_up (q_up (q_up (q_up m 77 0 0) 107 0 a) 107 1 b) 107 2 c) 107 3 d) 107 4 e)) (m2 := (q_row (q_up m 77 0 0) 107 gv)) (by rw [hgv, q_up5]; rfl) ?_
  show qJ YX12_word κ _ (qLy u, (q_row (q_up m 77 0 0) 107 gv), y) 0 0 43 [some (qR 77), some (qI nm), some (qI a), some (qI b), some (qI c), some (qI d), some (qI e), none, none, none, none] []
  refine qJ.run hκ 4 (pc' := 49) (ls' := [some (qR 77), some (qI nm), some (qI a), some (qI b), some (qI c), some (qI d), some (qI e), some (qI 0), some (qI 0), none, none]) (st' := []) rfl ?_
  exact L49 6 0 0 (by omega) (by omega) (fun k hk => by omega) (rfl) (by omega)

/-! printed by p29.py: the model, findGrid -/
theorem jst_e {m : qM} {g : Nat} {w v : Int} {f : Nat → Int} : jst m g w v f = if stq m g w v ∧ ¬ lst m g w = lst m g v then jn f (lst m g w) (lst m g v) else f := by
  unfold jst
  by_cases h : stq m g w v
  · rw [if_pos h]
    by_cases h2 : lst m g w = lst m g v
    · rw [if_neg (fun z => z.2 h2), h2]; exact jn_eq rfl
    · rw [if_pos ⟨h, h2⟩]
  · rw [if_neg h, if_neg (fun z => h z.1)]
abbrev gL (m : qM) (l gr : Int) : Nat → Int := fun w => lst (gM m l gr) 34 w
/-- labels behind the pairs (v, .. w) -/
def gdN (m : qM) (l gr : Int) (n0 : Nat) (f0 c0 : Nat → Int) (v w : Nat) (f c : Nat → Int) : Prop :=
  (v < fN m n0 → f = stm (gM m l gr) 34 v (rst (gM m l gr) 34 f0 v) w ∧ c = mcI (gL m l gr) (kst m (fun _ => -1) n0) v (mcO (gL m l gr) (kst m (fun _ => -1) n0) c0 v) w) ∧
  (fN m n0 ≤ v → f = rst (gM m l gr) 34 f0 (fN m n0) ∧ c = mcO (gL m l gr) (kst m (fun _ => -1) n0) c0 (fN m n0))
theorem gdN_s {m : qM} {l gr : Int} {n0 : Nat} {f0 c0 f c f1 c1 a : Nat → Int} {v w : Nat} (hv : v < fN m n0) (ha : a v = kst m (fun _ => -1) n0 v ∧ a w = kst m (fun _ => -1) n0 w) (h : gdN m l gr n0 f0 c0 v w f c)
    (fe : f1 = if stq (gM m l gr) 34 v w ∧ ¬ lst (gM m l gr) 34 v = lst (gM m l gr) 34 w then jn f (lst (gM m l gr) 34 v) (lst (gM m l gr) 34 w) else f)
    (ce : c1 = if ¬ a v = -1 ∧ a v = a w ∧ ¬ lst (gM m l gr) 34 v = 20 ∧ ¬ lst (gM m l gr) 34 w = 20 then jn c (lst (gM m l gr) 34 v) (lst (gM m l gr) 34 w) else c) : gdN m l gr n0 f0 c0 v (w + 1) f1 c1 := by
  obtain ⟨h1, h2⟩ := h.1 hv
  refine ⟨fun _ => ⟨?_, ?_⟩, fun z => by omega⟩
  · show f1 = jst (gM m l gr) 34 v w (stm (gM m l gr) 34 v (rst (gM m l gr) 34 f0 v) w)
    rw [jst_e, fe, h1]
  · rw [ce, h2, ha.1, ha.2]; rfl
theorem gdN_o {m : qM} {l gr : Int} {n0 : Nat} {f0 c0 f c : Nat → Int} {v w : Nat} (h : gdN m l gr n0 f0 c0 v w f c) (hw : w = v ∨ fN m n0 ≤ v) : gdN m l gr n0 f0 c0 (v + 1) 0 f c := by
  by_cases e : v < fN m n0
  · obtain ⟨h1, h2⟩ := h.1 e
    have hw2 : w = v := by omega
    subst hw2
    refine ⟨fun _ => ⟨h1, h2⟩, fun z => ?_⟩
    have : fN m n0 = w + 1 := by omega
    rw [this]
    exact ⟨h1, h2⟩
  · obtain ⟨h1, h2⟩ := h.2 (by omega)
    exact ⟨fun z => by omega, fun _ => ⟨h1, h2⟩⟩
theorem stm_ag {m : qM} {g : Nat} {w : Int} {f f' : Nat → Int} (hW : gW m) (hg : gOK m g) (hw : 0 ≤ w ∧ w < m 2 0) (h : ag 20 f f') : ∀ j : Nat, (j : Int) ≤ w → ag 20 (stm m g w f j) (stm m g w f' j)
  | 0, _ => h
  | j + 1, hj => by
    have ih := stm_ag hW hg hw h j (by omega)
    show ag 20 (jst m g w j (stm m g w f j)) (jst m g w j (stm m g w f' j))
    unfold jst
    by_cases e : stq m g w j
    · rw [if_pos e, if_pos e]
      exact jn_ag ih (lst_r hW hg hw e.1.2.2.1) (lst_r hW hg ⟨by omega, by omega⟩ e.1.2.2.2)
    · rw [if_neg e, if_neg e]; exact ih
theorem rst_ag {m : qM} {g : Nat} {f f' : Nat → Int} (hW : gW m) (hg : gOK m g) (h : ag 20 f f') : ∀ n : Nat, (n : Int) ≤ m 2 0 → ag 20 (rst m g f n) (rst m g f' n)
  | 0, _ => h
  | n + 1, hn => stm_ag hW hg ⟨by omega, by omega⟩ (rst_ag hW hg h n (by omega)) n (by omega)
/-- the labels that a grid has behind the first n tellings -/
def gdI (m : qM) (l gr : Int) (n : Nat) (f c : Nat → Int) : Prop := lb f ∧ lb c ∧ ag 20 f (gF m l gr n) ∧ ag 20 c (gK m l gr n)
theorem fN_le {m : qM} (hR : rC m) {n : Nat} (hn : (n : Int) ≤ m 2 2) : (fN m n : Int) ≤ m 2 0 := by
  have := fN_mono (m := m) (a := n) (b := (m 2 2).toNat) (by omega)
  have := hR.2.2.2.2.2.2.2.1
  omega
theorem gd_end {m : qM} {l gr : Int} {n0 : Nat} {f0 c0 f c : Nat → Int} (hR : rC m) (hg : gOK (gM m l gr) 34) (hn : (n0 : Int) ≤ m 2 2) (h0 : ag 20 f0 (sep (fun _ => 0)) ∧ ag 20 c0 (sep (fun _ => 0))) (hf : lb f) (hc : lb c) {v : Nat} (hv : fN m n0 ≤ v) (h : gdN m l gr n0 f0 c0 v 0 f c) : gdI m l gr n0 f c := by
  obtain ⟨h1, h2⟩ := h.2 hv
  have nl := fN_le hR hn
  have hWM : gW (gM m l gr) := hR.2.1
  have hk : ∀ w : Nat, w < fN m n0 → (-1 ≤ kst m (fun _ => -1) n0 w ∧ kst m (fun _ => -1) n0 w ≤ 3) ∧ 0 ≤ lst (gM m l gr) 34 w ∧ lst (gM m l gr) 34 w ≤ 20 := fun w hw =>
    ⟨kst_r hR.2.2.2.1 n0 hn w, lst_r2 hWM hg ⟨by omega, by show (w : Int) < m 2 0; omega⟩⟩
  refine ⟨hf, hc, ?_, ?_⟩
  · rw [h1]; exact rst_ag hWM hg h0.1 _ nl
  · rw [h2]
    have e := (col_eq (m := gM m l gr) (g := 34) (kk := kst m (fun _ => -1) n0) (c0 := c0) (fN m n0) hk).1
    rw [show mcO (gL m l gr) (kst m (fun _ => -1) n0) c0 (fN m n0) = _ from e.symm]
    exact (jcS_ag h0.2 (fun _ _ => rfl) (fun k _ => ⟨by omega, by omega⟩) (fN m n0) hk).1

theorem c_mLst (u : qU) (m y : qM) (l gr w : Int) (hR : rC m) (hM : m 77 35 = gr ∧ m 77 36 = l) (hg : gOK (gM m l gr) 34) (hw : 0 ≤ w ∧ w < m 2 0) : qCt YX12_signAt 1 0 0 [qR 77, qI w, qI (m 88 w.toNat - 1)] (qLy u, m, y) (fun r h => r = some (qI (lst (gM m l gr) 34 w)) ∧ h = (qLy u, m, y)) := by
  have e := (hR.2.2.1 w hw.1 hw.2).1.1
  have w1 := hR.2.1 w hw.1 hw.2
  rw [e]
  exact c_mSgn u m y l gr w (m 4 w.toNat - 1) hR hM hg hw (by omega)

set_option maxRecDepth 100000 in
theorem c_findGrid (u : qU) (m y : qM) (l gr : Int) (n0 : Nat) (t0 : Int) (hR : rC m) (hM : m 77 35 = gr ∧ m 77 36 = l) (hg : gOK (gM m l gr) 34) (h1 : (n0 : Int) = t0 + 1 ∧ (n0 : Int) ≤ m 2 2) : qCt YX12_findGrid 3 0 0 [qR 77, qI t0] (qLy u, m, y) (fun r h => r = none ∧ ∃ a b f c, h = (qLy u, q_row (q_row (q_row (q_row m 108 a) 109 b) 110 f) 111 c, y) ∧ gdI m l gr n0 f c) := by
  refine qCt.intro okX12_findGrid (Nat.le_of_ble_eq_true rfl) (fun κ hκ => ?_)
  have hR2 := hR
  obtain ⟨⟨⟨a0, a1, a2⟩, ⟨a3, a4, a5⟩, ⟨b0, b1, b2⟩, b3, b4, b5⟩, hW, hRW, hT, hRT, hS⟩ := hR2
  have hV : qr (m 83 0) := by omega
  have zr := gHz_r hR.1
  have ze := hz_eq hR.1
  have nWl := nW_le hR.1
  have nTl := nT_le hR.1
  have nfl := fN_le hR h1.2
  have hWM : gW (gM m l gr) := hW
  have L35 : ∀ (n : Nat) (a : Nat → Int) (b : Nat → Int) (f : Nat → Int) (c : Nat → Int) (v : Int), (0 ≤ v) → (v ≤ m 2 0) → (lkI m n0 a b) → (gdN m l gr n0 (sep (m 110)) (sep (m 111)) v.toNat 0 f c) → (lb f) → (lb c) → ((m 2 0 - v).toNat) < n → qJ YX12_findGrid κ (qFin (fun r h => r = none ∧ ∃ a b f c, h = (qLy u, q_row (q_row (q_row (q_row m 108 a) 109 b) 110 f) 111 c, y) ∧ gdI m l gr n0 f c) 0 0 κ) (qLy u, (q_row (q_row (q_row (q_row m 108 a) 109 b) 110 f) 111 c), y) 0 0 35 [some (qR 77), some (qI t0), some (qI v), none, none, none] [] := by
    intro n
    induction n with
    | zero => intro a b f c v _ _ _ _ _ _ hz0; omega
    | succ n ih35 =>
      intro a b f c v v35_0 v35_1 v35_2 v35_3 v35_4 v35_5 v35_m
      have L47 : ∀ (n : Nat) (a : Nat → Int) (b : Nat → Int) (f : Nat → Int) (c : Nat → Int) (w : Int), (0 ≤ w) → (w ≤ v) → (v < m 2 0) → (lkI m n0 a b) → (0 ≤ v) → (gdN m l gr n0 (sep (m 110)) (sep (m 111)) v.toNat w.toNat f c) → (lb f) → (lb c) → ((v - w).toNat) < n → qJ YX12_findGrid κ (qFin (fun r h => r = none ∧ ∃ a b f c, h = (qLy u, q_row (q_row (q_row (q_row m 108 a) 109 b) 110 f) 111 c, y) ∧ gdI m l gr n0 f c) 0 0 κ) (qLy u, (q_row (q_row (q_row (q_row m 108 a) 109 b) 110 f) 111 c), y) 0 0 47 [some (qR 77), some (qI t0), some (qI v), some (qI w), none, none] [] := by
        intro n
        induction n with
        | zero => intro a b f c w _ _ _ _ _ _ _ _ hz0; omega
        | succ n ih47 =>
          intro a b f c w v47_0 v47_1 v47_2 v47_3 v47_4 v47_5 v47_6 v47_7 v47_m
          have lkv := v47_3
          have v47_v := v47_4
          have bv := (lkv v.toNat (by omega)).2
          refine qJ.run hκ 2 (pc' := 49) (ls' := [some (qR 77), some (qI t0), some (qI v), some (qI w), none, none]) (st' := [qI v, qI w]) rfl ?_
          refine qJ.icmp_ge hκ (tgt := 179) rfl rfl (by omega) (by omega) (fun c49 => ?_) (fun c49 => ?_)
          · show qJ YX12_findGrid κ _ (qLy u, (q_row (q_row (q_row (q_row m 108 a) 109 b) 110 f) 111 c), y) 0 0 179 [some (qR 77), some (qI t0), some (qI v), some (qI w), none, none] []
            refine qJ.run hκ 2 (pc' := 35) (ls' := [some (qR 77), some (qI t0), some (qI (v + 1)), some (qI w), none, none]) (st' := []) rfl ?_
            refine qJ.dl [true, true, true, false, false, false] ?_
            show qJ YX12_findGrid κ _ (qLy u, (q_row (q_row (q_row (q_row m 108 a) 109 b) 110 f) 111 c), y) 0 0 35 [some (qR 77), some (qI t0), some (qI (v + 1)), none, none, none] []
            exact ih35  a b f c (v + 1) (by omega) (by omega) (lkv) (by rw [show (v + 1).toNat = v.toNat + 1 by omega]; exact gdN_o v47_5 (Or.inl (by omega))) (v47_6) (v47_7) (by omega)
          · show qJ YX12_findGrid κ _ (qLy u, (q_row (q_row (q_row (q_row m 108 a) 109 b) 110 f) 111 c), y) 0 0 52 [some (qR 77), some (qI t0), some (qI v), some (qI w), none, none] []
            refine qJ.run hκ 3 (pc' := 57) (ls' := [some (qR 77), some (qI t0), some (qI v), some (qI w), none, none]) (st' := [qI v, qR 109]) rfl ?_
            refine qJ.ald hκ rfl rfl rfl (by decide) (by omega) ?_
            show qJ YX12_findGrid κ _ (qLy u, (q_row (q_row (q_row (q_row m 108 a) 109 b) 110 f) 111 c), y) 0 0 58 [some (qR 77), some (qI t0), some (qI v), some (qI w), none, none] [qI (b v.toNat)]
            refine qJ.if_eq hκ (tgt := 179) rfl rfl (by omega) (fun c58 => ?_) (fun c58 => ?_)
            · show qJ YX12_findGrid κ _ (qLy u, (q_row (q_row (q_row (q_row m 108 a) 109 b) 110 f) 111 c), y) 0 0 179 [some (qR 77), some (qI t0), some (qI v), some (qI w), none, none] []
              refine qJ.run hκ 2 (pc' := 35) (ls' := [some (qR 77), some (qI t0), some (qI (v + 1)), some (qI w), none, none]) (st' := []) rfl ?_
              refine qJ.dl [true, true, true, false, false, false] ?_
              show qJ YX12_findGrid κ _ (qLy u, (q_row (q_row (q_row (q_row m 108 a) 109 b) 110 f) 111 c), y) 0 0 35 [some (qR 77), some (qI t0), some (qI (v + 1)), none, none, none] []
              exact ih35  a b f c (v + 1) (by omega) (by omega) (lkv) (by rw [show (v + 1).toNat = v.toNat + 1 by omega]; exact gdN_o v47_5 (Or.inr (by by_cases q : v.toNat < fN m n0; rw [if_pos q] at bv; omega; omega))) (v47_6) (v47_7) (by omega)
            · show qJ YX12_findGrid κ _ (qLy u, (q_row (q_row (q_row (q_row m 108 a) 109 b) 110 f) 111 c), y) 0 0 61 [some (qR 77), some (qI t0), some (qI v), some (qI w), none, none] []
              have hvN : v.toNat < fN m n0 := by by_cases q : v.toNat < fN m n0; exact q; rw [if_neg q] at bv; exact absurd bv c58
              have bw := (lkv w.toNat (by omega)).2
              rw [if_pos (show w.toNat < fN m n0 by omega)] at bw
              have av := (lkv v.toNat (by omega)).1
              have aw := (lkv w.toNat (by omega)).1
              have kr1 := kst_r hT n0 h1.2 v.toNat
              have kr2 := kst_r hT n0 h1.2 w.toNat
              have lr1 := lst_r2 (m := gM m l gr) (w := v) hWM hg ⟨by omega, by show v < m 2 0; omega⟩
              have lr2 := lst_r2 (m := gM m l gr) (w := w) hWM hg ⟨by omega, by show w < m 2 0; omega⟩
              refine qJ.run hκ 3 (pc' := 66) (ls' := [some (qR 77), some (qI t0), some (qI v), some (qI w), none, none]) (st' := [qI w, qR 109]) rfl ?_
              refine qJ.ald hκ rfl rfl rfl (by decide) (by omega) ?_
              show qJ YX12_findGrid κ _ (qLy u, (q_row (q_row (q_row (q_row m 108 a) 109 b) 110 f) 111 c), y) 0 0 67 [some (qR 77), some (qI t0), some (qI v), some (qI w), none, none] [qI (b w.toNat)]
              refine qJ.if_ne hκ (tgt := 73) rfl rfl (by omega) (fun c67 => ?_) (fun c67 => ?_)
              · show qJ YX12_findGrid κ _ (qLy u, (q_row (q_row (q_row (q_row m 108 a) 109 b) 110 f) 111 c), y) 0 0 73 [some (qR 77), some (qI t0), some (qI v), some (qI w), none, none] []
                refine qJ.run hκ 5 (pc' := 80) (ls' := [some (qR 77), some (qI t0), some (qI v), some (qI w), none, none]) (st' := [qI v, qR 88, qI v, qR 77]) rfl ?_
                refine qJ.ald hκ rfl rfl rfl (by decide) (by omega) ?_
                show qJ YX12_findGrid κ _ (qLy u, (q_row (q_row (q_row (q_row m 108 a) 109 b) 110 f) 111 c), y) 0 0 81 [some (qR 77), some (qI t0), some (qI v), some (qI w), none, none] [qI (m 88 v.toNat), qI v, qR 77]
                refine qJ.run hκ 2 (pc' := 83) (ls' := [some (qR 77), some (qI t0), some (qI v), some (qI w), none, none]) (st' := [qI ((m 88 v.toNat) - 1), qI v, qR 77]) rfl ?_
                refine qJ.callV (As := [qI v, qI ((m 88 v.toNat) - 1)]) (rest := []) hκ rfl kX12_199 (c_mLst u (q_row (q_row (q_row (q_row m 108 a) 109 b) 110 f) 111 c) y l gr v hR hM hg ⟨by omega, by show v < m 2 0; omega⟩) rfl rfl (by decide) rfl rfl (Nat.le_of_ble_eq_true rfl) (Nat.le_of_ble_eq_true rfl) (Nat.le_of_ble_eq_true rfl) (Or.inl (fun r h' e => by obtain ⟨rfl, rfl⟩ := e; rfl)) (fun r h' e => ?_)
                obtain ⟨rfl, rfl⟩ := e
                show qJ YX12_findGrid κ _ (qLy u, (q_row (q_row (q_row (q_row m 108 a) 109 b) 110 f) 111 c), y) 0 0 86 [some (qR 77), some (qI t0), some (qI v), some (qI w), none, none] [qI (lst (gM m l gr) 34 v)]
                refine qJ.run hκ 6 (pc' := 95) (ls' := [some (qR 77), some (qI t0), some (qI v), some (qI w), some (qI (lst (gM m l gr) 34 v)), none]) (st' := [qI w, qR 88, qI w, qR 77]) rfl ?_
                refine qJ.ald hκ rfl rfl rfl (by decide) (by omega) ?_
                show qJ YX12_findGrid κ _ (qLy u, (q_row (q_row (q_row (q_row m 108 a) 109 b) 110 f) 111 c), y) 0 0 96 [some (qR 77), some (qI t0), some (qI v), some (qI w), some (qI (lst (gM m l gr) 34 v)), none] [qI (m 88 w.toNat), qI w, qR 77]
                refine qJ.run hκ 2 (pc' := 98) (ls' := [some (qR 77), some (qI t0), some (qI v), some (qI w), some (qI (lst (gM m l gr) 34 v)), none]) (st' := [qI ((m 88 w.toNat) - 1), qI w, qR 77]) rfl ?_
                refine qJ.callV (As := [qI w, qI ((m 88 w.toNat) - 1)]) (rest := []) hκ rfl kX12_199 (c_mLst u (q_row (q_row (q_row (q_row m 108 a) 109 b) 110 f) 111 c) y l gr w hR hM hg ⟨by omega, by show w < m 2 0; omega⟩) rfl rfl (by decide) rfl rfl (Nat.le_of_ble_eq_true rfl) (Nat.le_of_ble_eq_true rfl) (Nat.le_of_ble_eq_true rfl) (Or.inl (fun r h' e => by obtain ⟨rfl, rfl⟩ := e; rfl)) (fun r h' e => ?_)
                obtain ⟨rfl, rfl⟩ := e
                show qJ YX12_findGrid κ _ (qLy u, (q_row (q_row (q_row (q_row m 108 a) 109 b) 110 f) 111 c), y) 0 0 101 [some (qR 77), some (qI t0), some (qI v), some (qI w), some (qI (lst (gM m l gr) 34 v)), none] [qI (lst (gM m l gr) 34 w)]
                refine qJ.run hκ 4 (pc' := 106) (ls' := [some (qR 77), some (qI t0), some (qI v), some (qI w), some (qI (lst (gM m l gr) 34 v)), some (qI (lst (gM m l gr) 34 w))]) (st' := [qI w, qI v, qR 77]) rfl ?_
                refine qJ.callV (As := [qI v, qI w]) (rest := []) hκ rfl kX12_203 (c_endUnlike u (q_row (q_row (q_row (q_row m 108 a) 109 b) 110 f) 111 c) y l gr v w hR hM hg ⟨by omega, by show v < m 2 0; omega⟩ ⟨by omega, by show w < m 2 0; omega⟩) rfl rfl (by decide) rfl rfl (Nat.le_of_ble_eq_true rfl) (Nat.le_of_ble_eq_true rfl) (Nat.le_of_ble_eq_true rfl) (Or.inl (fun r h' e => by obtain ⟨z106, rfl, hz0, rfl⟩ := e; rfl)) (fun r h' e => ?_)
                obtain ⟨z106, rfl, hz0, rfl⟩ := e
                show qJ YX12_findGrid κ _ (qLy u, (q_row (q_row (q_row (q_row m 108 a) 109 b) 110 f) 111 c), y) 0 0 109 [some (qR 77), some (qI t0), some (qI v), some (qI w), some (qI (lst (gM m l gr) 34 v)), some (qI (lst (gM m l gr) 34 w))] [qI z106]
                have hz : (z106 = 1 ∧ (stq (gM m l gr) 34 v w ∧ ¬ lst (gM m l gr) 34 v = lst (gM m l gr) 34 w)) ∨ (z106 = 0 ∧ ¬ (stq (gM m l gr) 34 v w ∧ ¬ lst (gM m l gr) 34 v = lst (gM m l gr) 34 w)) := hz0
                have zr1 : 0 ≤ z106 ∧ z106 ≤ 1 := by rcases hz with q | q <;> omega
                refine qJ.if_eq hκ (tgt := 123) rfl rfl (by omega) (fun c109 => ?_) (fun c109 => ?_)
                · show qJ YX12_findGrid κ _ (qLy u, (q_row (q_row (q_row (q_row m 108 a) 109 b) 110 f) 111 c), y) 0 0 123 [some (qR 77), some (qI t0), some (qI v), some (qI w), some (qI (lst (gM m l gr) 34 v)), some (qI (lst (gM m l gr) 34 w))] []
                  have fe : f = if stq (gM m l gr) 34 v w ∧ ¬ lst (gM m l gr) 34 v = lst (gM m l gr) 34 w then jn f (lst (gM m l gr) 34 v) (lst (gM m l gr) 34 w) else f := by rw [if_neg (hz.elim (fun q => by omega) (fun q => q.2))]
                  have flb := v47_6
                  refine qJ.run hκ 3 (pc' := 128) (ls' := [some (qR 77), some (qI t0), some (qI v), some (qI w), some (qI (lst (gM m l gr) 34 v)), some (qI (lst (gM m l gr) 34 w))]) (st' := [qI v, qR 108]) rfl ?_
                  refine qJ.ald hκ rfl rfl rfl (by decide) (by omega) ?_
                  show qJ YX12_findGrid κ _ (qLy u, (q_row (q_row (q_row (q_row m 108 a) 109 b) 110 f) 111 c), y) 0 0 129 [some (qR 77), some (qI t0), some (qI v), some (qI w), some (qI (lst (gM m l gr) 34 v)), some (qI (lst (gM m l gr) 34 w))] [qI (a v.toNat)]
                  refine qJ.run hκ 1 (pc' := 130) (ls' := [some (qR 77), some (qI t0), some (qI v), some (qI w), some (qI (lst (gM m l gr) 34 v)), some (qI (lst (gM m l gr) 34 w))]) (st' := [qI (-1), qI (a v.toNat)]) rfl ?_
                  refine qJ.icmp_eq hκ (tgt := 173) rfl rfl (by omega) (by omega) (fun c130 => ?_) (fun c130 => ?_)
                  · show qJ YX12_findGrid κ _ (qLy u, (q_row (q_row (q_row (q_row m 108 a) 109 b) 110 f) 111 c), y) 0 0 173 [some (qR 77), some (qI t0), some (qI v), some (qI w), some (qI (lst (gM m l gr) 34 v)), some (qI (lst (gM m l gr) 34 w))] []
                    refine qJ.run hκ 2 (pc' := 47) (ls' := [some (qR 77), some (qI t0), some (qI v), some (qI (w + 1)), some (qI (lst (gM m l gr) 34 v)), some (qI (lst (gM m l gr) 34 w))]) (st' := []) rfl ?_
                    refine qJ.dl [true, true, true, true, false, false] ?_
                    show qJ YX12_findGrid κ _ (qLy u, (q_row (q_row (q_row (q_row m 108 a) 109 b) 110 f) 111 c), y) 0 0 47 [some (qR 77), some (qI t0), some (qI v), some (qI (w + 1)), none, none] []
                    exact ih47  a b f c (w + 1) (by omega) (by omega) (by omega) (lkv) (by omega) (by rw [show (w + 1).toNat = w.toNat + 1 by omega]; exact gdN_s (a := a) hvN ⟨(lkv v.toNat (by omega)).1, (lkv w.toNat (by omega)).1⟩ v47_5 (by rw [q_tn v47_v, q_tn v47_0]; exact fe) (by rw [q_tn v47_v, q_tn v47_0]; rw [if_neg (fun z => z.1 c130)])) (flb) (v47_7) (by omega)
                  · show qJ YX12_findGrid κ _ (qLy u, (q_row (q_row (q_row (q_row m 108 a) 109 b) 110 f) 111 c), y) 0 0 133 [some (qR 77), some (qI t0), some (qI v), some (qI w), some (qI (lst (gM m l gr) 34 v)), some (qI (lst (gM m l gr) 34 w))] []
                    refine qJ.run hκ 3 (pc' := 138) (ls' := [some (qR 77), some (qI t0), some (qI v), some (qI w), some (qI (lst (gM m l gr) 34 v)), some (qI (lst (gM m l gr) 34 w))]) (st' := [qI v, qR 108]) rfl ?_
                    refine qJ.ald hκ rfl rfl rfl (by decide) (by omega) ?_
                    show qJ YX12_findGrid κ _ (qLy u, (q_row (q_row (q_row (q_row m 108 a) 109 b) 110 f) 111 c), y) 0 0 139 [some (qR 77), some (qI t0), some (qI v), some (qI w), some (qI (lst (gM m l gr) 34 v)), some (qI (lst (gM m l gr) 34 w))] [qI (a v.toNat)]
                    refine qJ.run hκ 3 (pc' := 144) (ls' := [some (qR 77), some (qI t0), some (qI v), some (qI w), some (qI (lst (gM m l gr) 34 v)), some (qI (lst (gM m l gr) 34 w))]) (st' := [qI w, qR 108, qI (a v.toNat)]) rfl ?_
                    refine qJ.ald hκ rfl rfl rfl (by decide) (by omega) ?_
                    show qJ YX12_findGrid κ _ (qLy u, (q_row (q_row (q_row (q_row m 108 a) 109 b) 110 f) 111 c), y) 0 0 145 [some (qR 77), some (qI t0), some (qI v), some (qI w), some (qI (lst (gM m l gr) 34 v)), some (qI (lst (gM m l gr) 34 w))] [qI (a w.toNat), qI (a v.toNat)]
                    refine qJ.icmp_ne hκ (tgt := 173) rfl rfl (by omega) (by omega) (fun c145 => ?_) (fun c145 => ?_)
                    · show qJ YX12_findGrid κ _ (qLy u, (q_row (q_row (q_row (q_row m 108 a) 109 b) 110 f) 111 c), y) 0 0 173 [some (qR 77), some (qI t0), some (qI v), some (qI w), some (qI (lst (gM m l gr) 34 v)), some (qI (lst (gM m l gr) 34 w))] []
                      refine qJ.run hκ 2 (pc' := 47) (ls' := [some (qR 77), some (qI t0), some (qI v), some (qI (w + 1)), some (qI (lst (gM m l gr) 34 v)), some (qI (lst (gM m l gr) 34 w))]) (st' := []) rfl ?_
                      refine qJ.dl [true, true, true, true, false, false] ?_
                      show qJ YX12_findGrid κ _ (qLy u, (q_row (q_row (q_row (q_row m 108 a) 109 b) 110 f) 111 c), y) 0 0 47 [some (qR 77), some (qI t0), some (qI v), some (qI (w + 1)), none, none] []
                      exact ih47  a b f c (w + 1) (by omega) (by omega) (by omega) (lkv) (by omega) (by rw [show (w + 1).toNat = w.toNat + 1 by omega]; exact gdN_s (a := a) hvN ⟨(lkv v.toNat (by omega)).1, (lkv w.toNat (by omega)).1⟩ v47_5 (by rw [q_tn v47_v, q_tn v47_0]; exact fe) (by rw [q_tn v47_v, q_tn v47_0]; rw [if_neg (fun z => c145 z.2.1)])) (flb) (v47_7) (by omega)
                    · show qJ YX12_findGrid κ _ (qLy u, (q_row (q_row (q_row (q_row m 108 a) 109 b) 110 f) 111 c), y) 0 0 148 [some (qR 77), some (qI t0), some (qI v), some (qI w), some (qI (lst (gM m l gr) 34 v)), some (qI (lst (gM m l gr) 34 w))] []
                      refine qJ.run hκ 2 (pc' := 152) (ls' := [some (qR 77), some (qI t0), some (qI v), some (qI w), some (qI (lst (gM m l gr) 34 v)), some (qI (lst (gM m l gr) 34 w))]) (st' := [qI 20, qI (lst (gM m l gr) 34 v)]) rfl ?_
                      refine qJ.icmp_eq hκ (tgt := 173) rfl rfl (by omega) (by omega) (fun c152 => ?_) (fun c152 => ?_)
                      · show qJ YX12_findGrid κ _ (qLy u, (q_row (q_row (q_row (q_row m 108 a) 109 b) 110 f) 111 c), y) 0 0 173 [some (qR 77), some (qI t0), some (qI v), some (qI w), some (qI (lst (gM m l gr) 34 v)), some (qI (lst (gM m l gr) 34 w))] []
                        refine qJ.run hκ 2 (pc' := 47) (ls' := [some (qR 77), some (qI t0), some (qI v), some (qI (w + 1)), some (qI (lst (gM m l gr) 34 v)), some (qI (lst (gM m l gr) 34 w))]) (st' := []) rfl ?_
                        refine qJ.dl [true, true, true, true, false, false] ?_
                        show qJ YX12_findGrid κ _ (qLy u, (q_row (q_row (q_row (q_row m 108 a) 109 b) 110 f) 111 c), y) 0 0 47 [some (qR 77), some (qI t0), some (qI v), some (qI (w + 1)), none, none] []
                        exact ih47  a b f c (w + 1) (by omega) (by omega) (by omega) (lkv) (by omega) (by rw [show (w + 1).toNat = w.toNat + 1 by omega]; exact gdN_s (a := a) hvN ⟨(lkv v.toNat (by omega)).1, (lkv w.toNat (by omega)).1⟩ v47_5 (by rw [q_tn v47_v, q_tn v47_0]; exact fe) (by rw [q_tn v47_v, q_tn v47_0]; rw [if_neg (fun z => z.2.2.1 c152)])) (flb) (v47_7) (by omega)
                      · show qJ YX12_findGrid κ _ (qLy u, (q_row (q_row (q_row (q_row m 108 a) 109 b) 110 f) 111 c), y) 0 0 155 [some (qR 77), some (qI t0), some (qI v), some (qI w), some (qI (lst (gM m l gr) 34 v)), some (qI (lst (gM m l gr) 34 w))] []
                        refine qJ.run hκ 2 (pc' := 159) (ls' := [some (qR 77), some (qI t0), some (qI v), some (qI w), some (qI (lst (gM m l gr) 34 v)), some (qI (lst (gM m l gr) 34 w))]) (st' := [qI 20, qI (lst (gM m l gr) 34 w)]) rfl ?_
                        refine qJ.icmp_eq hκ (tgt := 173) rfl rfl (by omega) (by omega) (fun c159 => ?_) (fun c159 => ?_)
                        · show qJ YX12_findGrid κ _ (qLy u, (q_row (q_row (q_row (q_row m 108 a) 109 b) 110 f) 111 c), y) 0 0 173 [some (qR 77), some (qI t0), some (qI v), some (qI w), some (qI (lst (gM m l gr) 34 v)), some (qI (lst (gM m l gr) 34 w))] []
                          refine qJ.run hκ 2 (pc' := 47) (ls' := [some (qR 77), some (qI t0), some (qI v), some (qI (w + 1)), some (qI (lst (gM m l gr) 34 v)), some (qI (lst (gM m l gr) 34 w))]) (st' := []) rfl ?_
                          refine qJ.dl [true, true, true, true, false, false] ?_
                          show qJ YX12_findGrid κ _ (qLy u, (q_row (q_row (q_row (q_row m 108 a) 109 b) 110 f) 111 c), y) 0 0 47 [some (qR 77), some (qI t0), some (qI v), some (qI (w + 1)), none, none] []
                          exact ih47  a b f c (w + 1) (by omega) (by omega) (by omega) (lkv) (by omega) (by rw [show (w + 1).toNat = w.toNat + 1 by omega]; exact gdN_s (a := a) hvN ⟨(lkv v.toNat (by omega)).1, (lkv w.toNat (by omega)).1⟩ v47_5 (by rw [q_tn v47_v, q_tn v47_0]; exact fe) (by rw [q_tn v47_v, q_tn v47_0]; rw [if_neg (fun z => z.2.2.2 c159)])) (flb) (v47_7) (by omega)
                        · show qJ YX12_findGrid κ _ (qLy u, (q_row (q_row (q_row (q_row m 108 a) 109 b) 110 f) 111 c), y) 0 0 162 [some (qR 77), some (qI t0), some (qI v), some (qI w), some (qI (lst (gM m l gr) 34 v)), some (qI (lst (gM m l gr) 34 w))] []
                          refine qJ.run hκ 4 (pc' := 170) (ls' := [some (qR 77), some (qI t0), some (qI v), some (qI w), some (qI (lst (gM m l gr) 34 v)), some (qI (lst (gM m l gr) 34 w))]) (st' := [qI (lst (gM m l gr) 34 w), qI (lst (gM m l gr) 34 v), qR 111]) rfl ?_
                          refine qJ.callS (As := [qR 111, qI (lst (gM m l gr) 34 v), qI (lst (gM m l gr) 34 w)]) (rest := []) hκ rfl kX12_207 (c_mJoin111 u (q_row (q_row (q_row (q_row m 108 a) 109 b) 110 f) 111 c) y (lst (gM m l gr) 34 v) (lst (gM m l gr) 34 w) v47_7 (by omega) (by omega)) (by decide) rfl rfl (Nat.le_of_ble_eq_true rfl) (Nat.le_of_ble_eq_true rfl) (Nat.le_of_ble_eq_true rfl) (Or.inl (fun r h' e => by obtain ⟨rfl, rfl⟩ := e; rfl)) (fun r h' e => ?_)
                          obtain ⟨rfl, rfl⟩ := e
                          refine qJ.mc (m1 := (q_row (q_row (q_row (q_row (q_row m 108 a) 109 b) 110 f) 111 c) 111 (jn c (lst (gM m l gr) 34 v) (lst (gM m l gr) 34 w)))) (m2 := (q_row (q_row (q_row (q_row m 108 a) 109 b) 110 f) 111 (jn c (lst (gM m l gr) 34 v) (lst (gM m l gr) 34 w)))) (by rw [q_row_row]) ?_
                          show qJ YX12_findGrid κ _ (qLy u, (q_row (q_row (q_row (q_row m 108 a) 109 b) 110 f) 111 (jn c (lst (gM m l gr) 34 v) (lst (gM m l gr) 34 w))), y) 0 0 173 [some (qR 77), some (qI t0), some (qI v), some (qI w), some (qI (lst (gM m l gr) 34 v)), some (qI (lst (gM m l gr) 34 w))] []
                          refine qJ.run hκ 2 (pc' := 47) (ls' := [some (qR 77), some (qI t0), some (qI v), some (qI (w + 1)), some (qI (lst (gM m l gr) 34 v)), some (qI (lst (gM m l gr) 34 w))]) (st' := []) rfl ?_
                          refine qJ.dl [true, true, true, true, false, false] ?_
                          show qJ YX12_findGrid κ _ (qLy u, (q_row (q_row (q_row (q_row m 108 a) 109 b) 110 f) 111 (jn c (lst (gM m l gr) 34 v) (lst (gM m l gr) 34 w))), y) 0 0 47 [some (qR 77), some (qI t0), some (qI v), some (qI (w + 1)), none, none] []
                          exact ih47  a b f (jn c (lst (gM m l gr) 34 v) (lst (gM m l gr) 34 w)) (w + 1) (by omega) (by omega) (by omega) (lkv) (by omega) (by rw [show (w + 1).toNat = w.toNat + 1 by omega]; exact gdN_s (a := a) hvN ⟨(lkv v.toNat (by omega)).1, (lkv w.toNat (by omega)).1⟩ v47_5 (by rw [q_tn v47_v, q_tn v47_0]; exact fe) (by rw [q_tn v47_v, q_tn v47_0]; rw [if_pos ⟨c130, c145, c152, c159⟩])) (flb) (jn_lb v47_7 (by omega) (by omega)) (by omega)
                · show qJ YX12_findGrid κ _ (qLy u, (q_row (q_row (q_row (q_row m 108 a) 109 b) 110 f) 111 c), y) 0 0 112 [some (qR 77), some (qI t0), some (qI v), some (qI w), some (qI (lst (gM m l gr) 34 v)), some (qI (lst (gM m l gr) 34 w))] []
                  have euv : stq (gM m l gr) 34 v w ∧ ¬ lst (gM m l gr) 34 v = lst (gM m l gr) 34 w := hz.elim (fun q => q.2) (fun q => by omega)
                  have fe : jn f (lst (gM m l gr) 34 v) (lst (gM m l gr) 34 w) = if stq (gM m l gr) 34 v w ∧ ¬ lst (gM m l gr) 34 v = lst (gM m l gr) 34 w then jn f (lst (gM m l gr) 34 v) (lst (gM m l gr) 34 w) else f := by rw [if_pos euv]
                  have lq1 := lst_r (m := gM m l gr) (w := v) hWM hg ⟨by omega, by show v < m 2 0; omega⟩ euv.1.1.2.2.1
                  have lq2 := lst_r (m := gM m l gr) (w := w) hWM hg ⟨by omega, by show w < m 2 0; omega⟩ euv.1.1.2.2.2
                  have flb := jn_lb v47_6 lq1 lq2
                  refine qJ.run hκ 4 (pc' := 120) (ls' := [some (qR 77), some (qI t0), some (qI v), some (qI w), some (qI (lst (gM m l gr) 34 v)), some (qI (lst (gM m l gr) 34 w))]) (st' := [qI (lst (gM m l gr) 34 w), qI (lst (gM m l gr) 34 v), qR 110]) rfl ?_
                  refine qJ.callS (As := [qR 110, qI (lst (gM m l gr) 34 v), qI (lst (gM m l gr) 34 w)]) (rest := []) hκ rfl kX12_207 (c_mJoin110 u (q_row (q_row (q_row (q_row m 108 a) 109 b) 110 f) 111 c) y (lst (gM m l gr) 34 v) (lst (gM m l gr) 34 w) v47_6 (by omega) (by omega)) (by decide) rfl rfl (Nat.le_of_ble_eq_true rfl) (Nat.le_of_ble_eq_true rfl) (Nat.le_of_ble_eq_true rfl) (Or.inl (fun r h' e => by obtain ⟨rfl, rfl⟩ := e; rfl)) (fun r h' e => ?_)
                  obtain ⟨rfl, rfl⟩ := e
                  refine qJ.mc (m1 := (q_row (q_row (q_row (q_row (q_row m 108 a) 109 b) 110 f) 111 c) 110 (jn f (lst (gM m l gr) 34 v) (lst (gM m l gr) 34 w)))) (m2 := (q_row (q_row (q_row (q_row m 108 a) 109 b) 110 (jn f (lst (gM m l gr) 34 v) (lst (gM m l gr) 34 w))) 111 c)) (by rw [q_row_comm (a := 111) (b := 110) (by decide), q_row_row]) ?_
                  show qJ YX12_findGrid κ _ (qLy u, (q_row (q_row (q_row (q_row m 108 a) 109 b) 110 (jn f (lst (gM m l gr) 34 v) (lst (gM m l gr) 34 w))) 111 c), y) 0 0 123 [some (qR 77), some (qI t0), some (qI v), some (qI w), some (qI (lst (gM m l gr) 34 v)), some (qI (lst (gM m l gr) 34 w))] []
                  refine qJ.run hκ 3 (pc' := 128) (ls' := [some (qR 77), some (qI t0), some (qI v), some (qI w), some (qI (lst (gM m l gr) 34 v)), some (qI (lst (gM m l gr) 34 w))]) (st' := [qI v, qR 108]) rfl ?_
                  refine qJ.ald hκ rfl rfl rfl (by decide) (by omega) ?_
                  show qJ YX12_findGrid κ _ (qLy u, (q_row (q_row (q_row (q_row m 108 a) 109 b) 110 (jn f (lst (gM m l gr) 34 v) (lst (gM m l gr) 34 w))) 111 c), y) 0 0 129 [some (qR 77), some (qI t0), some (qI v), some (qI w), some (qI (lst (gM m l gr) 34 v)), some (qI (lst (gM m l gr) 34 w))] [qI (a v.toNat)]
                  refine qJ.run hκ 1 (pc' := 130) (ls' := [some (qR 77), some (qI t0), some (qI v), some (qI w), some (qI (lst (gM m l gr) 34 v)), some (qI (lst (gM m l gr) 34 w))]) (st' := [qI (-1), qI (a v.toNat)]) rfl ?_
                  refine qJ.icmp_eq hκ (tgt := 173) rfl rfl (by omega) (by omega) (fun c130 => ?_) (fun c130 => ?_)
                  · show qJ YX12_findGrid κ _ (qLy u, (q_row (q_row (q_row (q_row m 108 a) 109 b) 110 (jn f (lst (gM m l gr) 34 v) (lst (gM m l gr) 34 w))) 111 c), y) 0 0 173 [some (qR 77), some (qI t0), some (qI v), some (qI w), some (qI (lst (gM m l gr) 34 v)), some (qI (lst (gM m l gr) 34 w))] []
                    refine qJ.run hκ 2 (pc' := 47) (ls' := [some (qR 77), some (qI t0), some (qI v), some (qI (w + 1)), some (qI (lst (gM m l gr) 34 v)), some (qI (lst (gM m l gr) 34 w))]) (st' := []) rfl ?_
                    refine qJ.dl [true, true, true, true, false, false] ?_
                    show qJ YX12_findGrid κ _ (qLy u, (q_row (q_row (q_row (q_row m 108 a) 109 b) 110 (jn f (lst (gM m l gr) 34 v) (lst (gM m l gr) 34 w))) 111 c), y) 0 0 47 [some (qR 77), some (qI t0), some (qI v), some (qI (w + 1)), none, none] []
                    exact ih47  a b (jn f (lst (gM m l gr) 34 v) (lst (gM m l gr) 34 w)) c (w + 1) (by omega) (by omega) (by omega) (lkv) (by omega) (by rw [show (w + 1).toNat = w.toNat + 1 by omega]; exact gdN_s (a := a) hvN ⟨(lkv v.toNat (by omega)).1, (lkv w.toNat (by omega)).1⟩ v47_5 (by rw [q_tn v47_v, q_tn v47_0]; exact fe) (by rw [q_tn v47_v, q_tn v47_0]; rw [if_neg (fun z => z.1 c130)])) (flb) (v47_7) (by omega)
                  · show qJ YX12_findGrid κ _ (qLy u, (q_row (q_row (q_row (q_row m 108 a) 109 b) 110 (jn f (lst (gM m l gr) 34 v) (lst (gM m l gr) 34 w))) 111 c), y) 0 0 133 [some (qR 77), some (qI t0), some (qI v), some (qI w), some (qI (lst (gM m l gr) 34 v)), some (qI (lst (gM m l gr) 34 w))] []
                    refine qJ.run hκ 3 (pc' := 138) (ls' := [some (qR 77), some (qI t0), some (qI v), some (qI w), some (qI (lst (gM m l gr) 34 v)), some (qI (lst (gM m l gr) 34 w))]) (st' := [qI v, qR 108]) rfl ?_
                    refine qJ.ald hκ rfl rfl rfl (by decide) (by omega) ?_
                    show qJ YX12_findGrid κ _ (qLy u, (q_row (q_row (q_row (q_row m 108 a) 109 b) 110 (jn f (lst (gM m l gr) 34 v) (lst (gM m l gr) 34 w))) 111 c), y) 0 0 139 [some (qR 77), some (qI t0), some (qI v), some (qI w), some (qI (lst (gM m l gr) 34 v)), some (qI (lst (gM m l gr) 34 w))] [qI (a v.toNat)]
                    refine qJ.run hκ 3 (pc' := 144) (ls' := [some (qR 77), some (qI t0), some (qI v), some (qI w), some (qI (lst (gM m l gr) 34 v)), some (qI (lst (gM m l gr) 34 w))]) (st' := [qI w, qR 108, qI (a v.toNat)]) rfl ?_
                    refine qJ.ald hκ rfl rfl rfl (by decide) (by omega) ?_
                    show qJ YX12_findGrid κ _ (qLy u, (q_row (q_row (q_row (q_row m 108 a) 109 b) 110 (jn f (lst (gM m l gr) 34 v) (lst (gM m l gr) 34 w))) 111 c), y) 0 0 145 [some (qR 77), some (qI t0), some (qI v), some (qI w), some (qI (lst (gM m l gr) 34 v)), some (qI (lst (gM m l gr) 34 w))] [qI (a w.toNat), qI (a v.toNat)]
                    refine qJ.icmp_ne hκ (tgt := 173) rfl rfl (by omega) (by omega) (fun c145 => ?_) (fun c145 => ?_)
                    · show qJ YX12_findGrid κ _ (qLy u, (q_row (q_row (q_row (q_row m 108 a) 109 b) 110 (jn f (lst (gM m l gr) 34 v) (lst (gM m l gr) 34 w))) 111 c), y) 0 0 173 [some (qR 77), some (qI t0), some (qI v), some (qI w), some (qI (lst (gM m l gr) 34 v)), some (qI (lst (gM m l gr) 34 w))] []
                      refine qJ.run hκ 2 (pc' := 47) (ls' := [some (qR 77), some (qI t0), some (qI v), some (qI (w + 1)), some (qI (lst (gM m l gr) 34 v)), some (qI (lst (gM m l gr) 34 w))]) (st' := []) rfl ?_
                      refine qJ.dl [true, true, true, true, false, false] ?_
                      show qJ YX12_findGrid κ _ (qLy u, (q_row (q_row (q_row (q_row m 108 a) 109 b) 110 (jn f (lst (gM m l gr) 34 v) (lst (gM m l gr) 34 w))) 111 c), y) 0 0 47 [some (qR 77), some (qI t0), some (qI v), some (qI (w + 1)), none, none] []
                      exact ih47  a b (jn f (lst (gM m l gr) 34 v) (lst (gM m l gr) 34 w)) c (w + 1) (by omega) (by omega) (by omega) (lkv) (by omega) (by rw [show (w + 1).toNat = w.toNat + 1 by omega]; exact gdN_s (a := a) hvN ⟨(lkv v.toNat (by omega)).1, (lkv w.toNat (by omega)).1⟩ v47_5 (by rw [q_tn v47_v, q_tn v47_0]; exact fe) (by rw [q_tn v47_v, q_tn v47_0]; rw [if_neg (fun z => c145 z.2.1)])) (flb) (v47_7) (by omega)
                    · show qJ YX12_findGrid κ _ (qLy u, (q_row (q_row (q_row (q_row m 108 a) 109 b) 110 (jn f (lst (gM m l gr) 34 v) (lst (gM m l gr) 34 w))) 111 c), y) 0 0 148 [some (qR 77), some (qI t0), some (qI v), some (qI w), some (qI (lst (gM m l gr) 34 v)), some (qI (lst (gM m l gr) 34 w))] []
                      refine qJ.run hκ 2 (pc' := 152) (ls' := [some (qR 77), some (qI t0), some (qI v), some (qI w), some (qI (lst (gM m l gr) 34 v)), some (qI (lst (gM m l gr) 34 w))]) (st' := [qI 20, qI (lst (gM m l gr) 34 v)]) rfl ?_
                      refine qJ.icmp_eq hκ (tgt := 173) rfl rfl (by omega) (by omega) (fun c152 => ?_) (fun c152 => ?_)
                      · show qJ YX12_findGrid κ _ (qLy u, (q_row (q_row (q_row (q_row m 108 a) 109 b) 110 (jn f (lst (gM m l gr) 34 v) (lst (gM m l gr) 34 w))) 111 c), y) 0 0 173 [some (qR 77), some (qI t0), some (qI v), some (qI w), some (qI (lst (gM m l gr) 34 v)), some (qI (lst (gM m l gr) 34 w))] []
                        refine qJ.run hκ 2 (pc' := 47) (ls' := [some (qR 77), some (qI t0), some (qI v), some (qI (w + 1)), some (qI (lst (gM m l gr) 34 v)), some (qI (lst (gM m l gr) 34 w))]) (st' := []) rfl ?_
                        refine qJ.dl [true, true, true, true, false, false] ?_
                        show qJ YX12_findGrid κ _ (qLy u, (q_row (q_row (q_row (q_row m 108 a) 109 b) 110 (jn f (lst (gM m l gr) 34 v) (lst (gM m l gr) 34 w))) 111 c), y) 0 0 47 [some (qR 77), some (qI t0), some (qI v), some (qI (w + 1)), none, none] []
                        exact ih47  a b (jn f (lst (gM m l gr) 34 v) (lst (gM m l gr) 34 w)) c (w + 1) (by omega) (by omega) (by omega) (lkv) (by omega) (by rw [show (w + 1).toNat = w.toNat + 1 by omega]; exact gdN_s (a := a) hvN ⟨(lkv v.toNat (by omega)).1, (lkv w.toNat (by omega)).1⟩ v47_5 (by rw [q_tn v47_v, q_tn v47_0]; exact fe) (by rw [q_tn v47_v, q_tn v47_0]; rw [if_neg (fun z => z.2.2.1 c152)])) (flb) (v47_7) (by omega)
                      · show qJ YX12_findGrid κ _ (qLy u, (q_row (q_row (q_row (q_row m 108 a) 109 b) 110 (jn f (lst (gM m l gr) 34 v) (lst (gM m l gr) 34 w))) 111 c), y) 0 0 155 [some (qR 77), some (qI t0), some (qI v), some (qI w), some (qI (lst (gM m l gr) 34 v)), some (qI (lst (gM m l gr) 34 w))] []
                        refine qJ.run hκ 2 (pc' := 159) (ls' := [some (qR 77), some (qI t0), some (qI v), some (qI w), some (qI (lst (gM m l gr) 34 v)), some (qI (lst (gM m l gr) 34 w))]) (st' := [qI 20, qI (lst (gM m l gr) 34 w)]) rfl ?_
                        refine qJ.icmp_eq hκ (tgt := 173) rfl rfl (by omega) (by omega) (fun c159 => ?_) (fun c159 => ?_)
                        · show qJ YX12_findGrid κ _ (qLy u, (q_row (q_row (q_row (q_row m 108 a) 109 b) 110 (jn f (lst (gM m l gr) 34 v) (lst (gM m l gr) 34 w))) 111 c), y) 0 0 173 [some (qR 77), some (qI t0), some (qI v), some (qI w), some (qI (lst (gM m l gr) 34 v)), some (qI (lst (gM m l gr) 34 w))] []
                          refine qJ.run hκ 2 (pc' := 47) (ls' := [some (qR 77), some (qI t0), some (qI v), some (qI (w + 1)), some (qI (lst (gM m l gr) 34 v)), some (qI (lst (gM m l gr) 34 w))]) (st' := []) rfl ?_
                          refine qJ.dl [true, true, true, true, false, false] ?_
                          show qJ YX12_findGrid κ _ (qLy u, (q_row (q_row (q_row (q_row m 108 a) 109 b) 110 (jn f (lst (gM m l gr) 34 v) (lst (gM m l gr) 34 w))) 111 c), y) 0 0 47 [some (qR 77), some (qI t0), some (qI v), some (qI (w + 1)), none, none] []
                          exact ih47  a b (jn f (lst (gM m l gr) 34 v) (lst (gM m l gr) 34 w)) c (w + 1) (by omega) (by omega) (by omega) (lkv) (by omega) (by rw [show (w + 1).toNat = w.toNat + 1 by omega]; exact gdN_s (a := a) hvN ⟨(lkv v.toNat (by omega)).1, (lkv w.toNat (by omega)).1⟩ v47_5 (by rw [q_tn v47_v, q_tn v47_0]; exact fe) (by rw [q_tn v47_v, q_tn v47_0]; rw [if_neg (fun z => z.2.2.2 c159)])) (flb) (v47_7) (by omega)
                        · show qJ YX12_findGrid κ _ (qLy u, (q_row (q_row (q_row (q_row m 108 a) 109 b) 110 (jn f (lst (gM m l gr) 34 v) (lst (gM m l gr) 34 w))) 111 c), y) 0 0 162 [some (qR 77), some (qI t0), some (qI v), some (qI w), some (qI (lst (gM m l gr) 34 v)), some (qI (lst (gM m l gr) 34 w))] []
                          refine qJ.run hκ 4 (pc' := 170) (ls' := [some (qR 77), some (qI t0), some (qI v), some (qI w), some (qI (lst (gM m l gr) 34 v)), some (qI (lst (gM m l gr) 34 w))]) (st' := [qI (lst (gM m l gr) 34 w), qI (lst (gM m l gr) 34 v), qR 111]) rfl ?_
                          refine qJ.callS (As := [qR 111, qI (lst (gM m l gr) 34 v), qI (lst (gM m l gr) 34 w)]) (rest := []) hκ rfl kX12_207 (c_mJoin111 u (q_row (q_row (q_row (q_row m 108 a) 109 b) 110 (jn f (lst (gM m l gr) 34 v) (lst (gM m l gr) 34 w))) 111 c) y (lst (gM m l gr) 34 v) (lst (gM m l gr) 34 w) v47_7 (by omega) (by omega)) (by decide) rfl rfl (Nat.le_of_ble_eq_true rfl) (Nat.le_of_ble_eq_true rfl) (Nat.le_of_ble_eq_true rfl) (Or.inl (fun r h' e => by obtain ⟨rfl, rfl⟩ := e; rfl)) (fun r h' e => ?_)
                          obtain ⟨rfl, rfl⟩ := e
                          refine qJ.mc (m1 := (q_row (q_row (q_row (q_row (q_row m 108 a) 109 b) 110 (jn f (lst (gM m l gr) 34 v) (lst (gM m l gr) 34 w))) 111 c) 111 (jn c (lst (gM m l gr) 34 v) (lst (gM m l gr) 34 w)))) (m2 := (q_row (q_row (q_row (q_row m 108 a) 109 b) 110 (jn f (lst (gM m l gr) 34 v) (lst (gM m l gr) 34 w))) 111 (jn c (lst (gM m l gr) 34 v) (lst (gM m l gr) 34 w)))) (by rw [q_row_row]) ?_
                          show qJ YX12_findGrid κ _ (qLy u, (q_row (q_row (q_row (q_row m 108 a) 109 b) 110 (jn f (lst (gM m l gr) 34 v) (lst (gM m l gr) 34 w))) 111 (jn c (lst (gM m l gr) 34 v) (lst (gM m l gr) 34 w))), y) 0 0 173 [some (qR 77), some (qI t0), some (qI v), some (qI w), some (qI (lst (gM m l gr) 34 v)), some (qI (lst (gM m l gr) 34 w))] []
                          refine qJ.run hκ 2 (pc' := 47) (ls' := [some (qR 77), some (qI t0), some (qI v), some (qI (w + 1)), some (qI (lst (gM m l gr) 34 v)), some (qI (lst (gM m l gr) 34 w))]) (st' := []) rfl ?_
                          refine qJ.dl [true, true, true, true, false, false] ?_
                          show qJ YX12_findGrid κ _ (qLy u, (q_row (q_row (q_row (q_row m 108 a) 109 b) 110 (jn f (lst (gM m l gr) 34 v) (lst (gM m l gr) 34 w))) 111 (jn c (lst (gM m l gr) 34 v) (lst (gM m l gr) 34 w))), y) 0 0 47 [some (qR 77), some (qI t0), some (qI v), some (qI (w + 1)), none, none] []
                          exact ih47  a b (jn f (lst (gM m l gr) 34 v) (lst (gM m l gr) 34 w)) (jn c (lst (gM m l gr) 34 v) (lst (gM m l gr) 34 w)) (w + 1) (by omega) (by omega) (by omega) (lkv) (by omega) (by rw [show (w + 1).toNat = w.toNat + 1 by omega]; exact gdN_s (a := a) hvN ⟨(lkv v.toNat (by omega)).1, (lkv w.toNat (by omega)).1⟩ v47_5 (by rw [q_tn v47_v, q_tn v47_0]; exact fe) (by rw [q_tn v47_v, q_tn v47_0]; rw [if_pos ⟨c130, c145, c152, c159⟩])) (flb) (jn_lb v47_7 (by omega) (by omega)) (by omega)
              · show qJ YX12_findGrid κ _ (qLy u, (q_row (q_row (q_row (q_row m 108 a) 109 b) 110 f) 111 c), y) 0 0 70 [some (qR 77), some (qI t0), some (qI v), some (qI w), none, none] []
                exact absurd bw (by omega)
      refine qJ.run hκ 4 (pc' := 41) (ls' := [some (qR 77), some (qI t0), some (qI v), none, none, none]) (st' := [qI 0, qR 85, qI v]) rfl ?_
      refine qJ.ald hκ rfl rfl rfl (by decide) (by omega) ?_
      show qJ YX12_findGrid κ _ (qLy u, (q_row (q_row (q_row (q_row m 108 a) 109 b) 110 f) 111 c), y) 0 0 42 [some (qR 77), some (qI t0), some (qI v), none, none, none] [qI (m 85 0), qI v]
      refine qJ.icmp_ge hκ (tgt := 185) rfl rfl (by omega) (by omega) (fun c42 => ?_) (fun c42 => ?_)
      · show qJ YX12_findGrid κ _ (qLy u, (q_row (q_row (q_row (q_row m 108 a) 109 b) 110 f) 111 c), y) 0 0 185 [some (qR 77), some (qI t0), some (qI v), none, none, none] []
        exact qJ.vret hκ rfl rfl (by decide) (by decide) (⟨rfl, a, b, f, c, rfl, gd_end hR hg h1.2 ⟨ag_sep _ _, ag_sep _ _⟩ v35_4 v35_5 (by omega) v35_3⟩)
      · show qJ YX12_findGrid κ _ (qLy u, (q_row (q_row (q_row (q_row m 108 a) 109 b) 110 f) 111 c), y) 0 0 45 [some (qR 77), some (qI t0), some (qI v), none, none, none] []
        refine qJ.run hκ 2 (pc' := 47) (ls' := [some (qR 77), some (qI t0), some (qI v), some (qI 0), none, none]) (st' := []) rfl ?_
        exact L47 61 a b f c 0 (by omega) (by omega) (by omega) (v35_2) (by omega) (v35_3) (v35_4) (v35_5) (by omega)
  have L7 : ∀ (n : Nat) (a : Nat → Int) (b : Nat → Int) (f : Nat → Int) (c : Nat → Int) (i : Int), (0 ≤ i) → (i ≤ 20) → (lkI m n0 a b) → (∀ k : Nat, f k = (if (k : Int) < i then (k : Int) else m 110 k) ∧ c k = (if (k : Int) < i then (k : Int) else m 111 k)) → ((20 - i).toNat) < n → qJ YX12_findGrid κ (qFin (fun r h => r = none ∧ ∃ a b f c, h = (qLy u, q_row (q_row (q_row (q_row m 108 a) 109 b) 110 f) 111 c, y) ∧ gdI m l gr n0 f c) 0 0 κ) (qLy u, (q_row (q_row (q_row (q_row m 108 a) 109 b) 110 f) 111 c), y) 0 0 7 [some (qR 77), some (qI t0), some (qI i), none, none, none] [] := by
    intro n
    induction n with
    | zero => intro a b f c i _ _ _ _ hz0; omega
    | succ n ih7 =>
      intro a b f c i v7_0 v7_1 v7_2 v7_3 v7_m
      refine qJ.run hκ 2 (pc' := 10) (ls' := [some (qR 77), some (qI t0), some (qI i), none, none, none]) (st' := [qI 20, qI i]) rfl ?_
      refine qJ.icmp_ge hκ (tgt := 33) rfl rfl (by omega) (by omega) (fun c10 => ?_) (fun c10 => ?_)
      · show qJ YX12_findGrid κ _ (qLy u, (q_row (q_row (q_row (q_row m 108 a) 109 b) 110 f) 111 c), y) 0 0 33 [some (qR 77), some (qI t0), some (qI i), none, none, none] []
        have fs0 : f = sep (m 110) := funext fun k => by rw [(v7_3 k).1]; unfold sep; by_cases g : k < 20; rw [if_pos g, if_pos (by omega)]; rw [if_neg g, if_neg (by omega)]
        have cs0 : c = sep (m 111) := funext fun k => by rw [(v7_3 k).2]; unfold sep; by_cases g : k < 20; rw [if_pos g, if_pos (by omega)]; rw [if_neg g, if_neg (by omega)]
        refine qJ.run hκ 2 (pc' := 35) (ls' := [some (qR 77), some (qI t0), some (qI 0), none, none, none]) (st' := []) rfl ?_
        exact L35 61 a b f c 0 (by omega) (by omega) (v7_2) (by rw [fs0, cs0]; exact ⟨fun _ => ⟨rfl, rfl⟩, fun z => by rw [show fN m n0 = 0 by have : (0 : Int).toNat = 0 := rfl; omega]; exact ⟨rfl, rfl⟩⟩) (by rw [fs0]; exact sep_lb _) (by rw [cs0]; exact sep_lb _) (by omega)
      · show qJ YX12_findGrid κ _ (qLy u, (q_row (q_row (q_row (q_row m 108 a) 109 b) 110 f) 111 c), y) 0 0 13 [some (qR 77), some (qI t0), some (qI i), none, none, none] []
        refine qJ.run hκ 4 (pc' := 19) (ls' := [some (qR 77), some (qI t0), some (qI i), none, none, none]) (st' := [qI i, qI i, qR 110]) rfl ?_
        refine qJ.ast hκ rfl rfl rfl (by decide) (by omega) ?_
        refine qJ.mc (m1 := (q_up (q_row (q_row (q_row (q_row m 108 a) 109 b) 110 f) 111 c) 110 i.toNat i)) (m2 := (q_row (q_row (q_row (q_row m 108 a) 109 b) 110 (q_fu f i.toNat i)) 111 c)) (by rw [q_up_row_ne (a := 110) (b := 111) (by decide), q_up_row_eq]) ?_
        show qJ YX12_findGrid κ _ (qLy u, (q_row (q_row (q_row (q_row m 108 a) 109 b) 110 (q_fu f i.toNat i)) 111 c), y) 0 0 20 [some (qR 77), some (qI t0), some (qI i), none, none, none] []
        refine qJ.run hκ 4 (pc' := 26) (ls' := [some (qR 77), some (qI t0), some (qI i), none, none, none]) (st' := [qI i, qI i, qR 111]) rfl ?_
        refine qJ.ast hκ rfl rfl rfl (by decide) (by omega) ?_
        refine qJ.mc (m1 := (q_up (q_row (q_row (q_row (q_row m 108 a) 109 b) 110 (q_fu f i.toNat i)) 111 c) 111 i.toNat i)) (m2 := (q_row (q_row (q_row (q_row m 108 a) 109 b) 110 (q_fu f i.toNat i)) 111 (q_fu c i.toNat i))) (by rw [q_up_row_eq]) ?_
        show qJ YX12_findGrid κ _ (qLy u, (q_row (q_row (q_row (q_row m 108 a) 109 b) 110 (q_fu f i.toNat i)) 111 (q_fu c i.toNat i)), y) 0 0 27 [some (qR 77), some (qI t0), some (qI i), none, none, none] []
        refine qJ.run hκ 2 (pc' := 7) (ls' := [some (qR 77), some (qI t0), some (qI (i + 1)), none, none, none]) (st' := []) rfl ?_
        exact qJ.cast (ih7  a b (q_fu f i.toNat i) (q_fu c i.toNat i) (i + 1) (by omega) (by omega) (v7_2) (fun k => by by_cases e : k = i.toNat; subst e; rw [q_fu_eq, q_fu_eq, if_pos (by omega), if_pos (by omega)]; omega; rw [q_fu_ne e, q_fu_ne e, (v7_3 k).1, (v7_3 k).2]; by_cases g : (k : Int) < i; rw [if_pos g, if_pos g, if_pos (by omega), if_pos (by omega)]; exact ⟨rfl, rfl⟩; rw [if_neg g, if_neg g, if_neg (by omega), if_neg (by omega)]; exact ⟨rfl, rfl⟩) (by omega)) (rfl) rfl rfl
  show qJ YX12_findGrid κ _ (qLy u, m, y) 0 0 0 [some (qR 77), some (qI t0), none, none, none, none] []
  refine qJ.run hκ 2 (pc' := 2) (ls' := [some (qR 77), some (qI t0), none, none, none, none]) (st' := [qI t0, qR 77]) rfl ?_
  refine qJ.callV (As := [qI t0]) (rest := []) hκ rfl kX12_186 (c_lookUpTo u m y n0 t0 hR h1) rfl rfl (by decide) rfl rfl (Nat.le_of_ble_eq_true rfl) (Nat.le_of_ble_eq_true rfl) (Nat.le_of_ble_eq_true rfl) (Or.inl (fun r h' e => by obtain ⟨rfl, a, b, rfl, lk⟩ := e; rfl)) (fun r h' e => ?_)
  obtain ⟨rfl, a, b, rfl, lk⟩ := e
  show qJ YX12_findGrid κ _ (qLy u, (q_row (q_row m 108 a) 109 b), y) 0 0 5 [some (qR 77), some (qI t0), none, none, none, none] []
  refine qJ.run hκ 2 (pc' := 7) (ls' := [some (qR 77), some (qI t0), some (qI 0), none, none, none]) (st' := []) rfl ?_
  exact qJ.cast (L7 21 a b (m 110) (m 111) 0 (by omega) (by omega) (lk) (fun k => by rw [if_neg (by omega), if_neg (by omega)]; exact ⟨rfl, rfl⟩) (by omega)) (by rw [q_row_id (f := m 110) (m := (q_row (q_row m 108 a) 109 b)) (a := 110) rfl, q_row_id (f := m 111) (m := (q_row (q_row m 108 a) 109 b)) (a := 111) rfl]) rfl rfl

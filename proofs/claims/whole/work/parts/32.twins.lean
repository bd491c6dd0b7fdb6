/-! printed by p32.py: twins, fills -/
theorem q_cnt_u {p : Nat → Prop} [DecidablePred p] : ∀ n, q_cnt p n = 1 → ∃ c, c < n ∧ p c ∧ (∀ j, j < n → p j → j = c) ∧ q_fst p n = (c : Int)
  | 0, h => by have : q_cnt p 0 = 0 := rfl
               omega
  | n + 1, h => by
    have hs : q_cnt p (n + 1) = q_cnt p n + (if p n then 1 else 0) := rfl
    by_cases e : p n
    · rw [if_pos e] at hs
      have h0 : q_cnt p n = 0 := by omega
      have hf := (q_fst_0 p n).mpr h0
      refine ⟨n, by omega, e, fun j hj hp => ?_, ?_⟩
      · by_cases g : j = n
        · exact g
        · exfalso
          exact q_cnt_pos (p := p) (i := (j : Int)) (n := n) (by omega) (by omega) (by rw [show ((j : Int)).toNat = j by omega]; exact hp) h0
      · unfold q_fst; rw [if_pos ⟨hf, e⟩]
    · rw [if_neg e] at hs
      obtain ⟨c, h1, h2, h3, h4⟩ := q_cnt_u (p := p) n (by omega)
      refine ⟨c, by omega, h2, fun j hj hp => ?_, ?_⟩
      · by_cases g : j = n
        · subst g; exact absurd hp e
        · exact h3 j (by omega) hp
      · unfold q_fst; rw [if_neg (fun z => e z.2)]; exact h4
theorem q_cnt_no {p : Nat → Prop} [DecidablePred p] : ∀ n, q_cnt p n = 0 ↔ ∀ j, j < n → ¬ p j := by
  intro n
  constructor
  · intro h j hj hp
    exact q_cnt_pos (p := p) (i := (j : Int)) (n := n) (by omega) (by omega) (by rw [show ((j : Int)).toNat = j by omega]; exact hp) h
  · intro h
    induction n with
    | zero => rfl
    | succ n ih =>
      show q_cnt p n + (if p n then 1 else 0) = 0
      rw [ih (fun j hj => h j (by omega)), if_neg (h n (by omega))]
abbrev twB (m : qM) (a b v w : Int) (j : Nat) : Prop := ¬ (m 3 (v * 5 + (j : Int)).toNat = m 3 (w * 5 + (j : Int)).toNat ∨ (m 3 (v * 5 + (j : Int)).toNat = a ∧ m 3 (w * 5 + (j : Int)).toNat = b) ∨ (m 3 (v * 5 + (j : Int)).toNat = b ∧ m 3 (w * 5 + (j : Int)).toNat = a))
theorem twB_i {m : qM} {a b v w i : Int} (h : 0 ≤ i) : twB m a b v w i.toNat ↔ ¬ (m 3 (v * 5 + i).toNat = m 3 (w * 5 + i).toNat ∨ (m 3 (v * 5 + i).toNat = a ∧ m 3 (w * 5 + i).toNat = b) ∨ (m 3 (v * 5 + i).toNat = b ∧ m 3 (w * 5 + i).toNat = a)) := by
  unfold twB
  rw [q_tn h]
theorem tw_iff {m : qM} {a b v w : Int} (h0 : 0 ≤ v) (h1 : 0 ≤ w) (hl : 1 ≤ m 4 v.toNat) (h : m 4 v.toNat = m 4 w.toNat ∧ m 5 v.toNat = -1 ∧ m 5 w.toNat = -1) : (q_cnt (gD m v w) (m 4 v.toNat).toNat = 1 ∧ q_cnt (twB m a b v w) (m 4 v.toNat).toNat = 0) ↔ gTw m a b v.toNat w.toNat := by
  rw [gTw_i h0 h1, q_cnt_no]
  constructor
  · rintro ⟨c1, c2⟩
    have e : gPA m v w = q_fst (gD m v w) (m 4 v.toNat).toNat := gPA_end h (by omega)
    obtain ⟨c, k1, k2, k3, k4⟩ := q_cnt_u _ c1
    have k5 := c2 c k1
    unfold gD at k2
    unfold twB at k5
    rw [e, k4]
    exact ⟨by omega, by omega⟩
  · rintro ⟨c1, c2⟩
    have e : q_cnt (gD m v w) (m 4 v.toNat).toNat = 1 := by
      unfold gPA at c1
      split at c1
      · rename_i g; exact g.2
      · exact absurd rfl c1
    have e2 : gPA m v w = q_fst (gD m v w) (m 4 v.toNat).toNat := gPA_end h (by omega)
    obtain ⟨c, k1, k2, k3, k4⟩ := q_cnt_u _ e
    refine ⟨e, fun j hj hb => ?_⟩
    unfold twB at hb
    by_cases g : gD m v w j
    · have := k3 j hj g
      subst this
      rw [e2, k4] at c2
      exact hb (Or.inr c2)
    · unfold gD at g
      exact hb (Or.inl (by omega))
def ansTw (m : qM) (a b : Int) : Int := if (0 ≤ a ∧ a ≤ 19) ∧ (0 ≤ b ∧ b ≤ 19) ∧ ¬ a = b then gTn m a b (nW m) else -1
theorem ansTw_o {m m' : qM} (h : keep kObs m' = keep kObs m) (a b : Int) : ansTw m' a b = ansTw m a b := by
  show ansTw (keep kObs m') a b = ansTw (keep kObs m) a b
  rw [h]
theorem gTn_r {m : qM} {a b : Int} : ∀ n : Nat, 0 ≤ gTn m a b n ∧ gTn m a b n ≤ n * 60 ∨ 60 < n
  | 0 => Or.inl (by rw [show gTn m a b 0 = 0 from rfl]; omega)
  | n + 1 => by
    by_cases g : 60 < n + 1
    · exact Or.inr g
    · rcases gTn_r (m := m) (a := a) (b := b) n with h | h
      · refine Or.inl ?_
        have e : gTn m a b (n + 1) = gTn m a b n + (q_cnt (gTw m a b n) n : Int) := rfl
        have := q_cnt_le (gTw m a b n) n
        rw [e]
        omega
      · omega

set_option maxRecDepth 100000 in
theorem x_twins (u : qU) (m y : qM) (a b : Int) (hR : rC m) (h1 : qr a) (h2 : qr b) : qCt YX11_twins 4 0 0 [qR 0, qI a, qI b] (qLy u, m, y) (fun r h => r = some (qI (ansTw m a b)) ∧ h = (qLy u, m, y)) := by
  refine qCt.intro okX11_twins (Nat.le_of_ble_eq_true rfl) (fun κ hκ => ?_)
  have hR2 := hR
  obtain ⟨⟨⟨a0, a1, a2⟩, ⟨a3, a4, a5⟩, ⟨b0, b1, b2⟩, b3, b4, b5⟩, hW, hRW, hT, hRT, hS⟩ := hR2
  have hV : qr (m 1 9) := by omega
  have zr := gHz_r hR.1
  have nWl := nW_le hR.1
  have nTl := nT_le hR.1
  have hS7 : ∀ k : Int, 0 ≤ k → k < m 2 0 → qr (m 7 k.toNat) := fun k k0 k1 => by have := (hRW k k0 k1).2.1.2.1; omega
  have hS11 : ∀ k : Int, 0 ≤ k → k < m 2 2 → qr (m 11 k.toNat) := fun k k0 k1 => by have := (hRT k k0 k1).2.1; omega
  have hS9 : ∀ k : Int, 0 ≤ k → k < m 2 2 → qr (m 9 k.toNat) := fun k k0 k1 => by have := (hT k k0 k1).2.1; omega
  have hcn : (q_cnt (fun j => m 10 j = -1) (m 2 2).toNat : Nat) ≤ m 2 0 := Int.le_of_eq hS.2.2.1
  have is1 := q_ite01 (0 ≤ a ∧ a ≤ 19)
  have is2 := q_ite01 (0 ≤ b ∧ b ≤ 19)
  show qJ YX11_twins κ _ (qLy u, m, y) 0 0 0 [some (qR 0), some (qI a), some (qI b)] []
  refine qJ.run hκ 1 (pc' := 1) (ls' := [some (qR 0), some (qI a), some (qI b)]) (st' := [qI a]) rfl ?_
  refine qJ.callS (As := [qI a]) (rest := []) hκ rfl kX11_162 (c_isSign u m y a (by omega)) (by decide) rfl rfl (Nat.le_of_ble_eq_true rfl) (Nat.le_of_ble_eq_true rfl) (Nat.le_of_ble_eq_true rfl) (Or.inl (fun r h' e => by obtain ⟨rfl, rfl⟩ := e; rfl)) (fun r h' e => ?_)
  obtain ⟨rfl, rfl⟩ := e
  show qJ YX11_twins κ _ (qLy u, m, y) 0 0 4 [some (qR 0), some (qI a), some (qI b)] [qI (if 0 ≤ a ∧ a ≤ 19 then 1 else 0)]
  refine qJ.if_eq hκ (tgt := 19) rfl rfl (by omega) (fun c4 => ?_) (fun c4 => ?_)
  · show qJ YX11_twins κ _ (qLy u, m, y) 0 0 19 [some (qR 0), some (qI a), some (qI b)] []
    refine qJ.run hκ 1 (pc' := 20) (ls' := [some (qR 0), some (qI a), some (qI b)]) (st' := [qI (-1)]) rfl ?_
    exact qJ.iret hκ rfl rfl (by decide) (by decide) (by
      first
      | exact ⟨by unfold ansTw; rw [if_neg (fun z => by rw [if_pos z.1] at c4; exact absurd c4 (by decide))], rfl⟩
      | exact ⟨by unfold ansTw; rw [if_neg (fun z => by rw [if_pos z.2.1] at c11; exact absurd c11 (by decide))], rfl⟩
      | exact ⟨by unfold ansTw; rw [if_neg (fun z => z.2.2 c16)], rfl⟩)
  · show qJ YX11_twins κ _ (qLy u, m, y) 0 0 7 [some (qR 0), some (qI a), some (qI b)] []
    have s4 : 0 ≤ a ∧ a ≤ 19 := by by_cases z : 0 ≤ a ∧ a ≤ 19; exact z; rw [if_neg z] at c4; exact absurd rfl c4
    refine qJ.run hκ 1 (pc' := 8) (ls' := [some (qR 0), some (qI a), some (qI b)]) (st' := [qI b]) rfl ?_
    refine qJ.callS (As := [qI b]) (rest := []) hκ rfl kX11_162 (c_isSign u m y b (by omega)) (by decide) rfl rfl (Nat.le_of_ble_eq_true rfl) (Nat.le_of_ble_eq_true rfl) (Nat.le_of_ble_eq_true rfl) (Or.inl (fun r h' e => by obtain ⟨rfl, rfl⟩ := e; rfl)) (fun r h' e => ?_)
    obtain ⟨rfl, rfl⟩ := e
    show qJ YX11_twins κ _ (qLy u, m, y) 0 0 11 [some (qR 0), some (qI a), some (qI b)] [qI (if 0 ≤ b ∧ b ≤ 19 then 1 else 0)]
    refine qJ.if_eq hκ (tgt := 19) rfl rfl (by omega) (fun c11 => ?_) (fun c11 => ?_)
    · show qJ YX11_twins κ _ (qLy u, m, y) 0 0 19 [some (qR 0), some (qI a), some (qI b)] []
      refine qJ.run hκ 1 (pc' := 20) (ls' := [some (qR 0), some (qI a), some (qI b)]) (st' := [qI (-1)]) rfl ?_
      exact qJ.iret hκ rfl rfl (by decide) (by decide) (by
      first
      | exact ⟨by unfold ansTw; rw [if_neg (fun z => by rw [if_pos z.1] at c4; exact absurd c4 (by decide))], rfl⟩
      | exact ⟨by unfold ansTw; rw [if_neg (fun z => by rw [if_pos z.2.1] at c11; exact absurd c11 (by decide))], rfl⟩
      | exact ⟨by unfold ansTw; rw [if_neg (fun z => z.2.2 c16)], rfl⟩)
    · show qJ YX11_twins κ _ (qLy u, m, y) 0 0 14 [some (qR 0), some (qI a), some (qI b)] []
      have s11 : 0 ≤ b ∧ b ≤ 19 := by by_cases z : 0 ≤ b ∧ b ≤ 19; exact z; rw [if_neg z] at c11; exact absurd rfl c11
      refine qJ.run hκ 2 (pc' := 16) (ls' := [some (qR 0), some (qI a), some (qI b)]) (st' := [qI b, qI a]) rfl ?_
      refine qJ.icmp_ne hκ (tgt := 21) rfl rfl (by omega) (by omega) (fun c16 => ?_) (fun c16 => ?_)
      · show qJ YX11_twins κ _ (qLy u, m, y) 0 0 21 [some (qR 0), some (qI a), some (qI b)] []
        refine qJ.run hκ 7 (pc' := 34) (ls' := [some (qR 0), some (qI a), some (qI b)]) (st' := [qR 1, qI b, qI a, qR 2]) rfl ?_
        refine qJ.callV (As := []) (rest := [qI b, qI a, qR 2]) hκ rfl kX11_140 (c_horizon u m y hV) rfl rfl (by decide) rfl rfl (Nat.le_of_ble_eq_true rfl) (Nat.le_of_ble_eq_true rfl) (Nat.le_of_ble_eq_true rfl) (Or.inl (fun r h' e => by obtain ⟨rfl, rfl⟩ := e; rfl)) (fun r h' e => ?_)
        obtain ⟨rfl, rfl⟩ := e
        show qJ YX11_twins κ _ (qLy u, m, y) 0 0 37 [some (qR 0), some (qI a), some (qI b)] [qI (gHz m), qI b, qI a, qR 2]
        refine qJ.callV (As := [qI a, qI b, qI (gHz m)]) (rest := []) hκ rfl kX11_199 (c_pairsApartBy u m y a b (gHz m) (nW m) rfl a0 (by omega) h1 h2 hW hS7) rfl rfl (by decide) rfl rfl (Nat.le_of_ble_eq_true rfl) (Nat.le_of_ble_eq_true rfl) (Nat.le_of_ble_eq_true rfl) (Or.inl (fun r h' e => by obtain ⟨rfl, rfl⟩ := e; rfl)) (fun r h' e => ?_)
        obtain ⟨rfl, rfl⟩ := e
        show qJ YX11_twins κ _ (qLy u, m, y) 0 0 40 [some (qR 0), some (qI a), some (qI b)] [qI (gTn m a b (nW m))]
        exact qJ.iret hκ rfl rfl (by decide) (by decide) (⟨by unfold ansTw; rw [if_pos ⟨by omega, by omega, c16⟩], rfl⟩)
      · show qJ YX11_twins κ _ (qLy u, m, y) 0 0 19 [some (qR 0), some (qI a), some (qI b)] []
        refine qJ.run hκ 1 (pc' := 20) (ls' := [some (qR 0), some (qI a), some (qI b)]) (st' := [qI (-1)]) rfl ?_
        exact qJ.iret hκ rfl rfl (by decide) (by decide) (by
      first
      | exact ⟨by unfold ansTw; rw [if_neg (fun z => by rw [if_pos z.1] at c4; exact absurd c4 (by decide))], rfl⟩
      | exact ⟨by unfold ansTw; rw [if_neg (fun z => by rw [if_pos z.2.1] at c11; exact absurd c11 (by decide))], rfl⟩
      | exact ⟨by unfold ansTw; rw [if_neg (fun z => z.2.2 c16)], rfl⟩)

set_option maxRecDepth 100000 in
theorem b_twins (u : qU) (m y : qM) (a b : Int) (hR : rC m) (h1 : qr a) (h2 : qr b) {κ : qK} (hκ : qCx YX12_twins 4 0 0 κ) : qJ YX12_twins κ (qFin (fun r h => ∃ m', r = some (qI (ansTw m a b)) ∧ h = (qLy u, m', y) ∧ keep kObs m' = keep kObs m) 0 0 κ) (qLy u, m, y) 0 0 5 [some (qR 77), some (qI a), some (qI b), none, none, none, none, none, none, none, none] [] := by
  have hR2 := hR
  obtain ⟨⟨⟨a0, a1, a2⟩, ⟨a3, a4, a5⟩, ⟨b0, b1, b2⟩, b3, b4, b5⟩, hW, hRW, hT, hRT, hS⟩ := hR2
  have hV : qr (m 83 0) := by omega
  have zr := gHz_r hR.1
  have ze := hz_eq hR.1
  have nWl := nW_le hR.1
  have nTl := nT_le hR.1
  have L21 : ∀ (n : Nat) (c : Int) (v : Int), (0 ≤ v) → (v ≤ m 2 0) → ((v ≤ (nW m : Int) ∧ c = gTn m a b v.toNat) ∨ ((nW m : Int) ≤ v ∧ c = gTn m a b (nW m))) → ((0 ≤ a ∧ a ≤ 19) ∧ (0 ≤ b ∧ b ≤ 19) ∧ ¬ a = b) → ((m 2 0 - v).toNat) < n → qJ YX12_twins κ (qFin (fun r h => ∃ m', r = some (qI (ansTw m a b)) ∧ h = (qLy u, m', y) ∧ keep kObs m' = keep kObs m) 0 0 κ) (qLy u, m, y) 0 0 21 [some (qR 77), some (qI a), some (qI b), some (qI c), some (qI v), none, none, none, none, none, none] [] := by
    intro n
    induction n with
    | zero => intro c v _ _ _ _ hz0; omega
    | succ n ih21 =>
      intro c v v21_0 v21_1 v21_2 v21_3 v21_m
      have L35 : ∀ (n : Nat) (c : Int) (w : Int), (0 ≤ w) → (w ≤ v) → (v < m 2 0) → ((v < (nW m : Int) ∧ c = gTn m a b v.toNat + (q_cnt (gTw m a b v.toNat) w.toNat : Int)) ∨ ((nW m : Int) ≤ v ∧ c = gTn m a b (nW m))) → (0 ≤ v) → ((v - w).toNat) < n → qJ YX12_twins κ (qFin (fun r h => ∃ m', r = some (qI (ansTw m a b)) ∧ h = (qLy u, m', y) ∧ keep kObs m' = keep kObs m) 0 0 κ) (qLy u, m, y) 0 0 35 [some (qR 77), some (qI a), some (qI b), some (qI c), some (qI v), some (qI w), none, none, none, none, none] [] := by
        intro n
        induction n with
        | zero => intro c w _ _ _ _ _ hz0; omega
        | succ n ih35 =>
          intro c w v35_0 v35_1 v35_2 v35_3 v35_4 v35_m
          have L107 : ∀ (n : Nat) (n1 : Int) (t : Int) (k : Int), (0 ≤ k) → (k ≤ m 4 v.toNat) → (m 4 v.toNat = m 4 w.toNat ∧ m 5 v.toNat = -1 ∧ m 5 w.toNat = -1) → (n1 = (q_cnt (gD m v w) k.toNat : Int)) → ((t = 1 ∧ q_cnt (twB m a b v w) k.toNat = 0) ∨ (t = 0 ∧ ¬ q_cnt (twB m a b v w) k.toNat = 0)) → (0 ≤ w ∧ w < v ∧ v < (nW m : Int)) → ((m 4 v.toNat - k).toNat) < n → qJ YX12_twins κ (qFin (fun r h => ∃ m', r = some (qI (ansTw m a b)) ∧ h = (qLy u, m', y) ∧ keep kObs m' = keep kObs m) 0 0 κ) (qLy u, m, y) 0 0 107 [some (qR 77), some (qI a), some (qI b), some (qI c), some (qI v), some (qI w), some (qI n1), some (qI t), some (qI k), none, none] [] := by
            intro n
            induction n with
            | zero => intro n1 t k _ _ _ _ _ _ hz0; omega
            | succ n ih107 =>
              intro n1 t k v107_0 v107_1 v107_2 v107_3 v107_4 v107_5 v107_m
              have w1 := hW v (by omega) (by omega)
              have w2 := (hRW v (by omega) (by omega)).1.1
              have w5 := hW w (by omega) (by omega)
              have w6 := (hRW w (by omega) (by omega)).1.1
              have nc := q_cnt_le (gD m v w) k.toNat
              refine qJ.run hκ 4 (pc' := 115) (ls' := [some (qR 77), some (qI a), some (qI b), some (qI c), some (qI v), some (qI w), some (qI n1), some (qI t), some (qI k), none, none]) (st' := [qI v, qR 88, qI k]) rfl ?_
              refine qJ.ald hκ rfl rfl rfl (by decide) (by omega) ?_
              show qJ YX12_twins κ _ (qLy u, m, y) 0 0 116 [some (qR 77), some (qI a), some (qI b), some (qI c), some (qI v), some (qI w), some (qI n1), some (qI t), some (qI k), none, none] [qI (m 88 v.toNat), qI k]
              refine qJ.icmp_ge hκ (tgt := 213) rfl rfl (by omega) (by omega) (fun c116 => ?_) (fun c116 => ?_)
              · show qJ YX12_twins κ _ (qLy u, m, y) 0 0 213 [some (qR 77), some (qI a), some (qI b), some (qI c), some (qI v), some (qI w), some (qI n1), some (qI t), some (qI k), none, none] []
                refine qJ.run hκ 3 (pc' := 217) (ls' := [some (qR 77), some (qI a), some (qI b), some (qI c), some (qI v), some (qI w), some (qI n1), some (qI t), some (qI k), none, none]) (st' := [qI 1, qI n1, qI c]) rfl ?_
                refine qJ.icmp_ne hκ (tgt := 229) rfl rfl (by omega) (by omega) (fun c217 => ?_) (fun c217 => ?_)
                · show qJ YX12_twins κ _ (qLy u, m, y) 0 0 229 [some (qR 77), some (qI a), some (qI b), some (qI c), some (qI v), some (qI w), some (qI n1), some (qI t), some (qI k), none, none] [qI c]
                  refine qJ.run hκ 5 (pc' := 35) (ls' := [some (qR 77), some (qI a), some (qI b), some (qI (c + 0)), some (qI v), some (qI (w + 1)), some (qI n1), some (qI t), some (qI k), none, none]) (st' := []) rfl ?_
                  refine qJ.dl [true, true, true, true, true, true, false, false, false, false, false] ?_
                  show qJ YX12_twins κ _ (qLy u, m, y) 0 0 35 [some (qR 77), some (qI a), some (qI b), some (qI (c + 0)), some (qI v), some (qI (w + 1)), none, none, none, none, none] []
                  exact ih35  (c + 0) (w + 1) (by omega) (by omega) (by omega) (by rcases v35_3 with z | z; (refine Or.inl ⟨z.1, ?_⟩; rw [q_cnt_s v35_0, if_neg (fun q => by have := (tw_iff v35_4 v35_0 (by omega) v107_2).mpr q; rw [← show k.toNat = (m 4 v.toNat).toNat by omega] at this; omega)]; omega); (exfalso; omega)) (by omega) (by omega)
                · show qJ YX12_twins κ _ (qLy u, m, y) 0 0 220 [some (qR 77), some (qI a), some (qI b), some (qI c), some (qI v), some (qI w), some (qI n1), some (qI t), some (qI k), none, none] [qI c]
                  refine qJ.run hκ 1 (pc' := 222) (ls' := [some (qR 77), some (qI a), some (qI b), some (qI c), some (qI v), some (qI w), some (qI n1), some (qI t), some (qI k), none, none]) (st' := [qI t, qI c]) rfl ?_
                  refine qJ.if_eq hκ (tgt := 229) rfl rfl (by omega) (fun c222 => ?_) (fun c222 => ?_)
                  · show qJ YX12_twins κ _ (qLy u, m, y) 0 0 229 [some (qR 77), some (qI a), some (qI b), some (qI c), some (qI v), some (qI w), some (qI n1), some (qI t), some (qI k), none, none] [qI c]
                    refine qJ.run hκ 5 (pc' := 35) (ls' := [some (qR 77), some (qI a), some (qI b), some (qI (c + 0)), some (qI v), some (qI (w + 1)), some (qI n1), some (qI t), some (qI k), none, none]) (st' := []) rfl ?_
                    refine qJ.dl [true, true, true, true, true, true, false, false, false, false, false] ?_
                    show qJ YX12_twins κ _ (qLy u, m, y) 0 0 35 [some (qR 77), some (qI a), some (qI b), some (qI (c + 0)), some (qI v), some (qI (w + 1)), none, none, none, none, none] []
                    exact ih35  (c + 0) (w + 1) (by omega) (by omega) (by omega) (by rcases v35_3 with z | z; (refine Or.inl ⟨z.1, ?_⟩; rw [q_cnt_s v35_0, if_neg (fun q => by have := (tw_iff v35_4 v35_0 (by omega) v107_2).mpr q; rw [← show k.toNat = (m 4 v.toNat).toNat by omega] at this; omega)]; omega); (exfalso; omega)) (by omega) (by omega)
                  · show qJ YX12_twins κ _ (qLy u, m, y) 0 0 225 [some (qR 77), some (qI a), some (qI b), some (qI c), some (qI v), some (qI w), some (qI n1), some (qI t), some (qI k), none, none] [qI c]
                    refine qJ.run hκ 6 (pc' := 35) (ls' := [some (qR 77), some (qI a), some (qI b), some (qI (c + 1)), some (qI v), some (qI (w + 1)), some (qI n1), some (qI t), some (qI k), none, none]) (st' := []) rfl ?_
                    refine qJ.dl [true, true, true, true, true, true, false, false, false, false, false] ?_
                    show qJ YX12_twins κ _ (qLy u, m, y) 0 0 35 [some (qR 77), some (qI a), some (qI b), some (qI (c + 1)), some (qI v), some (qI (w + 1)), none, none, none, none, none] []
                    exact ih35  (c + 1) (w + 1) (by omega) (by omega) (by omega) (by rcases v35_3 with z | z; (refine Or.inl ⟨z.1, ?_⟩; rw [q_cnt_s v35_0, if_pos ((tw_iff v35_4 v35_0 (by omega) v107_2).mp (by rw [← show k.toNat = (m 4 v.toNat).toNat by omega]; omega))]; omega); (exfalso; omega)) (by omega) (by omega)
              · show qJ YX12_twins κ _ (qLy u, m, y) 0 0 119 [some (qR 77), some (qI a), some (qI b), some (qI c), some (qI v), some (qI w), some (qI n1), some (qI t), some (qI k), none, none] []
                have x1 := (hRW v (by omega) (by omega)).2.2 k (by omega) (by omega)
                have x2 := (hRW w (by omega) (by omega)).2.2 k (by omega) (by omega)
                have x3 := (w1.2.2 k (by omega) (by omega)).1
                have x4 := (w5.2.2 k (by omega) (by omega)).1
                refine qJ.run hκ 7 (pc' := 130) (ls' := [some (qR 77), some (qI a), some (qI b), some (qI c), some (qI v), some (qI w), some (qI n1), some (qI t), some (qI k), none, none]) (st' := [qI ((5 * v) + k), qR 87]) rfl ?_
                refine qJ.ald hκ rfl rfl rfl (by decide) (by omega) ?_
                show qJ YX12_twins κ _ (qLy u, m, y) 0 0 131 [some (qR 77), some (qI a), some (qI b), some (qI c), some (qI v), some (qI w), some (qI n1), some (qI t), some (qI k), none, none] [qI (m 87 (((5 * v) + k).toNat))]
                refine qJ.run hκ 8 (pc' := 144) (ls' := [some (qR 77), some (qI a), some (qI b), some (qI c), some (qI v), some (qI w), some (qI n1), some (qI t), some (qI k), some (qI (m 87 (((5 * v) + k).toNat))), none]) (st' := [qI ((5 * w) + k), qR 87]) rfl ?_
                refine qJ.ald hκ rfl rfl rfl (by decide) (by omega) ?_
                show qJ YX12_twins κ _ (qLy u, m, y) 0 0 145 [some (qR 77), some (qI a), some (qI b), some (qI c), some (qI v), some (qI w), some (qI n1), some (qI t), some (qI k), some (qI (m 87 (((5 * v) + k).toNat))), none] [qI (m 87 (((5 * w) + k).toNat))]
                refine qJ.run hκ 4 (pc' := 153) (ls' := [some (qR 77), some (qI a), some (qI b), some (qI c), some (qI v), some (qI w), some (qI n1), some (qI t), some (qI k), some (qI (m 87 (((5 * v) + k).toNat))), some (qI (m 87 (((5 * w) + k).toNat)))]) (st' := [qI (m 87 (((5 * w) + k).toNat)), qI (m 87 (((5 * v) + k).toNat)), qI n1]) rfl ?_
                refine qJ.icmp_eq hκ (tgt := 160) rfl rfl (by omega) (by omega) (fun c153 => ?_) (fun c153 => ?_)
                · show qJ YX12_twins κ _ (qLy u, m, y) 0 0 160 [some (qR 77), some (qI a), some (qI b), some (qI c), some (qI v), some (qI w), some (qI n1), some (qI t), some (qI k), some (qI (m 87 (((5 * v) + k).toNat))), some (qI (m 87 (((5 * w) + k).toNat)))] [qI n1]
                  have hun : n1 + 0 = (q_cnt (gD m v w) (k + 1).toNat : Int) := by rw [q_cnt_s v107_0, if_neg (fun z => (gD_i v107_0).mp z (by omega))]; omega
                  refine qJ.run hκ 4 (pc' := 166) (ls' := [some (qR 77), some (qI a), some (qI b), some (qI c), some (qI v), some (qI w), some (qI (n1 + 0)), some (qI t), some (qI k), some (qI (m 87 (((5 * v) + k).toNat))), some (qI (m 87 (((5 * w) + k).toNat)))]) (st' := [qI t]) rfl ?_
                  refine qJ.if_eq hκ (tgt := 204) rfl rfl (by omega) (fun c166 => ?_) (fun c166 => ?_)
                  · show qJ YX12_twins κ _ (qLy u, m, y) 0 0 204 [some (qR 77), some (qI a), some (qI b), some (qI c), some (qI v), some (qI w), some (qI (n1 + 0)), some (qI t), some (qI k), some (qI (m 87 (((5 * v) + k).toNat))), some (qI (m 87 (((5 * w) + k).toNat)))] []
                    refine qJ.run hκ 4 (pc' := 107) (ls' := [some (qR 77), some (qI a), some (qI b), some (qI c), some (qI v), some (qI w), some (qI (n1 + 0)), some (qI 0), some (qI (k + 1)), some (qI (m 87 (((5 * v) + k).toNat))), some (qI (m 87 (((5 * w) + k).toNat)))]) (st' := []) rfl ?_
                    refine qJ.dl [true, true, true, true, true, true, true, true, true, false, false] ?_
                    show qJ YX12_twins κ _ (qLy u, m, y) 0 0 107 [some (qR 77), some (qI a), some (qI b), some (qI c), some (qI v), some (qI w), some (qI (n1 + 0)), some (qI 0), some (qI (k + 1)), none, none] []
                    exact ih107  (n1 + 0) 0 (k + 1) (by omega) (by omega) (by omega) (hun) (Or.inr ⟨rfl, by rw [q_cnt_s v107_0]; omega⟩) (by omega) (by omega)
                  · show qJ YX12_twins κ _ (qLy u, m, y) 0 0 169 [some (qR 77), some (qI a), some (qI b), some (qI c), some (qI v), some (qI w), some (qI (n1 + 0)), some (qI t), some (qI k), some (qI (m 87 (((5 * v) + k).toNat))), some (qI (m 87 (((5 * w) + k).toNat)))] []
                    refine qJ.run hκ 2 (pc' := 173) (ls' := [some (qR 77), some (qI a), some (qI b), some (qI c), some (qI v), some (qI w), some (qI (n1 + 0)), some (qI t), some (qI k), some (qI (m 87 (((5 * v) + k).toNat))), some (qI (m 87 (((5 * w) + k).toNat)))]) (st' := [qI (m 87 (((5 * w) + k).toNat)), qI (m 87 (((5 * v) + k).toNat))]) rfl ?_
                    refine qJ.icmp_eq hκ (tgt := 200) rfl rfl (by omega) (by omega) (fun c173 => ?_) (fun c173 => ?_)
                    · show qJ YX12_twins κ _ (qLy u, m, y) 0 0 200 [some (qR 77), some (qI a), some (qI b), some (qI c), some (qI v), some (qI w), some (qI (n1 + 0)), some (qI t), some (qI k), some (qI (m 87 (((5 * v) + k).toNat))), some (qI (m 87 (((5 * w) + k).toNat)))] []
                      refine qJ.run hκ 5 (pc' := 107) (ls' := [some (qR 77), some (qI a), some (qI b), some (qI c), some (qI v), some (qI w), some (qI (n1 + 0)), some (qI 1), some (qI (k + 1)), some (qI (m 87 (((5 * v) + k).toNat))), some (qI (m 87 (((5 * w) + k).toNat)))]) (st' := []) rfl ?_
                      refine qJ.dl [true, true, true, true, true, true, true, true, true, false, false] ?_
                      show qJ YX12_twins κ _ (qLy u, m, y) 0 0 107 [some (qR 77), some (qI a), some (qI b), some (qI c), some (qI v), some (qI w), some (qI (n1 + 0)), some (qI 1), some (qI (k + 1)), none, none] []
                      exact ih107  (n1 + 0) 1 (k + 1) (by omega) (by omega) (by omega) (hun) (Or.inl ⟨rfl, by rw [q_cnt_s v107_0, if_neg (fun z => (twB_i v107_0).mp z (by omega))]; omega⟩) (by omega) (by omega)
                    · show qJ YX12_twins κ _ (qLy u, m, y) 0 0 176 [some (qR 77), some (qI a), some (qI b), some (qI c), some (qI v), some (qI w), some (qI (n1 + 0)), some (qI t), some (qI k), some (qI (m 87 (((5 * v) + k).toNat))), some (qI (m 87 (((5 * w) + k).toNat)))] []
                      refine qJ.run hκ 2 (pc' := 179) (ls' := [some (qR 77), some (qI a), some (qI b), some (qI c), some (qI v), some (qI w), some (qI (n1 + 0)), some (qI t), some (qI k), some (qI (m 87 (((5 * v) + k).toNat))), some (qI (m 87 (((5 * w) + k).toNat)))]) (st' := [qI a, qI (m 87 (((5 * v) + k).toNat))]) rfl ?_
                      refine qJ.icmp_ne hκ (tgt := 188) rfl rfl (by omega) (by omega) (fun c179 => ?_) (fun c179 => ?_)
                      · show qJ YX12_twins κ _ (qLy u, m, y) 0 0 188 [some (qR 77), some (qI a), some (qI b), some (qI c), some (qI v), some (qI w), some (qI (n1 + 0)), some (qI t), some (qI k), some (qI (m 87 (((5 * v) + k).toNat))), some (qI (m 87 (((5 * w) + k).toNat)))] []
                        refine qJ.run hκ 2 (pc' := 191) (ls' := [some (qR 77), some (qI a), some (qI b), some (qI c), some (qI v), some (qI w), some (qI (n1 + 0)), some (qI t), some (qI k), some (qI (m 87 (((5 * v) + k).toNat))), some (qI (m 87 (((5 * w) + k).toNat)))]) (st' := [qI b, qI (m 87 (((5 * v) + k).toNat))]) rfl ?_
                        refine qJ.icmp_ne hκ (tgt := 204) rfl rfl (by omega) (by omega) (fun c191 => ?_) (fun c191 => ?_)
                        · show qJ YX12_twins κ _ (qLy u, m, y) 0 0 204 [some (qR 77), some (qI a), some (qI b), some (qI c), some (qI v), some (qI w), some (qI (n1 + 0)), some (qI t), some (qI k), some (qI (m 87 (((5 * v) + k).toNat))), some (qI (m 87 (((5 * w) + k).toNat)))] []
                          refine qJ.run hκ 4 (pc' := 107) (ls' := [some (qR 77), some (qI a), some (qI b), some (qI c), some (qI v), some (qI w), some (qI (n1 + 0)), some (qI 0), some (qI (k + 1)), some (qI (m 87 (((5 * v) + k).toNat))), some (qI (m 87 (((5 * w) + k).toNat)))]) (st' := []) rfl ?_
                          refine qJ.dl [true, true, true, true, true, true, true, true, true, false, false] ?_
                          show qJ YX12_twins κ _ (qLy u, m, y) 0 0 107 [some (qR 77), some (qI a), some (qI b), some (qI c), some (qI v), some (qI w), some (qI (n1 + 0)), some (qI 0), some (qI (k + 1)), none, none] []
                          exact ih107  (n1 + 0) 0 (k + 1) (by omega) (by omega) (by omega) (hun) (Or.inr ⟨rfl, by rw [q_cnt_s v107_0, if_pos ((twB_i v107_0).mpr (by omega))]; omega⟩) (by omega) (by omega)
                        · show qJ YX12_twins κ _ (qLy u, m, y) 0 0 194 [some (qR 77), some (qI a), some (qI b), some (qI c), some (qI v), some (qI w), some (qI (n1 + 0)), some (qI t), some (qI k), some (qI (m 87 (((5 * v) + k).toNat))), some (qI (m 87 (((5 * w) + k).toNat)))] []
                          refine qJ.run hκ 2 (pc' := 197) (ls' := [some (qR 77), some (qI a), some (qI b), some (qI c), some (qI v), some (qI w), some (qI (n1 + 0)), some (qI t), some (qI k), some (qI (m 87 (((5 * v) + k).toNat))), some (qI (m 87 (((5 * w) + k).toNat)))]) (st' := [qI a, qI (m 87 (((5 * w) + k).toNat))]) rfl ?_
                          refine qJ.icmp_ne hκ (tgt := 204) rfl rfl (by omega) (by omega) (fun c197 => ?_) (fun c197 => ?_)
                          · show qJ YX12_twins κ _ (qLy u, m, y) 0 0 204 [some (qR 77), some (qI a), some (qI b), some (qI c), some (qI v), some (qI w), some (qI (n1 + 0)), some (qI t), some (qI k), some (qI (m 87 (((5 * v) + k).toNat))), some (qI (m 87 (((5 * w) + k).toNat)))] []
                            refine qJ.run hκ 4 (pc' := 107) (ls' := [some (qR 77), some (qI a), some (qI b), some (qI c), some (qI v), some (qI w), some (qI (n1 + 0)), some (qI 0), some (qI (k + 1)), some (qI (m 87 (((5 * v) + k).toNat))), some (qI (m 87 (((5 * w) + k).toNat)))]) (st' := []) rfl ?_
                            refine qJ.dl [true, true, true, true, true, true, true, true, true, false, false] ?_
                            show qJ YX12_twins κ _ (qLy u, m, y) 0 0 107 [some (qR 77), some (qI a), some (qI b), some (qI c), some (qI v), some (qI w), some (qI (n1 + 0)), some (qI 0), some (qI (k + 1)), none, none] []
                            exact ih107  (n1 + 0) 0 (k + 1) (by omega) (by omega) (by omega) (hun) (Or.inr ⟨rfl, by rw [q_cnt_s v107_0, if_pos ((twB_i v107_0).mpr (by omega))]; omega⟩) (by omega) (by omega)
                          · show qJ YX12_twins κ _ (qLy u, m, y) 0 0 200 [some (qR 77), some (qI a), some (qI b), some (qI c), some (qI v), some (qI w), some (qI (n1 + 0)), some (qI t), some (qI k), some (qI (m 87 (((5 * v) + k).toNat))), some (qI (m 87 (((5 * w) + k).toNat)))] []
                            refine qJ.run hκ 5 (pc' := 107) (ls' := [some (qR 77), some (qI a), some (qI b), some (qI c), some (qI v), some (qI w), some (qI (n1 + 0)), some (qI 1), some (qI (k + 1)), some (qI (m 87 (((5 * v) + k).toNat))), some (qI (m 87 (((5 * w) + k).toNat)))]) (st' := []) rfl ?_
                            refine qJ.dl [true, true, true, true, true, true, true, true, true, false, false] ?_
                            show qJ YX12_twins κ _ (qLy u, m, y) 0 0 107 [some (qR 77), some (qI a), some (qI b), some (qI c), some (qI v), some (qI w), some (qI (n1 + 0)), some (qI 1), some (qI (k + 1)), none, none] []
                            exact ih107  (n1 + 0) 1 (k + 1) (by omega) (by omega) (by omega) (hun) (Or.inl ⟨rfl, by rw [q_cnt_s v107_0, if_neg (fun z => (twB_i v107_0).mp z (by omega))]; omega⟩) (by omega) (by omega)
                      · show qJ YX12_twins κ _ (qLy u, m, y) 0 0 182 [some (qR 77), some (qI a), some (qI b), some (qI c), some (qI v), some (qI w), some (qI (n1 + 0)), some (qI t), some (qI k), some (qI (m 87 (((5 * v) + k).toNat))), some (qI (m 87 (((5 * w) + k).toNat)))] []
                        refine qJ.run hκ 2 (pc' := 185) (ls' := [some (qR 77), some (qI a), some (qI b), some (qI c), some (qI v), some (qI w), some (qI (n1 + 0)), some (qI t), some (qI k), some (qI (m 87 (((5 * v) + k).toNat))), some (qI (m 87 (((5 * w) + k).toNat)))]) (st' := [qI b, qI (m 87 (((5 * w) + k).toNat))]) rfl ?_
                        refine qJ.icmp_eq hκ (tgt := 200) rfl rfl (by omega) (by omega) (fun c185 => ?_) (fun c185 => ?_)
                        · show qJ YX12_twins κ _ (qLy u, m, y) 0 0 200 [some (qR 77), some (qI a), some (qI b), some (qI c), some (qI v), some (qI w), some (qI (n1 + 0)), some (qI t), some (qI k), some (qI (m 87 (((5 * v) + k).toNat))), some (qI (m 87 (((5 * w) + k).toNat)))] []
                          refine qJ.run hκ 5 (pc' := 107) (ls' := [some (qR 77), some (qI a), some (qI b), some (qI c), some (qI v), some (qI w), some (qI (n1 + 0)), some (qI 1), some (qI (k + 1)), some (qI (m 87 (((5 * v) + k).toNat))), some (qI (m 87 (((5 * w) + k).toNat)))]) (st' := []) rfl ?_
                          refine qJ.dl [true, true, true, true, true, true, true, true, true, false, false] ?_
                          show qJ YX12_twins κ _ (qLy u, m, y) 0 0 107 [some (qR 77), some (qI a), some (qI b), some (qI c), some (qI v), some (qI w), some (qI (n1 + 0)), some (qI 1), some (qI (k + 1)), none, none] []
                          exact ih107  (n1 + 0) 1 (k + 1) (by omega) (by omega) (by omega) (hun) (Or.inl ⟨rfl, by rw [q_cnt_s v107_0, if_neg (fun z => (twB_i v107_0).mp z (by omega))]; omega⟩) (by omega) (by omega)
                        · show qJ YX12_twins κ _ (qLy u, m, y) 0 0 188 [some (qR 77), some (qI a), some (qI b), some (qI c), some (qI v), some (qI w), some (qI (n1 + 0)), some (qI t), some (qI k), some (qI (m 87 (((5 * v) + k).toNat))), some (qI (m 87 (((5 * w) + k).toNat)))] []
                          refine qJ.run hκ 2 (pc' := 191) (ls' := [some (qR 77), some (qI a), some (qI b), some (qI c), some (qI v), some (qI w), some (qI (n1 + 0)), some (qI t), some (qI k), some (qI (m 87 (((5 * v) + k).toNat))), some (qI (m 87 (((5 * w) + k).toNat)))]) (st' := [qI b, qI (m 87 (((5 * v) + k).toNat))]) rfl ?_
                          refine qJ.icmp_ne hκ (tgt := 204) rfl rfl (by omega) (by omega) (fun c191 => ?_) (fun c191 => ?_)
                          · show qJ YX12_twins κ _ (qLy u, m, y) 0 0 204 [some (qR 77), some (qI a), some (qI b), some (qI c), some (qI v), some (qI w), some (qI (n1 + 0)), some (qI t), some (qI k), some (qI (m 87 (((5 * v) + k).toNat))), some (qI (m 87 (((5 * w) + k).toNat)))] []
                            refine qJ.run hκ 4 (pc' := 107) (ls' := [some (qR 77), some (qI a), some (qI b), some (qI c), some (qI v), some (qI w), some (qI (n1 + 0)), some (qI 0), some (qI (k + 1)), some (qI (m 87 (((5 * v) + k).toNat))), some (qI (m 87 (((5 * w) + k).toNat)))]) (st' := []) rfl ?_
                            refine qJ.dl [true, true, true, true, true, true, true, true, true, false, false] ?_
                            show qJ YX12_twins κ _ (qLy u, m, y) 0 0 107 [some (qR 77), some (qI a), some (qI b), some (qI c), some (qI v), some (qI w), some (qI (n1 + 0)), some (qI 0), some (qI (k + 1)), none, none] []
                            exact ih107  (n1 + 0) 0 (k + 1) (by omega) (by omega) (by omega) (hun) (Or.inr ⟨rfl, by rw [q_cnt_s v107_0, if_pos ((twB_i v107_0).mpr (by omega))]; omega⟩) (by omega) (by omega)
                          · show qJ YX12_twins κ _ (qLy u, m, y) 0 0 194 [some (qR 77), some (qI a), some (qI b), some (qI c), some (qI v), some (qI w), some (qI (n1 + 0)), some (qI t), some (qI k), some (qI (m 87 (((5 * v) + k).toNat))), some (qI (m 87 (((5 * w) + k).toNat)))] []
                            refine qJ.run hκ 2 (pc' := 197) (ls' := [some (qR 77), some (qI a), some (qI b), some (qI c), some (qI v), some (qI w), some (qI (n1 + 0)), some (qI t), some (qI k), some (qI (m 87 (((5 * v) + k).toNat))), some (qI (m 87 (((5 * w) + k).toNat)))]) (st' := [qI a, qI (m 87 (((5 * w) + k).toNat))]) rfl ?_
                            refine qJ.icmp_ne hκ (tgt := 204) rfl rfl (by omega) (by omega) (fun c197 => ?_) (fun c197 => ?_)
                            · show qJ YX12_twins κ _ (qLy u, m, y) 0 0 204 [some (qR 77), some (qI a), some (qI b), some (qI c), some (qI v), some (qI w), some (qI (n1 + 0)), some (qI t), some (qI k), some (qI (m 87 (((5 * v) + k).toNat))), some (qI (m 87 (((5 * w) + k).toNat)))] []
                              refine qJ.run hκ 4 (pc' := 107) (ls' := [some (qR 77), some (qI a), some (qI b), some (qI c), some (qI v), some (qI w), some (qI (n1 + 0)), some (qI 0), some (qI (k + 1)), some (qI (m 87 (((5 * v) + k).toNat))), some (qI (m 87 (((5 * w) + k).toNat)))]) (st' := []) rfl ?_
                              refine qJ.dl [true, true, true, true, true, true, true, true, true, false, false] ?_
                              show qJ YX12_twins κ _ (qLy u, m, y) 0 0 107 [some (qR 77), some (qI a), some (qI b), some (qI c), some (qI v), some (qI w), some (qI (n1 + 0)), some (qI 0), some (qI (k + 1)), none, none] []
                              exact ih107  (n1 + 0) 0 (k + 1) (by omega) (by omega) (by omega) (hun) (Or.inr ⟨rfl, by rw [q_cnt_s v107_0, if_pos ((twB_i v107_0).mpr (by omega))]; omega⟩) (by omega) (by omega)
                            · show qJ YX12_twins κ _ (qLy u, m, y) 0 0 200 [some (qR 77), some (qI a), some (qI b), some (qI c), some (qI v), some (qI w), some (qI (n1 + 0)), some (qI t), some (qI k), some (qI (m 87 (((5 * v) + k).toNat))), some (qI (m 87 (((5 * w) + k).toNat)))] []
                              refine qJ.run hκ 5 (pc' := 107) (ls' := [some (qR 77), some (qI a), some (qI b), some (qI c), some (qI v), some (qI w), some (qI (n1 + 0)), some (qI 1), some (qI (k + 1)), some (qI (m 87 (((5 * v) + k).toNat))), some (qI (m 87 (((5 * w) + k).toNat)))]) (st' := []) rfl ?_
                              refine qJ.dl [true, true, true, true, true, true, true, true, true, false, false] ?_
                              show qJ YX12_twins κ _ (qLy u, m, y) 0 0 107 [some (qR 77), some (qI a), some (qI b), some (qI c), some (qI v), some (qI w), some (qI (n1 + 0)), some (qI 1), some (qI (k + 1)), none, none] []
                              exact ih107  (n1 + 0) 1 (k + 1) (by omega) (by omega) (by omega) (hun) (Or.inl ⟨rfl, by rw [q_cnt_s v107_0, if_neg (fun z => (twB_i v107_0).mp z (by omega))]; omega⟩) (by omega) (by omega)
                · show qJ YX12_twins κ _ (qLy u, m, y) 0 0 156 [some (qR 77), some (qI a), some (qI b), some (qI c), some (qI v), some (qI w), some (qI n1), some (qI t), some (qI k), some (qI (m 87 (((5 * v) + k).toNat))), some (qI (m 87 (((5 * w) + k).toNat)))] [qI n1]
                  have hun : n1 + 1 = (q_cnt (gD m v w) (k + 1).toNat : Int) := by rw [q_cnt_s v107_0, if_pos ((gD_i v107_0).mpr (by omega))]; omega
                  refine qJ.run hκ 5 (pc' := 166) (ls' := [some (qR 77), some (qI a), some (qI b), some (qI c), some (qI v), some (qI w), some (qI (n1 + 1)), some (qI t), some (qI k), some (qI (m 87 (((5 * v) + k).toNat))), some (qI (m 87 (((5 * w) + k).toNat)))]) (st' := [qI t]) rfl ?_
                  refine qJ.if_eq hκ (tgt := 204) rfl rfl (by omega) (fun c166 => ?_) (fun c166 => ?_)
                  · show qJ YX12_twins κ _ (qLy u, m, y) 0 0 204 [some (qR 77), some (qI a), some (qI b), some (qI c), some (qI v), some (qI w), some (qI (n1 + 1)), some (qI t), some (qI k), some (qI (m 87 (((5 * v) + k).toNat))), some (qI (m 87 (((5 * w) + k).toNat)))] []
                    refine qJ.run hκ 4 (pc' := 107) (ls' := [some (qR 77), some (qI a), some (qI b), some (qI c), some (qI v), some (qI w), some (qI (n1 + 1)), some (qI 0), some (qI (k + 1)), some (qI (m 87 (((5 * v) + k).toNat))), some (qI (m 87 (((5 * w) + k).toNat)))]) (st' := []) rfl ?_
                    refine qJ.dl [true, true, true, true, true, true, true, true, true, false, false] ?_
                    show qJ YX12_twins κ _ (qLy u, m, y) 0 0 107 [some (qR 77), some (qI a), some (qI b), some (qI c), some (qI v), some (qI w), some (qI (n1 + 1)), some (qI 0), some (qI (k + 1)), none, none] []
                    exact ih107  (n1 + 1) 0 (k + 1) (by omega) (by omega) (by omega) (hun) (Or.inr ⟨rfl, by rw [q_cnt_s v107_0]; omega⟩) (by omega) (by omega)
                  · show qJ YX12_twins κ _ (qLy u, m, y) 0 0 169 [some (qR 77), some (qI a), some (qI b), some (qI c), some (qI v), some (qI w), some (qI (n1 + 1)), some (qI t), some (qI k), some (qI (m 87 (((5 * v) + k).toNat))), some (qI (m 87 (((5 * w) + k).toNat)))] []
                    refine qJ.run hκ 2 (pc' := 173) (ls' := [some (qR 77), some (qI a), some (qI b), some (qI c), some (qI v), some (qI w), some (qI (n1 + 1)), some (qI t), some (qI k), some (qI (m 87 (((5 * v) + k).toNat))), some (qI (m 87 (((5 * w) + k).toNat)))]) (st' := [qI (m 87 (((5 * w) + k).toNat)), qI (m 87 (((5 * v) + k).toNat))]) rfl ?_
                    refine qJ.icmp_eq hκ (tgt := 200) rfl rfl (by omega) (by omega) (fun c173 => ?_) (fun c173 => ?_)
                    · show qJ YX12_twins κ _ (qLy u, m, y) 0 0 200 [some (qR 77), some (qI a), some (qI b), some (qI c), some (qI v), some (qI w), some (qI (n1 + 1)), some (qI t), some (qI k), some (qI (m 87 (((5 * v) + k).toNat))), some (qI (m 87 (((5 * w) + k).toNat)))] []
                      refine qJ.run hκ 5 (pc' := 107) (ls' := [some (qR 77), some (qI a), some (qI b), some (qI c), some (qI v), some (qI w), some (qI (n1 + 1)), some (qI 1), some (qI (k + 1)), some (qI (m 87 (((5 * v) + k).toNat))), some (qI (m 87 (((5 * w) + k).toNat)))]) (st' := []) rfl ?_
                      refine qJ.dl [true, true, true, true, true, true, true, true, true, false, false] ?_
                      show qJ YX12_twins κ _ (qLy u, m, y) 0 0 107 [some (qR 77), some (qI a), some (qI b), some (qI c), some (qI v), some (qI w), some (qI (n1 + 1)), some (qI 1), some (qI (k + 1)), none, none] []
                      exact ih107  (n1 + 1) 1 (k + 1) (by omega) (by omega) (by omega) (hun) (Or.inl ⟨rfl, by rw [q_cnt_s v107_0, if_neg (fun z => (twB_i v107_0).mp z (by omega))]; omega⟩) (by omega) (by omega)
                    · show qJ YX12_twins κ _ (qLy u, m, y) 0 0 176 [some (qR 77), some (qI a), some (qI b), some (qI c), some (qI v), some (qI w), some (qI (n1 + 1)), some (qI t), some (qI k), some (qI (m 87 (((5 * v) + k).toNat))), some (qI (m 87 (((5 * w) + k).toNat)))] []
                      refine qJ.run hκ 2 (pc' := 179) (ls' := [some (qR 77), some (qI a), some (qI b), some (qI c), some (qI v), some (qI w), some (qI (n1 + 1)), some (qI t), some (qI k), some (qI (m 87 (((5 * v) + k).toNat))), some (qI (m 87 (((5 * w) + k).toNat)))]) (st' := [qI a, qI (m 87 (((5 * v) + k).toNat))]) rfl ?_
                      refine qJ.icmp_ne hκ (tgt := 188) rfl rfl (by omega) (by omega) (fun c179 => ?_) (fun c179 => ?_)
                      · show qJ YX12_twins κ _ (qLy u, m, y) 0 0 188 [some (qR 77), some (qI a), some (qI b), some (qI c), some (qI v), some (qI w), some (qI (n1 + 1)), some (qI t), some (qI k), some (qI (m 87 (((5 * v) + k).toNat))), some (qI (m 87 (((5 * w) + k).toNat)))] []
                        refine qJ.run hκ 2 (pc' := 191) (ls' := [some (qR 77), some (qI a), some (qI b), some (qI c), some (qI v), some (qI w), some (qI (n1 + 1)), some (qI t), some (qI k), some (qI (m 87 (((5 * v) + k).toNat))), some (qI (m 87 (((5 * w) + k).toNat)))]) (st' := [qI b, qI (m 87 (((5 * v) + k).toNat))]) rfl ?_
                        refine qJ.icmp_ne hκ (tgt := 204) rfl rfl (by omega) (by omega) (fun c191 => ?_) (fun c191 => ?_)
                        · show qJ YX12_twins κ _ (qLy u, m, y) 0 0 204 [some (qR 77), some (qI a), some (qI b), some (qI c), some (qI v), some (qI w), some (qI (n1 + 1)), some (qI t), some (qI k), some (qI (m 87 (((5 * v) + k).toNat))), some (qI (m 87 (((5 * w) + k).toNat)))] []
                          refine qJ.run hκ 4 (pc' := 107) (ls' := [some (qR 77), some (qI a), some (qI b), some (qI c), some (qI v), some (qI w), some (qI (n1 + 1)), some (qI 0), some (qI (k + 1)), some (qI (m 87 (((5 * v) + k).toNat))), some (qI (m 87 (((5 * w) + k).toNat)))]) (st' := []) rfl ?_
                          refine qJ.dl [true, true, true, true, true, true, true, true, true, false, false] ?_
                          show qJ YX12_twins κ _ (qLy u, m, y) 0 0 107 [some (qR 77), some (qI a), some (qI b), some (qI c), some (qI v), some (qI w), some (qI (n1 + 1)), some (qI 0), some (qI (k + 1)), none, none] []
                          exact ih107  (n1 + 1) 0 (k + 1) (by omega) (by omega) (by omega) (hun) (Or.inr ⟨rfl, by rw [q_cnt_s v107_0, if_pos ((twB_i v107_0).mpr (by omega))]; omega⟩) (by omega) (by omega)
                        · show qJ YX12_twins κ _ (qLy u, m, y) 0 0 194 [some (qR 77), some (qI a), some (qI b), some (qI c), some (qI v), some (qI w), some (qI (n1 + 1)), some (qI t), some (qI k), some (qI (m 87 (((5 * v) + k).toNat))), some (qI (m 87 (((5 * w) + k).toNat)))] []
                          refine qJ.run hκ 2 (pc' := 197) (ls' := [some (qR 77), some (qI a), some (qI b), some (qI c), some (qI v), some (qI w), some (qI (n1 + 1)), some (qI t), some (qI k), some (qI (m 87 (((5 * v) + k).toNat))), some (qI (m 87 (((5 * w) + k).toNat)))]) (st' := [qI a, qI (m 87 (((5 * w) + k).toNat))]) rfl ?_
                          refine qJ.icmp_ne hκ (tgt := 204) rfl rfl (by omega) (by omega) (fun c197 => ?_) (fun c197 => ?_)
                          · show qJ YX12_twins κ _ (qLy u, m, y) 0 0 204 [some (qR 77), some (qI a), some (qI b), some (qI c), some (qI v), some (qI w), some (qI (n1 + 1)), some (qI t), some (qI k), some (qI (m 87 (((5 * v) + k).toNat))), some (qI (m 87 (((5 * w) + k).toNat)))] []
                            refine qJ.run hκ 4 (pc' := 107) (ls' := [some (qR 77), some (qI a), some (qI b), some (qI c), some (qI v), some (qI w), some (qI (n1 + 1)), some (qI 0), some (qI (k + 1)), some (qI (m 87 (((5 * v) + k).toNat))), some (qI (m 87 (((5 * w) + k).toNat)))]) (st' := []) rfl ?_
                            refine qJ.dl [true, true, true, true, true, true, true, true, true, false, false] ?_
                            show qJ YX12_twins κ _ (qLy u, m, y) 0 0 107 [some (qR 77), some (qI a), some (qI b), some (qI c), some (qI v), some (qI w), some (qI (n1 + 1)), some (qI 0), some (qI (k + 1)), none, none] []
                            exact ih107  (n1 + 1) 0 (k + 1) (by omega) (by omega) (by omega) (hun) (Or.inr ⟨rfl, by rw [q_cnt_s v107_0, if_pos ((twB_i v107_0).mpr (by omega))]; omega⟩) (by omega) (by omega)
                          · show qJ YX12_twins κ _ (qLy u, m, y) 0 0 200 [some (qR 77), some (qI a), some (qI b), some (qI c), some (qI v), some (qI w), some (qI (n1 + 1)), some (qI t), some (qI k), some (qI (m 87 (((5 * v) + k).toNat))), some (qI (m 87 (((5 * w) + k).toNat)))] []
                            refine qJ.run hκ 5 (pc' := 107) (ls' := [some (qR 77), some (qI a), some (qI b), some (qI c), some (qI v), some (qI w), some (qI (n1 + 1)), some (qI 1), some (qI (k + 1)), some (qI (m 87 (((5 * v) + k).toNat))), some (qI (m 87 (((5 * w) + k).toNat)))]) (st' := []) rfl ?_
                            refine qJ.dl [true, true, true, true, true, true, true, true, true, false, false] ?_
                            show qJ YX12_twins κ _ (qLy u, m, y) 0 0 107 [some (qR 77), some (qI a), some (qI b), some (qI c), some (qI v), some (qI w), some (qI (n1 + 1)), some (qI 1), some (qI (k + 1)), none, none] []
                            exact ih107  (n1 + 1) 1 (k + 1) (by omega) (by omega) (by omega) (hun) (Or.inl ⟨rfl, by rw [q_cnt_s v107_0, if_neg (fun z => (twB_i v107_0).mp z (by omega))]; omega⟩) (by omega) (by omega)
                      · show qJ YX12_twins κ _ (qLy u, m, y) 0 0 182 [some (qR 77), some (qI a), some (qI b), some (qI c), some (qI v), some (qI w), some (qI (n1 + 1)), some (qI t), some (qI k), some (qI (m 87 (((5 * v) + k).toNat))), some (qI (m 87 (((5 * w) + k).toNat)))] []
                        refine qJ.run hκ 2 (pc' := 185) (ls' := [some (qR 77), some (qI a), some (qI b), some (qI c), some (qI v), some (qI w), some (qI (n1 + 1)), some (qI t), some (qI k), some (qI (m 87 (((5 * v) + k).toNat))), some (qI (m 87 (((5 * w) + k).toNat)))]) (st' := [qI b, qI (m 87 (((5 * w) + k).toNat))]) rfl ?_
                        refine qJ.icmp_eq hκ (tgt := 200) rfl rfl (by omega) (by omega) (fun c185 => ?_) (fun c185 => ?_)
                        · show qJ YX12_twins κ _ (qLy u, m, y) 0 0 200 [some (qR 77), some (qI a), some (qI b), some (qI c), some (qI v), some (qI w), some (qI (n1 + 1)), some (qI t), some (qI k), some (qI (m 87 (((5 * v) + k).toNat))), some (qI (m 87 (((5 * w) + k).toNat)))] []
                          refine qJ.run hκ 5 (pc' := 107) (ls' := [some (qR 77), some (qI a), some (qI b), some (qI c), some (qI v), some (qI w), some (qI (n1 + 1)), some (qI 1), some (qI (k + 1)), some (qI (m 87 (((5 * v) + k).toNat))), some (qI (m 87 (((5 * w) + k).toNat)))]) (st' := []) rfl ?_
                          refine qJ.dl [true, true, true, true, true, true, true, true, true, false, false] ?_
                          show qJ YX12_twins κ _ (qLy u, m, y) 0 0 107 [some (qR 77), some (qI a), some (qI b), some (qI c), some (qI v), some (qI w), some (qI (n1 + 1)), some (qI 1), some (qI (k + 1)), none, none] []
                          exact ih107  (n1 + 1) 1 (k + 1) (by omega) (by omega) (by omega) (hun) (Or.inl ⟨rfl, by rw [q_cnt_s v107_0, if_neg (fun z => (twB_i v107_0).mp z (by omega))]; omega⟩) (by omega) (by omega)
                        · show qJ YX12_twins κ _ (qLy u, m, y) 0 0 188 [some (qR 77), some (qI a), some (qI b), some (qI c), some (qI v), some (qI w), some (qI (n1 + 1)), some (qI t), some (qI k), some (qI (m 87 (((5 * v) + k).toNat))), some (qI (m 87 (((5 * w) + k).toNat)))] []
                          refine qJ.run hκ 2 (pc' := 191) (ls' := [some (qR 77), some (qI a), some (qI b), some (qI c), some (qI v), some (qI w), some (qI (n1 + 1)), some (qI t), some (qI k), some (qI (m 87 (((5 * v) + k).toNat))), some (qI (m 87 (((5 * w) + k).toNat)))]) (st' := [qI b, qI (m 87 (((5 * v) + k).toNat))]) rfl ?_
                          refine qJ.icmp_ne hκ (tgt := 204) rfl rfl (by omega) (by omega) (fun c191 => ?_) (fun c191 => ?_)
                          · show qJ YX12_twins κ _ (qLy u, m, y) 0 0 204 [some (qR 77), some (qI a), some (qI b), some (qI c), some (qI v), some (qI w), some (qI (n1 + 1)), some (qI t), some (qI k), some (qI (m 87 (((5 * v) + k).toNat))), some (qI (m 87 (((5 * w) + k).toNat)))] []
                            refine qJ.run hκ 4 (pc' := 107) (ls' := [some (qR 77), some (qI a), some (qI b), some (qI c), some (qI v), some (qI w), some (qI (n1 + 1)), some (qI 0), some (qI (k + 1)), some (qI (m 87 (((5 * v) + k).toNat))), some (qI (m 87 (((5 * w) + k).toNat)))]) (st' := []) rfl ?_
                            refine qJ.dl [true, true, true, true, true, true, true, true, true, false, false] ?_
                            show qJ YX12_twins κ _ (qLy u, m, y) 0 0 107 [some (qR 77), some (qI a), some (qI b), some (qI c), some (qI v), some (qI w), some (qI (n1 + 1)), some (qI 0), some (qI (k + 1)), none, none] []
                            exact ih107  (n1 + 1) 0 (k + 1) (by omega) (by omega) (by omega) (hun) (Or.inr ⟨rfl, by rw [q_cnt_s v107_0, if_pos ((twB_i v107_0).mpr (by omega))]; omega⟩) (by omega) (by omega)
                          · show qJ YX12_twins κ _ (qLy u, m, y) 0 0 194 [some (qR 77), some (qI a), some (qI b), some (qI c), some (qI v), some (qI w), some (qI (n1 + 1)), some (qI t), some (qI k), some (qI (m 87 (((5 * v) + k).toNat))), some (qI (m 87 (((5 * w) + k).toNat)))] []
                            refine qJ.run hκ 2 (pc' := 197) (ls' := [some (qR 77), some (qI a), some (qI b), some (qI c), some (qI v), some (qI w), some (qI (n1 + 1)), some (qI t), some (qI k), some (qI (m 87 (((5 * v) + k).toNat))), some (qI (m 87 (((5 * w) + k).toNat)))]) (st' := [qI a, qI (m 87 (((5 * w) + k).toNat))]) rfl ?_
                            refine qJ.icmp_ne hκ (tgt := 204) rfl rfl (by omega) (by omega) (fun c197 => ?_) (fun c197 => ?_)
                            · show qJ YX12_twins κ _ (qLy u, m, y) 0 0 204 [some (qR 77), some (qI a), some (qI b), some (qI c), some (qI v), some (qI w), some (qI (n1 + 1)), some (qI t), some (qI k), some (qI (m 87 (((5 * v) + k).toNat))), some (qI (m 87 (((5 * w) + k).toNat)))] []
                              refine qJ.run hκ 4 (pc' := 107) (ls' := [some (qR 77), some (qI a), some (qI b), some (qI c), some (qI v), some (qI w), some (qI (n1 + 1)), some (qI 0), some (qI (k + 1)), some (qI (m 87 (((5 * v) + k).toNat))), some (qI (m 87 (((5 * w) + k).toNat)))]) (st' := []) rfl ?_
                              refine qJ.dl [true, true, true, true, true, true, true, true, true, false, false] ?_
                              show qJ YX12_twins κ _ (qLy u, m, y) 0 0 107 [some (qR 77), some (qI a), some (qI b), some (qI c), some (qI v), some (qI w), some (qI (n1 + 1)), some (qI 0), some (qI (k + 1)), none, none] []
                              exact ih107  (n1 + 1) 0 (k + 1) (by omega) (by omega) (by omega) (hun) (Or.inr ⟨rfl, by rw [q_cnt_s v107_0, if_pos ((twB_i v107_0).mpr (by omega))]; omega⟩) (by omega) (by omega)
                            · show qJ YX12_twins κ _ (qLy u, m, y) 0 0 200 [some (qR 77), some (qI a), some (qI b), some (qI c), some (qI v), some (qI w), some (qI (n1 + 1)), some (qI t), some (qI k), some (qI (m 87 (((5 * v) + k).toNat))), some (qI (m 87 (((5 * w) + k).toNat)))] []
                              refine qJ.run hκ 5 (pc' := 107) (ls' := [some (qR 77), some (qI a), some (qI b), some (qI c), some (qI v), some (qI w), some (qI (n1 + 1)), some (qI 1), some (qI (k + 1)), some (qI (m 87 (((5 * v) + k).toNat))), some (qI (m 87 (((5 * w) + k).toNat)))]) (st' := []) rfl ?_
                              refine qJ.dl [true, true, true, true, true, true, true, true, true, false, false] ?_
                              show qJ YX12_twins κ _ (qLy u, m, y) 0 0 107 [some (qR 77), some (qI a), some (qI b), some (qI c), some (qI v), some (qI w), some (qI (n1 + 1)), some (qI 1), some (qI (k + 1)), none, none] []
                              exact ih107  (n1 + 1) 1 (k + 1) (by omega) (by omega) (by omega) (hun) (Or.inl ⟨rfl, by rw [q_cnt_s v107_0, if_neg (fun z => (twB_i v107_0).mp z (by omega))]; omega⟩) (by omega) (by omega)
          have w1 := hW v (by omega) (by omega)
          have w2 := (hRW v (by omega) (by omega)).1.1
          refine qJ.run hκ 2 (pc' := 39) (ls' := [some (qR 77), some (qI a), some (qI b), some (qI c), some (qI v), some (qI w), none, none, none, none, none]) (st' := [qI v, qI w]) rfl ?_
          refine qJ.icmp_ge hκ (tgt := 238) rfl rfl (by omega) (by omega) (fun c39 => ?_) (fun c39 => ?_)
          · show qJ YX12_twins κ _ (qLy u, m, y) 0 0 238 [some (qR 77), some (qI a), some (qI b), some (qI c), some (qI v), some (qI w), none, none, none, none, none] []
            refine qJ.run hκ 2 (pc' := 21) (ls' := [some (qR 77), some (qI a), some (qI b), some (qI c), some (qI (v + 1)), some (qI w), none, none, none, none, none]) (st' := []) rfl ?_
            refine qJ.dl [true, true, true, true, true, false, false, false, false, false, false] ?_
            show qJ YX12_twins κ _ (qLy u, m, y) 0 0 21 [some (qR 77), some (qI a), some (qI b), some (qI c), some (qI (v + 1)), none, none, none, none, none, none] []
            exact ih21  c (v + 1) (by omega) (by omega) (by rcases v35_3 with z | z; (refine Or.inl ⟨by omega, ?_⟩; rw [gTn_s v35_4, ← show w.toNat = v.toNat by omega]; rw [show v.toNat = w.toNat by omega] at z; exact z.2); exact Or.inr ⟨by omega, z.2⟩) (by omega) (by omega)
          · show qJ YX12_twins κ _ (qLy u, m, y) 0 0 42 [some (qR 77), some (qI a), some (qI b), some (qI c), some (qI v), some (qI w), none, none, none, none, none] []
            refine qJ.run hκ 2 (pc' := 45) (ls' := [some (qR 77), some (qI a), some (qI b), some (qI c), some (qI v), some (qI w), none, none, none, none, none]) (st' := [qI v, qR 77]) rfl ?_
            refine qJ.callV (As := [qI v]) (rest := []) hκ rfl kX12_221 (m_there u m y v hR (by omega)) rfl rfl (by decide) rfl rfl (Nat.le_of_ble_eq_true rfl) (Nat.le_of_ble_eq_true rfl) (Nat.le_of_ble_eq_true rfl) (Or.inl (fun r h' e => by obtain ⟨z45, rfl, hz45, rfl⟩ := e; rfl)) (fun r h' e => ?_)
            obtain ⟨z45, rfl, hz45, rfl⟩ := e
            show qJ YX12_twins κ _ (qLy u, m, y) 0 0 48 [some (qR 77), some (qI a), some (qI b), some (qI c), some (qI v), some (qI w), none, none, none, none, none] [qI z45]
            refine qJ.if_eq hκ (tgt := 232) rfl rfl (by omega) (fun c48 => ?_) (fun c48 => ?_)
            · show qJ YX12_twins κ _ (qLy u, m, y) 0 0 232 [some (qR 77), some (qI a), some (qI b), some (qI c), some (qI v), some (qI w), none, none, none, none, none] []
              refine qJ.run hκ 2 (pc' := 35) (ls' := [some (qR 77), some (qI a), some (qI b), some (qI c), some (qI v), some (qI (w + 1)), none, none, none, none, none]) (st' := []) rfl ?_
              exact ih35  c (w + 1) (by omega) (by omega) (by omega) (by rcases v35_3 with z | z; (exfalso; omega); exact Or.inr z) (by omega) (by omega)
            · show qJ YX12_twins κ _ (qLy u, m, y) 0 0 51 [some (qR 77), some (qI a), some (qI b), some (qI c), some (qI v), some (qI w), none, none, none, none, none] []
              refine qJ.run hκ 2 (pc' := 54) (ls' := [some (qR 77), some (qI a), some (qI b), some (qI c), some (qI v), some (qI w), none, none, none, none, none]) (st' := [qI w, qR 77]) rfl ?_
              refine qJ.callV (As := [qI w]) (rest := []) hκ rfl kX12_221 (m_there u m y w hR (by omega)) rfl rfl (by decide) rfl rfl (Nat.le_of_ble_eq_true rfl) (Nat.le_of_ble_eq_true rfl) (Nat.le_of_ble_eq_true rfl) (Or.inl (fun r h' e => by obtain ⟨z54, rfl, hz54, rfl⟩ := e; rfl)) (fun r h' e => ?_)
              obtain ⟨z54, rfl, hz54, rfl⟩ := e
              show qJ YX12_twins κ _ (qLy u, m, y) 0 0 57 [some (qR 77), some (qI a), some (qI b), some (qI c), some (qI v), some (qI w), none, none, none, none, none] [qI z54]
              refine qJ.if_eq hκ (tgt := 232) rfl rfl (by omega) (fun c57 => ?_) (fun c57 => ?_)
              · show qJ YX12_twins κ _ (qLy u, m, y) 0 0 232 [some (qR 77), some (qI a), some (qI b), some (qI c), some (qI v), some (qI w), none, none, none, none, none] []
                refine qJ.run hκ 2 (pc' := 35) (ls' := [some (qR 77), some (qI a), some (qI b), some (qI c), some (qI v), some (qI (w + 1)), none, none, none, none, none]) (st' := []) rfl ?_
                exact ih35  c (w + 1) (by omega) (by omega) (by omega) (by rcases v35_3 with z | z; (exfalso; omega); exact Or.inr z) (by omega) (by omega)
              · show qJ YX12_twins κ _ (qLy u, m, y) 0 0 60 [some (qR 77), some (qI a), some (qI b), some (qI c), some (qI v), some (qI w), none, none, none, none, none] []
                have w5 := hW w (by omega) (by omega)
                have w6 := (hRW w (by omega) (by omega)).1.1
                refine qJ.run hκ 3 (pc' := 66) (ls' := [some (qR 77), some (qI a), some (qI b), some (qI c), some (qI v), some (qI w), none, none, none, none, none]) (st' := [qI v, qR 88]) rfl ?_
                refine qJ.ald hκ rfl rfl rfl (by decide) (by omega) ?_
                show qJ YX12_twins κ _ (qLy u, m, y) 0 0 67 [some (qR 77), some (qI a), some (qI b), some (qI c), some (qI v), some (qI w), none, none, none, none, none] [qI (m 88 v.toNat)]
                refine qJ.run hκ 3 (pc' := 73) (ls' := [some (qR 77), some (qI a), some (qI b), some (qI c), some (qI v), some (qI w), none, none, none, none, none]) (st' := [qI w, qR 88, qI (m 88 v.toNat)]) rfl ?_
                refine qJ.ald hκ rfl rfl rfl (by decide) (by omega) ?_
                show qJ YX12_twins κ _ (qLy u, m, y) 0 0 74 [some (qR 77), some (qI a), some (qI b), some (qI c), some (qI v), some (qI w), none, none, none, none, none] [qI (m 88 w.toNat), qI (m 88 v.toNat)]
                refine qJ.icmp_ne hκ (tgt := 232) rfl rfl (by omega) (by omega) (fun c74 => ?_) (fun c74 => ?_)
                · show qJ YX12_twins κ _ (qLy u, m, y) 0 0 232 [some (qR 77), some (qI a), some (qI b), some (qI c), some (qI v), some (qI w), none, none, none, none, none] []
                  refine qJ.run hκ 2 (pc' := 35) (ls' := [some (qR 77), some (qI a), some (qI b), some (qI c), some (qI v), some (qI (w + 1)), none, none, none, none, none]) (st' := []) rfl ?_
                  exact ih35  c (w + 1) (by omega) (by omega) (by omega) (by rcases v35_3 with z | z; (refine Or.inl ⟨z.1, ?_⟩; rw [q_cnt_s v35_0, if_neg (fun q => ((gTw_i v35_4 v35_0).mp q).1 (gPA_no (by omega)))]; omega); exact Or.inr z) (by omega) (by omega)
                · show qJ YX12_twins κ _ (qLy u, m, y) 0 0 77 [some (qR 77), some (qI a), some (qI b), some (qI c), some (qI v), some (qI w), none, none, none, none, none] []
                  refine qJ.run hκ 2 (pc' := 80) (ls' := [some (qR 77), some (qI a), some (qI b), some (qI c), some (qI v), some (qI w), none, none, none, none, none]) (st' := [qI v, qR 77]) rfl ?_
                  refine qJ.callV (As := [qI v]) (rest := []) hκ rfl kX12_196 (c_mGap u m y v hR (by omega)) rfl rfl (by decide) rfl rfl (Nat.le_of_ble_eq_true rfl) (Nat.le_of_ble_eq_true rfl) (Nat.le_of_ble_eq_true rfl) (Or.inl (fun r h' e => by obtain ⟨z80, rfl, hz80, rfl⟩ := e; rfl)) (fun r h' e => ?_)
                  obtain ⟨z80, rfl, hz80, rfl⟩ := e
                  show qJ YX12_twins κ _ (qLy u, m, y) 0 0 83 [some (qR 77), some (qI a), some (qI b), some (qI c), some (qI v), some (qI w), none, none, none, none, none] [qI z80]
                  refine qJ.if_ne hκ (tgt := 232) rfl rfl (by omega) (fun c83 => ?_) (fun c83 => ?_)
                  · show qJ YX12_twins κ _ (qLy u, m, y) 0 0 232 [some (qR 77), some (qI a), some (qI b), some (qI c), some (qI v), some (qI w), none, none, none, none, none] []
                    refine qJ.run hκ 2 (pc' := 35) (ls' := [some (qR 77), some (qI a), some (qI b), some (qI c), some (qI v), some (qI (w + 1)), none, none, none, none, none]) (st' := []) rfl ?_
                    exact ih35  c (w + 1) (by omega) (by omega) (by omega) (by rcases v35_3 with z | z; (refine Or.inl ⟨z.1, ?_⟩; rw [q_cnt_s v35_0, if_neg (fun q => ((gTw_i v35_4 v35_0).mp q).1 (gPA_no (by omega)))]; omega); exact Or.inr z) (by omega) (by omega)
                  · show qJ YX12_twins κ _ (qLy u, m, y) 0 0 86 [some (qR 77), some (qI a), some (qI b), some (qI c), some (qI v), some (qI w), none, none, none, none, none] []
                    refine qJ.run hκ 2 (pc' := 89) (ls' := [some (qR 77), some (qI a), some (qI b), some (qI c), some (qI v), some (qI w), none, none, none, none, none]) (st' := [qI w, qR 77]) rfl ?_
                    refine qJ.callV (As := [qI w]) (rest := []) hκ rfl kX12_196 (c_mGap u m y w hR (by omega)) rfl rfl (by decide) rfl rfl (Nat.le_of_ble_eq_true rfl) (Nat.le_of_ble_eq_true rfl) (Nat.le_of_ble_eq_true rfl) (Or.inl (fun r h' e => by obtain ⟨z89, rfl, hz89, rfl⟩ := e; rfl)) (fun r h' e => ?_)
                    obtain ⟨z89, rfl, hz89, rfl⟩ := e
                    show qJ YX12_twins κ _ (qLy u, m, y) 0 0 92 [some (qR 77), some (qI a), some (qI b), some (qI c), some (qI v), some (qI w), none, none, none, none, none] [qI z89]
                    refine qJ.if_eq hκ (tgt := 98) rfl rfl (by omega) (fun c92 => ?_) (fun c92 => ?_)
                    · show qJ YX12_twins κ _ (qLy u, m, y) 0 0 98 [some (qR 77), some (qI a), some (qI b), some (qI c), some (qI v), some (qI w), none, none, none, none, none] []
                      refine qJ.run hκ 6 (pc' := 107) (ls' := [some (qR 77), some (qI a), some (qI b), some (qI c), some (qI v), some (qI w), some (qI 0), some (qI 1), some (qI 0), none, none]) (st' := []) rfl ?_
                      exact L107 7 0 1 0 (by omega) (by omega) (by omega) (rfl) (Or.inl ⟨rfl, rfl⟩) (by omega) (by omega)
                    · show qJ YX12_twins κ _ (qLy u, m, y) 0 0 95 [some (qR 77), some (qI a), some (qI b), some (qI c), some (qI v), some (qI w), none, none, none, none, none] []
                      refine qJ.run hκ 3 (pc' := 35) (ls' := [some (qR 77), some (qI a), some (qI b), some (qI c), some (qI v), some (qI (w + 1)), none, none, none, none, none]) (st' := []) rfl ?_
                      exact ih35  c (w + 1) (by omega) (by omega) (by omega) (by rcases v35_3 with z | z; (refine Or.inl ⟨z.1, ?_⟩; rw [q_cnt_s v35_0, if_neg (fun q => ((gTw_i v35_4 v35_0).mp q).1 (gPA_no (by omega)))]; omega); exact Or.inr z) (by omega) (by omega)
      refine qJ.run hκ 4 (pc' := 28) (ls' := [some (qR 77), some (qI a), some (qI b), some (qI c), some (qI v), none, none, none, none, none, none]) (st' := [qI 0, qR 85, qI v]) rfl ?_
      refine qJ.ald hκ rfl rfl rfl (by decide) (by omega) ?_
      show qJ YX12_twins κ _ (qLy u, m, y) 0 0 29 [some (qR 77), some (qI a), some (qI b), some (qI c), some (qI v), none, none, none, none, none, none] [qI (m 85 0), qI v]
      refine qJ.icmp_ge hκ (tgt := 244) rfl rfl (by omega) (by omega) (fun c29 => ?_) (fun c29 => ?_)
      · show qJ YX12_twins κ _ (qLy u, m, y) 0 0 244 [some (qR 77), some (qI a), some (qI b), some (qI c), some (qI v), none, none, none, none, none, none] []
        refine qJ.run hκ 1 (pc' := 245) (ls' := [some (qR 77), some (qI a), some (qI b), some (qI c), some (qI v), none, none, none, none, none, none]) (st' := [qI c]) rfl ?_
        exact qJ.iret hκ rfl rfl (by decide) (by decide) (⟨m, by unfold ansTw; rw [if_pos v21_3]; congr 2; rcases v21_2 with z | z; (rw [z.2, show v.toNat = nW m by omega]); exact z.2, rfl, rfl⟩)
      · show qJ YX12_twins κ _ (qLy u, m, y) 0 0 32 [some (qR 77), some (qI a), some (qI b), some (qI c), some (qI v), none, none, none, none, none, none] []
        refine qJ.run hκ 2 (pc' := 35) (ls' := [some (qR 77), some (qI a), some (qI b), some (qI c), some (qI v), some (qI 0), none, none, none, none, none]) (st' := []) rfl ?_
        exact L35 62 c 0 (by omega) (by omega) (by omega) (by rcases v21_2 with z | z; (by_cases q : v < (nW m : Int); exact Or.inl ⟨q, by rw [z.2]; show _ = _ + ((0 : Nat) : Int); omega⟩; exact Or.inr ⟨by omega, by rw [z.2, show v.toNat = nW m by omega]⟩); exact Or.inr z) (by omega) (by omega)
  refine qJ.run hκ 3 (pc' := 8) (ls' := [some (qR 77), some (qI a), some (qI b), none, none, none, none, none, none, none, none]) (st' := [qI b, qI a, qR 77]) rfl ?_
  refine qJ.callV (As := [qI a, qI b]) (rest := []) hκ rfl kX12_230 (c_mAreTwo u m y a b (by omega) (by omega)) rfl rfl (by decide) rfl rfl (Nat.le_of_ble_eq_true rfl) (Nat.le_of_ble_eq_true rfl) (Nat.le_of_ble_eq_true rfl) (Or.inl (fun r h' e => by obtain ⟨z8, rfl, hz8, rfl⟩ := e; rfl)) (fun r h' e => ?_)
  obtain ⟨z8, rfl, hz8, rfl⟩ := e
  show qJ YX12_twins κ _ (qLy u, m, y) 0 0 11 [some (qR 77), some (qI a), some (qI b), none, none, none, none, none, none, none, none] [qI z8]
  refine qJ.if_ne hκ (tgt := 16) rfl rfl (by omega) (fun c11 => ?_) (fun c11 => ?_)
  · show qJ YX12_twins κ _ (qLy u, m, y) 0 0 16 [some (qR 77), some (qI a), some (qI b), none, none, none, none, none, none, none, none] []
    refine qJ.run hκ 4 (pc' := 21) (ls' := [some (qR 77), some (qI a), some (qI b), some (qI 0), some (qI 0), none, none, none, none, none, none]) (st' := []) rfl ?_
    exact L21 62 0 0 (by omega) (by omega) (Or.inl ⟨by omega, rfl⟩) (by omega) (by omega)
  · show qJ YX12_twins κ _ (qLy u, m, y) 0 0 14 [some (qR 77), some (qI a), some (qI b), none, none, none, none, none, none, none, none] []
    refine qJ.run hκ 1 (pc' := 15) (ls' := [some (qR 77), some (qI a), some (qI b), none, none, none, none, none, none, none, none]) (st' := [qI (-1)]) rfl ?_
    exact qJ.iret hκ rfl rfl (by decide) (by decide) (⟨m, by unfold ansTw; rw [if_neg (fun z => by omega)], rfl, rfl⟩)
set_option maxRecDepth 100000 in
theorem w_twins (u : qU) (m y : qM) (a b : Int) (hR : rC m) (h1 : qr a) (h2 : qr b) : qCt YX12_twins 4 0 0 [qR 77, qI a, qI b] (qLy u, m, y) (fun r h => ∃ m', r = some (qI (ansTw (q_up m 77 0 0) a b)) ∧ h = (qLy u, m', y) ∧ keep kObs m' = keep kObs (q_up m 77 0 0)) := by
  refine qCt.intro okX12_twins (Nat.le_of_ble_eq_true rfl) (fun κ hκ => ?_)
  show qJ YX12_twins κ _ (qLy u, m, y) 0 0 0 [some (qR 77), some (qI a), some (qI b), none, none, none, none, none, none, none, none] []
  refine qJ.run hκ 2 (pc' := 2) (ls' := [some (qR 77), some (qI a), some (qI b), none, none, none, none, none, none, none, none]) (st' := [qI 0, qR 77]) rfl ?_
  refine qJ.putI hκ rfl rfl rfl rfl (Or.inl rfl) ?_
  show qJ YX12_twins κ _ (qLy u, (q_up m 77 0 0), y) 0 0 5 [some (qR 77), some (qI a), some (qI b), none, none, none, none, none, none, none, none] []
  exact b_twins u (q_up m 77 0 0) y a b (show rC (q_up m 77 0 0) from hR) h1 h2 hκ
theorem m_twins (u : qU) (m y : qM) (a b : Int) (hR : rC m) (h1 : qr a) (h2 : qr b) : qCt YX12_twins 4 0 0 [qR 77, qI a, qI b] (qLy u, m, y) (fun r h => ∃ m', r = some (qI (ansTw m a b)) ∧ h = (qLy u, m', y) ∧ keep kObs m' = keep kObs m) := by
  refine (w_twins u m y a b hR h1 h2).weak ?_
  rintro r h ⟨m', e1, e2, e3⟩
  exact ⟨m', by rw [e1, ansTw_o (keep_up (by rfl))], e2, e3.trans (keep_up (by rfl))⟩

/-- a sign would fill a word's gap, by a word of the first n -/
abbrev fitV (m : qM) (w s : Int) (v : Nat) : Prop := fbQ m w v ∧ m 3 ((v : Int) * 5 + m 5 w.toNat).toNat = s
abbrev fitP (m : qM) (w : Int) (s : Nat) : Prop := ¬ q_cnt (fitV m w s) (nW m) = 0
theorem fitV_i {m : qM} {w s v : Int} (h : 0 ≤ v) : fitV m w s v.toNat ↔ fbQ m w v ∧ m 3 (v * 5 + m 5 w.toNat).toNat = s := by
  unfold fitV
  rw [q_tn h]
abbrev fitB (m : qM) (w s v : Int) (j : Nat) : Prop := ¬ (if m 3 (w * 5 + (j : Int)).toNat = 20 then s else m 3 (w * 5 + (j : Int)).toNat) = m 3 (v * 5 + (j : Int)).toNat
theorem fitB_i {m : qM} {w s v i : Int} (h : 0 ≤ i) : fitB m w s v i.toNat ↔ ¬ (if m 3 (w * 5 + i).toNat = 20 then s else m 3 (w * 5 + i).toNat) = m 3 (v * 5 + i).toNat := by
  unfold fitB
  rw [q_tn h]
theorem fit_iff {m : qM} {w s v : Int} (hW : gW m) (hw : 0 ≤ w ∧ w < m 2 0) (hg : ¬ m 5 w.toNat = -1) (hl : m 4 v.toNat = m 4 w.toNat) (hv : m 5 v.toNat = -1) :
    (q_cnt (fitB m w s v) (m 4 w.toNat - 1).toNat = 0 ∧ ((if m 3 (w * 5 + (m 4 w.toNat - 1)).toNat = 20 then s else m 3 (w * 5 + (m 4 w.toNat - 1)).toNat) = m 3 (v * 5 + (m 4 w.toNat - 1)).toNat ∨ (¬ m 3 (w * 5 + (m 4 w.toNat - 1)).toNat = 20 ∧ 2 < m 4 w.toNat))) ↔ (fbQ m w v ∧ m 3 (v * 5 + m 5 w.toNat).toNat = s) := by
  have w1 := hW w hw.1 hw.2
  have gl := (w1.2.2 (m 4 w.toNat - 1) (by omega) (by omega)).2
  rw [q_cnt_no]
  show _ ↔ ((_ ∧ q_cnt (fbB m w v) (m 4 w.toNat).toNat = 0) ∧ _)
  rw [q_cnt_no]
  constructor
  · rintro ⟨h1, h2⟩
    have key : ∀ i : Int, 0 ≤ i → i < m 4 w.toNat - 1 → (if m 3 (w * 5 + i).toNat = 20 then s else m 3 (w * 5 + i).toNat) = m 3 (v * 5 + i).toNat := fun i i0 i1 => by
      by_cases z : (if m 3 (w * 5 + i).toNat = 20 then s else m 3 (w * 5 + i).toNat) = m 3 (v * 5 + i).toNat
      · exact z
      · exact absurd ((fitB_i i0).mpr z) (h1 i.toNat (by omega))
    refine ⟨⟨⟨hl.symm, hv⟩, fun j hj hb => ?_⟩, ?_⟩
    · have hb2 := (fbB_i (i := (j : Int)) (by omega)).mp (by rw [show ((j : Int)).toNat = j by omega]; exact hb)
      have gj := (w1.2.2 (j : Int) (by omega) (by omega)).2
      by_cases z : (j : Int) = m 4 w.toNat - 1
      · rw [← z] at h2
        rw [if_neg (by omega)] at h2
        omega
      · have k2 := key (j : Int) (by omega) (by omega)
        rw [if_neg (by omega)] at k2
        omega
    · by_cases z : m 5 w.toNat = m 4 w.toNat - 1
      · have g2 := gl.mpr z.symm
        rw [if_pos g2] at h2
        rw [z]
        omega
      · have k2 := key (m 5 w.toNat) (by omega) (by omega)
        have g3 := (w1.2.2 (m 5 w.toNat) (by omega) (by omega)).2.mpr rfl
        rw [if_pos g3] at k2
        exact k2.symm
  · rintro ⟨⟨-, h1⟩, h2⟩
    have key : ∀ i : Int, 0 ≤ i → i < m 4 w.toNat → ¬ (i = m 5 w.toNat ∨ i = m 4 w.toNat - 1 ∧ (¬ m 5 w.toNat = m 4 w.toNat - 1 ∧ 3 ≤ m 4 w.toNat)) → m 3 (w * 5 + i).toNat = m 3 (v * 5 + i).toNat := fun i i0 i1 i2 => by
      by_cases z : m 3 (w * 5 + i).toNat = m 3 (v * 5 + i).toNat
      · exact z
      · exact absurd ((fbB_i i0).mpr ⟨i2, z⟩) (h1 i.toNat (by omega))
    refine ⟨fun j hj hb => ?_, ?_⟩
    · have hb2 := (fitB_i (i := (j : Int)) (by omega)).mp (by rw [show ((j : Int)).toNat = j by omega]; exact hb)
      have gj := (w1.2.2 (j : Int) (by omega) (by omega)).2
      by_cases z : (j : Int) = m 5 w.toNat
      · rw [if_pos (gj.mpr z)] at hb2
        rw [z] at hb2
        omega
      · rw [if_neg (by omega)] at hb2
        exact hb2 (key (j : Int) (by omega) (by omega) (by omega))
    · by_cases z : m 5 w.toNat = m 4 w.toNat - 1
      · have g2 := gl.mpr z.symm
        rw [if_pos g2]
        rw [z] at h2
        exact Or.inl h2.symm
      · have g2 : ¬ m 3 (w * 5 + (m 4 w.toNat - 1)).toNat = 20 := fun q => z (gl.mp q).symm
        rw [if_neg g2]
        by_cases q : 3 ≤ m 4 w.toNat
        · exact Or.inr ⟨g2, by omega⟩
        · exact Or.inl (key (m 4 w.toNat - 1) (by omega) (by omega) (by omega))
theorem rW_l {m : qM} (hR : rC m) {w : Int} (hw : 0 ≤ w ∧ w < m 2 0) : m 87 (5 * w + m 88 w.toNat - 1).toNat = m 3 (w * 5 + (m 4 w.toNat - 1)).toNat := by
  rw [(hR.2.2.1 w hw.1 hw.2).1.1]
  have w1 := hR.2.1 w hw.1 hw.2
  rw [← (hR.2.2.1 w hw.1 hw.2).2.2 (m 4 w.toNat - 1) (by omega) (by omega), show 5 * w + m 4 w.toNat - 1 = 5 * w + (m 4 w.toNat - 1) by omega]
theorem rW_l2 {m : qM} (hR : rC m) {w v : Int} (hw : 0 ≤ w ∧ w < m 2 0) (hv : 0 ≤ v ∧ v < m 2 0) (hl : m 4 v.toNat = m 4 w.toNat) : m 87 (5 * v + m 88 w.toNat - 1).toNat = m 3 (v * 5 + (m 4 w.toNat - 1)).toNat := by
  have h := rW_l hR hv
  rw [(hR.2.2.1 v hv.1 hv.2).1.1, hl] at h
  rw [(hR.2.2.1 w hw.1 hw.2).1.1]
  exact h

theorem fit_skip {m : qM} {w s v : Int} (h0 : 0 ≤ v) (h : q_cnt (fitV m w s) (min v.toNat (nW m)) = 0) (hn : v < (nW m : Int) → ¬ (fbQ m w v ∧ m 3 (v * 5 + m 5 w.toNat).toNat = s)) : q_cnt (fitV m w s) (min (v + 1).toNat (nW m)) = 0 := by
  by_cases z : v < (nW m : Int)
  · rw [show min (v + 1).toNat (nW m) = v.toNat + 1 by omega]
    rw [show min v.toNat (nW m) = v.toNat by omega] at h
    show q_cnt (fitV m w s) v.toNat + _ = 0
    rw [h, if_neg (fun q => hn z ((fitV_i h0).mp q))]
  · rw [show min (v + 1).toNat (nW m) = nW m by omega]
    rw [show min v.toNat (nW m) = nW m by omega] at h
    exact h
theorem fit_hit {m : qM} {w s v : Int} (h0 : 0 ≤ v) (hv : v < (nW m : Int)) (h : fbQ m w v ∧ m 3 (v * 5 + m 5 w.toNat).toNat = s) : ¬ q_cnt (fitV m w s) (nW m) = 0 := q_cnt_pos h0 (by omega) ((fitV_i h0).mpr h)
theorem fit_gap {m : qM} {w : Int} : ¬ m 5 w.toNat = -1 → ¬ fbQ m w w := fun h z => h z.1.2

set_option maxRecDepth 100000 in
theorem m_fits (u : qU) (m y : qM) (w s : Int) (hR : rC m) (hw : 0 ≤ w ∧ w < m 2 0) (hg : ¬ m 5 w.toNat = -1) (hs : 0 ≤ s ∧ s ≤ 19) : qCt YX12_fits 3 0 0 [qR 77, qI w, qI s] (qLy u, m, y) (fun r h => ∃ z : Int, r = some (qI z) ∧ (z = 1 ∧ (¬ q_cnt (fitV m w s) (nW m) = 0) ∨ z = 0 ∧ ¬ (¬ q_cnt (fitV m w s) (nW m) = 0)) ∧ h = (qLy u, m, y)) := by
  refine qCt.intro okX12_fits (Nat.le_of_ble_eq_true rfl) (fun κ hκ => ?_)
  have hR2 := hR
  obtain ⟨⟨⟨a0, a1, a2⟩, ⟨a3, a4, a5⟩, ⟨b0, b1, b2⟩, b3, b4, b5⟩, hW, hRW, hT, hRT, hS⟩ := hR2
  have hV : qr (m 83 0) := by omega
  have zr := gHz_r hR.1
  have ze := hz_eq hR.1
  have nWl := nW_le hR.1
  have nTl := nT_le hR.1
  have w1 := hW w hw.1 hw.2
  have w2 := (hRW w hw.1 hw.2).1.1
  have wl := rW_l hR hw
  have w9 := (w1.2.2 (m 4 w.toNat - 1) (by omega) (by omega)).1
  have L10 : ∀ (n : Nat) (v : Int), (0 ≤ v) → (v ≤ m 2 0) → (q_cnt (fitV m w s) (min v.toNat (nW m)) = 0) → ((m 2 0 - v).toNat) < n → qJ YX12_fits κ (qFin (fun r h => ∃ z : Int, r = some (qI z) ∧ (z = 1 ∧ (¬ q_cnt (fitV m w s) (nW m) = 0) ∨ z = 0 ∧ ¬ (¬ q_cnt (fitV m w s) (nW m) = 0)) ∧ h = (qLy u, m, y)) 0 0 κ) (qLy u, m, y) 0 0 10 [some (qR 77), some (qI w), some (qI s), some (qI (m 88 w.toNat)), some (qI v), none, none, none, none] [] := by
    intro n
    induction n with
    | zero => intro v _ _ _ hz0; omega
    | succ n ih10 =>
      intro v v10_0 v10_1 v10_2 v10_m
      have L89 : ∀ (n : Nat) (b5 : Int) (b6 : Int) (k : Int), (0 ≤ k) → (k ≤ m 4 w.toNat - 1) → ((b6 = 1 ∧ m 3 (w * 5 + (m 4 w.toNat - 1)).toNat = 20) ∨ (b6 = 0 ∧ ¬ m 3 (w * 5 + (m 4 w.toNat - 1)).toNat = 20)) → ((b5 = 1 ∧ q_cnt (fitB m w s v) k.toNat = 0) ∨ (b5 = 0 ∧ ¬ q_cnt (fitB m w s v) k.toNat = 0)) → (0 ≤ v ∧ v < (nW m : Int)) → (m 4 v.toNat = m 4 w.toNat ∧ m 5 v.toNat = -1) → ((m 4 w.toNat - k).toNat) < n → qJ YX12_fits κ (qFin (fun r h => ∃ z : Int, r = some (qI z) ∧ (z = 1 ∧ (¬ q_cnt (fitV m w s) (nW m) = 0) ∨ z = 0 ∧ ¬ (¬ q_cnt (fitV m w s) (nW m) = 0)) ∧ h = (qLy u, m, y)) 0 0 κ) (qLy u, m, y) 0 0 89 [some (qR 77), some (qI w), some (qI s), some (qI (m 88 w.toNat)), some (qI v), some (qI b5), some (qI b6), some (qI k), none] [] := by
        intro n
        induction n with
        | zero => intro b5 b6 k _ _ _ _ _ _ hz0; omega
        | succ n ih89 =>
          intro b5 b6 k v89_0 v89_1 v89_2 v89_3 v89_4 v89_5 v89_m
          have w5 := hW v (by omega) (by omega)
          have w6 := (hRW v (by omega) (by omega)).1.1
          have wl2 := rW_l2 (w := w) hR (v := v) hw (by omega) (by omega)
          have w8 := (w5.2.2 (m 4 w.toNat - 1) (by omega) (by omega)).1
          refine qJ.run hκ 4 (pc' := 94) (ls' := [some (qR 77), some (qI w), some (qI s), some (qI (m 88 w.toNat)), some (qI v), some (qI b5), some (qI b6), some (qI k), none]) (st' := [qI ((m 88 w.toNat) - 1), qI k]) rfl ?_
          refine qJ.icmp_ge hκ (tgt := 156) rfl rfl (by omega) (by omega) (fun c94 => ?_) (fun c94 => ?_)
          · show qJ YX12_fits κ _ (qLy u, m, y) 0 0 156 [some (qR 77), some (qI w), some (qI s), some (qI (m 88 w.toNat)), some (qI v), some (qI b5), some (qI b6), some (qI k), none] []
            have ke : k.toNat = (m 4 w.toNat - 1).toNat := by omega
            rw [ke] at v89_3
            refine qJ.run hκ 9 (pc' := 167) (ls' := [some (qR 77), some (qI w), some (qI s), some (qI (m 88 w.toNat)), some (qI v), some (qI b5), some (qI b6), some (qI k), none]) (st' := [qI (((5 * w) + (m 88 w.toNat)) - 1), qR 87]) rfl ?_
            refine qJ.ald hκ rfl rfl rfl (by decide) (by omega) ?_
            show qJ YX12_fits κ _ (qLy u, m, y) 0 0 168 [some (qR 77), some (qI w), some (qI s), some (qI (m 88 w.toNat)), some (qI v), some (qI b5), some (qI b6), some (qI k), none] [qI (m 87 ((((5 * w) + (m 88 w.toNat)) - 1).toNat))]
            refine qJ.run hκ 3 (pc' := 174) (ls' := [some (qR 77), some (qI w), some (qI s), some (qI (m 88 w.toNat)), some (qI v), some (qI b5), some (qI b6), some (qI (m 87 ((((5 * w) + (m 88 w.toNat)) - 1).toNat))), none]) (st' := [qI 20, qI (m 87 ((((5 * w) + (m 88 w.toNat)) - 1).toNat))]) rfl ?_
            refine qJ.icmp_ne hκ (tgt := 181) rfl rfl (by omega) (by omega) (fun c174 => ?_) (fun c174 => ?_)
            · show qJ YX12_fits κ _ (qLy u, m, y) 0 0 181 [some (qR 77), some (qI w), some (qI s), some (qI (m 88 w.toNat)), some (qI v), some (qI b5), some (qI b6), some (qI (m 87 ((((5 * w) + (m 88 w.toNat)) - 1).toNat))), none] []
              have lq : (if m 3 (w * 5 + (m 4 w.toNat - 1)).toNat = 20 then s else m 3 (w * 5 + (m 4 w.toNat - 1)).toNat) = m 3 (w * 5 + (m 4 w.toNat - 1)).toNat := if_neg (by omega)
              refine qJ.run hκ 10 (pc' := 195) (ls' := [some (qR 77), some (qI w), some (qI s), some (qI (m 88 w.toNat)), some (qI v), some (qI b5), some (qI b6), some (qI (m 87 ((((5 * w) + (m 88 w.toNat)) - 1).toNat))), none]) (st' := [qI (((5 * v) + (m 88 w.toNat)) - 1), qR 87, qI (m 87 ((((5 * w) + (m 88 w.toNat)) - 1).toNat))]) rfl ?_
              refine qJ.ald hκ rfl rfl rfl (by decide) (by omega) ?_
              show qJ YX12_fits κ _ (qLy u, m, y) 0 0 196 [some (qR 77), some (qI w), some (qI s), some (qI (m 88 w.toNat)), some (qI v), some (qI b5), some (qI b6), some (qI (m 87 ((((5 * w) + (m 88 w.toNat)) - 1).toNat))), none] [qI (m 87 ((((5 * v) + (m 88 w.toNat)) - 1).toNat)), qI (m 87 ((((5 * w) + (m 88 w.toNat)) - 1).toNat))]
              refine qJ.icmp_ne hκ (tgt := 203) rfl rfl (by omega) (by omega) (fun c196 => ?_) (fun c196 => ?_)
              · show qJ YX12_fits κ _ (qLy u, m, y) 0 0 203 [some (qR 77), some (qI w), some (qI s), some (qI (m 88 w.toNat)), some (qI v), some (qI b5), some (qI b6), some (qI (m 87 ((((5 * w) + (m 88 w.toNat)) - 1).toNat))), none] []
                refine qJ.run hκ 3 (pc' := 208) (ls' := [some (qR 77), some (qI w), some (qI s), some (qI (m 88 w.toNat)), some (qI v), some (qI b5), some (qI b6), some (qI (m 87 ((((5 * w) + (m 88 w.toNat)) - 1).toNat))), some (qI 0)]) (st' := [qI b5]) rfl ?_
                refine qJ.if_eq hκ (tgt := 228) rfl rfl (by omega) (fun c208 => ?_) (fun c208 => ?_)
                · show qJ YX12_fits κ _ (qLy u, m, y) 0 0 228 [some (qR 77), some (qI w), some (qI s), some (qI (m 88 w.toNat)), some (qI v), some (qI b5), some (qI b6), some (qI (m 87 ((((5 * w) + (m 88 w.toNat)) - 1).toNat))), some (qI 0)] []
                  refine qJ.run hκ 2 (pc' := 10) (ls' := [some (qR 77), some (qI w), some (qI s), some (qI (m 88 w.toNat)), some (qI (v + 1)), some (qI b5), some (qI b6), some (qI (m 87 ((((5 * w) + (m 88 w.toNat)) - 1).toNat))), some (qI 0)]) (st' := []) rfl ?_
                  refine qJ.dl [true, true, true, true, true, false, false, false, false] ?_
                  show qJ YX12_fits κ _ (qLy u, m, y) 0 0 10 [some (qR 77), some (qI w), some (qI s), some (qI (m 88 w.toNat)), some (qI (v + 1)), none, none, none, none] []
                  exact ih10  (v + 1) (by omega) (by omega) (fit_skip v10_0 v10_2 (fun hn z => by have z3 := (fit_iff hW hw hg v89_5.1 v89_5.2).mpr z; obtain ⟨z4, z5⟩ := z3; rw [lq] at z5; omega)) (by omega)
                · show qJ YX12_fits κ _ (qLy u, m, y) 0 0 211 [some (qR 77), some (qI w), some (qI s), some (qI (m 88 w.toNat)), some (qI v), some (qI b5), some (qI b6), some (qI (m 87 ((((5 * w) + (m 88 w.toNat)) - 1).toNat))), some (qI 0)] []
                  refine qJ.run hκ 1 (pc' := 213) (ls' := [some (qR 77), some (qI w), some (qI s), some (qI (m 88 w.toNat)), some (qI v), some (qI b5), some (qI b6), some (qI (m 87 ((((5 * w) + (m 88 w.toNat)) - 1).toNat))), some (qI 0)]) (st' := [qI 0]) rfl ?_
                  refine qJ.if_ne hκ (tgt := 226) rfl rfl (by omega) (fun c213 => ?_) (fun c213 => ?_)
                  · exact absurd c213 (by decide)
                  · show qJ YX12_fits κ _ (qLy u, m, y) 0 0 216 [some (qR 77), some (qI w), some (qI s), some (qI (m 88 w.toNat)), some (qI v), some (qI b5), some (qI b6), some (qI (m 87 ((((5 * w) + (m 88 w.toNat)) - 1).toNat))), some (qI 0)] []
                    refine qJ.run hκ 1 (pc' := 218) (ls' := [some (qR 77), some (qI w), some (qI s), some (qI (m 88 w.toNat)), some (qI v), some (qI b5), some (qI b6), some (qI (m 87 ((((5 * w) + (m 88 w.toNat)) - 1).toNat))), some (qI 0)]) (st' := [qI b6]) rfl ?_
                    refine qJ.if_ne hκ (tgt := 228) rfl rfl (by omega) (fun c218 => ?_) (fun c218 => ?_)
                    · show qJ YX12_fits κ _ (qLy u, m, y) 0 0 228 [some (qR 77), some (qI w), some (qI s), some (qI (m 88 w.toNat)), some (qI v), some (qI b5), some (qI b6), some (qI (m 87 ((((5 * w) + (m 88 w.toNat)) - 1).toNat))), some (qI 0)] []
                      refine qJ.run hκ 2 (pc' := 10) (ls' := [some (qR 77), some (qI w), some (qI s), some (qI (m 88 w.toNat)), some (qI (v + 1)), some (qI b5), some (qI b6), some (qI (m 87 ((((5 * w) + (m 88 w.toNat)) - 1).toNat))), some (qI 0)]) (st' := []) rfl ?_
                      refine qJ.dl [true, true, true, true, true, false, false, false, false] ?_
                      show qJ YX12_fits κ _ (qLy u, m, y) 0 0 10 [some (qR 77), some (qI w), some (qI s), some (qI (m 88 w.toNat)), some (qI (v + 1)), none, none, none, none] []
                      exact ih10  (v + 1) (by omega) (by omega) (fit_skip v10_0 v10_2 (fun hn z => by have z3 := (fit_iff hW hw hg v89_5.1 v89_5.2).mpr z; obtain ⟨z4, z5⟩ := z3; rw [lq] at z5; omega)) (by omega)
                    · show qJ YX12_fits κ _ (qLy u, m, y) 0 0 221 [some (qR 77), some (qI w), some (qI s), some (qI (m 88 w.toNat)), some (qI v), some (qI b5), some (qI b6), some (qI (m 87 ((((5 * w) + (m 88 w.toNat)) - 1).toNat))), some (qI 0)] []
                      refine qJ.run hκ 2 (pc' := 223) (ls' := [some (qR 77), some (qI w), some (qI s), some (qI (m 88 w.toNat)), some (qI v), some (qI b5), some (qI b6), some (qI (m 87 ((((5 * w) + (m 88 w.toNat)) - 1).toNat))), some (qI 0)]) (st' := [qI 2, qI (m 88 w.toNat)]) rfl ?_
                      refine qJ.icmp_le hκ (tgt := 228) rfl rfl (by omega) (by omega) (fun c223 => ?_) (fun c223 => ?_)
                      · show qJ YX12_fits κ _ (qLy u, m, y) 0 0 228 [some (qR 77), some (qI w), some (qI s), some (qI (m 88 w.toNat)), some (qI v), some (qI b5), some (qI b6), some (qI (m 87 ((((5 * w) + (m 88 w.toNat)) - 1).toNat))), some (qI 0)] []
                        refine qJ.run hκ 2 (pc' := 10) (ls' := [some (qR 77), some (qI w), some (qI s), some (qI (m 88 w.toNat)), some (qI (v + 1)), some (qI b5), some (qI b6), some (qI (m 87 ((((5 * w) + (m 88 w.toNat)) - 1).toNat))), some (qI 0)]) (st' := []) rfl ?_
                        refine qJ.dl [true, true, true, true, true, false, false, false, false] ?_
                        show qJ YX12_fits κ _ (qLy u, m, y) 0 0 10 [some (qR 77), some (qI w), some (qI s), some (qI (m 88 w.toNat)), some (qI (v + 1)), none, none, none, none] []
                        exact ih10  (v + 1) (by omega) (by omega) (fit_skip v10_0 v10_2 (fun hn z => by have z3 := (fit_iff hW hw hg v89_5.1 v89_5.2).mpr z; obtain ⟨z4, z5⟩ := z3; rw [lq] at z5; omega)) (by omega)
                      · show qJ YX12_fits κ _ (qLy u, m, y) 0 0 226 [some (qR 77), some (qI w), some (qI s), some (qI (m 88 w.toNat)), some (qI v), some (qI b5), some (qI b6), some (qI (m 87 ((((5 * w) + (m 88 w.toNat)) - 1).toNat))), some (qI 0)] []
                        refine qJ.run hκ 1 (pc' := 227) (ls' := [some (qR 77), some (qI w), some (qI s), some (qI (m 88 w.toNat)), some (qI v), some (qI b5), some (qI b6), some (qI (m 87 ((((5 * w) + (m 88 w.toNat)) - 1).toNat))), some (qI 0)]) (st' := [qI 1]) rfl ?_
                        exact qJ.bret hκ rfl rfl (by omega) (by decide) (by decide) (⟨1, rfl, Or.inl ⟨rfl, fit_hit v89_4.1 v89_4.2 ((fit_iff hW hw hg v89_5.1 v89_5.2).mp ⟨by omega, by rw [lq]; omega⟩)⟩, rfl⟩)
              · show qJ YX12_fits κ _ (qLy u, m, y) 0 0 199 [some (qR 77), some (qI w), some (qI s), some (qI (m 88 w.toNat)), some (qI v), some (qI b5), some (qI b6), some (qI (m 87 ((((5 * w) + (m 88 w.toNat)) - 1).toNat))), none] []
                refine qJ.run hκ 4 (pc' := 208) (ls' := [some (qR 77), some (qI w), some (qI s), some (qI (m 88 w.toNat)), some (qI v), some (qI b5), some (qI b6), some (qI (m 87 ((((5 * w) + (m 88 w.toNat)) - 1).toNat))), some (qI 1)]) (st' := [qI b5]) rfl ?_
                refine qJ.if_eq hκ (tgt := 228) rfl rfl (by omega) (fun c208 => ?_) (fun c208 => ?_)
                · show qJ YX12_fits κ _ (qLy u, m, y) 0 0 228 [some (qR 77), some (qI w), some (qI s), some (qI (m 88 w.toNat)), some (qI v), some (qI b5), some (qI b6), some (qI (m 87 ((((5 * w) + (m 88 w.toNat)) - 1).toNat))), some (qI 1)] []
                  refine qJ.run hκ 2 (pc' := 10) (ls' := [some (qR 77), some (qI w), some (qI s), some (qI (m 88 w.toNat)), some (qI (v + 1)), some (qI b5), some (qI b6), some (qI (m 87 ((((5 * w) + (m 88 w.toNat)) - 1).toNat))), some (qI 1)]) (st' := []) rfl ?_
                  refine qJ.dl [true, true, true, true, true, false, false, false, false] ?_
                  show qJ YX12_fits κ _ (qLy u, m, y) 0 0 10 [some (qR 77), some (qI w), some (qI s), some (qI (m 88 w.toNat)), some (qI (v + 1)), none, none, none, none] []
                  exact ih10  (v + 1) (by omega) (by omega) (fit_skip v10_0 v10_2 (fun hn z => by have z3 := (fit_iff hW hw hg v89_5.1 v89_5.2).mpr z; obtain ⟨z4, z5⟩ := z3; rw [lq] at z5; omega)) (by omega)
                · show qJ YX12_fits κ _ (qLy u, m, y) 0 0 211 [some (qR 77), some (qI w), some (qI s), some (qI (m 88 w.toNat)), some (qI v), some (qI b5), some (qI b6), some (qI (m 87 ((((5 * w) + (m 88 w.toNat)) - 1).toNat))), some (qI 1)] []
                  refine qJ.run hκ 1 (pc' := 213) (ls' := [some (qR 77), some (qI w), some (qI s), some (qI (m 88 w.toNat)), some (qI v), some (qI b5), some (qI b6), some (qI (m 87 ((((5 * w) + (m 88 w.toNat)) - 1).toNat))), some (qI 1)]) (st' := [qI 1]) rfl ?_
                  refine qJ.if_ne hκ (tgt := 226) rfl rfl (by omega) (fun c213 => ?_) (fun c213 => ?_)
                  · show qJ YX12_fits κ _ (qLy u, m, y) 0 0 226 [some (qR 77), some (qI w), some (qI s), some (qI (m 88 w.toNat)), some (qI v), some (qI b5), some (qI b6), some (qI (m 87 ((((5 * w) + (m 88 w.toNat)) - 1).toNat))), some (qI 1)] []
                    refine qJ.run hκ 1 (pc' := 227) (ls' := [some (qR 77), some (qI w), some (qI s), some (qI (m 88 w.toNat)), some (qI v), some (qI b5), some (qI b6), some (qI (m 87 ((((5 * w) + (m 88 w.toNat)) - 1).toNat))), some (qI 1)]) (st' := [qI 1]) rfl ?_
                    exact qJ.bret hκ rfl rfl (by omega) (by decide) (by decide) (⟨1, rfl, Or.inl ⟨rfl, fit_hit v89_4.1 v89_4.2 ((fit_iff hW hw hg v89_5.1 v89_5.2).mp ⟨by omega, by rw [lq]; omega⟩)⟩, rfl⟩)
                  · exact absurd c213 (by decide)
            · show qJ YX12_fits κ _ (qLy u, m, y) 0 0 177 [some (qR 77), some (qI w), some (qI s), some (qI (m 88 w.toNat)), some (qI v), some (qI b5), some (qI b6), some (qI (m 87 ((((5 * w) + (m 88 w.toNat)) - 1).toNat))), none] []
              have lq : (if m 3 (w * 5 + (m 4 w.toNat - 1)).toNat = 20 then s else m 3 (w * 5 + (m 4 w.toNat - 1)).toNat) = s := if_pos (by omega)
              refine qJ.run hκ 11 (pc' := 195) (ls' := [some (qR 77), some (qI w), some (qI s), some (qI (m 88 w.toNat)), some (qI v), some (qI b5), some (qI b6), some (qI (m 87 ((((5 * w) + (m 88 w.toNat)) - 1).toNat))), none]) (st' := [qI (((5 * v) + (m 88 w.toNat)) - 1), qR 87, qI s]) rfl ?_
              refine qJ.ald hκ rfl rfl rfl (by decide) (by omega) ?_
              show qJ YX12_fits κ _ (qLy u, m, y) 0 0 196 [some (qR 77), some (qI w), some (qI s), some (qI (m 88 w.toNat)), some (qI v), some (qI b5), some (qI b6), some (qI (m 87 ((((5 * w) + (m 88 w.toNat)) - 1).toNat))), none] [qI (m 87 ((((5 * v) + (m 88 w.toNat)) - 1).toNat)), qI s]
              refine qJ.icmp_ne hκ (tgt := 203) rfl rfl (by omega) (by omega) (fun c196 => ?_) (fun c196 => ?_)
              · show qJ YX12_fits κ _ (qLy u, m, y) 0 0 203 [some (qR 77), some (qI w), some (qI s), some (qI (m 88 w.toNat)), some (qI v), some (qI b5), some (qI b6), some (qI (m 87 ((((5 * w) + (m 88 w.toNat)) - 1).toNat))), none] []
                refine qJ.run hκ 3 (pc' := 208) (ls' := [some (qR 77), some (qI w), some (qI s), some (qI (m 88 w.toNat)), some (qI v), some (qI b5), some (qI b6), some (qI (m 87 ((((5 * w) + (m 88 w.toNat)) - 1).toNat))), some (qI 0)]) (st' := [qI b5]) rfl ?_
                refine qJ.if_eq hκ (tgt := 228) rfl rfl (by omega) (fun c208 => ?_) (fun c208 => ?_)
                · show qJ YX12_fits κ _ (qLy u, m, y) 0 0 228 [some (qR 77), some (qI w), some (qI s), some (qI (m 88 w.toNat)), some (qI v), some (qI b5), some (qI b6), some (qI (m 87 ((((5 * w) + (m 88 w.toNat)) - 1).toNat))), some (qI 0)] []
                  refine qJ.run hκ 2 (pc' := 10) (ls' := [some (qR 77), some (qI w), some (qI s), some (qI (m 88 w.toNat)), some (qI (v + 1)), some (qI b5), some (qI b6), some (qI (m 87 ((((5 * w) + (m 88 w.toNat)) - 1).toNat))), some (qI 0)]) (st' := []) rfl ?_
                  refine qJ.dl [true, true, true, true, true, false, false, false, false] ?_
                  show qJ YX12_fits κ _ (qLy u, m, y) 0 0 10 [some (qR 77), some (qI w), some (qI s), some (qI (m 88 w.toNat)), some (qI (v + 1)), none, none, none, none] []
                  exact ih10  (v + 1) (by omega) (by omega) (fit_skip v10_0 v10_2 (fun hn z => by have z3 := (fit_iff hW hw hg v89_5.1 v89_5.2).mpr z; obtain ⟨z4, z5⟩ := z3; rw [lq] at z5; omega)) (by omega)
                · show qJ YX12_fits κ _ (qLy u, m, y) 0 0 211 [some (qR 77), some (qI w), some (qI s), some (qI (m 88 w.toNat)), some (qI v), some (qI b5), some (qI b6), some (qI (m 87 ((((5 * w) + (m 88 w.toNat)) - 1).toNat))), some (qI 0)] []
                  refine qJ.run hκ 1 (pc' := 213) (ls' := [some (qR 77), some (qI w), some (qI s), some (qI (m 88 w.toNat)), some (qI v), some (qI b5), some (qI b6), some (qI (m 87 ((((5 * w) + (m 88 w.toNat)) - 1).toNat))), some (qI 0)]) (st' := [qI 0]) rfl ?_
                  refine qJ.if_ne hκ (tgt := 226) rfl rfl (by omega) (fun c213 => ?_) (fun c213 => ?_)
                  · exact absurd c213 (by decide)
                  · show qJ YX12_fits κ _ (qLy u, m, y) 0 0 216 [some (qR 77), some (qI w), some (qI s), some (qI (m 88 w.toNat)), some (qI v), some (qI b5), some (qI b6), some (qI (m 87 ((((5 * w) + (m 88 w.toNat)) - 1).toNat))), some (qI 0)] []
                    refine qJ.run hκ 1 (pc' := 218) (ls' := [some (qR 77), some (qI w), some (qI s), some (qI (m 88 w.toNat)), some (qI v), some (qI b5), some (qI b6), some (qI (m 87 ((((5 * w) + (m 88 w.toNat)) - 1).toNat))), some (qI 0)]) (st' := [qI b6]) rfl ?_
                    refine qJ.if_ne hκ (tgt := 228) rfl rfl (by omega) (fun c218 => ?_) (fun c218 => ?_)
                    · show qJ YX12_fits κ _ (qLy u, m, y) 0 0 228 [some (qR 77), some (qI w), some (qI s), some (qI (m 88 w.toNat)), some (qI v), some (qI b5), some (qI b6), some (qI (m 87 ((((5 * w) + (m 88 w.toNat)) - 1).toNat))), some (qI 0)] []
                      refine qJ.run hκ 2 (pc' := 10) (ls' := [some (qR 77), some (qI w), some (qI s), some (qI (m 88 w.toNat)), some (qI (v + 1)), some (qI b5), some (qI b6), some (qI (m 87 ((((5 * w) + (m 88 w.toNat)) - 1).toNat))), some (qI 0)]) (st' := []) rfl ?_
                      refine qJ.dl [true, true, true, true, true, false, false, false, false] ?_
                      show qJ YX12_fits κ _ (qLy u, m, y) 0 0 10 [some (qR 77), some (qI w), some (qI s), some (qI (m 88 w.toNat)), some (qI (v + 1)), none, none, none, none] []
                      exact ih10  (v + 1) (by omega) (by omega) (fit_skip v10_0 v10_2 (fun hn z => by have z3 := (fit_iff hW hw hg v89_5.1 v89_5.2).mpr z; obtain ⟨z4, z5⟩ := z3; rw [lq] at z5; omega)) (by omega)
                    · show qJ YX12_fits κ _ (qLy u, m, y) 0 0 221 [some (qR 77), some (qI w), some (qI s), some (qI (m 88 w.toNat)), some (qI v), some (qI b5), some (qI b6), some (qI (m 87 ((((5 * w) + (m 88 w.toNat)) - 1).toNat))), some (qI 0)] []
                      refine qJ.run hκ 2 (pc' := 223) (ls' := [some (qR 77), some (qI w), some (qI s), some (qI (m 88 w.toNat)), some (qI v), some (qI b5), some (qI b6), some (qI (m 87 ((((5 * w) + (m 88 w.toNat)) - 1).toNat))), some (qI 0)]) (st' := [qI 2, qI (m 88 w.toNat)]) rfl ?_
                      refine qJ.icmp_le hκ (tgt := 228) rfl rfl (by omega) (by omega) (fun c223 => ?_) (fun c223 => ?_)
                      · show qJ YX12_fits κ _ (qLy u, m, y) 0 0 228 [some (qR 77), some (qI w), some (qI s), some (qI (m 88 w.toNat)), some (qI v), some (qI b5), some (qI b6), some (qI (m 87 ((((5 * w) + (m 88 w.toNat)) - 1).toNat))), some (qI 0)] []
                        refine qJ.run hκ 2 (pc' := 10) (ls' := [some (qR 77), some (qI w), some (qI s), some (qI (m 88 w.toNat)), some (qI (v + 1)), some (qI b5), some (qI b6), some (qI (m 87 ((((5 * w) + (m 88 w.toNat)) - 1).toNat))), some (qI 0)]) (st' := []) rfl ?_
                        refine qJ.dl [true, true, true, true, true, false, false, false, false] ?_
                        show qJ YX12_fits κ _ (qLy u, m, y) 0 0 10 [some (qR 77), some (qI w), some (qI s), some (qI (m 88 w.toNat)), some (qI (v + 1)), none, none, none, none] []
                        exact ih10  (v + 1) (by omega) (by omega) (fit_skip v10_0 v10_2 (fun hn z => by have z3 := (fit_iff hW hw hg v89_5.1 v89_5.2).mpr z; obtain ⟨z4, z5⟩ := z3; rw [lq] at z5; omega)) (by omega)
                      · show qJ YX12_fits κ _ (qLy u, m, y) 0 0 226 [some (qR 77), some (qI w), some (qI s), some (qI (m 88 w.toNat)), some (qI v), some (qI b5), some (qI b6), some (qI (m 87 ((((5 * w) + (m 88 w.toNat)) - 1).toNat))), some (qI 0)] []
                        refine qJ.run hκ 1 (pc' := 227) (ls' := [some (qR 77), some (qI w), some (qI s), some (qI (m 88 w.toNat)), some (qI v), some (qI b5), some (qI b6), some (qI (m 87 ((((5 * w) + (m 88 w.toNat)) - 1).toNat))), some (qI 0)]) (st' := [qI 1]) rfl ?_
                        exact qJ.bret hκ rfl rfl (by omega) (by decide) (by decide) (⟨1, rfl, Or.inl ⟨rfl, fit_hit v89_4.1 v89_4.2 ((fit_iff hW hw hg v89_5.1 v89_5.2).mp ⟨by omega, by rw [lq]; omega⟩)⟩, rfl⟩)
              · show qJ YX12_fits κ _ (qLy u, m, y) 0 0 199 [some (qR 77), some (qI w), some (qI s), some (qI (m 88 w.toNat)), some (qI v), some (qI b5), some (qI b6), some (qI (m 87 ((((5 * w) + (m 88 w.toNat)) - 1).toNat))), none] []
                refine qJ.run hκ 4 (pc' := 208) (ls' := [some (qR 77), some (qI w), some (qI s), some (qI (m 88 w.toNat)), some (qI v), some (qI b5), some (qI b6), some (qI (m 87 ((((5 * w) + (m 88 w.toNat)) - 1).toNat))), some (qI 1)]) (st' := [qI b5]) rfl ?_
                refine qJ.if_eq hκ (tgt := 228) rfl rfl (by omega) (fun c208 => ?_) (fun c208 => ?_)
                · show qJ YX12_fits κ _ (qLy u, m, y) 0 0 228 [some (qR 77), some (qI w), some (qI s), some (qI (m 88 w.toNat)), some (qI v), some (qI b5), some (qI b6), some (qI (m 87 ((((5 * w) + (m 88 w.toNat)) - 1).toNat))), some (qI 1)] []
                  refine qJ.run hκ 2 (pc' := 10) (ls' := [some (qR 77), some (qI w), some (qI s), some (qI (m 88 w.toNat)), some (qI (v + 1)), some (qI b5), some (qI b6), some (qI (m 87 ((((5 * w) + (m 88 w.toNat)) - 1).toNat))), some (qI 1)]) (st' := []) rfl ?_
                  refine qJ.dl [true, true, true, true, true, false, false, false, false] ?_
                  show qJ YX12_fits κ _ (qLy u, m, y) 0 0 10 [some (qR 77), some (qI w), some (qI s), some (qI (m 88 w.toNat)), some (qI (v + 1)), none, none, none, none] []
                  exact ih10  (v + 1) (by omega) (by omega) (fit_skip v10_0 v10_2 (fun hn z => by have z3 := (fit_iff hW hw hg v89_5.1 v89_5.2).mpr z; obtain ⟨z4, z5⟩ := z3; rw [lq] at z5; omega)) (by omega)
                · show qJ YX12_fits κ _ (qLy u, m, y) 0 0 211 [some (qR 77), some (qI w), some (qI s), some (qI (m 88 w.toNat)), some (qI v), some (qI b5), some (qI b6), some (qI (m 87 ((((5 * w) + (m 88 w.toNat)) - 1).toNat))), some (qI 1)] []
                  refine qJ.run hκ 1 (pc' := 213) (ls' := [some (qR 77), some (qI w), some (qI s), some (qI (m 88 w.toNat)), some (qI v), some (qI b5), some (qI b6), some (qI (m 87 ((((5 * w) + (m 88 w.toNat)) - 1).toNat))), some (qI 1)]) (st' := [qI 1]) rfl ?_
                  refine qJ.if_ne hκ (tgt := 226) rfl rfl (by omega) (fun c213 => ?_) (fun c213 => ?_)
                  · show qJ YX12_fits κ _ (qLy u, m, y) 0 0 226 [some (qR 77), some (qI w), some (qI s), some (qI (m 88 w.toNat)), some (qI v), some (qI b5), some (qI b6), some (qI (m 87 ((((5 * w) + (m 88 w.toNat)) - 1).toNat))), some (qI 1)] []
                    refine qJ.run hκ 1 (pc' := 227) (ls' := [some (qR 77), some (qI w), some (qI s), some (qI (m 88 w.toNat)), some (qI v), some (qI b5), some (qI b6), some (qI (m 87 ((((5 * w) + (m 88 w.toNat)) - 1).toNat))), some (qI 1)]) (st' := [qI 1]) rfl ?_
                    exact qJ.bret hκ rfl rfl (by omega) (by decide) (by decide) (⟨1, rfl, Or.inl ⟨rfl, fit_hit v89_4.1 v89_4.2 ((fit_iff hW hw hg v89_5.1 v89_5.2).mp ⟨by omega, by rw [lq]; omega⟩)⟩, rfl⟩)
                  · exact absurd c213 (by decide)
          · show qJ YX12_fits κ _ (qLy u, m, y) 0 0 97 [some (qR 77), some (qI w), some (qI s), some (qI (m 88 w.toNat)), some (qI v), some (qI b5), some (qI b6), some (qI k), none] []
            have x1 := (hRW w (by omega) (by omega)).2.2 k (by omega) (by omega)
            have x2 := (hRW v (by omega) (by omega)).2.2 k (by omega) (by omega)
            have x3 := (w1.2.2 k (by omega) (by omega)).1
            have x4 := (w5.2.2 k (by omega) (by omega)).1
            refine qJ.run hκ 7 (pc' := 107) (ls' := [some (qR 77), some (qI w), some (qI s), some (qI (m 88 w.toNat)), some (qI v), some (qI b5), some (qI b6), some (qI k), none]) (st' := [qI ((5 * w) + k), qR 87]) rfl ?_
            refine qJ.ald hκ rfl rfl rfl (by decide) (by omega) ?_
            show qJ YX12_fits κ _ (qLy u, m, y) 0 0 108 [some (qR 77), some (qI w), some (qI s), some (qI (m 88 w.toNat)), some (qI v), some (qI b5), some (qI b6), some (qI k), none] [qI (m 87 (((5 * w) + k).toNat))]
            refine qJ.run hκ 2 (pc' := 112) (ls' := [some (qR 77), some (qI w), some (qI s), some (qI (m 88 w.toNat)), some (qI v), some (qI b5), some (qI b6), some (qI k), some (qI (m 87 (((5 * w) + k).toNat)))]) (st' := [qI b5]) rfl ?_
            refine qJ.if_eq hκ (tgt := 147) rfl rfl (by omega) (fun c112 => ?_) (fun c112 => ?_)
            · show qJ YX12_fits κ _ (qLy u, m, y) 0 0 147 [some (qR 77), some (qI w), some (qI s), some (qI (m 88 w.toNat)), some (qI v), some (qI b5), some (qI b6), some (qI k), some (qI (m 87 (((5 * w) + k).toNat)))] []
              refine qJ.run hκ 4 (pc' := 89) (ls' := [some (qR 77), some (qI w), some (qI s), some (qI (m 88 w.toNat)), some (qI v), some (qI 0), some (qI b6), some (qI (k + 1)), some (qI (m 87 (((5 * w) + k).toNat)))]) (st' := []) rfl ?_
              refine qJ.dl [true, true, true, true, true, true, true, true, false] ?_
              show qJ YX12_fits κ _ (qLy u, m, y) 0 0 89 [some (qR 77), some (qI w), some (qI s), some (qI (m 88 w.toNat)), some (qI v), some (qI 0), some (qI b6), some (qI (k + 1)), none] []
              exact ih89  0 b6 (k + 1) (by omega) (by omega) (v89_2) (Or.inr ⟨rfl, by rw [q_cnt_s v89_0]; omega⟩) (by omega) (by omega) (by omega)
            · show qJ YX12_fits κ _ (qLy u, m, y) 0 0 115 [some (qR 77), some (qI w), some (qI s), some (qI (m 88 w.toNat)), some (qI v), some (qI b5), some (qI b6), some (qI k), some (qI (m 87 (((5 * w) + k).toNat)))] []
              refine qJ.run hκ 2 (pc' := 119) (ls' := [some (qR 77), some (qI w), some (qI s), some (qI (m 88 w.toNat)), some (qI v), some (qI b5), some (qI b6), some (qI k), some (qI (m 87 (((5 * w) + k).toNat)))]) (st' := [qI 20, qI (m 87 (((5 * w) + k).toNat))]) rfl ?_
              refine qJ.icmp_ne hκ (tgt := 126) rfl rfl (by omega) (by omega) (fun c119 => ?_) (fun c119 => ?_)
              · show qJ YX12_fits κ _ (qLy u, m, y) 0 0 126 [some (qR 77), some (qI w), some (qI s), some (qI (m 88 w.toNat)), some (qI v), some (qI b5), some (qI b6), some (qI k), some (qI (m 87 (((5 * w) + k).toNat)))] []
                refine qJ.run hκ 8 (pc' := 139) (ls' := [some (qR 77), some (qI w), some (qI s), some (qI (m 88 w.toNat)), some (qI v), some (qI b5), some (qI b6), some (qI k), some (qI (m 87 (((5 * w) + k).toNat)))]) (st' := [qI ((5 * v) + k), qR 87, qI (m 87 (((5 * w) + k).toNat))]) rfl ?_
                refine qJ.ald hκ rfl rfl rfl (by decide) (by omega) ?_
                show qJ YX12_fits κ _ (qLy u, m, y) 0 0 140 [some (qR 77), some (qI w), some (qI s), some (qI (m 88 w.toNat)), some (qI v), some (qI b5), some (qI b6), some (qI k), some (qI (m 87 (((5 * w) + k).toNat)))] [qI (m 87 (((5 * v) + k).toNat)), qI (m 87 (((5 * w) + k).toNat))]
                refine qJ.icmp_ne hκ (tgt := 147) rfl rfl (by omega) (by omega) (fun c140 => ?_) (fun c140 => ?_)
                · show qJ YX12_fits κ _ (qLy u, m, y) 0 0 147 [some (qR 77), some (qI w), some (qI s), some (qI (m 88 w.toNat)), some (qI v), some (qI b5), some (qI b6), some (qI k), some (qI (m 87 (((5 * w) + k).toNat)))] []
                  refine qJ.run hκ 4 (pc' := 89) (ls' := [some (qR 77), some (qI w), some (qI s), some (qI (m 88 w.toNat)), some (qI v), some (qI 0), some (qI b6), some (qI (k + 1)), some (qI (m 87 (((5 * w) + k).toNat)))]) (st' := []) rfl ?_
                  refine qJ.dl [true, true, true, true, true, true, true, true, false] ?_
                  show qJ YX12_fits κ _ (qLy u, m, y) 0 0 89 [some (qR 77), some (qI w), some (qI s), some (qI (m 88 w.toNat)), some (qI v), some (qI 0), some (qI b6), some (qI (k + 1)), none] []
                  exact ih89  0 b6 (k + 1) (by omega) (by omega) (v89_2) (Or.inr ⟨rfl, by rw [q_cnt_s v89_0, if_pos ((fitB_i v89_0).mpr (by first | (rw [if_pos (by omega)]; omega) | (rw [if_neg (by omega)]; omega)))]; omega⟩) (by omega) (by omega) (by omega)
                · show qJ YX12_fits κ _ (qLy u, m, y) 0 0 143 [some (qR 77), some (qI w), some (qI s), some (qI (m 88 w.toNat)), some (qI v), some (qI b5), some (qI b6), some (qI k), some (qI (m 87 (((5 * w) + k).toNat)))] []
                  refine qJ.run hκ 5 (pc' := 89) (ls' := [some (qR 77), some (qI w), some (qI s), some (qI (m 88 w.toNat)), some (qI v), some (qI 1), some (qI b6), some (qI (k + 1)), some (qI (m 87 (((5 * w) + k).toNat)))]) (st' := []) rfl ?_
                  refine qJ.dl [true, true, true, true, true, true, true, true, false] ?_
                  show qJ YX12_fits κ _ (qLy u, m, y) 0 0 89 [some (qR 77), some (qI w), some (qI s), some (qI (m 88 w.toNat)), some (qI v), some (qI 1), some (qI b6), some (qI (k + 1)), none] []
                  exact ih89  1 b6 (k + 1) (by omega) (by omega) (v89_2) (Or.inl ⟨rfl, by rw [q_cnt_s v89_0, if_neg (fun z => (fitB_i v89_0).mp z (by first | (rw [if_pos (by omega)]; omega) | (rw [if_neg (by omega)]; omega)))]; omega⟩) (by omega) (by omega) (by omega)
              · show qJ YX12_fits κ _ (qLy u, m, y) 0 0 122 [some (qR 77), some (qI w), some (qI s), some (qI (m 88 w.toNat)), some (qI v), some (qI b5), some (qI b6), some (qI k), some (qI (m 87 (((5 * w) + k).toNat)))] []
                refine qJ.run hκ 9 (pc' := 139) (ls' := [some (qR 77), some (qI w), some (qI s), some (qI (m 88 w.toNat)), some (qI v), some (qI b5), some (qI b6), some (qI k), some (qI (m 87 (((5 * w) + k).toNat)))]) (st' := [qI ((5 * v) + k), qR 87, qI s]) rfl ?_
                refine qJ.ald hκ rfl rfl rfl (by decide) (by omega) ?_
                show qJ YX12_fits κ _ (qLy u, m, y) 0 0 140 [some (qR 77), some (qI w), some (qI s), some (qI (m 88 w.toNat)), some (qI v), some (qI b5), some (qI b6), some (qI k), some (qI (m 87 (((5 * w) + k).toNat)))] [qI (m 87 (((5 * v) + k).toNat)), qI s]
                refine qJ.icmp_ne hκ (tgt := 147) rfl rfl (by omega) (by omega) (fun c140 => ?_) (fun c140 => ?_)
                · show qJ YX12_fits κ _ (qLy u, m, y) 0 0 147 [some (qR 77), some (qI w), some (qI s), some (qI (m 88 w.toNat)), some (qI v), some (qI b5), some (qI b6), some (qI k), some (qI (m 87 (((5 * w) + k).toNat)))] []
                  refine qJ.run hκ 4 (pc' := 89) (ls' := [some (qR 77), some (qI w), some (qI s), some (qI (m 88 w.toNat)), some (qI v), some (qI 0), some (qI b6), some (qI (k + 1)), some (qI (m 87 (((5 * w) + k).toNat)))]) (st' := []) rfl ?_
                  refine qJ.dl [true, true, true, true, true, true, true, true, false] ?_
                  show qJ YX12_fits κ _ (qLy u, m, y) 0 0 89 [some (qR 77), some (qI w), some (qI s), some (qI (m 88 w.toNat)), some (qI v), some (qI 0), some (qI b6), some (qI (k + 1)), none] []
                  exact ih89  0 b6 (k + 1) (by omega) (by omega) (v89_2) (Or.inr ⟨rfl, by rw [q_cnt_s v89_0, if_pos ((fitB_i v89_0).mpr (by first | (rw [if_pos (by omega)]; omega) | (rw [if_neg (by omega)]; omega)))]; omega⟩) (by omega) (by omega) (by omega)
                · show qJ YX12_fits κ _ (qLy u, m, y) 0 0 143 [some (qR 77), some (qI w), some (qI s), some (qI (m 88 w.toNat)), some (qI v), some (qI b5), some (qI b6), some (qI k), some (qI (m 87 (((5 * w) + k).toNat)))] []
                  refine qJ.run hκ 5 (pc' := 89) (ls' := [some (qR 77), some (qI w), some (qI s), some (qI (m 88 w.toNat)), some (qI v), some (qI 1), some (qI b6), some (qI (k + 1)), some (qI (m 87 (((5 * w) + k).toNat)))]) (st' := []) rfl ?_
                  refine qJ.dl [true, true, true, true, true, true, true, true, false] ?_
                  show qJ YX12_fits κ _ (qLy u, m, y) 0 0 89 [some (qR 77), some (qI w), some (qI s), some (qI (m 88 w.toNat)), some (qI v), some (qI 1), some (qI b6), some (qI (k + 1)), none] []
                  exact ih89  1 b6 (k + 1) (by omega) (by omega) (v89_2) (Or.inl ⟨rfl, by rw [q_cnt_s v89_0, if_neg (fun z => (fitB_i v89_0).mp z (by first | (rw [if_pos (by omega)]; omega) | (rw [if_neg (by omega)]; omega)))]; omega⟩) (by omega) (by omega) (by omega)
      refine qJ.run hκ 4 (pc' := 17) (ls' := [some (qR 77), some (qI w), some (qI s), some (qI (m 88 w.toNat)), some (qI v), none, none, none, none]) (st' := [qI 0, qR 85, qI v]) rfl ?_
      refine qJ.ald hκ rfl rfl rfl (by decide) (by omega) ?_
      show qJ YX12_fits κ _ (qLy u, m, y) 0 0 18 [some (qR 77), some (qI w), some (qI s), some (qI (m 88 w.toNat)), some (qI v), none, none, none, none] [qI (m 85 0), qI v]
      refine qJ.icmp_ge hκ (tgt := 234) rfl rfl (by omega) (by omega) (fun c18 => ?_) (fun c18 => ?_)
      · show qJ YX12_fits κ _ (qLy u, m, y) 0 0 234 [some (qR 77), some (qI w), some (qI s), some (qI (m 88 w.toNat)), some (qI v), none, none, none, none] []
        refine qJ.run hκ 1 (pc' := 235) (ls' := [some (qR 77), some (qI w), some (qI s), some (qI (m 88 w.toNat)), some (qI v), none, none, none, none]) (st' := [qI 0]) rfl ?_
        exact qJ.bret hκ rfl rfl (by omega) (by decide) (by decide) (⟨0, rfl, Or.inr ⟨rfl, fun z => z (by rw [← show min v.toNat (nW m) = nW m by omega]; exact v10_2)⟩, rfl⟩)
      · show qJ YX12_fits κ _ (qLy u, m, y) 0 0 21 [some (qR 77), some (qI w), some (qI s), some (qI (m 88 w.toNat)), some (qI v), none, none, none, none] []
        refine qJ.run hκ 2 (pc' := 24) (ls' := [some (qR 77), some (qI w), some (qI s), some (qI (m 88 w.toNat)), some (qI v), none, none, none, none]) (st' := [qI w, qI v]) rfl ?_
        refine qJ.icmp_eq hκ (tgt := 228) rfl rfl (by omega) (by omega) (fun c24 => ?_) (fun c24 => ?_)
        · show qJ YX12_fits κ _ (qLy u, m, y) 0 0 228 [some (qR 77), some (qI w), some (qI s), some (qI (m 88 w.toNat)), some (qI v), none, none, none, none] []
          refine qJ.run hκ 2 (pc' := 10) (ls' := [some (qR 77), some (qI w), some (qI s), some (qI (m 88 w.toNat)), some (qI (v + 1)), none, none, none, none]) (st' := []) rfl ?_
          exact ih10  (v + 1) (by omega) (by omega) (fit_skip v10_0 v10_2 (fun hn z => by rw [c24] at z; exact fit_gap hg z.1)) (by omega)
        · show qJ YX12_fits κ _ (qLy u, m, y) 0 0 27 [some (qR 77), some (qI w), some (qI s), some (qI (m 88 w.toNat)), some (qI v), none, none, none, none] []
          have w5 := hW v (by omega) (by omega)
          have w6 := (hRW v (by omega) (by omega)).1.1
          refine qJ.run hκ 2 (pc' := 30) (ls' := [some (qR 77), some (qI w), some (qI s), some (qI (m 88 w.toNat)), some (qI v), none, none, none, none]) (st' := [qI v, qR 77]) rfl ?_
          refine qJ.callV (As := [qI v]) (rest := []) hκ rfl kX12_221 (m_there u m y v hR (by omega)) rfl rfl (by decide) rfl rfl (Nat.le_of_ble_eq_true rfl) (Nat.le_of_ble_eq_true rfl) (Nat.le_of_ble_eq_true rfl) (Or.inl (fun r h' e => by obtain ⟨z30, rfl, hz30, rfl⟩ := e; rfl)) (fun r h' e => ?_)
          obtain ⟨z30, rfl, hz30, rfl⟩ := e
          show qJ YX12_fits κ _ (qLy u, m, y) 0 0 33 [some (qR 77), some (qI w), some (qI s), some (qI (m 88 w.toNat)), some (qI v), none, none, none, none] [qI z30]
          refine qJ.if_eq hκ (tgt := 228) rfl rfl (by omega) (fun c33 => ?_) (fun c33 => ?_)
          · show qJ YX12_fits κ _ (qLy u, m, y) 0 0 228 [some (qR 77), some (qI w), some (qI s), some (qI (m 88 w.toNat)), some (qI v), none, none, none, none] []
            refine qJ.run hκ 2 (pc' := 10) (ls' := [some (qR 77), some (qI w), some (qI s), some (qI (m 88 w.toNat)), some (qI (v + 1)), none, none, none, none]) (st' := []) rfl ?_
            exact ih10  (v + 1) (by omega) (by omega) (fit_skip v10_0 v10_2 (fun hn z => by omega)) (by omega)
          · show qJ YX12_fits κ _ (qLy u, m, y) 0 0 36 [some (qR 77), some (qI w), some (qI s), some (qI (m 88 w.toNat)), some (qI v), none, none, none, none] []
            refine qJ.run hκ 3 (pc' := 42) (ls' := [some (qR 77), some (qI w), some (qI s), some (qI (m 88 w.toNat)), some (qI v), none, none, none, none]) (st' := [qI v, qR 88]) rfl ?_
            refine qJ.ald hκ rfl rfl rfl (by decide) (by omega) ?_
            show qJ YX12_fits κ _ (qLy u, m, y) 0 0 43 [some (qR 77), some (qI w), some (qI s), some (qI (m 88 w.toNat)), some (qI v), none, none, none, none] [qI (m 88 v.toNat)]
            refine qJ.run hκ 1 (pc' := 44) (ls' := [some (qR 77), some (qI w), some (qI s), some (qI (m 88 w.toNat)), some (qI v), none, none, none, none]) (st' := [qI (m 88 w.toNat), qI (m 88 v.toNat)]) rfl ?_
            refine qJ.icmp_ne hκ (tgt := 228) rfl rfl (by omega) (by omega) (fun c44 => ?_) (fun c44 => ?_)
            · show qJ YX12_fits κ _ (qLy u, m, y) 0 0 228 [some (qR 77), some (qI w), some (qI s), some (qI (m 88 w.toNat)), some (qI v), none, none, none, none] []
              refine qJ.run hκ 2 (pc' := 10) (ls' := [some (qR 77), some (qI w), some (qI s), some (qI (m 88 w.toNat)), some (qI (v + 1)), none, none, none, none]) (st' := []) rfl ?_
              exact ih10  (v + 1) (by omega) (by omega) (fit_skip v10_0 v10_2 (fun hn z => by have := z.1.1; omega)) (by omega)
            · show qJ YX12_fits κ _ (qLy u, m, y) 0 0 47 [some (qR 77), some (qI w), some (qI s), some (qI (m 88 w.toNat)), some (qI v), none, none, none, none] []
              refine qJ.run hκ 2 (pc' := 50) (ls' := [some (qR 77), some (qI w), some (qI s), some (qI (m 88 w.toNat)), some (qI v), none, none, none, none]) (st' := [qI v, qR 77]) rfl ?_
              refine qJ.callV (As := [qI v]) (rest := []) hκ rfl kX12_196 (c_mGap u m y v hR (by omega)) rfl rfl (by decide) rfl rfl (Nat.le_of_ble_eq_true rfl) (Nat.le_of_ble_eq_true rfl) (Nat.le_of_ble_eq_true rfl) (Or.inl (fun r h' e => by obtain ⟨z50, rfl, hz50, rfl⟩ := e; rfl)) (fun r h' e => ?_)
              obtain ⟨z50, rfl, hz50, rfl⟩ := e
              show qJ YX12_fits κ _ (qLy u, m, y) 0 0 53 [some (qR 77), some (qI w), some (qI s), some (qI (m 88 w.toNat)), some (qI v), none, none, none, none] [qI z50]
              refine qJ.if_eq hκ (tgt := 59) rfl rfl (by omega) (fun c53 => ?_) (fun c53 => ?_)
              · show qJ YX12_fits κ _ (qLy u, m, y) 0 0 59 [some (qR 77), some (qI w), some (qI s), some (qI (m 88 w.toNat)), some (qI v), none, none, none, none] []
                refine qJ.run hκ 11 (pc' := 73) (ls' := [some (qR 77), some (qI w), some (qI s), some (qI (m 88 w.toNat)), some (qI v), some (qI 1), none, none, none]) (st' := [qI (((5 * w) + (m 88 w.toNat)) - 1), qR 87]) rfl ?_
                refine qJ.ald hκ rfl rfl rfl (by decide) (by omega) ?_
                show qJ YX12_fits κ _ (qLy u, m, y) 0 0 74 [some (qR 77), some (qI w), some (qI s), some (qI (m 88 w.toNat)), some (qI v), some (qI 1), none, none, none] [qI (m 87 ((((5 * w) + (m 88 w.toNat)) - 1).toNat))]
                refine qJ.run hκ 1 (pc' := 76) (ls' := [some (qR 77), some (qI w), some (qI s), some (qI (m 88 w.toNat)), some (qI v), some (qI 1), none, none, none]) (st' := [qI 20, qI (m 87 ((((5 * w) + (m 88 w.toNat)) - 1).toNat))]) rfl ?_
                refine qJ.icmp_ne hκ (tgt := 83) rfl rfl (by omega) (by omega) (fun c76 => ?_) (fun c76 => ?_)
                · show qJ YX12_fits κ _ (qLy u, m, y) 0 0 83 [some (qR 77), some (qI w), some (qI s), some (qI (m 88 w.toNat)), some (qI v), some (qI 1), none, none, none] []
                  refine qJ.run hκ 4 (pc' := 89) (ls' := [some (qR 77), some (qI w), some (qI s), some (qI (m 88 w.toNat)), some (qI v), some (qI 1), some (qI 0), some (qI 0), none]) (st' := []) rfl ?_
                  exact L89 7 1 0 0 (by omega) (by omega) (by omega) (Or.inl ⟨rfl, rfl⟩) (by omega) (by omega) (by omega)
                · show qJ YX12_fits κ _ (qLy u, m, y) 0 0 79 [some (qR 77), some (qI w), some (qI s), some (qI (m 88 w.toNat)), some (qI v), some (qI 1), none, none, none] []
                  refine qJ.run hκ 5 (pc' := 89) (ls' := [some (qR 77), some (qI w), some (qI s), some (qI (m 88 w.toNat)), some (qI v), some (qI 1), some (qI 1), some (qI 0), none]) (st' := []) rfl ?_
                  exact L89 7 1 1 0 (by omega) (by omega) (by omega) (Or.inl ⟨rfl, rfl⟩) (by omega) (by omega) (by omega)
              · show qJ YX12_fits κ _ (qLy u, m, y) 0 0 56 [some (qR 77), some (qI w), some (qI s), some (qI (m 88 w.toNat)), some (qI v), none, none, none, none] []
                refine qJ.run hκ 3 (pc' := 10) (ls' := [some (qR 77), some (qI w), some (qI s), some (qI (m 88 w.toNat)), some (qI (v + 1)), none, none, none, none]) (st' := []) rfl ?_
                exact ih10  (v + 1) (by omega) (by omega) (fit_skip v10_0 v10_2 (fun hn z => by have := z.1.1; omega)) (by omega)
  show qJ YX12_fits κ _ (qLy u, m, y) 0 0 0 [some (qR 77), some (qI w), some (qI s), none, none, none, none, none, none] []
  refine qJ.run hκ 3 (pc' := 5) (ls' := [some (qR 77), some (qI w), some (qI s), none, none, none, none, none, none]) (st' := [qI w, qR 88]) rfl ?_
  refine qJ.ald hκ rfl rfl rfl (by decide) (by omega) ?_
  show qJ YX12_fits κ _ (qLy u, m, y) 0 0 6 [some (qR 77), some (qI w), some (qI s), none, none, none, none, none, none] [qI (m 88 w.toNat)]
  refine qJ.run hκ 3 (pc' := 10) (ls' := [some (qR 77), some (qI w), some (qI s), some (qI (m 88 w.toNat)), some (qI 0), none, none, none, none]) (st' := []) rfl ?_
  exact L10 62 0 (by omega) (by omega) (by rw [show min (Int.toNat 0) (nW m) = 0 by omega]; rfl) (by omega)

def ansFs (m : qM) (w : Int) : Int := if (0 ≤ w ∧ w < (nW m : Int)) ∧ ¬ m 5 w.toNat = -1 then (q_cnt (fitP m w) 20 : Nat) else -1
/-- the k-th one below n that has p -/
def q_nth (p : Nat → Prop) [DecidablePred p] (k : Int) (n : Nat) : Int := q_fst (fun s => p s ∧ (q_cnt p s : Int) = k) n
def ansFl (m : qM) (w k : Int) : Int := if (0 ≤ w ∧ w < (nW m : Int)) ∧ ¬ m 5 w.toNat = -1 then q_nth (fitP m w) k 20 else -1
theorem ansFs_o {m m' : qM} (h : keep kObs m' = keep kObs m) (w : Int) : ansFs m' w = ansFs m w := by
  show ansFs (keep kObs m') w = ansFs (keep kObs m) w
  rw [h]
theorem ansFl_o {m m' : qM} (h : keep kObs m' = keep kObs m) (w k : Int) : ansFl m' w k = ansFl m w k := by
  show ansFl (keep kObs m') w k = ansFl (keep kObs m) w k
  rw [h]
theorem fitP_i {m : qM} {w i : Int} (h : 0 ≤ i) : fitP m w i.toNat ↔ ¬ q_cnt (fitV m w i) (nW m) = 0 := by
  show (¬ q_cnt (fitV m w ((i.toNat : Nat) : Int)) (nW m) = 0) ↔ _
  rw [q_tn h]

set_option maxRecDepth 100000 in
theorem b_fills (u : qU) (m y : qM) (w : Int) (hR : rC m) (h1 : qr w) {κ : qK} (hκ : qCx YX12_fills 4 0 0 κ) : qJ YX12_fills κ (qFin (fun r h => ∃ m', r = some (qI (ansFs m w)) ∧ h = (qLy u, m', y) ∧ keep kObs m' = keep kObs m) 0 0 κ) (qLy u, m, y) 0 0 5 [some (qR 77), some (qI w), none, none] [] := by
  have hR2 := hR
  obtain ⟨⟨⟨a0, a1, a2⟩, ⟨a3, a4, a5⟩, ⟨b0, b1, b2⟩, b3, b4, b5⟩, hW, hRW, hT, hRT, hS⟩ := hR2
  have hV : qr (m 83 0) := by omega
  have zr := gHz_r hR.1
  have ze := hz_eq hR.1
  have nWl := nW_le hR.1
  have nTl := nT_le hR.1
  have L27 : ∀ (n : Nat) (c : Int) (i : Int), (0 ≤ i) → (i ≤ 20) → (((0 ≤ w ∧ w < (nW m : Int)) ∧ ¬ m 5 w.toNat = -1)) → (c = (q_cnt (fitP m w) i.toNat : Nat)) → ((20 - i).toNat) < n → qJ YX12_fills κ (qFin (fun r h => ∃ m', r = some (qI (ansFs m w)) ∧ h = (qLy u, m', y) ∧ keep kObs m' = keep kObs m) 0 0 κ) (qLy u, m, y) 0 0 27 [some (qR 77), some (qI w), some (qI c), some (qI i)] [] := by
    intro n
    induction n with
    | zero => intro c i _ _ _ _ hz0; omega
    | succ n ih27 =>
      intro c i v27_0 v27_1 v27_2 v27_3 v27_m
      refine qJ.run hκ 2 (pc' := 30) (ls' := [some (qR 77), some (qI w), some (qI c), some (qI i)]) (st' := [qI 20, qI i]) rfl ?_
      refine qJ.icmp_ge hκ (tgt := 56) rfl rfl (by omega) (by omega) (fun c30 => ?_) (fun c30 => ?_)
      · show qJ YX12_fills κ _ (qLy u, m, y) 0 0 56 [some (qR 77), some (qI w), some (qI c), some (qI i)] []
        refine qJ.run hκ 1 (pc' := 57) (ls' := [some (qR 77), some (qI w), some (qI c), some (qI i)]) (st' := [qI c]) rfl ?_
        exact qJ.iret hκ rfl rfl (by decide) (by decide) (⟨m, by unfold ansFs; rw [if_pos v27_2, v27_3, show i = 20 by omega]; rfl, rfl, rfl⟩)
      · show qJ YX12_fills κ _ (qLy u, m, y) 0 0 33 [some (qR 77), some (qI w), some (qI c), some (qI i)] []
        refine qJ.run hκ 4 (pc' := 37) (ls' := [some (qR 77), some (qI w), some (qI c), some (qI i)]) (st' := [qI i, qI w, qR 77, qI c]) rfl ?_
        refine qJ.callV (As := [qI w, qI i]) (rest := [qI c]) hκ rfl kX12_237 (m_fits u m y w i hR (by omega) (by omega) (by omega)) rfl rfl (by decide) rfl rfl (Nat.le_of_ble_eq_true rfl) (Nat.le_of_ble_eq_true rfl) (Nat.le_of_ble_eq_true rfl) (Or.inl (fun r h' e => by obtain ⟨z37, rfl, hz37, rfl⟩ := e; rfl)) (fun r h' e => ?_)
        obtain ⟨z37, rfl, hz37, rfl⟩ := e
        show qJ YX12_fills κ _ (qLy u, m, y) 0 0 40 [some (qR 77), some (qI w), some (qI c), some (qI i)] [qI z37, qI c]
        refine qJ.if_eq hκ (tgt := 47) rfl rfl (by omega) (fun c40 => ?_) (fun c40 => ?_)
        · show qJ YX12_fills κ _ (qLy u, m, y) 0 0 47 [some (qR 77), some (qI w), some (qI c), some (qI i)] [qI c]
          refine qJ.run hκ 5 (pc' := 27) (ls' := [some (qR 77), some (qI w), some (qI (c + 0)), some (qI (i + 1))]) (st' := []) rfl ?_
          exact ih27  (c + 0) (i + 1) (by omega) (by omega) (by omega) (by rw [q_cnt_s v27_0, if_neg (fun z => by have := (fitP_i v27_0).mp z; omega)]; omega) (by omega)
        · show qJ YX12_fills κ _ (qLy u, m, y) 0 0 43 [some (qR 77), some (qI w), some (qI c), some (qI i)] [qI c]
          refine qJ.run hκ 6 (pc' := 27) (ls' := [some (qR 77), some (qI w), some (qI (c + 1)), some (qI (i + 1))]) (st' := []) rfl ?_
          exact ih27  (c + 1) (i + 1) (by omega) (by omega) (by omega) (by rw [q_cnt_s v27_0, if_pos ((fitP_i v27_0).mpr (by omega))]; omega) (by omega)
  refine qJ.run hκ 2 (pc' := 7) (ls' := [some (qR 77), some (qI w), none, none]) (st' := [qI w, qR 77]) rfl ?_
  refine qJ.callV (As := [qI w]) (rest := []) hκ rfl kX12_221 (m_there u m y w hR (by omega)) rfl rfl (by decide) rfl rfl (Nat.le_of_ble_eq_true rfl) (Nat.le_of_ble_eq_true rfl) (Nat.le_of_ble_eq_true rfl) (Or.inl (fun r h' e => by obtain ⟨z7, rfl, hz7, rfl⟩ := e; rfl)) (fun r h' e => ?_)
  obtain ⟨z7, rfl, hz7, rfl⟩ := e
  show qJ YX12_fills κ _ (qLy u, m, y) 0 0 10 [some (qR 77), some (qI w), none, none] [qI z7]
  refine qJ.if_eq hκ (tgt := 21) rfl rfl (by omega) (fun c10 => ?_) (fun c10 => ?_)
  · show qJ YX12_fills κ _ (qLy u, m, y) 0 0 21 [some (qR 77), some (qI w), none, none] []
    refine qJ.run hκ 1 (pc' := 22) (ls' := [some (qR 77), some (qI w), none, none]) (st' := [qI (-1)]) rfl ?_
    exact qJ.iret hκ rfl rfl (by decide) (by decide) (⟨m, by unfold ansFs; rw [if_neg (fun z => by omega)], rfl, rfl⟩)
  · show qJ YX12_fills κ _ (qLy u, m, y) 0 0 13 [some (qR 77), some (qI w), none, none] []
    refine qJ.run hκ 2 (pc' := 15) (ls' := [some (qR 77), some (qI w), none, none]) (st' := [qI w, qR 77]) rfl ?_
    refine qJ.callV (As := [qI w]) (rest := []) hκ rfl kX12_196 (c_mGap u m y w hR (by omega)) rfl rfl (by decide) rfl rfl (Nat.le_of_ble_eq_true rfl) (Nat.le_of_ble_eq_true rfl) (Nat.le_of_ble_eq_true rfl) (Or.inl (fun r h' e => by obtain ⟨z15, rfl, hz15, rfl⟩ := e; rfl)) (fun r h' e => ?_)
    obtain ⟨z15, rfl, hz15, rfl⟩ := e
    show qJ YX12_fills κ _ (qLy u, m, y) 0 0 18 [some (qR 77), some (qI w), none, none] [qI z15]
    refine qJ.if_ne hκ (tgt := 23) rfl rfl (by omega) (fun c18 => ?_) (fun c18 => ?_)
    · show qJ YX12_fills κ _ (qLy u, m, y) 0 0 23 [some (qR 77), some (qI w), none, none] []
      refine qJ.run hκ 4 (pc' := 27) (ls' := [some (qR 77), some (qI w), some (qI 0), some (qI 0)]) (st' := []) rfl ?_
      exact L27 21 0 0 (by omega) (by omega) (by omega) (rfl) (by omega)
    · show qJ YX12_fills κ _ (qLy u, m, y) 0 0 21 [some (qR 77), some (qI w), none, none] []
      refine qJ.run hκ 1 (pc' := 22) (ls' := [some (qR 77), some (qI w), none, none]) (st' := [qI (-1)]) rfl ?_
      exact qJ.iret hκ rfl rfl (by decide) (by decide) (⟨m, by unfold ansFs; rw [if_neg (fun z => by omega)], rfl, rfl⟩)
set_option maxRecDepth 100000 in
theorem w_fills (u : qU) (m y : qM) (w : Int) (hR : rC m) (h1 : qr w) : qCt YX12_fills 4 0 0 [qR 77, qI w] (qLy u, m, y) (fun r h => ∃ m', r = some (qI (ansFs (q_up m 77 0 0) w)) ∧ h = (qLy u, m', y) ∧ keep kObs m' = keep kObs (q_up m 77 0 0)) := by
  refine qCt.intro okX12_fills (Nat.le_of_ble_eq_true rfl) (fun κ hκ => ?_)
  show qJ YX12_fills κ _ (qLy u, m, y) 0 0 0 [some (qR 77), some (qI w), none, none] []
  refine qJ.run hκ 2 (pc' := 2) (ls' := [some (qR 77), some (qI w), none, none]) (st' := [qI 0, qR 77]) rfl ?_
  refine qJ.putI hκ rfl rfl rfl rfl (Or.inl rfl) ?_
  show qJ YX12_fills κ _ (qLy u, (q_up m 77 0 0), y) 0 0 5 [some (qR 77), some (qI w), none, none] []
  exact b_fills u (q_up m 77 0 0) y w (show rC (q_up m 77 0 0) from hR) h1 hκ
theorem m_fills (u : qU) (m y : qM) (w : Int) (hR : rC m) (h1 : qr w) : qCt YX12_fills 4 0 0 [qR 77, qI w] (qLy u, m, y) (fun r h => ∃ m', r = some (qI (ansFs m w)) ∧ h = (qLy u, m', y) ∧ keep kObs m' = keep kObs m) := by
  refine (w_fills u m y w hR h1).weak ?_
  rintro r h ⟨m', e1, e2, e3⟩
  exact ⟨m', by rw [e1, ansFs_o (keep_up (by rfl))], e2, e3.trans (keep_up (by rfl))⟩

set_option maxRecDepth 100000 in
theorem b_fill (u : qU) (m y : qM) (w k : Int) (hR : rC m) (h1 : qr w) (h2 : qr k) {κ : qK} (hκ : qCx YX12_fill 4 0 0 κ) : qJ YX12_fill κ (qFin (fun r h => ∃ m', r = some (qI (ansFl m w k)) ∧ h = (qLy u, m', y) ∧ keep kObs m' = keep kObs m) 0 0 κ) (qLy u, m, y) 0 0 5 [some (qR 77), some (qI w), some (qI k), none, none] [] := by
  have hR2 := hR
  obtain ⟨⟨⟨a0, a1, a2⟩, ⟨a3, a4, a5⟩, ⟨b0, b1, b2⟩, b3, b4, b5⟩, hW, hRW, hT, hRT, hS⟩ := hR2
  have hV : qr (m 83 0) := by omega
  have zr := gHz_r hR.1
  have ze := hz_eq hR.1
  have nWl := nW_le hR.1
  have nTl := nT_le hR.1
  have L28 : ∀ (n : Nat) (c : Int) (i : Int), (0 ≤ i) → (i ≤ 20) → (((0 ≤ w ∧ w < (nW m : Int)) ∧ ¬ m 5 w.toNat = -1)) → (c = (q_cnt (fitP m w) i.toNat : Nat)) → (q_nth (fitP m w) k i.toNat = -1) → ((20 - i).toNat) < n → qJ YX12_fill κ (qFin (fun r h => ∃ m', r = some (qI (ansFl m w k)) ∧ h = (qLy u, m', y) ∧ keep kObs m' = keep kObs m) 0 0 κ) (qLy u, m, y) 0 0 28 [some (qR 77), some (qI w), some (qI k), some (qI c), some (qI i)] [] := by
    intro n
    induction n with
    | zero => intro c i _ _ _ _ _ hz0; omega
    | succ n ih28 =>
      intro c i v28_0 v28_1 v28_2 v28_3 v28_4 v28_m
      have cl := q_cnt_le (fitP m w) i.toNat
      refine qJ.run hκ 2 (pc' := 32) (ls' := [some (qR 77), some (qI w), some (qI k), some (qI c), some (qI i)]) (st' := [qI 20, qI i]) rfl ?_
      refine qJ.icmp_ge hκ (tgt := 62) rfl rfl (by omega) (by omega) (fun c32 => ?_) (fun c32 => ?_)
      · show qJ YX12_fill κ _ (qLy u, m, y) 0 0 62 [some (qR 77), some (qI w), some (qI k), some (qI c), some (qI i)] []
        refine qJ.run hκ 1 (pc' := 63) (ls' := [some (qR 77), some (qI w), some (qI k), some (qI c), some (qI i)]) (st' := [qI (-1)]) rfl ?_
        exact qJ.iret hκ rfl rfl (by decide) (by decide) (⟨m, by unfold ansFl; rw [if_pos v28_2]; rw [show i = 20 by omega] at v28_4; rw [show q_nth (fitP m w) k 20 = -1 from v28_4], rfl, rfl⟩)
      · show qJ YX12_fill κ _ (qLy u, m, y) 0 0 35 [some (qR 77), some (qI w), some (qI k), some (qI c), some (qI i)] []
        refine qJ.run hκ 3 (pc' := 39) (ls' := [some (qR 77), some (qI w), some (qI k), some (qI c), some (qI i)]) (st' := [qI i, qI w, qR 77]) rfl ?_
        refine qJ.callV (As := [qI w, qI i]) (rest := []) hκ rfl kX12_237 (m_fits u m y w i hR (by omega) (by omega) (by omega)) rfl rfl (by decide) rfl rfl (Nat.le_of_ble_eq_true rfl) (Nat.le_of_ble_eq_true rfl) (Nat.le_of_ble_eq_true rfl) (Or.inl (fun r h' e => by obtain ⟨z39, rfl, hz39, rfl⟩ := e; rfl)) (fun r h' e => ?_)
        obtain ⟨z39, rfl, hz39, rfl⟩ := e
        show qJ YX12_fill κ _ (qLy u, m, y) 0 0 42 [some (qR 77), some (qI w), some (qI k), some (qI c), some (qI i)] [qI z39]
        refine qJ.if_eq hκ (tgt := 56) rfl rfl (by omega) (fun c42 => ?_) (fun c42 => ?_)
        · show qJ YX12_fill κ _ (qLy u, m, y) 0 0 56 [some (qR 77), some (qI w), some (qI k), some (qI c), some (qI i)] []
          refine qJ.run hκ 2 (pc' := 28) (ls' := [some (qR 77), some (qI w), some (qI k), some (qI c), some (qI (i + 1))]) (st' := []) rfl ?_
          exact ih28  c (i + 1) (by omega) (by omega) (by omega) (by rw [q_cnt_s v28_0, if_neg (fun z => by have := (fitP_i v28_0).mp z; omega)]; omega) (q_fst_no v28_0 v28_4 (fun z => by have := (fitP_i v28_0).mp z.1; omega)) (by omega)
        · show qJ YX12_fill κ _ (qLy u, m, y) 0 0 45 [some (qR 77), some (qI w), some (qI k), some (qI c), some (qI i)] []
          refine qJ.run hκ 2 (pc' := 47) (ls' := [some (qR 77), some (qI w), some (qI k), some (qI c), some (qI i)]) (st' := [qI k, qI c]) rfl ?_
          refine qJ.icmp_ne hκ (tgt := 53) rfl rfl (by omega) (by omega) (fun c47 => ?_) (fun c47 => ?_)
          · show qJ YX12_fill κ _ (qLy u, m, y) 0 0 53 [some (qR 77), some (qI w), some (qI k), some (qI c), some (qI i)] []
            refine qJ.run hκ 3 (pc' := 28) (ls' := [some (qR 77), some (qI w), some (qI k), some (qI (c + 1)), some (qI (i + 1))]) (st' := []) rfl ?_
            exact ih28  (c + 1) (i + 1) (by omega) (by omega) (by omega) (by rw [q_cnt_s v28_0, if_pos ((fitP_i v28_0).mpr (by omega))]; omega) (q_fst_no v28_0 v28_4 (fun z => by have := z.2; omega)) (by omega)
          · show qJ YX12_fill κ _ (qLy u, m, y) 0 0 50 [some (qR 77), some (qI w), some (qI k), some (qI c), some (qI i)] []
            refine qJ.run hκ 1 (pc' := 52) (ls' := [some (qR 77), some (qI w), some (qI k), some (qI c), some (qI i)]) (st' := [qI i]) rfl ?_
            exact qJ.iret hκ rfl rfl (by decide) (by decide) (⟨m, by unfold ansFl q_nth; rw [if_pos v28_2, q_fst_hit v28_0 v28_4 ⟨(fitP_i v28_0).mpr (by omega), by omega⟩ 20 (by omega)], rfl, rfl⟩)
  refine qJ.run hκ 2 (pc' := 7) (ls' := [some (qR 77), some (qI w), some (qI k), none, none]) (st' := [qI w, qR 77]) rfl ?_
  refine qJ.callV (As := [qI w]) (rest := []) hκ rfl kX12_221 (m_there u m y w hR (by omega)) rfl rfl (by decide) rfl rfl (Nat.le_of_ble_eq_true rfl) (Nat.le_of_ble_eq_true rfl) (Nat.le_of_ble_eq_true rfl) (Or.inl (fun r h' e => by obtain ⟨z7, rfl, hz7, rfl⟩ := e; rfl)) (fun r h' e => ?_)
  obtain ⟨z7, rfl, hz7, rfl⟩ := e
  show qJ YX12_fill κ _ (qLy u, m, y) 0 0 10 [some (qR 77), some (qI w), some (qI k), none, none] [qI z7]
  refine qJ.if_eq hκ (tgt := 21) rfl rfl (by omega) (fun c10 => ?_) (fun c10 => ?_)
  · show qJ YX12_fill κ _ (qLy u, m, y) 0 0 21 [some (qR 77), some (qI w), some (qI k), none, none] []
    refine qJ.run hκ 1 (pc' := 22) (ls' := [some (qR 77), some (qI w), some (qI k), none, none]) (st' := [qI (-1)]) rfl ?_
    exact qJ.iret hκ rfl rfl (by decide) (by decide) (⟨m, by unfold ansFl; rw [if_neg (fun z => by omega)], rfl, rfl⟩)
  · show qJ YX12_fill κ _ (qLy u, m, y) 0 0 13 [some (qR 77), some (qI w), some (qI k), none, none] []
    refine qJ.run hκ 2 (pc' := 15) (ls' := [some (qR 77), some (qI w), some (qI k), none, none]) (st' := [qI w, qR 77]) rfl ?_
    refine qJ.callV (As := [qI w]) (rest := []) hκ rfl kX12_196 (c_mGap u m y w hR (by omega)) rfl rfl (by decide) rfl rfl (Nat.le_of_ble_eq_true rfl) (Nat.le_of_ble_eq_true rfl) (Nat.le_of_ble_eq_true rfl) (Or.inl (fun r h' e => by obtain ⟨z15, rfl, hz15, rfl⟩ := e; rfl)) (fun r h' e => ?_)
    obtain ⟨z15, rfl, hz15, rfl⟩ := e
    show qJ YX12_fill κ _ (qLy u, m, y) 0 0 18 [some (qR 77), some (qI w), some (qI k), none, none] [qI z15]
    refine qJ.if_ne hκ (tgt := 23) rfl rfl (by omega) (fun c18 => ?_) (fun c18 => ?_)
    · show qJ YX12_fill κ _ (qLy u, m, y) 0 0 23 [some (qR 77), some (qI w), some (qI k), none, none] []
      refine qJ.run hκ 4 (pc' := 28) (ls' := [some (qR 77), some (qI w), some (qI k), some (qI 0), some (qI 0)]) (st' := []) rfl ?_
      exact L28 21 0 0 (by omega) (by omega) (by omega) (rfl) (rfl) (by omega)
    · show qJ YX12_fill κ _ (qLy u, m, y) 0 0 21 [some (qR 77), some (qI w), some (qI k), none, none] []
      refine qJ.run hκ 1 (pc' := 22) (ls' := [some (qR 77), some (qI w), some (qI k), none, none]) (st' := [qI (-1)]) rfl ?_
      exact qJ.iret hκ rfl rfl (by decide) (by decide) (⟨m, by unfold ansFl; rw [if_neg (fun z => by omega)], rfl, rfl⟩)
set_option maxRecDepth 100000 in
theorem w_fill (u : qU) (m y : qM) (w k : Int) (hR : rC m) (h1 : qr w) (h2 : qr k) : qCt YX12_fill 4 0 0 [qR 77, qI w, qI k] (qLy u, m, y) (fun r h => ∃ m', r = some (qI (ansFl (q_up m 77 0 0) w k)) ∧ h = (qLy u, m', y) ∧ keep kObs m' = keep kObs (q_up m 77 0 0)) := by
  refine qCt.intro okX12_fill (Nat.le_of_ble_eq_true rfl) (fun κ hκ => ?_)
  show qJ YX12_fill κ _ (qLy u, m, y) 0 0 0 [some (qR 77), some (qI w), some (qI k), none, none] []
  refine qJ.run hκ 2 (pc' := 2) (ls' := [some (qR 77), some (qI w), some (qI k), none, none]) (st' := [qI 0, qR 77]) rfl ?_
  refine qJ.putI hκ rfl rfl rfl rfl (Or.inl rfl) ?_
  show qJ YX12_fill κ _ (qLy u, (q_up m 77 0 0), y) 0 0 5 [some (qR 77), some (qI w), some (qI k), none, none] []
  exact b_fill u (q_up m 77 0 0) y w k (show rC (q_up m 77 0 0) from hR) h1 h2 hκ
theorem m_fill (u : qU) (m y : qM) (w k : Int) (hR : rC m) (h1 : qr w) (h2 : qr k) : qCt YX12_fill 4 0 0 [qR 77, qI w, qI k] (qLy u, m, y) (fun r h => ∃ m', r = some (qI (ansFl m w k)) ∧ h = (qLy u, m', y) ∧ keep kObs m' = keep kObs m) := by
  refine (w_fill u m y w k hR h1 h2).weak ?_
  rintro r h ⟨m', e1, e2, e3⟩
  exact ⟨m', by rw [e1, ansFl_o (keep_up (by rfl))], e2, e3.trans (keep_up (by rfl))⟩

/-! printed by p57.py: many, both -/
def ansMany (m : qM) (w : Int) : Int := if w = 0 then m 2 0 else if w = 1 then m 2 2 else if w = 2 then m 12 0 else if w = 3 then m 15 0 else if w = 4 then m 15 4 else if w = 5 then m 1 8 else if w = 6 then m 1 9 else if w = 7 then (nW m : Int) else if w = 8 then (nN m : Int) else if w = 9 then (q_cnt (fun s => 0 < uAll m (nW m) s) 20 : Nat) else -2
theorem ansMany_o {m m' : qM} (h : keep kObs m' = keep kObs m) (w : Int) : ansMany m' w = ansMany m w := by
  have e : ∀ i j, kObs i j = true → m' i j = m i j := fun i j k => by
    have := congrFun (congrFun h i) j
    unfold keep at this
    rw [if_pos k, if_pos k] at this
    exact this
  unfold ansMany
  rw [nW_o h, nN_o h, e 2 0 rfl, e 2 2 rfl, e 12 0 rfl, e 15 0 rfl, e 15 4 rfl, e 1 8 rfl, e 1 9 rfl, show uAll m' (nW m) = uAll m (nW m) from funext fun s => uAll_c (ro3 h) (ro4 h) _ s]

set_option maxRecDepth 100000 in
theorem x_many (u : qU) (m y : qM) (w : Int) (hR : rC m) (hC : cU m) (hF : m 0 10 = 0 ∨ m 0 10 = 1) (hL : rL m) (hX : rXn m) (hl : rXl m) (h1 : qr w) : qCt YX11_many 5 0 0 [qR 0, qI w] (qLy u, m, y) (fun r h => ∃ m', r = some (qI (ansMany m w)) ∧ h = (qLy u, m', y) ∧ (m' = m ∨ fUs m m')) := by
  refine qCt.intro okX11_many (Nat.le_of_ble_eq_true rfl) (fun κ hκ => ?_)
  have hR2 := hR
  obtain ⟨⟨⟨a0, a1, a2⟩, ⟨a3, a4, a5⟩, ⟨b0, b1, b2⟩, b3, b4, b5⟩, hW, hRW, hT, hRT, hS⟩ := hR2
  have hV : qr (m 1 9) := by omega
  have zr := gHz_r hR.1
  have nWl := nW_le hR.1
  have nTl := nT_le hR.1
  have hS7 : ∀ k : Int, 0 ≤ k → k < m 2 0 → qr (m 7 k.toNat) := fun k k0 k1 => by have := (hRW k k0 k1).2.1.2.1; omega
  have hS11 : ∀ k : Int, 0 ≤ k → k < m 2 2 → qr (m 11 k.toNat) := fun k k0 k1 => by have := (hRT k k0 k1).2.1; omega
  have hS9 : ∀ k : Int, 0 ≤ k → k < m 2 2 → qr (m 9 k.toNat) := fun k k0 k1 => by have := (hT k k0 k1).2.1; omega
  have hcn : (q_cnt (fun j => m 10 j = -1) (m 2 2).toNat : Nat) ≤ m 2 0 := Int.le_of_eq hS.2.2.1
  have h6 : ∀ k : Int, 0 ≤ k → k < m 2 0 → 0 ≤ m 6 k.toNat ∧ m 6 k.toNat ≤ 3 := fun k k0 k1 => (hRW k k0 k1).2.1.1
  have lr := hL.1
  have l0 := hl.1
  have n0 := hX.1.1
  have nl := nN_le hX
  have hS18 : ∀ k : Int, 0 ≤ k → k < m 15 0 → qr (m 18 k.toNat) := fun k k0 k1 => by have := (hX.2.1 k k0 k1).2.2.1; omega
  show qJ YX11_many κ _ (qLy u, m, y) 0 0 0 [some (qR 0), some (qI w), none] []
  refine qJ.run hκ 5 (pc' := 9) (ls' := [some (qR 0), some (qI w), some (qR 2)]) (st' := [qI w]) rfl ?_
  by_cases e9_0 : w = 0
  · refine qJ.tswIn hκ (tgt := 64) rfl (by omega) (by omega) (by omega) (by rw [e9_0]; rfl) rfl ?_
    refine qJ.run hκ 2 (pc' := 68) (ls' := [some (qR 0), some (qI w), some (qR 2)]) (st' := [qI (m 2 0)]) rfl ?_
    exact qJ.iret hκ rfl rfl (by decide) (by decide) (⟨m, by unfold ansMany; rw [if_pos e9_0], rfl, Or.inl rfl⟩)
  by_cases e9_1 : w = 1
  · refine qJ.tswIn hκ (tgt := 69) rfl (by omega) (by omega) (by omega) (by rw [e9_1]; rfl) rfl ?_
    refine qJ.run hκ 2 (pc' := 73) (ls' := [some (qR 0), some (qI w), some (qR 2)]) (st' := [qI (m 2 2)]) rfl ?_
    exact qJ.iret hκ rfl rfl (by decide) (by decide) (⟨m, by unfold ansMany; rw [if_neg e9_0, if_pos e9_1], rfl, Or.inl rfl⟩)
  by_cases e9_2 : w = 2
  · refine qJ.tswIn hκ (tgt := 74) rfl (by omega) (by omega) (by omega) (by rw [e9_2]; rfl) rfl ?_
    refine qJ.run hκ 4 (pc' := 84) (ls' := [some (qR 0), some (qI w), some (qR 2)]) (st' := [qI (m 12 0)]) rfl ?_
    exact qJ.iret hκ rfl rfl (by decide) (by decide) (⟨m, by unfold ansMany; rw [if_neg e9_0, if_neg e9_1, if_pos e9_2], rfl, Or.inl rfl⟩)
  by_cases e9_3 : w = 3
  · refine qJ.tswIn hκ (tgt := 85) rfl (by omega) (by omega) (by omega) (by rw [e9_3]; rfl) rfl ?_
    refine qJ.run hκ 4 (pc' := 95) (ls' := [some (qR 0), some (qI w), some (qR 2)]) (st' := [qI (m 15 0)]) rfl ?_
    exact qJ.iret hκ rfl rfl (by decide) (by decide) (⟨m, by unfold ansMany; rw [if_neg e9_0, if_neg e9_1, if_neg e9_2, if_pos e9_3], rfl, Or.inl rfl⟩)
  by_cases e9_4 : w = 4
  · refine qJ.tswIn hκ (tgt := 96) rfl (by omega) (by omega) (by omega) (by rw [e9_4]; rfl) rfl ?_
    refine qJ.run hκ 4 (pc' := 106) (ls' := [some (qR 0), some (qI w), some (qR 2)]) (st' := [qI (m 15 4)]) rfl ?_
    exact qJ.iret hκ rfl rfl (by decide) (by decide) (⟨m, by unfold ansMany; rw [if_neg e9_0, if_neg e9_1, if_neg e9_2, if_neg e9_3, if_pos e9_4], rfl, Or.inl rfl⟩)
  by_cases e9_5 : w = 5
  · refine qJ.tswIn hκ (tgt := 107) rfl (by omega) (by omega) (by omega) (by rw [e9_5]; rfl) rfl ?_
    refine qJ.run hκ 3 (pc' := 114) (ls' := [some (qR 0), some (qI w), some (qR 2)]) (st' := [qI (m 1 8)]) rfl ?_
    exact qJ.iret hκ rfl rfl (by decide) (by decide) (⟨m, by unfold ansMany; rw [if_neg e9_0, if_neg e9_1, if_neg e9_2, if_neg e9_3, if_neg e9_4, if_pos e9_5], rfl, Or.inl rfl⟩)
  by_cases e9_6 : w = 6
  · refine qJ.tswIn hκ (tgt := 115) rfl (by omega) (by omega) (by omega) (by rw [e9_6]; rfl) rfl ?_
    refine qJ.run hκ 3 (pc' := 122) (ls' := [some (qR 0), some (qI w), some (qR 2)]) (st' := [qI (m 1 9)]) rfl ?_
    exact qJ.iret hκ rfl rfl (by decide) (by decide) (⟨m, by unfold ansMany; rw [if_neg e9_0, if_neg e9_1, if_neg e9_2, if_neg e9_3, if_neg e9_4, if_neg e9_5, if_pos e9_6], rfl, Or.inl rfl⟩)
  by_cases e9_7 : w = 7
  · refine qJ.tswIn hκ (tgt := 123) rfl (by omega) (by omega) (by omega) (by rw [e9_7]; rfl) rfl ?_
    refine qJ.run hκ 3 (pc' := 128) (ls' := [some (qR 0), some (qI w), some (qR 2)]) (st' := [qR 1, qR 2]) rfl ?_
    refine qJ.callV (As := []) (rest := [qR 2]) hκ rfl kX11_140 (c_horizon u m y hV) rfl rfl (by decide) rfl rfl (Nat.le_of_ble_eq_true rfl) (Nat.le_of_ble_eq_true rfl) (Nat.le_of_ble_eq_true rfl) (Or.inl (fun r h' e => by obtain ⟨rfl, rfl⟩ := e; rfl)) (fun r h' e => ?_)
    obtain ⟨rfl, rfl⟩ := e
    show qJ YX11_many κ _ (qLy u, m, y) 0 0 131 [some (qR 0), some (qI w), some (qR 2)] [qI (gHz m), qR 2]
    refine qJ.callV (As := [qI (gHz m)]) (rest := []) hκ rfl kX11_377 (c_seenWords u m y (gHz m) (by omega) (by omega) hS7) rfl rfl (by decide) rfl rfl (Nat.le_of_ble_eq_true rfl) (Nat.le_of_ble_eq_true rfl) (Nat.le_of_ble_eq_true rfl) (Or.inl (fun r h' e => by obtain ⟨rfl, rfl⟩ := e; rfl)) (fun r h' e => ?_)
    obtain ⟨rfl, rfl⟩ := e
    show qJ YX11_many κ _ (qLy u, m, y) 0 0 134 [some (qR 0), some (qI w), some (qR 2)] [qI (q_pfx (m 7) (gHz m) (m 2 0).toNat : Nat)]
    exact qJ.iret hκ rfl rfl (by decide) (by decide) (⟨m, by unfold ansMany; rw [if_neg e9_0, if_neg e9_1, if_neg e9_2, if_neg e9_3, if_neg e9_4, if_neg e9_5, if_neg e9_6, if_pos e9_7]; rfl, rfl, Or.inl rfl⟩)
  by_cases e9_8 : w = 8
  · refine qJ.tswIn hκ (tgt := 135) rfl (by omega) (by omega) (by omega) (by rw [e9_8]; rfl) rfl ?_
    refine qJ.run hκ 5 (pc' := 146) (ls' := [some (qR 0), some (qI w), some (qR 2)]) (st' := [qR 1, qR 15]) rfl ?_
    refine qJ.callV (As := []) (rest := [qR 15]) hκ rfl kX11_140 (c_horizon u m y hV) rfl rfl (by decide) rfl rfl (Nat.le_of_ble_eq_true rfl) (Nat.le_of_ble_eq_true rfl) (Nat.le_of_ble_eq_true rfl) (Or.inl (fun r h' e => by obtain ⟨rfl, rfl⟩ := e; rfl)) (fun r h' e => ?_)
    obtain ⟨rfl, rfl⟩ := e
    show qJ YX11_many κ _ (qLy u, m, y) 0 0 149 [some (qR 0), some (qI w), some (qR 2)] [qI (gHz m), qR 15]
    refine qJ.callV (As := [qI (gHz m)]) (rest := []) hκ rfl kX11_380 (c_seenNames u m y (gHz m) (by omega) (by omega) hS18) rfl rfl (by decide) rfl rfl (Nat.le_of_ble_eq_true rfl) (Nat.le_of_ble_eq_true rfl) (Nat.le_of_ble_eq_true rfl) (Or.inl (fun r h' e => by obtain ⟨rfl, rfl⟩ := e; rfl)) (fun r h' e => ?_)
    obtain ⟨rfl, rfl⟩ := e
    show qJ YX11_many κ _ (qLy u, m, y) 0 0 152 [some (qR 0), some (qI w), some (qR 2)] [qI (q_pfx (m 18) (gHz m) (m 15 0).toNat : Nat)]
    exact qJ.iret hκ rfl rfl (by decide) (by decide) (⟨m, by unfold ansMany; rw [if_neg e9_0, if_neg e9_1, if_neg e9_2, if_neg e9_3, if_neg e9_4, if_neg e9_5, if_neg e9_6, if_neg e9_7, if_pos e9_8]; rfl, rfl, Or.inl rfl⟩)
  by_cases e9_9 : w = 9
  · refine qJ.tswIn hκ (tgt := 153) rfl (by omega) (by omega) (by omega) (by rw [e9_9]; rfl) rfl ?_
    refine qJ.run hκ 1 (pc' := 154) (ls' := [some (qR 0), some (qI w), some (qR 2)]) (st' := [qR 0]) rfl ?_
    refine qJ.callV (As := []) (rest := []) hκ rfl kX11_182 (c_freshUsage u m y hR hC hF) rfl rfl (by decide) rfl rfl (Nat.le_of_ble_eq_true rfl) (Nat.le_of_ble_eq_true rfl) (Nat.le_of_ble_eq_true rfl) (Or.inl (fun r h' e => by obtain ⟨rfl, mU, rfl, hU⟩ := e; rfl)) (fun r h' e => ?_)
    obtain ⟨rfl, mU, rfl, hU⟩ := e
    show qJ YX11_many κ _ (qLy u, mU, y) 0 0 157 [some (qR 0), some (qI w), some (qR 2)] [qR 24]
    refine qJ.callV (As := []) (rest := []) hκ rfl kX11_383 (c_usedSigns u mU y (uRep_r hR nWl hU.2.2)) rfl rfl (by decide) rfl rfl (Nat.le_of_ble_eq_true rfl) (Nat.le_of_ble_eq_true rfl) (Nat.le_of_ble_eq_true rfl) (Or.inl (fun r h' e => by obtain ⟨rfl, rfl⟩ := e; rfl)) (fun r h' e => ?_)
    obtain ⟨rfl, rfl⟩ := e
    show qJ YX11_many κ _ (qLy u, mU, y) 0 0 160 [some (qR 0), some (qI w), some (qR 2)] [qI (q_cnt (fun s => 0 < mU 25 s) 20 : Nat)]
    exact qJ.iret hκ rfl rfl (by decide) (by decide) (⟨mU, by unfold ansMany; rw [if_neg e9_0, if_neg e9_1, if_neg e9_2, if_neg e9_3, if_neg e9_4, if_neg e9_5, if_neg e9_6, if_neg e9_7, if_neg e9_8, if_pos e9_9]; congr 3; exact q_cnt_c 20 (fun s hs => by rw [(hU.2.2 s hs).1]), rfl, Or.inr hU⟩)
  refine qJ.tswOut hκ (tgt := 161) rfl (by omega) (by omega) rfl ?_
  refine qJ.run hκ 1 (pc' := 163) (ls' := [some (qR 0), some (qI w), some (qR 2)]) (st' := [qI (-2)]) rfl ?_
  exact qJ.iret hκ rfl rfl (by decide) (by decide) (⟨m, by unfold ansMany; rw [if_neg e9_0, if_neg e9_1, if_neg e9_2, if_neg e9_3, if_neg e9_4, if_neg e9_5, if_neg e9_6, if_neg e9_7, if_neg e9_8, if_neg e9_9], rfl, Or.inl rfl⟩)

set_option maxRecDepth 100000 in
theorem b_many (u : qU) (m y : qM) (w : Int) (hR : rC m) (hL : rL m) (hX : rXn m) (hl : rXl m) (hd8 : rA m) (h1 : qr w) {κ : qK} (hκ : qCx YX12_many 4 0 0 κ) : qJ YX12_many κ (qFin (fun r h => ∃ m', r = some (qI (ansMany m w)) ∧ h = (qLy u, m', y) ∧ keep kObs m' = keep kObs m) 0 0 κ) (qLy u, m, y) 0 0 5 [some (qR 77), some (qI w), none, none] [] := by
  have hR2 := hR
  obtain ⟨⟨⟨a0, a1, a2⟩, ⟨a3, a4, a5⟩, ⟨b0, b1, b2⟩, b3, b4, b5⟩, hW, hRW, hT, hRT, hS⟩ := hR2
  have hV : qr (m 83 0) := by omega
  have zr := gHz_r hR.1
  have ze := hz_eq hR.1
  have nWl := nW_le hR.1
  have nTl := nT_le hR.1
  have lrE : m 96 0 = m 12 0 := hL.1.1.2.2
  have lr := hL.1.1
  have l0 := hl.1
  have n0 := hX.1.1
  have n1 := hX.1.2
  have nl := nN_le hX
  have L115 : ∀ (n : Nat) (c : Int) (i : Int), (0 ≤ i) → (i ≤ m 2 0) → (c = min i (nW m : Int)) → (w = 7) → ((m 2 0 - i).toNat) < n → qJ YX12_many κ (qFin (fun r h => ∃ m', r = some (qI (ansMany m w)) ∧ h = (qLy u, m', y) ∧ keep kObs m' = keep kObs m) 0 0 κ) (qLy u, m, y) 0 0 115 [some (qR 77), some (qI w), some (qI c), some (qI i)] [] := by
    intro n
    induction n with
    | zero => intro c i _ _ _ _ hz0; omega
    | succ n ih115 =>
      intro c i v115_0 v115_1 v115_2 v115_3 v115_m
      refine qJ.run hκ 4 (pc' := 121) (ls' := [some (qR 77), some (qI w), some (qI c), some (qI i)]) (st' := [qI 0, qR 85, qI i]) rfl ?_
      refine qJ.ald hκ rfl rfl rfl (by decide) (by omega) ?_
      show qJ YX12_many κ _ (qLy u, m, y) 0 0 122 [some (qR 77), some (qI w), some (qI c), some (qI i)] [qI (m 85 0), qI i]
      refine qJ.icmp_ge hκ (tgt := 147) rfl rfl (by omega) (by omega) (fun c122 => ?_) (fun c122 => ?_)
      · show qJ YX12_many κ _ (qLy u, m, y) 0 0 147 [some (qR 77), some (qI w), some (qI c), some (qI i)] []
        refine qJ.run hκ 1 (pc' := 148) (ls' := [some (qR 77), some (qI w), some (qI c), some (qI i)]) (st' := [qI c]) rfl ?_
        exact qJ.iret hκ rfl rfl (by decide) (by decide) (⟨m, by unfold ansMany; rw [if_neg (by omega), if_neg (by omega), if_neg (by omega), if_neg (by omega), if_neg (by omega), if_neg (by omega), if_neg (by omega), if_pos (by omega)]; congr 2; omega, rfl, rfl⟩)
      · show qJ YX12_many κ _ (qLy u, m, y) 0 0 125 [some (qR 77), some (qI w), some (qI c), some (qI i)] []
        refine qJ.run hκ 3 (pc' := 128) (ls' := [some (qR 77), some (qI w), some (qI c), some (qI i)]) (st' := [qI i, qR 77, qI c]) rfl ?_
        refine qJ.callV (As := [qI i]) (rest := [qI c]) hκ rfl kX12_221 (m_there u m y i hR (by omega)) rfl rfl (by decide) rfl rfl (Nat.le_of_ble_eq_true rfl) (Nat.le_of_ble_eq_true rfl) (Nat.le_of_ble_eq_true rfl) (Or.inl (fun r h' e => by obtain ⟨z128, rfl, hz128, rfl⟩ := e; rfl)) (fun r h' e => ?_)
        obtain ⟨z128, rfl, hz128, rfl⟩ := e
        show qJ YX12_many κ _ (qLy u, m, y) 0 0 131 [some (qR 77), some (qI w), some (qI c), some (qI i)] [qI z128, qI c]
        refine qJ.if_eq hκ (tgt := 138) rfl rfl (by omega) (fun c131 => ?_) (fun c131 => ?_)
        · show qJ YX12_many κ _ (qLy u, m, y) 0 0 138 [some (qR 77), some (qI w), some (qI c), some (qI i)] [qI c]
          refine qJ.run hκ 5 (pc' := 115) (ls' := [some (qR 77), some (qI w), some (qI (c + 0)), some (qI (i + 1))]) (st' := []) rfl ?_
          exact ih115  (c + 0) (i + 1) (by omega) (by omega) (by omega) (by omega) (by omega)
        · show qJ YX12_many κ _ (qLy u, m, y) 0 0 134 [some (qR 77), some (qI w), some (qI c), some (qI i)] [qI c]
          refine qJ.run hκ 6 (pc' := 115) (ls' := [some (qR 77), some (qI w), some (qI (c + 1)), some (qI (i + 1))]) (st' := []) rfl ?_
          exact ih115  (c + 1) (i + 1) (by omega) (by omega) (by omega) (by omega) (by omega)
  have L151 : ∀ (n : Nat) (c : Int) (i : Int), (0 ≤ i) → (i ≤ m 15 0) → (c = min i (nN m : Int)) → (w = 8) → ((m 15 0 - i).toNat) < n → qJ YX12_many κ (qFin (fun r h => ∃ m', r = some (qI (ansMany m w)) ∧ h = (qLy u, m', y) ∧ keep kObs m' = keep kObs m) 0 0 κ) (qLy u, m, y) 0 0 151 [some (qR 77), some (qI w), some (qI c), some (qI i)] [] := by
    intro n
    induction n with
    | zero => intro c i _ _ _ _ hz0; omega
    | succ n ih151 =>
      intro c i v151_0 v151_1 v151_2 v151_3 v151_m
      refine qJ.run hκ 4 (pc' := 157) (ls' := [some (qR 77), some (qI w), some (qI c), some (qI i)]) (st' := [qI 0, qR 101, qI i]) rfl ?_
      refine qJ.ald hκ rfl rfl rfl (by decide) (by omega) ?_
      show qJ YX12_many κ _ (qLy u, m, y) 0 0 158 [some (qR 77), some (qI w), some (qI c), some (qI i)] [qI (m 101 0), qI i]
      refine qJ.icmp_ge hκ (tgt := 183) rfl rfl (by omega) (by omega) (fun c158 => ?_) (fun c158 => ?_)
      · show qJ YX12_many κ _ (qLy u, m, y) 0 0 183 [some (qR 77), some (qI w), some (qI c), some (qI i)] []
        refine qJ.run hκ 1 (pc' := 184) (ls' := [some (qR 77), some (qI w), some (qI c), some (qI i)]) (st' := [qI c]) rfl ?_
        exact qJ.iret hκ rfl rfl (by decide) (by decide) (⟨m, by unfold ansMany; rw [if_neg (by omega), if_neg (by omega), if_neg (by omega), if_neg (by omega), if_neg (by omega), if_neg (by omega), if_neg (by omega), if_neg (by omega), if_pos (by omega)]; congr 2; omega, rfl, rfl⟩)
      · show qJ YX12_many κ _ (qLy u, m, y) 0 0 161 [some (qR 77), some (qI w), some (qI c), some (qI i)] []
        refine qJ.run hκ 3 (pc' := 164) (ls' := [some (qR 77), some (qI w), some (qI c), some (qI i)]) (st' := [qI i, qR 77, qI c]) rfl ?_
        refine qJ.callV (As := [qI i]) (rest := [qI c]) hκ rfl kX12_352 (m_isName u m y i (show rXn m from hX) (show rA m from hd8) (by omega)) rfl rfl (by decide) rfl rfl (Nat.le_of_ble_eq_true rfl) (Nat.le_of_ble_eq_true rfl) (Nat.le_of_ble_eq_true rfl) (Or.inl (fun r h' e => by obtain ⟨z164, rfl, hz164, rfl⟩ := e; rfl)) (fun r h' e => ?_)
        obtain ⟨z164, rfl, hz164, rfl⟩ := e
        show qJ YX12_many κ _ (qLy u, m, y) 0 0 167 [some (qR 77), some (qI w), some (qI c), some (qI i)] [qI z164, qI c]
        refine qJ.if_eq hκ (tgt := 174) rfl rfl (by omega) (fun c167 => ?_) (fun c167 => ?_)
        · show qJ YX12_many κ _ (qLy u, m, y) 0 0 174 [some (qR 77), some (qI w), some (qI c), some (qI i)] [qI c]
          refine qJ.run hκ 5 (pc' := 151) (ls' := [some (qR 77), some (qI w), some (qI (c + 0)), some (qI (i + 1))]) (st' := []) rfl ?_
          exact ih151  (c + 0) (i + 1) (by omega) (by omega) (by omega) (by omega) (by omega)
        · show qJ YX12_many κ _ (qLy u, m, y) 0 0 170 [some (qR 77), some (qI w), some (qI c), some (qI i)] [qI c]
          refine qJ.run hκ 6 (pc' := 151) (ls' := [some (qR 77), some (qI w), some (qI (c + 1)), some (qI (i + 1))]) (st' := []) rfl ?_
          exact ih151  (c + 1) (i + 1) (by omega) (by omega) (by omega) (by omega) (by omega)
  have L187 : ∀ (n : Nat) (c : Int) (i : Int), (0 ≤ i) → (i ≤ 20) → (c = (q_cnt (fun s => 0 < uAll m (nW m) s) i.toNat : Nat)) → (w = 9) → ((20 - i).toNat) < n → qJ YX12_many κ (qFin (fun r h => ∃ m', r = some (qI (ansMany m w)) ∧ h = (qLy u, m', y) ∧ keep kObs m' = keep kObs m) 0 0 κ) (qLy u, m, y) 0 0 187 [some (qR 77), some (qI w), some (qI c), some (qI i)] [] := by
    intro n
    induction n with
    | zero => intro c i _ _ _ _ hz0; omega
    | succ n ih187 =>
      intro c i v187_0 v187_1 v187_2 v187_3 v187_m
      have cl := q_cnt_le (fun s => 0 < uAll m (nW m) s) i.toNat
      refine qJ.run hκ 2 (pc' := 190) (ls' := [some (qR 77), some (qI w), some (qI c), some (qI i)]) (st' := [qI 20, qI i]) rfl ?_
      refine qJ.icmp_ge hκ (tgt := 216) rfl rfl (by omega) (by omega) (fun c190 => ?_) (fun c190 => ?_)
      · show qJ YX12_many κ _ (qLy u, m, y) 0 0 216 [some (qR 77), some (qI w), some (qI c), some (qI i)] []
        refine qJ.run hκ 1 (pc' := 217) (ls' := [some (qR 77), some (qI w), some (qI c), some (qI i)]) (st' := [qI c]) rfl ?_
        exact qJ.iret hκ rfl rfl (by decide) (by decide) (⟨m, by unfold ansMany; rw [if_neg (by omega), if_neg (by omega), if_neg (by omega), if_neg (by omega), if_neg (by omega), if_neg (by omega), if_neg (by omega), if_neg (by omega), if_neg (by omega), if_pos (by omega)]; congr 2; rw [v187_2, show i = 20 by omega]; rfl, rfl, rfl⟩)
      · show qJ YX12_many κ _ (qLy u, m, y) 0 0 193 [some (qR 77), some (qI w), some (qI c), some (qI i)] []
        refine qJ.run hκ 4 (pc' := 197) (ls' := [some (qR 77), some (qI w), some (qI c), some (qI i)]) (st' := [qI 0, qI i, qR 77, qI c]) rfl ?_
        refine qJ.callV (As := [qI i, qI 0]) (rest := [qI c]) hκ rfl kX12_224 (m_useOf u m y i 0 hR (by omega) (by omega)) rfl rfl (by decide) rfl rfl (Nat.le_of_ble_eq_true rfl) (Nat.le_of_ble_eq_true rfl) (Nat.le_of_ble_eq_true rfl) (Or.inl (fun r h' e => by obtain ⟨rfl, rfl⟩ := e; rfl)) (fun r h' e => ?_)
        obtain ⟨rfl, rfl⟩ := e
        rw [uN_all (by omega)]
        show qJ YX12_many κ _ (qLy u, m, y) 0 0 200 [some (qR 77), some (qI w), some (qI c), some (qI i)] [qI (uAll m (nW m) i.toNat), qI c]
        have ul := uRep_r (n := nW m) hR nWl (fun s hs => ⟨rfl, rfl, rfl, rfl⟩) i.toNat (by omega)
        refine qJ.if_le hκ (tgt := 207) rfl rfl (by omega) (fun c200 => ?_) (fun c200 => ?_)
        · show qJ YX12_many κ _ (qLy u, m, y) 0 0 207 [some (qR 77), some (qI w), some (qI c), some (qI i)] [qI c]
          refine qJ.run hκ 5 (pc' := 187) (ls' := [some (qR 77), some (qI w), some (qI (c + 0)), some (qI (i + 1))]) (st' := []) rfl ?_
          exact ih187  (c + 0) (i + 1) (by omega) (by omega) (by rw [q_cnt_s v187_0, if_neg (by omega)]; omega) (by omega) (by omega)
        · show qJ YX12_many κ _ (qLy u, m, y) 0 0 203 [some (qR 77), some (qI w), some (qI c), some (qI i)] [qI c]
          refine qJ.run hκ 6 (pc' := 187) (ls' := [some (qR 77), some (qI w), some (qI (c + 1)), some (qI (i + 1))]) (st' := []) rfl ?_
          exact ih187  (c + 1) (i + 1) (by omega) (by omega) (by rw [q_cnt_s v187_0, if_pos (by omega)]; omega) (by omega) (by omega)
  refine qJ.run hκ 3 (pc' := 8) (ls' := [some (qR 77), some (qI w), some (qI 0), none]) (st' := [qI w]) rfl ?_
  by_cases e8_0 : w = 0
  · refine qJ.tswIn hκ (tgt := 64) rfl (by omega) (by omega) (by omega) (by rw [e8_0]; rfl) rfl ?_
    refine qJ.run hκ 3 (pc' := 69) (ls' := [some (qR 77), some (qI w), some (qI 0), none]) (st' := [qI 0, qR 85]) rfl ?_
    refine qJ.ald hκ rfl rfl rfl (by decide) (by omega) ?_
    show qJ YX12_many κ _ (qLy u, m, y) 0 0 70 [some (qR 77), some (qI w), some (qI 0), none] [qI (m 85 0)]
    exact qJ.iret hκ rfl rfl (by decide) (by decide) (⟨m, by unfold ansMany; rw [if_pos e8_0]; exact congrArg _ (congrArg _ b0), rfl, rfl⟩)
  by_cases e8_1 : w = 1
  · refine qJ.tswIn hκ (tgt := 71) rfl (by omega) (by omega) (by omega) (by rw [e8_1]; rfl) rfl ?_
    refine qJ.run hκ 3 (pc' := 76) (ls' := [some (qR 77), some (qI w), some (qI 0), none]) (st' := [qI 0, qR 92]) rfl ?_
    refine qJ.ald hκ rfl rfl rfl (by decide) (by omega) ?_
    show qJ YX12_many κ _ (qLy u, m, y) 0 0 77 [some (qR 77), some (qI w), some (qI 0), none] [qI (m 92 0)]
    exact qJ.iret hκ rfl rfl (by decide) (by decide) (⟨m, by unfold ansMany; rw [if_neg e8_0, if_pos e8_1]; exact congrArg _ (congrArg _ b2), rfl, rfl⟩)
  by_cases e8_2 : w = 2
  · refine qJ.tswIn hκ (tgt := 78) rfl (by omega) (by omega) (by omega) (by rw [e8_2]; rfl) rfl ?_
    refine qJ.run hκ 3 (pc' := 83) (ls' := [some (qR 77), some (qI w), some (qI 0), none]) (st' := [qI 0, qR 96]) rfl ?_
    refine qJ.ald hκ rfl rfl rfl (by decide) (by omega) ?_
    show qJ YX12_many κ _ (qLy u, m, y) 0 0 84 [some (qR 77), some (qI w), some (qI 0), none] [qI (m 96 0)]
    exact qJ.iret hκ rfl rfl (by decide) (by decide) (⟨m, by unfold ansMany; rw [if_neg e8_0, if_neg e8_1, if_pos e8_2]; exact congrArg _ (congrArg _ lrE), rfl, rfl⟩)
  by_cases e8_3 : w = 3
  · refine qJ.tswIn hκ (tgt := 85) rfl (by omega) (by omega) (by omega) (by rw [e8_3]; rfl) rfl ?_
    refine qJ.run hκ 3 (pc' := 90) (ls' := [some (qR 77), some (qI w), some (qI 0), none]) (st' := [qI 0, qR 101]) rfl ?_
    refine qJ.ald hκ rfl rfl rfl (by decide) (by omega) ?_
    show qJ YX12_many κ _ (qLy u, m, y) 0 0 91 [some (qR 77), some (qI w), some (qI 0), none] [qI (m 101 0)]
    exact qJ.iret hκ rfl rfl (by decide) (by decide) (⟨m, by unfold ansMany; rw [if_neg e8_0, if_neg e8_1, if_neg e8_2, if_pos e8_3]; exact congrArg _ (congrArg _ hX.1.2), rfl, rfl⟩)
  by_cases e8_4 : w = 4
  · refine qJ.tswIn hκ (tgt := 92) rfl (by omega) (by omega) (by omega) (by rw [e8_4]; rfl) rfl ?_
    refine qJ.run hκ 3 (pc' := 97) (ls' := [some (qR 77), some (qI w), some (qI 0), none]) (st' := [qI 0, qR 105]) rfl ?_
    refine qJ.ald hκ rfl rfl rfl (by decide) (by omega) ?_
    show qJ YX12_many κ _ (qLy u, m, y) 0 0 98 [some (qR 77), some (qI w), some (qI 0), none] [qI (m 105 0)]
    exact qJ.iret hκ rfl rfl (by decide) (by decide) (⟨m, by unfold ansMany; rw [if_neg e8_0, if_neg e8_1, if_neg e8_2, if_neg e8_3, if_pos e8_4]; exact congrArg _ (congrArg _ hl.1.2), rfl, rfl⟩)
  by_cases e8_5 : w = 5
  · refine qJ.tswIn hκ (tgt := 99) rfl (by omega) (by omega) (by omega) (by rw [e8_5]; rfl) rfl ?_
    refine qJ.run hκ 3 (pc' := 104) (ls' := [some (qR 77), some (qI w), some (qI 0), none]) (st' := [qI 0, qR 82]) rfl ?_
    refine qJ.ald hκ rfl rfl rfl (by decide) (by omega) ?_
    show qJ YX12_many κ _ (qLy u, m, y) 0 0 105 [some (qR 77), some (qI w), some (qI 0), none] [qI (m 82 0)]
    exact qJ.iret hκ rfl rfl (by decide) (by decide) (⟨m, by unfold ansMany; rw [if_neg e8_0, if_neg e8_1, if_neg e8_2, if_neg e8_3, if_neg e8_4, if_pos e8_5]; exact congrArg _ (congrArg _ b3), rfl, rfl⟩)
  by_cases e8_6 : w = 6
  · refine qJ.tswIn hκ (tgt := 106) rfl (by omega) (by omega) (by omega) (by rw [e8_6]; rfl) rfl ?_
    refine qJ.run hκ 3 (pc' := 111) (ls' := [some (qR 77), some (qI w), some (qI 0), none]) (st' := [qI 0, qR 83]) rfl ?_
    refine qJ.ald hκ rfl rfl rfl (by decide) (by omega) ?_
    show qJ YX12_many κ _ (qLy u, m, y) 0 0 112 [some (qR 77), some (qI w), some (qI 0), none] [qI (m 83 0)]
    exact qJ.iret hκ rfl rfl (by decide) (by decide) (⟨m, by unfold ansMany; rw [if_neg e8_0, if_neg e8_1, if_neg e8_2, if_neg e8_3, if_neg e8_4, if_neg e8_5, if_pos e8_6]; exact congrArg _ (congrArg _ b4), rfl, rfl⟩)
  by_cases e8_7 : w = 7
  · refine qJ.tswIn hκ (tgt := 113) rfl (by omega) (by omega) (by omega) (by rw [e8_7]; rfl) rfl ?_
    refine qJ.run hκ 2 (pc' := 115) (ls' := [some (qR 77), some (qI w), some (qI 0), some (qI 0)]) (st' := []) rfl ?_
    exact L115 62 0 0 (by omega) (by omega) (by omega) (by omega) (by omega)
  by_cases e8_8 : w = 8
  · refine qJ.tswIn hκ (tgt := 149) rfl (by omega) (by omega) (by omega) (by rw [e8_8]; rfl) rfl ?_
    refine qJ.run hκ 2 (pc' := 151) (ls' := [some (qR 77), some (qI w), some (qI 0), some (qI 0)]) (st' := []) rfl ?_
    exact L151 7 0 0 (by omega) (by omega) (by omega) (by omega) (by omega)
  by_cases e8_9 : w = 9
  · refine qJ.tswIn hκ (tgt := 185) rfl (by omega) (by omega) (by omega) (by rw [e8_9]; rfl) rfl ?_
    refine qJ.run hκ 2 (pc' := 187) (ls' := [some (qR 77), some (qI w), some (qI 0), some (qI 0)]) (st' := []) rfl ?_
    exact L187 22 0 0 (by omega) (by omega) (rfl) (by omega) (by omega)
  refine qJ.tswOut hκ (tgt := 218) rfl (by omega) (by omega) rfl ?_
  refine qJ.run hκ 1 (pc' := 220) (ls' := [some (qR 77), some (qI w), some (qI 0), none]) (st' := [qI (-2)]) rfl ?_
  exact qJ.iret hκ rfl rfl (by decide) (by decide) (⟨m, by unfold ansMany; rw [if_neg e8_0, if_neg e8_1, if_neg e8_2, if_neg e8_3, if_neg e8_4, if_neg e8_5, if_neg e8_6, if_neg e8_7, if_neg e8_8, if_neg e8_9], rfl, rfl⟩)
set_option maxRecDepth 100000 in
theorem w_many (u : qU) (m y : qM) (w : Int) (hR : rC m) (hL : rL m) (hX : rXn m) (hl : rXl m) (hd8 : rA m) (h1 : qr w) : qCt YX12_many 4 0 0 [qR 77, qI w] (qLy u, m, y) (fun r h => ∃ m', r = some (qI (ansMany (q_up m 77 0 0) w)) ∧ h = (qLy u, m', y) ∧ keep kObs m' = keep kObs (q_up m 77 0 0)) := by
  refine qCt.intro okX12_many (Nat.le_of_ble_eq_true rfl) (fun κ hκ => ?_)
  show qJ YX12_many κ _ (qLy u, m, y) 0 0 0 [some (qR 77), some (qI w), none, none] []
  refine qJ.run hκ 2 (pc' := 2) (ls' := [some (qR 77), some (qI w), none, none]) (st' := [qI 0, qR 77]) rfl ?_
  refine qJ.putI hκ rfl rfl rfl rfl (Or.inl rfl) ?_
  show qJ YX12_many κ _ (qLy u, (q_up m 77 0 0), y) 0 0 5 [some (qR 77), some (qI w), none, none] []
  exact b_many u (q_up m 77 0 0) y w (show rC (q_up m 77 0 0) from hR) (show rL (q_up m 77 0 0) from hL) (show rXn (q_up m 77 0 0) from hX) (show rXl (q_up m 77 0 0) from hl) (show rA (q_up m 77 0 0) from hd8) h1 hκ
theorem m_many (u : qU) (m y : qM) (w : Int) (hR : rC m) (hL : rL m) (hX : rXn m) (hl : rXl m) (hd8 : rA m) (h1 : qr w) : qCt YX12_many 4 0 0 [qR 77, qI w] (qLy u, m, y) (fun r h => ∃ m', r = some (qI (ansMany m w)) ∧ h = (qLy u, m', y) ∧ keep kObs m' = keep kObs m) := by
  refine (w_many u m y w hR hL hX hl hd8 h1).weak ?_
  rintro r h ⟨m', e1, e2, e3⟩
  exact ⟨m', by rw [e1, ansMany_o (keep_up (by rfl))], e2, e3.trans (keep_up (by rfl))⟩

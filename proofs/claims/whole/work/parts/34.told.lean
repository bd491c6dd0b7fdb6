/-! printed by p34.py: about, telling; site, day, view, tell -/
/-- an int beyond the range is the one that it wraps to -/
theorem qJ.wI {Y : qY} {κ : qK} {fin : State → Prop} {h : qH} {cs sl pc : Nat} {ls : List (Option qV)} {st : List qV} {z z' : Int} (hz : Int32.ofInt z = Int32.ofInt z') (k : qJ Y κ fin h cs sl pc ls (qI z' :: st)) : qJ Y κ fin h cs sl pc ls (qI z :: st) := by
  obtain ⟨p, l, e, R, s, m, args, below, meth, c, D, tc, A, φ0, n0⟩ := κ
  intro H locs φ lc hP hD hS hag hn hl hll
  have := k H locs φ lc hP hD hS hag hn hl hll
  show W p l e R s m args below meth c H locs cs sl fin (F0 m pc lc (.int (Int32.ofInt z) :: st.map (qc φ)))
  rw [hz]
  exact this
theorem q_wr (z : Int) : Int32.ofInt z = Int32.ofInt (z + 4294967296) := by
  rw [Int32.ofInt_add, show Int32.ofInt 4294967296 = 0 from by decide, Int32.add_zero]
theorem gC_k {m : qM} (hR : rC m) {w : Int} (h0 : 0 ≤ w) : ∀ n : Nat, (n : Int) ≤ m 2 2 → gC m w n = kst m (fun _ => -1) n w.toNat
  | 0, _ => rfl
  | n + 1, hn => by
    have ih := gC_k hR h0 n (by omega)
    have t := tl_at hR.2.2.2.1 (t := n) (by omega)
    show gC m w (n + 1) = q_fu (kst m (fun _ => -1) n) (m 9 n).toNat (m 10 n) w.toNat
    unfold gC at ih ⊢
    have e : q_lst (fun k => m 9 k = w) (n + 1) = if m 9 n = w then (n : Int) else q_lst (fun k => m 9 k = w) n := rfl
    by_cases z : m 9 n = w
    · rw [if_pos z] at e
      rw [e, if_neg (by omega), z, q_fu_eq, show ((n : Int)).toNat = n by omega]
    · rw [if_neg z] at e
      rw [e, ih, q_fu_ne (by omega)]
def ansAb (m : qM) (w k : Int) : Int := if 0 ≤ w ∧ w < m 2 0 then (if k = 0 then m 4 w.toNat else if k = 1 then m 6 w.toNat else if k = 2 then m 7 w.toNat else if k = 3 then m 8 w.toNat else if k = 4 then kst m (fun _ => -1) (nT m) w.toNat else if 10 ≤ k ∧ k - 10 < m 4 w.toNat then m 3 (w * 5 + (k - 10)).toNat else -2) else -2
def ansTe (m : qM) (k w : Int) : Int := if (0 ≤ k ∧ k < m 2 2) ∧ 0 ≤ w ∧ w ≤ 2 then (if w = 0 then m 9 k.toNat else if w = 1 then m 10 k.toNat else m 11 k.toNat) else -2
theorem ansAb_o {m m' : qM} (h : keep kObs m' = keep kObs m) (w k : Int) : ansAb m' w k = ansAb m w k := by
  have e4 := ro4 h
  have e3 := ro3 h
  have e6 := ro6 h
  have e7 : m' 7 = m 7 := congrFun h 7
  have e8 : m' 8 = m 8 := congrFun h 8
  have e2 : m' 2 = m 2 := congrFun h 2
  unfold ansAb
  rw [nT_o h, kst_c (ro9 h) (ro10 h), e2, e3, e4, e6, e7, e8]

set_option maxRecDepth 100000 in
theorem x_about (u : qU) (m y : qM) (w k : Int) (hR : rC m) (h1 : qr w) (h2 : qr k) : qCt YX11_about 3 0 0 [qR 0, qI w, qI k] (qLy u, m, y) (fun r h => r = some (qI (ansAb m w k)) ∧ h = (qLy u, m, y)) := by
  refine qCt.intro okX11_about (Nat.le_of_ble_eq_true rfl) (fun κ hκ => ?_)
  have hR2 := hR
  obtain ⟨⟨⟨a0, a1, a2⟩, ⟨a3, a4, a5⟩, ⟨b0, b1, b2⟩, b3, b4, b5⟩, hW, hRW, hT, hRT, hS⟩ := hR2
  have hV : qr (m 1 9) := by omega
  have zr := gHz_r hR.1
  have nWl := nW_le hR.1
  have nTl := nT_le hR.1
  have hS7 : ∀ k : Int, 0 ≤ k → k < m 2 0 → qr (m 7 k.toNat) := fun k k0 k1 => by have := (hRW k k0 k1).2.1.2.1; omega
  have hS11 : ∀ k : Int, 0 ≤ k → k < m 2 2 → qr (m 11 k.toNat) := fun k k0 k1 => by have := (hRT k k0 k1).2.1; omega
  have hS9 : ∀ k : Int, 0 ≤ k → k < m 2 2 → qr (m 9 k.toNat) := fun k k0 k1 => by have := (hT k k0 k1).2.1; omega
  have hcn : (q_cnt (fun j => m 10 j = -1) (m 2 2).toNat : Nat) ≤ m 2 0 := Int.le_of_eq hS.2.2.1
  have hh := q_ite01 (0 ≤ w ∧ w < m 2 0)
  show qJ YX11_about κ _ (qLy u, m, y) 0 0 0 [some (qR 0), some (qI w), some (qI k), none, none] []
  refine qJ.run hκ 6 (pc' := 10) (ls' := [some (qR 0), some (qI w), some (qI k), some (qR 2), none]) (st' := [qI w, qR 2]) rfl ?_
  refine qJ.callV (As := [qI w]) (rest := []) hκ rfl kX11_117 (c_has u m y w (by omega) (by omega)) rfl rfl (by decide) rfl rfl (Nat.le_of_ble_eq_true rfl) (Nat.le_of_ble_eq_true rfl) (Nat.le_of_ble_eq_true rfl) (Or.inl (fun r h' e => by obtain ⟨rfl, rfl⟩ := e; rfl)) (fun r h' e => ?_)
  obtain ⟨rfl, rfl⟩ := e
  show qJ YX11_about κ _ (qLy u, m, y) 0 0 13 [some (qR 0), some (qI w), some (qI k), some (qR 2), none] [qI (if 0 ≤ w ∧ w < m 2 0 then 1 else 0)]
  refine qJ.if_ne hκ (tgt := 19) rfl rfl (by omega) (fun c13 => ?_) (fun c13 => ?_)
  · show qJ YX11_about κ _ (qLy u, m, y) 0 0 19 [some (qR 0), some (qI w), some (qI k), some (qR 2), none] []
    have sr : 0 ≤ w ∧ w < m 2 0 := by by_cases z : 0 ≤ w ∧ w < m 2 0; exact z; rw [if_neg z] at c13; exact absurd rfl c13
    have w1 := hW w sr.1 sr.2
    refine qJ.run hκ 1 (pc' := 20) (ls' := [some (qR 0), some (qI w), some (qI k), some (qR 2), none]) (st' := [qI k]) rfl ?_
    by_cases e20_0 : k = 0
    · refine qJ.tswIn hκ (tgt := 56) rfl (by omega) (by omega) (by omega) (by rw [e20_0]; rfl) rfl ?_
      refine qJ.run hκ 3 (pc' := 61) (ls' := [some (qR 0), some (qI w), some (qI k), some (qR 2), none]) (st' := [qI w, qR 4]) rfl ?_
      refine qJ.ald hκ rfl rfl rfl (by decide) (by omega) ?_
      show qJ YX11_about κ _ (qLy u, m, y) 0 0 62 [some (qR 0), some (qI w), some (qI k), some (qR 2), none] [qI (m 4 w.toNat)]
      exact qJ.iret hκ rfl rfl (by decide) (by decide) (⟨by unfold ansAb; rw [if_pos (by omega)]; rw [if_pos e20_0], rfl⟩)
    by_cases e20_1 : k = 1
    · refine qJ.tswIn hκ (tgt := 63) rfl (by omega) (by omega) (by omega) (by rw [e20_1]; rfl) rfl ?_
      refine qJ.run hκ 3 (pc' := 68) (ls' := [some (qR 0), some (qI w), some (qI k), some (qR 2), none]) (st' := [qI w, qR 6]) rfl ?_
      refine qJ.ald hκ rfl rfl rfl (by decide) (by omega) ?_
      show qJ YX11_about κ _ (qLy u, m, y) 0 0 69 [some (qR 0), some (qI w), some (qI k), some (qR 2), none] [qI (m 6 w.toNat)]
      exact qJ.iret hκ rfl rfl (by decide) (by decide) (⟨by unfold ansAb; rw [if_pos (by omega)]; rw [if_neg e20_0, if_pos e20_1], rfl⟩)
    by_cases e20_2 : k = 2
    · refine qJ.tswIn hκ (tgt := 70) rfl (by omega) (by omega) (by omega) (by rw [e20_2]; rfl) rfl ?_
      refine qJ.run hκ 3 (pc' := 75) (ls' := [some (qR 0), some (qI w), some (qI k), some (qR 2), none]) (st' := [qI w, qR 7]) rfl ?_
      refine qJ.ald hκ rfl rfl rfl (by decide) (by omega) ?_
      show qJ YX11_about κ _ (qLy u, m, y) 0 0 76 [some (qR 0), some (qI w), some (qI k), some (qR 2), none] [qI (m 7 w.toNat)]
      exact qJ.iret hκ rfl rfl (by decide) (by decide) (⟨by unfold ansAb; rw [if_pos (by omega)]; rw [if_neg e20_0, if_neg e20_1, if_pos e20_2], rfl⟩)
    by_cases e20_3 : k = 3
    · refine qJ.tswIn hκ (tgt := 77) rfl (by omega) (by omega) (by omega) (by rw [e20_3]; rfl) rfl ?_
      refine qJ.run hκ 3 (pc' := 82) (ls' := [some (qR 0), some (qI w), some (qI k), some (qR 2), none]) (st' := [qI w, qR 8]) rfl ?_
      refine qJ.ald hκ rfl rfl rfl (by decide) (by omega) ?_
      show qJ YX11_about κ _ (qLy u, m, y) 0 0 83 [some (qR 0), some (qI w), some (qI k), some (qR 2), none] [qI (m 8 w.toNat)]
      exact qJ.iret hκ rfl rfl (by decide) (by decide) (⟨by unfold ansAb; rw [if_pos (by omega)]; rw [if_neg e20_0, if_neg e20_1, if_neg e20_2, if_pos e20_3], rfl⟩)
    by_cases e20_4 : k = 4
    · refine qJ.tswIn hκ (tgt := 84) rfl (by omega) (by omega) (by omega) (by rw [e20_4]; rfl) rfl ?_
      refine qJ.run hκ 4 (pc' := 90) (ls' := [some (qR 0), some (qI w), some (qI k), some (qR 2), none]) (st' := [qR 1, qI w, qR 2]) rfl ?_
      refine qJ.callV (As := []) (rest := [qI w, qR 2]) hκ rfl kX11_140 (c_horizon u m y hV) rfl rfl (by decide) rfl rfl (Nat.le_of_ble_eq_true rfl) (Nat.le_of_ble_eq_true rfl) (Nat.le_of_ble_eq_true rfl) (Or.inl (fun r h' e => by obtain ⟨rfl, rfl⟩ := e; rfl)) (fun r h' e => ?_)
      obtain ⟨rfl, rfl⟩ := e
      show qJ YX11_about κ _ (qLy u, m, y) 0 0 93 [some (qR 0), some (qI w), some (qI k), some (qR 2), none] [qI (gHz m), qI w, qR 2]
      refine qJ.callV (As := [qI w, qI (gHz m)]) (rest := []) hκ rfl kX11_143 (c_caseOf u m y w (gHz m) (nT m) rfl a2 (by omega) h1 hS11 hS9) rfl rfl (by decide) rfl rfl (Nat.le_of_ble_eq_true rfl) (Nat.le_of_ble_eq_true rfl) (Nat.le_of_ble_eq_true rfl) (Or.inl (fun r h' e => by obtain ⟨rfl, rfl⟩ := e; rfl)) (fun r h' e => ?_)
      obtain ⟨rfl, rfl⟩ := e
      show qJ YX11_about κ _ (qLy u, m, y) 0 0 96 [some (qR 0), some (qI w), some (qI k), some (qR 2), none] [qI (gC m w (nT m))]
      exact qJ.iret hκ rfl rfl (by decide) (by decide) (⟨by unfold ansAb; rw [if_pos (by omega)]; rw [if_neg e20_0, if_neg e20_1, if_neg e20_2, if_neg e20_3, if_pos e20_4, gC_k hR sr.1 _ nTl], rfl⟩)
    refine qJ.tswOut hκ (tgt := 97) rfl (by omega) (by omega) rfl ?_
    refine qJ.run hκ 2 (pc' := 100) (ls' := [some (qR 0), some (qI w), some (qI k), some (qR 2), none]) (st' := [qI 10, qI k]) rfl ?_
    refine qJ.icmp_ge hκ (tgt := 107) rfl rfl (by omega) (by omega) (fun c100 => ?_) (fun c100 => ?_)
    · show qJ YX11_about κ _ (qLy u, m, y) 0 0 107 [some (qR 0), some (qI w), some (qI k), some (qR 2), none] []
      refine qJ.run hκ 8 (pc' := 120) (ls' := [some (qR 0), some (qI w), some (qI k), some (qR 2), some (qI (k - 10))]) (st' := [qI w, qR 4, qI (k - 10)]) rfl ?_
      refine qJ.ald hκ rfl rfl rfl (by decide) (by omega) ?_
      show qJ YX11_about κ _ (qLy u, m, y) 0 0 121 [some (qR 0), some (qI w), some (qI k), some (qR 2), some (qI (k - 10))] [qI (m 4 w.toNat), qI (k - 10)]
      refine qJ.icmp_ge hκ (tgt := 134) rfl rfl (by omega) (by omega) (fun c121 => ?_) (fun c121 => ?_)
      · show qJ YX11_about κ _ (qLy u, m, y) 0 0 134 [some (qR 0), some (qI w), some (qI k), some (qR 2), some (qI (k - 10))] []
        refine qJ.run hκ 1 (pc' := 136) (ls' := [some (qR 0), some (qI w), some (qI k), some (qR 2), some (qI (k - 10))]) (st' := [qI (-2)]) rfl ?_
        exact qJ.iret hκ rfl rfl (by decide) (by decide) (⟨by unfold ansAb; rw [if_pos (by omega)]; rw [if_neg e20_0, if_neg e20_1, if_neg e20_2, if_neg e20_3, if_neg e20_4, if_neg (by omega)], rfl⟩)
      · show qJ YX11_about κ _ (qLy u, m, y) 0 0 124 [some (qR 0), some (qI w), some (qI k), some (qR 2), some (qI (k - 10))] []
        refine qJ.run hκ 3 (pc' := 128) (ls' := [some (qR 0), some (qI w), some (qI k), some (qR 2), some (qI (k - 10))]) (st' := [qI (k - 10), qI w, qR 2]) rfl ?_
        refine qJ.callV (As := [qI w, qI (k - 10)]) (rest := []) hκ rfl kX11_147 (c_signAt u m y w (k - 10) (by omega)) rfl rfl (by decide) rfl rfl (Nat.le_of_ble_eq_true rfl) (Nat.le_of_ble_eq_true rfl) (Nat.le_of_ble_eq_true rfl) (Or.inl (fun r h' e => by obtain ⟨rfl, rfl⟩ := e; rfl)) (fun r h' e => ?_)
        obtain ⟨rfl, rfl⟩ := e
        show qJ YX11_about κ _ (qLy u, m, y) 0 0 131 [some (qR 0), some (qI w), some (qI k), some (qR 2), some (qI (k - 10))] [qI (m 3 ((w * 5 + (k - 10)).toNat))]
        refine qJ.run hκ 1 (pc' := 136) (ls' := [some (qR 0), some (qI w), some (qI k), some (qR 2), some (qI (k - 10))]) (st' := [qI (m 3 ((w * 5 + (k - 10)).toNat))]) rfl ?_
        exact qJ.iret hκ rfl rfl (by decide) (by decide) (⟨by unfold ansAb; rw [if_pos (by omega)]; rw [if_neg e20_0, if_neg e20_1, if_neg e20_2, if_neg e20_3, if_neg e20_4, if_pos (by omega)], rfl⟩)
    · show qJ YX11_about κ _ (qLy u, m, y) 0 0 103 [some (qR 0), some (qI w), some (qI k), some (qR 2), none] []
      refine qJ.run hκ 7 (pc' := 120) (ls' := [some (qR 0), some (qI w), some (qI k), some (qR 2), some (qI 5)]) (st' := [qI w, qR 4, qI 5]) rfl ?_
      refine qJ.ald hκ rfl rfl rfl (by decide) (by omega) ?_
      show qJ YX11_about κ _ (qLy u, m, y) 0 0 121 [some (qR 0), some (qI w), some (qI k), some (qR 2), some (qI 5)] [qI (m 4 w.toNat), qI 5]
      refine qJ.icmp_ge hκ (tgt := 134) rfl rfl (by omega) (by omega) (fun c121 => ?_) (fun c121 => ?_)
      · show qJ YX11_about κ _ (qLy u, m, y) 0 0 134 [some (qR 0), some (qI w), some (qI k), some (qR 2), some (qI 5)] []
        refine qJ.run hκ 1 (pc' := 136) (ls' := [some (qR 0), some (qI w), some (qI k), some (qR 2), some (qI 5)]) (st' := [qI (-2)]) rfl ?_
        exact qJ.iret hκ rfl rfl (by decide) (by decide) (⟨by unfold ansAb; rw [if_pos (by omega)]; rw [if_neg e20_0, if_neg e20_1, if_neg e20_2, if_neg e20_3, if_neg e20_4, if_neg (by omega)], rfl⟩)
      · show qJ YX11_about κ _ (qLy u, m, y) 0 0 124 [some (qR 0), some (qI w), some (qI k), some (qR 2), some (qI 5)] []
        refine qJ.run hκ 3 (pc' := 128) (ls' := [some (qR 0), some (qI w), some (qI k), some (qR 2), some (qI 5)]) (st' := [qI 5, qI w, qR 2]) rfl ?_
        refine qJ.callV (As := [qI w, qI 5]) (rest := []) hκ rfl kX11_147 (c_signAt u m y w 5 (by omega)) rfl rfl (by decide) rfl rfl (Nat.le_of_ble_eq_true rfl) (Nat.le_of_ble_eq_true rfl) (Nat.le_of_ble_eq_true rfl) (Or.inl (fun r h' e => by obtain ⟨rfl, rfl⟩ := e; rfl)) (fun r h' e => ?_)
        obtain ⟨rfl, rfl⟩ := e
        show qJ YX11_about κ _ (qLy u, m, y) 0 0 131 [some (qR 0), some (qI w), some (qI k), some (qR 2), some (qI 5)] [qI (m 3 ((w * 5 + 5).toNat))]
        refine qJ.run hκ 1 (pc' := 136) (ls' := [some (qR 0), some (qI w), some (qI k), some (qR 2), some (qI 5)]) (st' := [qI (m 3 ((w * 5 + 5).toNat))]) rfl ?_
        exact qJ.iret hκ rfl rfl (by decide) (by decide) ((by exfalso; omega))
  · show qJ YX11_about κ _ (qLy u, m, y) 0 0 16 [some (qR 0), some (qI w), some (qI k), some (qR 2), none] []
    refine qJ.run hκ 1 (pc' := 18) (ls' := [some (qR 0), some (qI w), some (qI k), some (qR 2), none]) (st' := [qI (-2)]) rfl ?_
    exact qJ.iret hκ rfl rfl (by decide) (by decide) (⟨by unfold ansAb; rw [if_neg (fun z => by rw [if_pos z] at c13; exact absurd c13 (by decide))], rfl⟩)

set_option maxRecDepth 100000 in
theorem b_about (u : qU) (m y : qM) (w k : Int) (hR : rC m) (h1 : qr w) (h2 : qr k) {κ : qK} (hκ : qCx YX12_about 3 0 0 κ) : qJ YX12_about κ (qFin (fun r h => ∃ m', r = some (qI (ansAb m w k)) ∧ h = (qLy u, m', y) ∧ keep kObs m' = keep kObs m) 0 0 κ) (qLy u, m, y) 0 0 5 [some (qR 77), some (qI w), some (qI k)] [] := by
  have hR2 := hR
  obtain ⟨⟨⟨a0, a1, a2⟩, ⟨a3, a4, a5⟩, ⟨b0, b1, b2⟩, b3, b4, b5⟩, hW, hRW, hT, hRT, hS⟩ := hR2
  have hV : qr (m 83 0) := by omega
  have zr := gHz_r hR.1
  have ze := hz_eq hR.1
  have nWl := nW_le hR.1
  have nTl := nT_le hR.1
  refine qJ.run hκ 5 (pc' := 12) (ls' := [some (qR 77), some (qI w), some (qI k)]) (st' := [qI 0, qR 85, qI 0, qI w]) rfl ?_
  refine qJ.ald hκ rfl rfl rfl (by decide) (by omega) ?_
  show qJ YX12_about κ _ (qLy u, m, y) 0 0 13 [some (qR 77), some (qI w), some (qI k)] [qI (m 85 0), qI 0, qI w]
  refine qJ.run hκ 2 (pc' := 15) (ls' := [some (qR 77), some (qI w), some (qI k)]) (st' := [qI ((m 85 0) - 1), qI 0, qI w]) rfl ?_
  refine qJ.callS (As := [qI w, qI 0, qI ((m 85 0) - 1)]) (rest := []) hκ rfl kX12_167 (c_in u m y w 0 ((m 85 0) - 1) (by omega) (by omega) (by omega)) (by decide) rfl rfl (Nat.le_of_ble_eq_true rfl) (Nat.le_of_ble_eq_true rfl) (Nat.le_of_ble_eq_true rfl) (Or.inl (fun r h' e => by obtain ⟨z15, rfl, hz15, rfl⟩ := e; rfl)) (fun r h' e => ?_)
  obtain ⟨z15, rfl, hz15, rfl⟩ := e
  show qJ YX12_about κ _ (qLy u, m, y) 0 0 18 [some (qR 77), some (qI w), some (qI k)] [qI z15]
  refine qJ.if_ne hκ (tgt := 24) rfl rfl (by omega) (fun c18 => ?_) (fun c18 => ?_)
  · show qJ YX12_about κ _ (qLy u, m, y) 0 0 24 [some (qR 77), some (qI w), some (qI k)] []
    have sr : 0 ≤ w ∧ w < m 2 0 := by omega
    have w1 := hW w sr.1 sr.2
    have w2 := hRW w sr.1 sr.2
    have w3 := w2.1.1
    have w4 := w2.2.1.2.2
    refine qJ.run hκ 1 (pc' := 25) (ls' := [some (qR 77), some (qI w), some (qI k)]) (st' := [qI k]) rfl ?_
    by_cases e25_0 : k = 0
    · refine qJ.tswIn hκ (tgt := 60) rfl (by omega) (by omega) (by omega) (by rw [e25_0]; rfl) rfl ?_
      refine qJ.run hκ 3 (pc' := 65) (ls' := [some (qR 77), some (qI w), some (qI k)]) (st' := [qI w, qR 88]) rfl ?_
      refine qJ.ald hκ rfl rfl rfl (by decide) (by omega) ?_
      show qJ YX12_about κ _ (qLy u, m, y) 0 0 66 [some (qR 77), some (qI w), some (qI k)] [qI (m 88 w.toNat)]
      exact qJ.iret hκ rfl rfl (by decide) (by decide) (⟨m, by unfold ansAb; rw [if_pos (by omega)]; rw [if_pos e25_0, w3], rfl, rfl⟩)
    by_cases e25_1 : k = 1
    · refine qJ.tswIn hκ (tgt := 67) rfl (by omega) (by omega) (by omega) (by rw [e25_1]; rfl) rfl ?_
      refine qJ.run hκ 3 (pc' := 72) (ls' := [some (qR 77), some (qI w), some (qI k)]) (st' := [qI w, qR 89]) rfl ?_
      refine qJ.ald hκ rfl rfl rfl (by decide) (by omega) ?_
      show qJ YX12_about κ _ (qLy u, m, y) 0 0 73 [some (qR 77), some (qI w), some (qI k)] [qI (m 89 w.toNat)]
      exact qJ.iret hκ rfl rfl (by decide) (by decide) (⟨m, by unfold ansAb; rw [if_pos (by omega)]; rw [if_neg e25_0, if_pos e25_1, w2.1.2.1], rfl, rfl⟩)
    by_cases e25_2 : k = 2
    · refine qJ.tswIn hκ (tgt := 74) rfl (by omega) (by omega) (by omega) (by rw [e25_2]; rfl) rfl ?_
      refine qJ.run hκ 3 (pc' := 79) (ls' := [some (qR 77), some (qI w), some (qI k)]) (st' := [qI w, qR 90]) rfl ?_
      refine qJ.ald hκ rfl rfl rfl (by decide) (by omega) ?_
      show qJ YX12_about κ _ (qLy u, m, y) 0 0 80 [some (qR 77), some (qI w), some (qI k)] [qI (m 90 w.toNat)]
      exact qJ.iret hκ rfl rfl (by decide) (by decide) (⟨m, by unfold ansAb; rw [if_pos (by omega)]; rw [if_neg e25_0, if_neg e25_1, if_pos e25_2, w2.1.2.2.1], rfl, rfl⟩)
    by_cases e25_3 : k = 3
    · refine qJ.tswIn hκ (tgt := 81) rfl (by omega) (by omega) (by omega) (by rw [e25_3]; rfl) rfl ?_
      refine qJ.run hκ 3 (pc' := 86) (ls' := [some (qR 77), some (qI w), some (qI k)]) (st' := [qI w, qR 91]) rfl ?_
      refine qJ.ald hκ rfl rfl rfl (by decide) (by omega) ?_
      show qJ YX12_about κ _ (qLy u, m, y) 0 0 87 [some (qR 77), some (qI w), some (qI k)] [qI (m 91 w.toNat)]
      refine qJ.if_eq hκ (tgt := 94) rfl rfl (by omega) (fun c87 => ?_) (fun c87 => ?_)
      · show qJ YX12_about κ _ (qLy u, m, y) 0 0 94 [some (qR 77), some (qI w), some (qI k)] []
        refine qJ.run hκ 1 (pc' := 95) (ls' := [some (qR 77), some (qI w), some (qI k)]) (st' := [qI 0]) rfl ?_
        exact qJ.iret hκ rfl rfl (by decide) (by decide) (⟨m, by unfold ansAb; rw [if_pos (by omega)]; rw [if_neg e25_0, if_neg e25_1, if_neg e25_2, if_pos e25_3]; congr 2; have := w2.1.2.2.2; omega, rfl, rfl⟩)
      · show qJ YX12_about κ _ (qLy u, m, y) 0 0 90 [some (qR 77), some (qI w), some (qI k)] []
        refine qJ.run hκ 2 (pc' := 95) (ls' := [some (qR 77), some (qI w), some (qI k)]) (st' := [qI 1]) rfl ?_
        exact qJ.iret hκ rfl rfl (by decide) (by decide) (⟨m, by unfold ansAb; rw [if_pos (by omega)]; rw [if_neg e25_0, if_neg e25_1, if_neg e25_2, if_pos e25_3]; congr 2; have := w2.1.2.2.2; omega, rfl, rfl⟩)
    by_cases e25_4 : k = 4
    · refine qJ.tswIn hκ (tgt := 96) rfl (by omega) (by omega) (by omega) (by rw [e25_4]; rfl) rfl ?_
      refine qJ.run hκ 2 (pc' := 98) (ls' := [some (qR 77), some (qI w), some (qI k)]) (st' := [qR 77, qR 77]) rfl ?_
      refine qJ.callV (As := []) (rest := [qR 77]) hκ rfl kX12_183 (c_latest u m y hR) rfl rfl (by decide) rfl rfl (Nat.le_of_ble_eq_true rfl) (Nat.le_of_ble_eq_true rfl) (Nat.le_of_ble_eq_true rfl) (Or.inl (fun r h' e => by obtain ⟨rfl, rfl⟩ := e; rfl)) (fun r h' e => ?_)
      obtain ⟨rfl, rfl⟩ := e
      show qJ YX12_about κ _ (qLy u, m, y) 0 0 101 [some (qR 77), some (qI w), some (qI k)] [qI ((nT m : Int) - 1), qR 77]
      refine qJ.callV (As := [qI ((nT m : Int) - 1)]) (rest := []) hκ rfl kX12_186 (c_lookUpTo u m y (nT m) ((nT m : Int) - 1) hR ⟨by omega, nTl⟩) rfl rfl (by decide) rfl rfl (Nat.le_of_ble_eq_true rfl) (Nat.le_of_ble_eq_true rfl) (Nat.le_of_ble_eq_true rfl) (Or.inl (fun r h' e => by obtain ⟨rfl, a, b, rfl, lk⟩ := e; rfl)) (fun r h' e => ?_)
      obtain ⟨rfl, a, b, rfl, lk⟩ := e
      show qJ YX12_about κ _ (qLy u, (q_row (q_row m 108 a) 109 b), y) 0 0 104 [some (qR 77), some (qI w), some (qI k)] []
      refine qJ.run hκ 3 (pc' := 109) (ls' := [some (qR 77), some (qI w), some (qI k)]) (st' := [qI w, qR 108]) rfl ?_
      refine qJ.ald hκ rfl rfl rfl (by decide) (by omega) ?_
      show qJ YX12_about κ _ (qLy u, (q_row (q_row m 108 a) 109 b), y) 0 0 110 [some (qR 77), some (qI w), some (qI k)] [qI (a w.toNat)]
      exact qJ.iret hκ rfl rfl (by decide) (by decide) (⟨_, by unfold ansAb; rw [if_pos (by omega), if_neg e25_0, if_neg e25_1, if_neg e25_2, if_neg e25_3, if_pos e25_4, (lk w.toNat (by omega)).1], rfl, (Eq.trans (keep_row (by intro j; rfl)) (Eq.trans (keep_row (by intro j; rfl)) rfl))⟩)
    refine qJ.tswOut hκ (tgt := 111) rfl (by omega) (by omega) rfl ?_
    refine qJ.run hκ 3 (pc' := 115) (ls' := [some (qR 77), some (qI w), some (qI k)]) (st' := [qI (k - 10)]) rfl ?_
    by_cases kk : k < -2147483638
    · refine qJ.wI (z' := k - 10 + 4294967296) (q_wr _) ?_
      show qJ YX12_about κ _ (qLy u, m, y) 0 0 115 [some (qR 77), some (qI w), some (qI k)] [qI (k - 10 + 4294967296)]
      refine qJ.run hκ 4 (pc' := 121) (ls' := [some (qR 77), some (qI w), some (qI k)]) (st' := [qI w, qR 88, qI 0, qI (k - 10 + 4294967296)]) rfl ?_
      refine qJ.ald hκ rfl rfl rfl (by decide) (by omega) ?_
      show qJ YX12_about κ _ (qLy u, m, y) 0 0 122 [some (qR 77), some (qI w), some (qI k)] [qI (m 88 w.toNat), qI 0, qI (k - 10 + 4294967296)]
      refine qJ.run hκ 2 (pc' := 124) (ls' := [some (qR 77), some (qI w), some (qI k)]) (st' := [qI ((m 88 w.toNat) - 1), qI 0, qI (k - 10 + 4294967296)]) rfl ?_
      refine qJ.callS (As := [qI (k - 10 + 4294967296), qI 0, qI ((m 88 w.toNat) - 1)]) (rest := []) hκ rfl kX12_167 (c_in u m y (k - 10 + 4294967296) 0 ((m 88 w.toNat) - 1) (by omega) (by omega) (by omega)) (by decide) rfl rfl (Nat.le_of_ble_eq_true rfl) (Nat.le_of_ble_eq_true rfl) (Nat.le_of_ble_eq_true rfl) (Or.inl (fun r h' e => by obtain ⟨z124, rfl, hz124, rfl⟩ := e; rfl)) (fun r h' e => ?_)
      obtain ⟨z124, rfl, hz124, rfl⟩ := e
      show qJ YX12_about κ _ (qLy u, m, y) 0 0 127 [some (qR 77), some (qI w), some (qI k)] [qI z124]
      refine qJ.if_eq hκ (tgt := 146) rfl rfl (by omega) (fun c127 => ?_) (fun c127 => ?_)
      · show qJ YX12_about κ _ (qLy u, m, y) 0 0 146 [some (qR 77), some (qI w), some (qI k)] []
        refine qJ.run hκ 1 (pc' := 148) (ls' := [some (qR 77), some (qI w), some (qI k)]) (st' := [qI (-2)]) rfl ?_
        exact qJ.iret hκ rfl rfl (by decide) (by decide) (⟨m, by unfold ansAb; rw [if_pos (by omega)]; rw [if_neg e25_0, if_neg e25_1, if_neg e25_2, if_neg e25_3, if_neg e25_4, if_neg (by omega)], rfl, rfl⟩)
      · show qJ YX12_about κ _ (qLy u, m, y) 0 0 130 [some (qR 77), some (qI w), some (qI k)] []
        have x1 := w2.2.2 (k - 10) (by omega) (by omega)
        have x2 : (5 * w + k - 10).toNat = (5 * w + (k - 10)).toNat := by omega
        refine qJ.run hκ 9 (pc' := 142) (ls' := [some (qR 77), some (qI w), some (qI k)]) (st' := [qI (((5 * w) + k) - 10), qR 87]) rfl ?_
        refine qJ.ald hκ rfl rfl rfl (by decide) (by omega) ?_
        show qJ YX12_about κ _ (qLy u, m, y) 0 0 143 [some (qR 77), some (qI w), some (qI k)] [qI (m 87 ((((5 * w) + k) - 10).toNat))]
        refine qJ.run hκ 1 (pc' := 148) (ls' := [some (qR 77), some (qI w), some (qI k)]) (st' := [qI (m 87 ((((5 * w) + k) - 10).toNat))]) rfl ?_
        exact qJ.iret hκ rfl rfl (by decide) (by decide) (by first | (exfalso; omega) | exact ⟨m, by unfold ansAb; rw [if_pos (by omega)]; rw [if_neg e25_0, if_neg e25_1, if_neg e25_2, if_neg e25_3, if_neg e25_4, if_pos (by omega), x2, x1], rfl, rfl⟩)
    · show qJ YX12_about κ _ (qLy u, m, y) 0 0 115 [some (qR 77), some (qI w), some (qI k)] [qI (k - 10)]
      refine qJ.run hκ 4 (pc' := 121) (ls' := [some (qR 77), some (qI w), some (qI k)]) (st' := [qI w, qR 88, qI 0, qI (k - 10)]) rfl ?_
      refine qJ.ald hκ rfl rfl rfl (by decide) (by omega) ?_
      show qJ YX12_about κ _ (qLy u, m, y) 0 0 122 [some (qR 77), some (qI w), some (qI k)] [qI (m 88 w.toNat), qI 0, qI (k - 10)]
      refine qJ.run hκ 2 (pc' := 124) (ls' := [some (qR 77), some (qI w), some (qI k)]) (st' := [qI ((m 88 w.toNat) - 1), qI 0, qI (k - 10)]) rfl ?_
      refine qJ.callS (As := [qI (k - 10), qI 0, qI ((m 88 w.toNat) - 1)]) (rest := []) hκ rfl kX12_167 (c_in u m y (k - 10) 0 ((m 88 w.toNat) - 1) (by omega) (by omega) (by omega)) (by decide) rfl rfl (Nat.le_of_ble_eq_true rfl) (Nat.le_of_ble_eq_true rfl) (Nat.le_of_ble_eq_true rfl) (Or.inl (fun r h' e => by obtain ⟨z124, rfl, hz124, rfl⟩ := e; rfl)) (fun r h' e => ?_)
      obtain ⟨z124, rfl, hz124, rfl⟩ := e
      show qJ YX12_about κ _ (qLy u, m, y) 0 0 127 [some (qR 77), some (qI w), some (qI k)] [qI z124]
      refine qJ.if_eq hκ (tgt := 146) rfl rfl (by omega) (fun c127 => ?_) (fun c127 => ?_)
      · show qJ YX12_about κ _ (qLy u, m, y) 0 0 146 [some (qR 77), some (qI w), some (qI k)] []
        refine qJ.run hκ 1 (pc' := 148) (ls' := [some (qR 77), some (qI w), some (qI k)]) (st' := [qI (-2)]) rfl ?_
        exact qJ.iret hκ rfl rfl (by decide) (by decide) (⟨m, by unfold ansAb; rw [if_pos (by omega)]; rw [if_neg e25_0, if_neg e25_1, if_neg e25_2, if_neg e25_3, if_neg e25_4, if_neg (by omega)], rfl, rfl⟩)
      · show qJ YX12_about κ _ (qLy u, m, y) 0 0 130 [some (qR 77), some (qI w), some (qI k)] []
        have x1 := w2.2.2 (k - 10) (by omega) (by omega)
        have x2 : (5 * w + k - 10).toNat = (5 * w + (k - 10)).toNat := by omega
        refine qJ.run hκ 9 (pc' := 142) (ls' := [some (qR 77), some (qI w), some (qI k)]) (st' := [qI (((5 * w) + k) - 10), qR 87]) rfl ?_
        refine qJ.ald hκ rfl rfl rfl (by decide) (by omega) ?_
        show qJ YX12_about κ _ (qLy u, m, y) 0 0 143 [some (qR 77), some (qI w), some (qI k)] [qI (m 87 ((((5 * w) + k) - 10).toNat))]
        refine qJ.run hκ 1 (pc' := 148) (ls' := [some (qR 77), some (qI w), some (qI k)]) (st' := [qI (m 87 ((((5 * w) + k) - 10).toNat))]) rfl ?_
        exact qJ.iret hκ rfl rfl (by decide) (by decide) (by first | (exfalso; omega) | exact ⟨m, by unfold ansAb; rw [if_pos (by omega)]; rw [if_neg e25_0, if_neg e25_1, if_neg e25_2, if_neg e25_3, if_neg e25_4, if_pos (by omega), x2, x1], rfl, rfl⟩)
  · show qJ YX12_about κ _ (qLy u, m, y) 0 0 21 [some (qR 77), some (qI w), some (qI k)] []
    refine qJ.run hκ 1 (pc' := 23) (ls' := [some (qR 77), some (qI w), some (qI k)]) (st' := [qI (-2)]) rfl ?_
    exact qJ.iret hκ rfl rfl (by decide) (by decide) (⟨m, by unfold ansAb; rw [if_neg (fun z => by omega)], rfl, rfl⟩)
set_option maxRecDepth 100000 in
theorem w_about (u : qU) (m y : qM) (w k : Int) (hR : rC m) (h1 : qr w) (h2 : qr k) : qCt YX12_about 3 0 0 [qR 77, qI w, qI k] (qLy u, m, y) (fun r h => ∃ m', r = some (qI (ansAb (q_up m 77 0 0) w k)) ∧ h = (qLy u, m', y) ∧ keep kObs m' = keep kObs (q_up m 77 0 0)) := by
  refine qCt.intro okX12_about (Nat.le_of_ble_eq_true rfl) (fun κ hκ => ?_)
  show qJ YX12_about κ _ (qLy u, m, y) 0 0 0 [some (qR 77), some (qI w), some (qI k)] []
  refine qJ.run hκ 2 (pc' := 2) (ls' := [some (qR 77), some (qI w), some (qI k)]) (st' := [qI 0, qR 77]) rfl ?_
  refine qJ.putI hκ rfl rfl rfl rfl (Or.inl rfl) ?_
  show qJ YX12_about κ _ (qLy u, (q_up m 77 0 0), y) 0 0 5 [some (qR 77), some (qI w), some (qI k)] []
  exact b_about u (q_up m 77 0 0) y w k (show rC (q_up m 77 0 0) from hR) h1 h2 hκ
theorem m_about (u : qU) (m y : qM) (w k : Int) (hR : rC m) (h1 : qr w) (h2 : qr k) : qCt YX12_about 3 0 0 [qR 77, qI w, qI k] (qLy u, m, y) (fun r h => ∃ m', r = some (qI (ansAb m w k)) ∧ h = (qLy u, m', y) ∧ keep kObs m' = keep kObs m) := by
  refine (w_about u m y w k hR h1 h2).weak ?_
  rintro r h ⟨m', e1, e2, e3⟩
  exact ⟨m', by rw [e1, ansAb_o (keep_up (by rfl))], e2, e3.trans (keep_up (by rfl))⟩

set_option maxRecDepth 100000 in
theorem x_telling (u : qU) (m y : qM) (k w : Int) (hR : rC m) (h1 : qr k) (h2 : qr w) : qCt YX11_telling 1 0 0 [qR 0, qI k, qI w] (qLy u, m, y) (fun r h => r = some (qI (ansTe m k w)) ∧ h = (qLy u, m, y)) := by
  refine qCt.intro okX11_telling (Nat.le_of_ble_eq_true rfl) (fun κ hκ => ?_)
  have hR2 := hR
  obtain ⟨⟨⟨a0, a1, a2⟩, ⟨a3, a4, a5⟩, ⟨b0, b1, b2⟩, b3, b4, b5⟩, hW, hRW, hT, hRT, hS⟩ := hR2
  have hV : qr (m 1 9) := by omega
  have zr := gHz_r hR.1
  have nWl := nW_le hR.1
  have nTl := nT_le hR.1
  have hS7 : ∀ k : Int, 0 ≤ k → k < m 2 0 → qr (m 7 k.toNat) := fun k k0 k1 => by have := (hRW k k0 k1).2.1.2.1; omega
  have hS11 : ∀ k : Int, 0 ≤ k → k < m 2 2 → qr (m 11 k.toNat) := fun k k0 k1 => by have := (hRT k k0 k1).2.1; omega
  have hS9 : ∀ k : Int, 0 ≤ k → k < m 2 2 → qr (m 9 k.toNat) := fun k k0 k1 => by have := (hT k k0 k1).2.1; omega
  have hcn : (q_cnt (fun j => m 10 j = -1) (m 2 2).toNat : Nat) ≤ m 2 0 := Int.le_of_eq hS.2.2.1
  show qJ YX11_telling κ _ (qLy u, m, y) 0 0 0 [some (qR 0), some (qI k), some (qI w), none] []
  refine qJ.run hκ 5 (pc' := 9) (ls' := [some (qR 0), some (qI k), some (qI w), some (qR 2)]) (st' := [qI k]) rfl ?_
  refine qJ.if_lt hκ (tgt := 20) rfl rfl (by omega) (fun c9 => ?_) (fun c9 => ?_)
  · show qJ YX11_telling κ _ (qLy u, m, y) 0 0 20 [some (qR 0), some (qI k), some (qI w), some (qR 2)] []
    refine qJ.run hκ 1 (pc' := 22) (ls' := [some (qR 0), some (qI k), some (qI w), some (qR 2)]) (st' := [qI (-2)]) rfl ?_
    exact qJ.iret hκ rfl rfl (by decide) (by decide) (⟨by unfold ansTe; rw [if_neg (fun z => by omega)], rfl⟩)
  · show qJ YX11_telling κ _ (qLy u, m, y) 0 0 12 [some (qR 0), some (qI k), some (qI w), some (qR 2)] []
    refine qJ.run hκ 3 (pc' := 17) (ls' := [some (qR 0), some (qI k), some (qI w), some (qR 2)]) (st' := [qI (m 2 2), qI k]) rfl ?_
    refine qJ.icmp_lt hκ (tgt := 23) rfl rfl (by omega) (by omega) (fun c17 => ?_) (fun c17 => ?_)
    · show qJ YX11_telling κ _ (qLy u, m, y) 0 0 23 [some (qR 0), some (qI k), some (qI w), some (qR 2)] []
      refine qJ.run hκ 1 (pc' := 24) (ls' := [some (qR 0), some (qI k), some (qI w), some (qR 2)]) (st' := [qI w]) rfl ?_
      by_cases e24_0 : w = 0
      · refine qJ.tswIn hκ (tgt := 52) rfl (by omega) (by omega) (by omega) (by rw [e24_0]; rfl) rfl ?_
        refine qJ.run hκ 3 (pc' := 57) (ls' := [some (qR 0), some (qI k), some (qI w), some (qR 2)]) (st' := [qI k, qR 9]) rfl ?_
        refine qJ.ald hκ rfl rfl rfl (by decide) (by omega) ?_
        show qJ YX11_telling κ _ (qLy u, m, y) 0 0 58 [some (qR 0), some (qI k), some (qI w), some (qR 2)] [qI (m 9 k.toNat)]
        exact qJ.iret hκ rfl rfl (by decide) (by decide) (⟨by unfold ansTe; rw [if_pos ⟨by omega, by omega⟩]; rw [if_pos e24_0], rfl⟩)
      by_cases e24_1 : w = 1
      · refine qJ.tswIn hκ (tgt := 59) rfl (by omega) (by omega) (by omega) (by rw [e24_1]; rfl) rfl ?_
        refine qJ.run hκ 3 (pc' := 64) (ls' := [some (qR 0), some (qI k), some (qI w), some (qR 2)]) (st' := [qI k, qR 10]) rfl ?_
        refine qJ.ald hκ rfl rfl rfl (by decide) (by omega) ?_
        show qJ YX11_telling κ _ (qLy u, m, y) 0 0 65 [some (qR 0), some (qI k), some (qI w), some (qR 2)] [qI (m 10 k.toNat)]
        exact qJ.iret hκ rfl rfl (by decide) (by decide) (⟨by unfold ansTe; rw [if_pos ⟨by omega, by omega⟩]; rw [if_neg e24_0, if_pos e24_1], rfl⟩)
      by_cases e24_2 : w = 2
      · refine qJ.tswIn hκ (tgt := 66) rfl (by omega) (by omega) (by omega) (by rw [e24_2]; rfl) rfl ?_
        refine qJ.run hκ 3 (pc' := 71) (ls' := [some (qR 0), some (qI k), some (qI w), some (qR 2)]) (st' := [qI k, qR 11]) rfl ?_
        refine qJ.ald hκ rfl rfl rfl (by decide) (by omega) ?_
        show qJ YX11_telling κ _ (qLy u, m, y) 0 0 72 [some (qR 0), some (qI k), some (qI w), some (qR 2)] [qI (m 11 k.toNat)]
        exact qJ.iret hκ rfl rfl (by decide) (by decide) (⟨by unfold ansTe; rw [if_pos ⟨by omega, by omega⟩]; rw [if_neg e24_0, if_neg e24_1], rfl⟩)
      refine qJ.tswOut hκ (tgt := 73) rfl (by omega) (by omega) rfl ?_
      refine qJ.run hκ 1 (pc' := 75) (ls' := [some (qR 0), some (qI k), some (qI w), some (qR 2)]) (st' := [qI (-2)]) rfl ?_
      exact qJ.iret hκ rfl rfl (by decide) (by decide) (⟨by unfold ansTe; rw [if_neg (fun z => by omega)], rfl⟩)
    · show qJ YX11_telling κ _ (qLy u, m, y) 0 0 20 [some (qR 0), some (qI k), some (qI w), some (qR 2)] []
      refine qJ.run hκ 1 (pc' := 22) (ls' := [some (qR 0), some (qI k), some (qI w), some (qR 2)]) (st' := [qI (-2)]) rfl ?_
      exact qJ.iret hκ rfl rfl (by decide) (by decide) (⟨by unfold ansTe; rw [if_neg (fun z => by omega)], rfl⟩)

theorem m_telling (u : qU) (m y : qM) (k w : Int) (hR : rC m) (h1 : qr k) (h2 : qr w) : qCt YX12_telling 2 0 0 [qR 77, qI k, qI w] (qLy u, m, y) (fun r h => ∃ m', r = some (qI (ansTe m k w)) ∧ h = (qLy u, m', y) ∧ keep kObs m' = keep kObs m) := by
  obtain ⟨⟨a0, a1, a2⟩, ⟨a3, a4, a5⟩, ⟨b0, b1, b2⟩, b3, b4, b5⟩ := hR.1
  refine (c_mTelling u m y k w (by omega) h1 h2).weak ?_
  rintro r h ⟨e1, e2⟩
  refine ⟨_, ?_, e2, keep_up (by rfl)⟩
  rw [e1]
  congr 2
  unfold ansTe
  by_cases z : (0 ≤ k ∧ k < m 2 2) ∧ 0 ≤ w ∧ w ≤ 2
  · have t := (hR.2.2.2.2.1 k z.1.1 z.1.2).1
    rw [if_pos z, if_pos ⟨by omega, z.2⟩, t.1, t.2.1, t.2.2]
  · rw [if_neg z, if_neg (fun q => z ⟨by omega, q.2⟩)]

set_option maxRecDepth 100000 in
theorem x_site (u : qU) (m y : qM) (v : Int) (h1 : qr v) : qCt YX11_site 1 0 0 [qR 0, qI v] (qLy u, m, y) (fun r h => (r = some (qI 1) ∧ (0 ≤ v ∧ v ≤ 3) ∧ h = (qLy u, (q_up m 1 7 v), y)) ∨ (r = some (qI 0) ∧ ¬ (0 ≤ v ∧ v ≤ 3) ∧ h = (qLy u, m, y))) := by
  refine qCt.intro okX11_site (Nat.le_of_ble_eq_true rfl) (fun κ hκ => ?_)
  show qJ YX11_site κ _ (qLy u, m, y) 0 0 0 [some (qR 0), some (qI v)] []
  refine qJ.run hκ 1 (pc' := 1) (ls' := [some (qR 0), some (qI v)]) (st' := [qI v]) rfl ?_
  refine qJ.if_lt hκ (tgt := 9) rfl rfl (by omega) (fun c1 => ?_) (fun c1 => ?_)
  · show qJ YX11_site κ _ (qLy u, m, y) 0 0 9 [some (qR 0), some (qI v)] []
    refine qJ.run hκ 1 (pc' := 10) (ls' := [some (qR 0), some (qI v)]) (st' := [qI 0]) rfl ?_
    exact qJ.bret hκ rfl rfl (by omega) (by decide) (by decide) (Or.inr ⟨rfl, by omega, rfl⟩)
  · show qJ YX11_site κ _ (qLy u, m, y) 0 0 4 [some (qR 0), some (qI v)] []
    refine qJ.run hκ 2 (pc' := 6) (ls' := [some (qR 0), some (qI v)]) (st' := [qI 4, qI v]) rfl ?_
    refine qJ.icmp_lt hκ (tgt := 11) rfl rfl (by omega) (by omega) (fun c6 => ?_) (fun c6 => ?_)
    · show qJ YX11_site κ _ (qLy u, m, y) 0 0 11 [some (qR 0), some (qI v)] []
      refine qJ.run hκ 3 (pc' := 16) (ls' := [some (qR 0), some (qI v)]) (st' := [qI v, qR 1]) rfl ?_
      refine qJ.putI hκ rfl rfl rfl rfl (Or.inl rfl) ?_
      show qJ YX11_site κ _ (qLy u, (q_up m 1 7 v), y) 0 0 19 [some (qR 0), some (qI v)] []
      refine qJ.run hκ 1 (pc' := 20) (ls' := [some (qR 0), some (qI v)]) (st' := [qI 1]) rfl ?_
      exact qJ.bret hκ rfl rfl (by omega) (by decide) (by decide) (Or.inl ⟨rfl, by omega, rfl⟩)
    · show qJ YX11_site κ _ (qLy u, m, y) 0 0 9 [some (qR 0), some (qI v)] []
      refine qJ.run hκ 1 (pc' := 10) (ls' := [some (qR 0), some (qI v)]) (st' := [qI 0]) rfl ?_
      exact qJ.bret hκ rfl rfl (by omega) (by decide) (by decide) (Or.inr ⟨rfl, by omega, rfl⟩)

set_option maxRecDepth 100000 in
theorem x_day (u : qU) (m y : qM) (v : Int) (h1 : qr v) (h2 : 0 ≤ m 1 8 ∧ m 1 8 ≤ 999) : qCt YX11_day 1 0 0 [qR 0, qI v] (qLy u, m, y) (fun r h => (r = some (qI 1) ∧ (m 1 8 ≤ v ∧ v ≤ 999) ∧ h = (qLy u, (q_up m 1 8 v), y)) ∨ (r = some (qI 0) ∧ ¬ (m 1 8 ≤ v ∧ v ≤ 999) ∧ h = (qLy u, m, y))) := by
  refine qCt.intro okX11_day (Nat.le_of_ble_eq_true rfl) (fun κ hκ => ?_)
  show qJ YX11_day κ _ (qLy u, m, y) 0 0 0 [some (qR 0), some (qI v)] []
  refine qJ.run hκ 4 (pc' := 8) (ls' := [some (qR 0), some (qI v)]) (st' := [qI (m 1 8), qI v]) rfl ?_
  refine qJ.icmp_lt hκ (tgt := 18) rfl rfl (by omega) (by omega) (fun c8 => ?_) (fun c8 => ?_)
  · show qJ YX11_day κ _ (qLy u, m, y) 0 0 18 [some (qR 0), some (qI v)] []
    refine qJ.run hκ 1 (pc' := 19) (ls' := [some (qR 0), some (qI v)]) (st' := [qI 0]) rfl ?_
    exact qJ.bret hκ rfl rfl (by omega) (by decide) (by decide) (Or.inr ⟨rfl, by omega, rfl⟩)
  · show qJ YX11_day κ _ (qLy u, m, y) 0 0 11 [some (qR 0), some (qI v)] []
    refine qJ.run hκ 2 (pc' := 15) (ls' := [some (qR 0), some (qI v)]) (st' := [qI 999, qI v]) rfl ?_
    refine qJ.icmp_le hκ (tgt := 20) rfl rfl (by omega) (by omega) (fun c15 => ?_) (fun c15 => ?_)
    · show qJ YX11_day κ _ (qLy u, m, y) 0 0 20 [some (qR 0), some (qI v)] []
      refine qJ.run hκ 3 (pc' := 25) (ls' := [some (qR 0), some (qI v)]) (st' := [qI v, qR 1]) rfl ?_
      refine qJ.putI hκ rfl rfl rfl rfl (Or.inl rfl) ?_
      show qJ YX11_day κ _ (qLy u, (q_up m 1 8 v), y) 0 0 28 [some (qR 0), some (qI v)] []
      refine qJ.run hκ 1 (pc' := 29) (ls' := [some (qR 0), some (qI v)]) (st' := [qI 1]) rfl ?_
      exact qJ.bret hκ rfl rfl (by omega) (by decide) (by decide) (Or.inl ⟨rfl, by omega, rfl⟩)
    · show qJ YX11_day κ _ (qLy u, m, y) 0 0 18 [some (qR 0), some (qI v)] []
      refine qJ.run hκ 1 (pc' := 19) (ls' := [some (qR 0), some (qI v)]) (st' := [qI 0]) rfl ?_
      exact qJ.bret hκ rfl rfl (by omega) (by decide) (by decide) (Or.inr ⟨rfl, by omega, rfl⟩)

set_option maxRecDepth 100000 in
theorem x_view (u : qU) (m y : qM) (v : Int) (h1 : qr v) (h2 : 0 ≤ m 1 8 ∧ m 1 8 ≤ 999) : qCt YX11_view 2 0 0 [qR 0, qI v] (qLy u, m, y) (fun r h => (r = some (qI 1) ∧ (-1 ≤ v ∧ v ≤ m 1 8) ∧ h = (qLy u, (q_up (q_up (q_up (q_up (q_up (q_up m 0 10 1) 0 11 1) 0 12 1) 0 13 1) 0 14 1) 1 9 v), y)) ∨ (r = some (qI 0) ∧ ¬ (-1 ≤ v ∧ v ≤ m 1 8) ∧ h = (qLy u, m, y))) := by
  refine qCt.intro okX11_view (Nat.le_of_ble_eq_true rfl) (fun κ hκ => ?_)
  show qJ YX11_view κ _ (qLy u, m, y) 0 0 0 [some (qR 0), some (qI v)] []
  refine qJ.run hκ 2 (pc' := 2) (ls' := [some (qR 0), some (qI v)]) (st' := [qI (-1), qI v]) rfl ?_
  refine qJ.icmp_lt hκ (tgt := 16) rfl rfl (by omega) (by omega) (fun c2 => ?_) (fun c2 => ?_)
  · show qJ YX11_view κ _ (qLy u, m, y) 0 0 16 [some (qR 0), some (qI v)] []
    refine qJ.run hκ 1 (pc' := 17) (ls' := [some (qR 0), some (qI v)]) (st' := [qI 0]) rfl ?_
    exact qJ.bret hκ rfl rfl (by omega) (by decide) (by decide) (Or.inr ⟨rfl, by omega, rfl⟩)
  · show qJ YX11_view κ _ (qLy u, m, y) 0 0 5 [some (qR 0), some (qI v)] []
    refine qJ.run hκ 4 (pc' := 13) (ls' := [some (qR 0), some (qI v)]) (st' := [qI (m 1 8), qI v]) rfl ?_
    refine qJ.icmp_le hκ (tgt := 18) rfl rfl (by omega) (by omega) (fun c13 => ?_) (fun c13 => ?_)
    · show qJ YX11_view κ _ (qLy u, m, y) 0 0 18 [some (qR 0), some (qI v)] []
      refine qJ.run hκ 1 (pc' := 19) (ls' := [some (qR 0), some (qI v)]) (st' := [qR 0]) rfl ?_
      refine qJ.callV (As := []) (rest := []) hκ rfl kX11_107 (c_forget u m y) rfl rfl (by decide) rfl rfl (Nat.le_of_ble_eq_true rfl) (Nat.le_of_ble_eq_true rfl) (Nat.le_of_ble_eq_true rfl) (Or.inl (fun r h' e => by obtain ⟨rfl, rfl⟩ := e; rfl)) (fun r h' e => ?_)
      obtain ⟨rfl, rfl⟩ := e
      show qJ YX11_view κ _ (qLy u, (q_up (q_up (q_up (q_up (q_up m 0 10 1) 0 11 1) 0 12 1) 0 13 1) 0 14 1), y) 0 0 22 [some (qR 0), some (qI v)] []
      refine qJ.run hκ 3 (pc' := 27) (ls' := [some (qR 0), some (qI v)]) (st' := [qI v, qR 1]) rfl ?_
      refine qJ.putI hκ rfl rfl rfl rfl (Or.inl rfl) ?_
      show qJ YX11_view κ _ (qLy u, (q_up (q_up (q_up (q_up (q_up (q_up m 0 10 1) 0 11 1) 0 12 1) 0 13 1) 0 14 1) 1 9 v), y) 0 0 30 [some (qR 0), some (qI v)] []
      refine qJ.run hκ 1 (pc' := 31) (ls' := [some (qR 0), some (qI v)]) (st' := [qI 1]) rfl ?_
      exact qJ.bret hκ rfl rfl (by omega) (by decide) (by decide) (Or.inl ⟨rfl, by omega, rfl⟩)
    · show qJ YX11_view κ _ (qLy u, m, y) 0 0 16 [some (qR 0), some (qI v)] []
      refine qJ.run hκ 1 (pc' := 17) (ls' := [some (qR 0), some (qI v)]) (st' := [qI 0]) rfl ?_
      exact qJ.bret hκ rfl rfl (by omega) (by decide) (by decide) (Or.inr ⟨rfl, by omega, rfl⟩)

set_option maxRecDepth 100000 in
theorem x_tell (u : qU) (m y : qM) (w k : Int) (hR : rC m) (h1 : qr w) (h2 : qr k) : qCt YX11_tell 2 0 0 [qR 0, qI w, qI k] (qLy u, m, y) (fun r h => (r = some (qI (m 2 2)) ∧ ((0 ≤ w ∧ w < m 2 0) ∧ (0 ≤ k ∧ k ≤ 3) ∧ m 2 2 < 150) ∧ h = (qLy u, (q_up (q_up (q_up (q_up (q_up (q_up (q_up (q_up (q_up m 0 10 1) 0 11 1) 0 12 1) 0 13 1) 0 14 1) 9 ((m 2 2).toNat) w) 10 ((m 2 2).toNat) k) 11 ((m 2 2).toNat) (m 1 8)) 2 2 (m 2 2 + 1)), y)) ∨ (r = some (qI (-1)) ∧ ¬ ((0 ≤ w ∧ w < m 2 0) ∧ (0 ≤ k ∧ k ≤ 3) ∧ m 2 2 < 150) ∧ h = (qLy u, m, y))) := by
  refine qCt.intro okX11_tell (Nat.le_of_ble_eq_true rfl) (fun κ hκ => ?_)
  have hR2 := hR
  obtain ⟨⟨⟨a0, a1, a2⟩, ⟨a3, a4, a5⟩, ⟨b0, b1, b2⟩, b3, b4, b5⟩, hW, hRW, hT, hRT, hS⟩ := hR2
  have hV : qr (m 1 9) := by omega
  have zr := gHz_r hR.1
  have nWl := nW_le hR.1
  have nTl := nT_le hR.1
  have hS7 : ∀ k : Int, 0 ≤ k → k < m 2 0 → qr (m 7 k.toNat) := fun k k0 k1 => by have := (hRW k k0 k1).2.1.2.1; omega
  have hS11 : ∀ k : Int, 0 ≤ k → k < m 2 2 → qr (m 11 k.toNat) := fun k k0 k1 => by have := (hRT k k0 k1).2.1; omega
  have hS9 : ∀ k : Int, 0 ≤ k → k < m 2 2 → qr (m 9 k.toNat) := fun k k0 k1 => by have := (hT k k0 k1).2.1; omega
  have hcn : (q_cnt (fun j => m 10 j = -1) (m 2 2).toNat : Nat) ≤ m 2 0 := Int.le_of_eq hS.2.2.1
  have hh := q_ite01 (0 ≤ w ∧ w < m 2 0)
  show qJ YX11_tell κ _ (qLy u, m, y) 0 0 0 [some (qR 0), some (qI w), some (qI k), none] []
  refine qJ.run hκ 6 (pc' := 10) (ls' := [some (qR 0), some (qI w), some (qI k), some (qR 2)]) (st' := [qI w, qR 2]) rfl ?_
  refine qJ.callV (As := [qI w]) (rest := []) hκ rfl kX11_117 (c_has u m y w (by omega) (by omega)) rfl rfl (by decide) rfl rfl (Nat.le_of_ble_eq_true rfl) (Nat.le_of_ble_eq_true rfl) (Nat.le_of_ble_eq_true rfl) (Or.inl (fun r h' e => by obtain ⟨rfl, rfl⟩ := e; rfl)) (fun r h' e => ?_)
  obtain ⟨rfl, rfl⟩ := e
  show qJ YX11_tell κ _ (qLy u, m, y) 0 0 13 [some (qR 0), some (qI w), some (qI k), some (qR 2)] [qI (if 0 ≤ w ∧ w < m 2 0 then 1 else 0)]
  refine qJ.if_eq hκ (tgt := 35) rfl rfl (by omega) (fun c13 => ?_) (fun c13 => ?_)
  · show qJ YX11_tell κ _ (qLy u, m, y) 0 0 35 [some (qR 0), some (qI w), some (qI k), some (qR 2)] []
    refine qJ.run hκ 1 (pc' := 36) (ls' := [some (qR 0), some (qI w), some (qI k), some (qR 2)]) (st' := [qI (-1)]) rfl ?_
    exact qJ.iret hκ rfl rfl (by decide) (by decide) (by first | exact Or.inr ⟨rfl, fun z => by rw [if_pos z.1] at c13; exact absurd c13 (by decide), rfl⟩ | exact Or.inr ⟨rfl, by omega, rfl⟩)
  · show qJ YX11_tell κ _ (qLy u, m, y) 0 0 16 [some (qR 0), some (qI w), some (qI k), some (qR 2)] []
    have sr : 0 ≤ w ∧ w < m 2 0 := by by_cases z : 0 ≤ w ∧ w < m 2 0; exact z; rw [if_neg z] at c13; exact absurd rfl c13
    refine qJ.run hκ 1 (pc' := 17) (ls' := [some (qR 0), some (qI w), some (qI k), some (qR 2)]) (st' := [qI k]) rfl ?_
    refine qJ.if_lt hκ (tgt := 35) rfl rfl (by omega) (fun c17 => ?_) (fun c17 => ?_)
    · show qJ YX11_tell κ _ (qLy u, m, y) 0 0 35 [some (qR 0), some (qI w), some (qI k), some (qR 2)] []
      refine qJ.run hκ 1 (pc' := 36) (ls' := [some (qR 0), some (qI w), some (qI k), some (qR 2)]) (st' := [qI (-1)]) rfl ?_
      exact qJ.iret hκ rfl rfl (by decide) (by decide) (by first | exact Or.inr ⟨rfl, fun z => by rw [if_pos z.1] at c13; exact absurd c13 (by decide), rfl⟩ | exact Or.inr ⟨rfl, by omega, rfl⟩)
    · show qJ YX11_tell κ _ (qLy u, m, y) 0 0 20 [some (qR 0), some (qI w), some (qI k), some (qR 2)] []
      refine qJ.run hκ 2 (pc' := 22) (ls' := [some (qR 0), some (qI w), some (qI k), some (qR 2)]) (st' := [qI 4, qI k]) rfl ?_
      refine qJ.icmp_ge hκ (tgt := 35) rfl rfl (by omega) (by omega) (fun c22 => ?_) (fun c22 => ?_)
      · show qJ YX11_tell κ _ (qLy u, m, y) 0 0 35 [some (qR 0), some (qI w), some (qI k), some (qR 2)] []
        refine qJ.run hκ 1 (pc' := 36) (ls' := [some (qR 0), some (qI w), some (qI k), some (qR 2)]) (st' := [qI (-1)]) rfl ?_
        exact qJ.iret hκ rfl rfl (by decide) (by decide) (by first | exact Or.inr ⟨rfl, fun z => by rw [if_pos z.1] at c13; exact absurd c13 (by decide), rfl⟩ | exact Or.inr ⟨rfl, by omega, rfl⟩)
      · show qJ YX11_tell κ _ (qLy u, m, y) 0 0 25 [some (qR 0), some (qI w), some (qI k), some (qR 2)] []
        refine qJ.run hκ 3 (pc' := 32) (ls' := [some (qR 0), some (qI w), some (qI k), some (qR 2)]) (st' := [qI 150, qI (m 2 2)]) rfl ?_
        refine qJ.icmp_lt hκ (tgt := 37) rfl rfl (by omega) (by omega) (fun c32 => ?_) (fun c32 => ?_)
        · show qJ YX11_tell κ _ (qLy u, m, y) 0 0 37 [some (qR 0), some (qI w), some (qI k), some (qR 2)] []
          refine qJ.run hκ 1 (pc' := 38) (ls' := [some (qR 0), some (qI w), some (qI k), some (qR 2)]) (st' := [qR 0]) rfl ?_
          refine qJ.callV (As := []) (rest := []) hκ rfl kX11_107 (c_forget u m y) rfl rfl (by decide) rfl rfl (Nat.le_of_ble_eq_true rfl) (Nat.le_of_ble_eq_true rfl) (Nat.le_of_ble_eq_true rfl) (Or.inl (fun r h' e => by obtain ⟨rfl, rfl⟩ := e; rfl)) (fun r h' e => ?_)
          obtain ⟨rfl, rfl⟩ := e
          show qJ YX11_tell κ _ (qLy u, (q_up (q_up (q_up (q_up (q_up m 0 10 1) 0 11 1) 0 12 1) 0 13 1) 0 14 1), y) 0 0 41 [some (qR 0), some (qI w), some (qI k), some (qR 2)] []
          refine qJ.run hκ 6 (pc' := 51) (ls' := [some (qR 0), some (qI w), some (qI k), some (qR 2)]) (st' := [qI (m 1 8), qI k, qI w, qR 2]) rfl ?_
          refine qJ.callV (As := [qI w, qI k, qI (m 1 8)]) (rest := []) hκ rfl kX11_124 (c_addTelling u (q_up (q_up (q_up (q_up (q_up m 0 10 1) 0 11 1) 0 12 1) 0 13 1) 0 14 1) y w k (m 1 8) (show 0 ≤ m 2 2 ∧ m 2 2 < 150 from by omega)) rfl rfl (by decide) rfl rfl (Nat.le_of_ble_eq_true rfl) (Nat.le_of_ble_eq_true rfl) (Nat.le_of_ble_eq_true rfl) (Or.inl (fun r h' e => by obtain ⟨rfl, rfl⟩ := e; rfl)) (fun r h' e => ?_)
          obtain ⟨rfl, rfl⟩ := e
          show qJ YX11_tell κ _ (qLy u, (q_up (q_up (q_up (q_up (q_up (q_up (q_up (q_up (q_up m 0 10 1) 0 11 1) 0 12 1) 0 13 1) 0 14 1) 9 ((m 2 2).toNat) w) 10 ((m 2 2).toNat) k) 11 ((m 2 2).toNat) (m 1 8)) 2 2 (m 2 2 + 1)), y) 0 0 54 [some (qR 0), some (qI w), some (qI k), some (qR 2)] [qI (m 2 2)]
          exact qJ.iret hκ rfl rfl (by decide) (by decide) (Or.inl ⟨rfl, by omega, rfl⟩)
        · show qJ YX11_tell κ _ (qLy u, m, y) 0 0 35 [some (qR 0), some (qI w), some (qI k), some (qR 2)] []
          refine qJ.run hκ 1 (pc' := 36) (ls' := [some (qR 0), some (qI w), some (qI k), some (qR 2)]) (st' := [qI (-1)]) rfl ?_
          exact qJ.iret hκ rfl rfl (by decide) (by decide) (by first | exact Or.inr ⟨rfl, fun z => by rw [if_pos z.1] at c13; exact absurd c13 (by decide), rfl⟩ | exact Or.inr ⟨rfl, by omega, rfl⟩)

theorem rC_site {m : qM} {v : Int} (h : rC m) (hv : 0 ≤ v ∧ v ≤ 3) : rC (q_up (q_up (q_up m 1 7 v) 77 0 0) 84 0 v) := by
  obtain ⟨⟨h1, ⟨h2, h3, h4⟩, h5, h6, h7, h8⟩, hr⟩ := h
  exact ⟨⟨h1, ⟨h2, h3, hv⟩, h5, h6, h7, rfl⟩, hr⟩
theorem rC_day {m : qM} {v : Int} (h : rC m) (hv : m 1 8 ≤ v ∧ v ≤ 999) : rC (q_up (q_up (q_up m 1 8 v) 77 0 0) 82 0 v) := by
  obtain ⟨⟨h1, ⟨h2, h3, h4⟩, h5, h6, h7, h8⟩, hW, hRW, hT, hRT, hS⟩ := h
  refine ⟨⟨h1, ⟨by show 0 ≤ v ∧ v ≤ 999; omega, by show -1 ≤ m 1 9 ∧ m 1 9 ≤ v; omega, h4⟩, h5, rfl, h7, h8⟩, hW, fun w w0 w1 => ?_, hT, fun t t0 t1 => ?_, hS⟩
  · obtain ⟨a, ⟨b1, b2, b3⟩, c⟩ := hRW w w0 w1
    exact ⟨a, ⟨b1, by show 0 ≤ m 7 w.toNat ∧ m 7 w.toNat ≤ v; omega, b3⟩, c⟩
  · obtain ⟨a, b, c⟩ := hRT t t0 t1
    exact ⟨a, by show 0 ≤ m 11 t.toNat ∧ m 11 t.toNat ≤ v; omega, c⟩
theorem rC_view {m : qM} {v : Int} (h : rC m) (hv : -1 ≤ v ∧ v ≤ m 1 8) : rC (q_up (q_up (q_up (q_up (q_up (q_up (q_up (q_up m 0 10 1) 0 11 1) 0 12 1) 0 13 1) 0 14 1) 1 9 v) 77 0 0) 83 0 v) := by
  obtain ⟨⟨h1, ⟨h2, h3, h4⟩, h5, h6, h7, h8⟩, hr⟩ := h
  exact ⟨⟨h1, ⟨h2, hv, h4⟩, h5, h6, rfl, h8⟩, hr⟩
theorem q_up_i {m : qM} {a k j : Nat} {v : Int} (h : j ≠ k) : q_up m a k v a j = m a j := by
  unfold q_up
  rw [if_neg (fun z => h z.2)]
/-- a telling more: the same rows, one longer -/
theorem rC_tell {m m' : qM} {w k : Int} (h : rC m) (hc : (0 ≤ w ∧ w < m 2 0) ∧ (0 ≤ k ∧ k ≤ 3) ∧ m 2 2 < 150)
    (e1 : m' 1 = m 1) (e2 : m' 2 0 = m 2 0 ∧ m' 2 1 = m 2 1 ∧ m' 2 2 = m 2 2 + 1) (e3 : m' 3 = m 3 ∧ m' 4 = m 4 ∧ m' 5 = m 5 ∧ m' 6 = m 6 ∧ m' 7 = m 7 ∧ m' 8 = m 8)
    (e9 : m' 9 = q_fu (m 9) (m 2 2).toNat w) (e10 : m' 10 = q_fu (m 10) (m 2 2).toNat k) (e11 : m' 11 = q_fu (m 11) (m 2 2).toNat (m 1 8))
    (e8 : m' 82 = m 82 ∧ m' 83 = m 83 ∧ m' 84 = m 84 ∧ m' 85 = m 85 ∧ m' 86 = m 86 ∧ m' 87 = m 87 ∧ m' 88 = m 88 ∧ m' 89 = m 89 ∧ m' 90 = m 90 ∧ m' 91 = m 91) (e92 : m' 92 0 = m 92 0 + 1)
    (e93 : m' 93 = q_fu (m 93) (m 92 0).toNat w) (e94 : m' 94 = q_fu (m 94) (m 92 0).toNat k) (e95 : m' 95 = q_fu (m 95) (m 92 0).toNat (m 82 0)) : rC m' := by
  obtain ⟨⟨⟨x1, x2, x3⟩, h2, ⟨y1, y2, y3⟩, h4⟩, hW, hRW, hT, hRT, hS⟩ := h
  obtain ⟨e20, e21, e22⟩ := e2
  obtain ⟨f3, f4, f5, f6, f7, f8⟩ := e3
  obtain ⟨g2, g3, g4, g5, g6, g7, g8, g9, g10, g11⟩ := e8
  have cn : ∀ t : Nat, (t : Int) ≤ m 2 2 → q_cnt (fun j => m' 10 j = -1) t = q_cnt (fun j => m 10 j = -1) t := fun t ht => q_cnt_c t fun j hj => by
    show m' 10 j = -1 ↔ m 10 j = -1
    rw [e10, q_fu_ne (by omega)]
  have tl : ((m 2 2).toNat : Int) = m 2 2 := by omega
  refine ⟨⟨⟨by rw [e20]; exact x1, by rw [e21]; exact x2, by rw [e22]; omega⟩, by rw [e1]; exact h2, ⟨by rw [g5, e20]; exact y1, by rw [g6, e21]; exact y2, by rw [e92, e22, y3]⟩, by rw [e1, g2, g3, g4]; exact h4⟩, ?_, ?_, ?_, ?_, ?_⟩
  · intro v v0 v1
    rw [f3, f4, f5]
    exact hW v v0 (by omega)
  · intro v v0 v1
    rw [f3, f4, f6, f7, f8, g7, g8, g9, g10, g11, e1]
    exact hRW v v0 (by omega)
  · intro t t0 t1
    rw [cn t.toNat (by omega), e20]
    by_cases z : t = m 2 2
    · subst z
      rw [e9, e10, q_fu_eq, q_fu_eq]
      refine ⟨by omega, hc.1, fun q => by omega, fun _ => ?_⟩
      have : ((q_cnt (fun j => m 10 j = -1) (m 2 2).toNat : Nat) : Int) = m 2 0 := hS.2.2.1
      omega
    · rw [e9, e10, q_fu_ne (by omega), q_fu_ne (by omega)]
      exact hT t t0 (by omega)
  · intro t t0 t1
    by_cases z : t = m 2 2
    · subst z
      rw [e9, e10, e11, e93, e94, e95, y3, q_fu_eq, q_fu_eq, q_fu_eq, q_fu_eq, q_fu_eq, q_fu_eq, e1]
      exact ⟨⟨rfl, rfl, h4.1⟩, by omega, fun q => by omega⟩
    · rw [e9, e10, e11, e93, e94, e95, y3, q_fu_ne (by omega), q_fu_ne (by omega), q_fu_ne (by omega), q_fu_ne (by omega), q_fu_ne (by omega), q_fu_ne (by omega), e1, f7]
      exact hRT t t0 (by omega)
  · refine ⟨fun j k2 a b => ?_, fun j k2 a b => ?_, ?_, ?_⟩
    · rw [f7]; exact hS.1 j k2 a (by rw [e20] at b; exact b)
    · rw [e11]
      by_cases z : k2 = (m 2 2).toNat
      · subst z
        rw [q_fu_eq]
        by_cases z2 : j = (m 2 2).toNat
        · subst z2; rw [q_fu_eq]; exact Int.le_refl _
        · rw [q_fu_ne z2]
          have := (hRT (j : Int) (by omega) (by omega)).2.1.2
          rw [show ((j : Int)).toNat = j by omega] at this
          exact this
      · rw [q_fu_ne z, q_fu_ne (by omega)]
        exact hS.2.1 j k2 a (by omega)
    · rw [e22, show (m 2 2 + 1).toNat = (m 2 2).toNat + 1 by omega]
      show ((q_cnt (fun j => m' 10 j = -1) ((m 2 2).toNat + 1) : Nat) : Int) = m' 2 0
      have e : q_cnt (fun j => m' 10 j = -1) ((m 2 2).toNat + 1) = q_cnt (fun j => m' 10 j = -1) (m 2 2).toNat + (if m' 10 (m 2 2).toNat = -1 then 1 else 0) := rfl
      rw [e, cn _ (by omega), e10, q_fu_eq, if_neg (by omega), e20]
      exact hS.2.2.1
    · rw [f8, e20, e21]; exact hS.2.2.2

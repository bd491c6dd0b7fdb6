/-! printed by p44.py: sets, ratio, sureRatio, odd of the class -/
theorem q_nth_big {p : Nat → Prop} [DecidablePred p] {k : Int} : ∀ n, (q_cnt p n : Int) ≤ k → q_nth p k n = -1
  | 0, _ => rfl
  | n + 1, h => by
    have e : q_cnt p (n + 1) = q_cnt p n + (if p n then 1 else 0) := rfl
    have ih := q_nth_big (p := p) (k := k) n (by rw [e] at h; omega)
    unfold q_nth at ih ⊢
    unfold q_fst
    rw [if_neg (fun z => by have z1 := z.2.1; have z2 := z.2.2; rw [e, if_pos z1] at h; omega)]
    exact ih
def fSm (m m' : qM) : Prop := keep (kN kS) m' = keep (kN kS) m ∧ m' 0 12 = 0 ∧ CI m m' (nR m) 10 ∧ SV m m' (nR m) 1331
def cS (m : qM) : Prop := m 0 12 = 0 → CI (keep kKern m) m (nR m) 10 ∧ SV (keep kKern m) m (nR m) 1331
theorem fSm_0 {m : qM} (hc : cS m) (h : m 0 12 = 0) : fSm m m := ⟨rfl, h, CI_r (m := keep kKern m) (m' := m) rfl (hc h).1, SV_r (m := keep kKern m) (m' := m) rfl (hc h).2⟩
def ansSets (m : qM) : Int := (q_cnt (sOK m (nR m)) 1331 : Nat)
def ansRat (m : qM) (k w : Int) : Int := if 0 ≤ w ∧ w ≤ 2 then (if q_nth (sOK m (nR m)) k 1331 = -1 then -1 else rt (q_nth (sOK m (nR m)) k 1331).toNat w.toNat) else -1
def ansSur (m : qM) (w : Int) : Int := if (0 ≤ w ∧ w ≤ 2) ∧ 0 < q_cnt (sOK m (nR m)) 1331 ∧ rmin m (nR m) w.toNat 1331 = rmax m (nR m) w.toNat 1331 then rmin m (nR m) w.toNat 1331 else -1
def ansOdd (m : qM) (k : Int) : Int := if 0 < q_cnt (sOK m (nR m)) 1331 then -1 else q_nth (fun a => spo m (nR m) a 1331) k 10

set_option maxRecDepth 100000 in
theorem c_freshSums (u : qU) (m y : qM) (hR : rL m) (hd8 : rA m) (hC : cS m) (hF : m 0 12 = 0 ∨ m 0 12 = 1) : qCt YX11_freshSums 5 0 0 [qR 0] (qLy u, m, y) (fun r h => r = some (qR 39) ∧ ∃ m', h = (qLy u, m', y) ∧ fSm m m') := by
  refine qCt.intro okX11_freshSums (Nat.le_of_ble_eq_true rfl) (fun κ hκ => ?_)
  have hd9 := hd8
  obtain ⟨-, ⟨a3, a4, a5⟩, -⟩ := hd9
  have hV : qr (m 1 9) := by omega
  have zr := gHz_r hd8
  have cl := q_cnt_le (sOK m (nR m)) 1331
  show qJ YX11_freshSums κ _ (qLy u, m, y) 0 0 0 [some (qR 0)] []
  refine qJ.run hκ 2 (pc' := 4) (ls' := [some (qR 0)]) (st' := [qI (m 0 12)]) rfl ?_
  refine qJ.if_eq hκ (tgt := 33) rfl rfl (by omega) (fun c4 => ?_) (fun c4 => ?_)
  · show qJ YX11_freshSums κ _ (qLy u, m, y) 0 0 33 [some (qR 0)] []
    refine qJ.run hκ 2 (pc' := 37) (ls' := [some (qR 0)]) (st' := [qR 39]) rfl ?_
    exact qJ.aret hκ rfl rfl (by decide) (by decide) (⟨rfl, m, rfl, fSm_0 hC c4⟩)
  · show qJ YX11_freshSums κ _ (qLy u, m, y) 0 0 7 [some (qR 0)] []
    refine qJ.run hκ 7 (pc' := 22) (ls' := [some (qR 0)]) (st' := [qR 1, qR 12, qR 39]) rfl ?_
    refine qJ.callV (As := []) (rest := [qR 12, qR 39]) hκ rfl kX11_140 (c_horizon u m y hV) rfl rfl (by decide) rfl rfl (Nat.le_of_ble_eq_true rfl) (Nat.le_of_ble_eq_true rfl) (Nat.le_of_ble_eq_true rfl) (Or.inl (fun r h' e => by obtain ⟨rfl, rfl⟩ := e; rfl)) (fun r h' e => ?_)
    obtain ⟨rfl, rfl⟩ := e
    show qJ YX11_freshSums κ _ (qLy u, m, y) 0 0 25 [some (qR 0)] [qI (gHz m), qR 12, qR 39]
    refine qJ.callV (As := [qR 12, qI (gHz m)]) (rest := []) hκ rfl kX11_396 (c_sBuild u m y (gHz m) hR (by omega)) rfl rfl (by decide) rfl rfl (Nat.le_of_ble_eq_true rfl) (Nat.le_of_ble_eq_true rfl) (Nat.le_of_ble_eq_true rfl) (Or.inl (fun r h' e => by obtain ⟨rfl, M2, rfl, hk2, hC2, hV2⟩ := e; rfl)) (fun r h' e => ?_)
    obtain ⟨rfl, M2, rfl, hk2, hC2, hV2⟩ := e
    show qJ YX11_freshSums κ _ (qLy u, M2, y) 0 0 28 [some (qR 0)] []
    refine qJ.run hκ 2 (pc' := 30) (ls' := [some (qR 0)]) (st' := [qI 0, qR 0]) rfl ?_
    refine qJ.putI hκ rfl rfl rfl rfl (Or.inr ⟨rfl, by omega⟩) ?_
    show qJ YX11_freshSums κ _ (qLy u, (q_up M2 0 12 0), y) 0 0 33 [some (qR 0)] []
    refine qJ.run hκ 2 (pc' := 37) (ls' := [some (qR 0)]) (st' := [qR 39]) rfl ?_
    exact qJ.aret hκ rfl rfl (by decide) (by decide) (⟨rfl, _, rfl, Eq.trans (keep_up (by rfl)) hk2, rfl, CI_c rfl rfl rfl rfl rfl rfl hC2, SV_c rfl rfl rfl rfl hV2⟩)

set_option maxRecDepth 100000 in
theorem x_sets (u : qU) (m y : qM) (hR : rL m) (hd8 : rA m) (hC : cS m) (hF : m 0 12 = 0 ∨ m 0 12 = 1) : qCt YX11_sets 6 0 0 [qR 0] (qLy u, m, y) (fun r h => ∃ m', r = some (qI (ansSets m)) ∧ h = (qLy u, m', y) ∧ fSm m m') := by
  refine qCt.intro okX11_sets (Nat.le_of_ble_eq_true rfl) (fun κ hκ => ?_)
  have hd9 := hd8
  obtain ⟨-, ⟨a3, a4, a5⟩, -⟩ := hd9
  have hV : qr (m 1 9) := by omega
  have zr := gHz_r hd8
  have cl := q_cnt_le (sOK m (nR m)) 1331
  show qJ YX11_sets κ _ (qLy u, m, y) 0 0 0 [some (qR 0)] []
  refine qJ.run hκ 1 (pc' := 1) (ls' := [some (qR 0)]) (st' := [qR 0]) rfl ?_
  refine qJ.callV (As := []) (rest := []) hκ rfl kX11_253 (c_freshSums u m y hR hd8 hC hF) rfl rfl (by decide) rfl rfl (Nat.le_of_ble_eq_true rfl) (Nat.le_of_ble_eq_true rfl) (Nat.le_of_ble_eq_true rfl) (Or.inl (fun r h' e => by obtain ⟨rfl, mS, rfl, hS⟩ := e; rfl)) (fun r h' e => ?_)
  obtain ⟨rfl, mS, rfl, hS⟩ := e
  show qJ YX11_sets κ _ (qLy u, mS, y) 0 0 4 [some (qR 0)] [qR 39]
  refine qJ.run hκ 1 (pc' := 7) (ls' := [some (qR 0)]) (st' := [qI (mS 39 0)]) rfl ?_
  exact qJ.iret hκ rfl rfl (by decide) (by decide) (⟨mS, by unfold ansSets; rw [hS.2.2.2.1], rfl, hS⟩)

set_option maxRecDepth 100000 in
theorem c_same (u : qU) (m M y : qM) (nn : Nat) (w : Int) (hv : SV m M nn 1331) (hw : 0 ≤ w ∧ w ≤ 2) : qCt YX8_same 1 0 0 [qR 39, qI w] (qLy u, M, y) (fun r h => r = some (qI (if 0 < q_cnt (sOK m nn) 1331 ∧ rmin m nn w.toNat 1331 = rmax m nn w.toNat 1331 then rmin m nn w.toNat 1331 else -1)) ∧ h = (qLy u, M, y)) := by
  refine qCt.intro okX8_same (Nat.le_of_ble_eq_true rfl) (fun κ hκ => ?_)
  have v0 := hv.1
  have v1 := hv.2.1 w.toNat (by omega)
  have cl := q_cnt_le (sOK m nn) 1331
  have rm := rmm_r (m := m) (n := nn) (w := w.toNat) 1331 (Nat.le_refl _)
  show qJ YX8_same κ _ (qLy u, M, y) 0 0 0 [some (qR 39), some (qI w)] []
  refine qJ.run hκ 2 (pc' := 4) (ls' := [some (qR 39), some (qI w)]) (st' := [qI (M 39 0)]) rfl ?_
  refine qJ.if_le hκ (tgt := 31) rfl rfl (by omega) (fun c4 => ?_) (fun c4 => ?_)
  · show qJ YX8_same κ _ (qLy u, M, y) 0 0 31 [some (qR 39), some (qI w)] []
    refine qJ.run hκ 1 (pc' := 32) (ls' := [some (qR 39), some (qI w)]) (st' := [qI (-1)]) rfl ?_
    exact qJ.iret hκ rfl rfl (by decide) (by decide) (⟨by congr 2; rw [if_neg (fun z => by first | omega | exact c19 (by rw [v1.1, v1.2]; exact z.2))], rfl⟩)
  · show qJ YX8_same κ _ (qLy u, M, y) 0 0 7 [some (qR 39), some (qI w)] []
    refine qJ.run hκ 3 (pc' := 12) (ls' := [some (qR 39), some (qI w)]) (st' := [qI w, qR 46]) rfl ?_
    refine qJ.ald hκ rfl rfl rfl (by decide) (by omega) ?_
    show qJ YX8_same κ _ (qLy u, M, y) 0 0 13 [some (qR 39), some (qI w)] [qI (M 46 w.toNat)]
    refine qJ.run hκ 3 (pc' := 18) (ls' := [some (qR 39), some (qI w)]) (st' := [qI w, qR 47, qI (M 46 w.toNat)]) rfl ?_
    refine qJ.ald hκ rfl rfl rfl (by decide) (by omega) ?_
    show qJ YX8_same κ _ (qLy u, M, y) 0 0 19 [some (qR 39), some (qI w)] [qI (M 47 w.toNat), qI (M 46 w.toNat)]
    refine qJ.icmp_ne hκ (tgt := 31) rfl rfl (by omega) (by omega) (fun c19 => ?_) (fun c19 => ?_)
    · show qJ YX8_same κ _ (qLy u, M, y) 0 0 31 [some (qR 39), some (qI w)] []
      refine qJ.run hκ 1 (pc' := 32) (ls' := [some (qR 39), some (qI w)]) (st' := [qI (-1)]) rfl ?_
      exact qJ.iret hκ rfl rfl (by decide) (by decide) (⟨by congr 2; rw [if_neg (fun z => by first | omega | exact c19 (by rw [v1.1, v1.2]; exact z.2))], rfl⟩)
    · show qJ YX8_same κ _ (qLy u, M, y) 0 0 22 [some (qR 39), some (qI w)] []
      refine qJ.run hκ 3 (pc' := 27) (ls' := [some (qR 39), some (qI w)]) (st' := [qI w, qR 46]) rfl ?_
      refine qJ.ald hκ rfl rfl rfl (by decide) (by omega) ?_
      show qJ YX8_same κ _ (qLy u, M, y) 0 0 28 [some (qR 39), some (qI w)] [qI (M 46 w.toNat)]
      refine qJ.run hκ 1 (pc' := 32) (ls' := [some (qR 39), some (qI w)]) (st' := [qI (M 46 w.toNat)]) rfl ?_
      exact qJ.iret hκ rfl rfl (by decide) (by decide) (⟨by congr 2; rw [if_pos ⟨by omega, by rw [← v1.1, ← v1.2]; exact c19⟩, v1.1], rfl⟩)

set_option maxRecDepth 100000 in
theorem c_odd (u : qU) (m M y : qM) (nn : Nat) (k : Int) (hv : SV m M nn 1331) (hk : qr k) : qCt YX8_oddAccount 1 0 0 [qR 39, qI k] (qLy u, M, y) (fun r h => r = some (qI (if 0 < q_cnt (sOK m nn) 1331 then -1 else q_nth (fun a => spo m nn a 1331) k 10)) ∧ h = (qLy u, M, y)) := by
  refine qCt.intro okX8_oddAccount (Nat.le_of_ble_eq_true rfl) (fun κ hκ => ?_)
  have v0 := hv.1
  have cl := q_cnt_le (sOK m nn) 1331
  have L17 : ∀ (n : Nat) (c : Int) (i : Int), (0 ≤ i) → (i ≤ 10) → (c = (q_cnt (fun a => spo m nn a 1331) i.toNat : Nat)) → (q_nth (fun a => spo m nn a 1331) k i.toNat = -1) → (¬ 0 < q_cnt (sOK m nn) 1331) → ((10 - i).toNat) < n → qJ YX8_oddAccount κ (qFin (fun r h => r = some (qI (if 0 < q_cnt (sOK m nn) 1331 then -1 else q_nth (fun a => spo m nn a 1331) k 10)) ∧ h = (qLy u, M, y)) 0 0 κ) (qLy u, M, y) 0 0 17 [some (qR 39), some (qI k), some (qI c), some (qI i)] [] := by
    intro n
    induction n with
    | zero => intro c i _ _ _ _ _ hz0; omega
    | succ n ih17 =>
      intro c i v17_0 v17_1 v17_2 v17_3 v17_4 v17_m
      have cl2 := q_cnt_le (fun a => spo m nn a 1331) i.toNat
      refine qJ.run hκ 2 (pc' := 20) (ls' := [some (qR 39), some (qI k), some (qI c), some (qI i)]) (st' := [qI 10, qI i]) rfl ?_
      refine qJ.icmp_ge hκ (tgt := 48) rfl rfl (by omega) (by omega) (fun c20 => ?_) (fun c20 => ?_)
      · show qJ YX8_oddAccount κ _ (qLy u, M, y) 0 0 48 [some (qR 39), some (qI k), some (qI c), some (qI i)] []
        refine qJ.run hκ 1 (pc' := 49) (ls' := [some (qR 39), some (qI k), some (qI c), some (qI i)]) (st' := [qI (-1)]) rfl ?_
        exact qJ.iret hκ rfl rfl (by decide) (by decide) (⟨by congr 2; rw [if_neg v17_4]; rw [show i = 10 by omega] at v17_3; exact v17_3.symm, rfl⟩)
      · show qJ YX8_oddAccount κ _ (qLy u, M, y) 0 0 23 [some (qR 39), some (qI k), some (qI c), some (qI i)] []
        have v5 := hv.2.2 i.toNat (by omega)
        have v6 := q_ite01 (spo m nn i.toNat 1331)
        refine qJ.run hκ 3 (pc' := 28) (ls' := [some (qR 39), some (qI k), some (qI c), some (qI i)]) (st' := [qI i, qR 45]) rfl ?_
        refine qJ.ald hκ rfl rfl rfl (by decide) (by omega) ?_
        show qJ YX8_oddAccount κ _ (qLy u, M, y) 0 0 29 [some (qR 39), some (qI k), some (qI c), some (qI i)] [qI (M 45 i.toNat)]
        refine qJ.if_eq hκ (tgt := 42) rfl rfl (by omega) (fun c29 => ?_) (fun c29 => ?_)
        · show qJ YX8_oddAccount κ _ (qLy u, M, y) 0 0 42 [some (qR 39), some (qI k), some (qI c), some (qI i)] []
          have ns : ¬ spo m nn i.toNat 1331 := fun z => by rw [v5, if_pos z] at c29; exact absurd c29 (by decide)
          refine qJ.run hκ 2 (pc' := 17) (ls' := [some (qR 39), some (qI k), some (qI c), some (qI (i + 1))]) (st' := []) rfl ?_
          exact ih17  c (i + 1) (by omega) (by omega) (by rw [q_cnt_s v17_0, if_neg ns]; omega) (q_fst_no v17_0 v17_3 (fun z => ns z.1)) (by omega) (by omega)
        · show qJ YX8_oddAccount κ _ (qLy u, M, y) 0 0 32 [some (qR 39), some (qI k), some (qI c), some (qI i)] []
          have ys : spo m nn i.toNat 1331 := by by_cases z : spo m nn i.toNat 1331; exact z; rw [v5, if_neg z] at c29; exact absurd rfl c29
          refine qJ.run hκ 2 (pc' := 34) (ls' := [some (qR 39), some (qI k), some (qI c), some (qI i)]) (st' := [qI k, qI c]) rfl ?_
          refine qJ.icmp_ne hκ (tgt := 39) rfl rfl (by omega) (by omega) (fun c34 => ?_) (fun c34 => ?_)
          · show qJ YX8_oddAccount κ _ (qLy u, M, y) 0 0 39 [some (qR 39), some (qI k), some (qI c), some (qI i)] []
            refine qJ.run hκ 3 (pc' := 17) (ls' := [some (qR 39), some (qI k), some (qI (c + 1)), some (qI (i + 1))]) (st' := []) rfl ?_
            exact ih17  (c + 1) (i + 1) (by omega) (by omega) (by rw [q_cnt_s v17_0, if_pos ys]; omega) (q_fst_no v17_0 v17_3 (fun z => by have := z.2; omega)) (by omega) (by omega)
          · show qJ YX8_oddAccount κ _ (qLy u, M, y) 0 0 37 [some (qR 39), some (qI k), some (qI c), some (qI i)] []
            refine qJ.run hκ 1 (pc' := 38) (ls' := [some (qR 39), some (qI k), some (qI c), some (qI i)]) (st' := [qI i]) rfl ?_
            exact qJ.iret hκ rfl rfl (by decide) (by decide) (⟨by congr 2; rw [if_neg v17_4]; unfold q_nth; rw [q_fst_hit (p := fun s => spo m nn s 1331 ∧ ((q_cnt (fun a => spo m nn a 1331) s : Nat) : Int) = k) v17_0 v17_3 ⟨ys, by omega⟩ 10 (by omega)], rfl⟩)
  show qJ YX8_oddAccount κ _ (qLy u, M, y) 0 0 0 [some (qR 39), some (qI k), none, none] []
  refine qJ.run hκ 2 (pc' := 4) (ls' := [some (qR 39), some (qI k), none, none]) (st' := [qI (M 39 0)]) rfl ?_
  refine qJ.if_gt hκ (tgt := 11) rfl rfl (by omega) (fun c4 => ?_) (fun c4 => ?_)
  · show qJ YX8_oddAccount κ _ (qLy u, M, y) 0 0 11 [some (qR 39), some (qI k), none, none] []
    refine qJ.run hκ 1 (pc' := 12) (ls' := [some (qR 39), some (qI k), none, none]) (st' := [qI (-1)]) rfl ?_
    exact qJ.iret hκ rfl rfl (by decide) (by decide) (by first | exact ⟨by congr 2; rw [if_pos (by omega)], rfl⟩ | exact ⟨by congr 2; rw [if_neg (by omega), q_nth_neg (by omega)], rfl⟩)
  · show qJ YX8_oddAccount κ _ (qLy u, M, y) 0 0 7 [some (qR 39), some (qI k), none, none] []
    refine qJ.run hκ 1 (pc' := 8) (ls' := [some (qR 39), some (qI k), none, none]) (st' := [qI k]) rfl ?_
    refine qJ.if_ge hκ (tgt := 13) rfl rfl (by omega) (fun c8 => ?_) (fun c8 => ?_)
    · show qJ YX8_oddAccount κ _ (qLy u, M, y) 0 0 13 [some (qR 39), some (qI k), none, none] []
      refine qJ.run hκ 4 (pc' := 17) (ls' := [some (qR 39), some (qI k), some (qI 0), some (qI 0)]) (st' := []) rfl ?_
      exact L17 11 0 0 (by omega) (by omega) (rfl) (rfl) (by omega) (by omega)
    · show qJ YX8_oddAccount κ _ (qLy u, M, y) 0 0 11 [some (qR 39), some (qI k), none, none] []
      refine qJ.run hκ 1 (pc' := 12) (ls' := [some (qR 39), some (qI k), none, none]) (st' := [qI (-1)]) rfl ?_
      exact qJ.iret hκ rfl rfl (by decide) (by decide) (by first | exact ⟨by congr 2; rw [if_pos (by omega)], rfl⟩ | exact ⟨by congr 2; rw [if_neg (by omega), q_nth_neg (by omega)], rfl⟩)

set_option maxRecDepth 100000 in
theorem x_odd (u : qU) (m y : qM) (k : Int) (hR : rL m) (hd8 : rA m) (hC : cS m) (hF : m 0 12 = 0 ∨ m 0 12 = 1) (h1 : qr k) : qCt YX11_odd 6 0 0 [qR 0, qI k] (qLy u, m, y) (fun r h => ∃ m', r = some (qI (ansOdd m k)) ∧ h = (qLy u, m', y) ∧ fSm m m') := by
  refine qCt.intro okX11_odd (Nat.le_of_ble_eq_true rfl) (fun κ hκ => ?_)
  have hd9 := hd8
  obtain ⟨-, ⟨a3, a4, a5⟩, -⟩ := hd9
  have hV : qr (m 1 9) := by omega
  have zr := gHz_r hd8
  have cl := q_cnt_le (sOK m (nR m)) 1331
  show qJ YX11_odd κ _ (qLy u, m, y) 0 0 0 [some (qR 0), some (qI k)] []
  refine qJ.run hκ 1 (pc' := 1) (ls' := [some (qR 0), some (qI k)]) (st' := [qR 0]) rfl ?_
  refine qJ.callV (As := []) (rest := []) hκ rfl kX11_253 (c_freshSums u m y hR hd8 hC hF) rfl rfl (by decide) rfl rfl (Nat.le_of_ble_eq_true rfl) (Nat.le_of_ble_eq_true rfl) (Nat.le_of_ble_eq_true rfl) (Or.inl (fun r h' e => by obtain ⟨rfl, mS, rfl, hS⟩ := e; rfl)) (fun r h' e => ?_)
  obtain ⟨rfl, mS, rfl, hS⟩ := e
  show qJ YX11_odd κ _ (qLy u, mS, y) 0 0 4 [some (qR 0), some (qI k)] [qR 39]
  refine qJ.run hκ 1 (pc' := 5) (ls' := [some (qR 0), some (qI k)]) (st' := [qI k, qR 39]) rfl ?_
  refine qJ.callV (As := [qI k]) (rest := []) hκ rfl kX11_269 (c_odd u m mS y (nR m) k hS.2.2.2 h1) rfl rfl (by decide) rfl rfl (Nat.le_of_ble_eq_true rfl) (Nat.le_of_ble_eq_true rfl) (Nat.le_of_ble_eq_true rfl) (Or.inl (fun r h' e => by obtain ⟨rfl, rfl⟩ := e; rfl)) (fun r h' e => ?_)
  obtain ⟨rfl, rfl⟩ := e
  show qJ YX11_odd κ _ (qLy u, mS, y) 0 0 8 [some (qR 0), some (qI k)] [qI (if 0 < q_cnt (sOK m (nR m)) 1331 then -1 else q_nth (fun a => spo m (nR m) a 1331) k 10)]
  exact qJ.iret hκ rfl rfl (by decide) (by decide) (⟨mS, rfl, rfl, hS⟩)

set_option maxRecDepth 100000 in
theorem x_sureRatio (u : qU) (m y : qM) (w : Int) (hR : rL m) (hd8 : rA m) (hC : cS m) (hF : m 0 12 = 0 ∨ m 0 12 = 1) (h1 : qr w) : qCt YX11_sureRatio 6 0 0 [qR 0, qI w] (qLy u, m, y) (fun r h => ∃ m', r = some (qI (ansSur m w)) ∧ h = (qLy u, m', y) ∧ (m' = m ∨ fSm m m')) := by
  refine qCt.intro okX11_sureRatio (Nat.le_of_ble_eq_true rfl) (fun κ hκ => ?_)
  have hd9 := hd8
  obtain ⟨-, ⟨a3, a4, a5⟩, -⟩ := hd9
  have hV : qr (m 1 9) := by omega
  have zr := gHz_r hd8
  have cl := q_cnt_le (sOK m (nR m)) 1331
  have is1 := q_ite01 (0 ≤ w ∧ w ≤ 2)
  show qJ YX11_sureRatio κ _ (qLy u, m, y) 0 0 0 [some (qR 0), some (qI w)] []
  refine qJ.run hκ 1 (pc' := 1) (ls' := [some (qR 0), some (qI w)]) (st' := [qI w]) rfl ?_
  refine qJ.callS (As := [qI w]) (rest := []) hκ rfl kX11_260 (c_isRatio u m y w (by omega)) (by decide) rfl rfl (Nat.le_of_ble_eq_true rfl) (Nat.le_of_ble_eq_true rfl) (Nat.le_of_ble_eq_true rfl) (Or.inl (fun r h' e => by obtain ⟨rfl, rfl⟩ := e; rfl)) (fun r h' e => ?_)
  obtain ⟨rfl, rfl⟩ := e
  show qJ YX11_sureRatio κ _ (qLy u, m, y) 0 0 4 [some (qR 0), some (qI w)] [qI (if 0 ≤ w ∧ w ≤ 2 then 1 else 0)]
  refine qJ.if_eq hκ (tgt := 18) rfl rfl (by omega) (fun c4 => ?_) (fun c4 => ?_)
  · show qJ YX11_sureRatio κ _ (qLy u, m, y) 0 0 18 [some (qR 0), some (qI w)] []
    refine qJ.run hκ 1 (pc' := 19) (ls' := [some (qR 0), some (qI w)]) (st' := [qI (-1)]) rfl ?_
    exact qJ.iret hκ rfl rfl (by decide) (by decide) (⟨m, by unfold ansSur; rw [if_neg (fun z => by rw [if_pos z.1] at c4; exact absurd c4 (by decide))], rfl, Or.inl rfl⟩)
  · show qJ YX11_sureRatio κ _ (qLy u, m, y) 0 0 7 [some (qR 0), some (qI w)] []
    have sr : 0 ≤ w ∧ w ≤ 2 := by by_cases z : 0 ≤ w ∧ w ≤ 2; exact z; rw [if_neg z] at c4; exact absurd rfl c4
    refine qJ.run hκ 1 (pc' := 8) (ls' := [some (qR 0), some (qI w)]) (st' := [qR 0]) rfl ?_
    refine qJ.callV (As := []) (rest := []) hκ rfl kX11_253 (c_freshSums u m y hR hd8 hC hF) rfl rfl (by decide) rfl rfl (Nat.le_of_ble_eq_true rfl) (Nat.le_of_ble_eq_true rfl) (Nat.le_of_ble_eq_true rfl) (Or.inl (fun r h' e => by obtain ⟨rfl, mS, rfl, hS⟩ := e; rfl)) (fun r h' e => ?_)
    obtain ⟨rfl, mS, rfl, hS⟩ := e
    show qJ YX11_sureRatio κ _ (qLy u, mS, y) 0 0 11 [some (qR 0), some (qI w)] [qR 39]
    refine qJ.run hκ 1 (pc' := 12) (ls' := [some (qR 0), some (qI w)]) (st' := [qI w, qR 39]) rfl ?_
    refine qJ.callV (As := [qI w]) (rest := []) hκ rfl kX11_266 (c_same u m mS y (nR m) w hS.2.2.2 sr) rfl rfl (by decide) rfl rfl (Nat.le_of_ble_eq_true rfl) (Nat.le_of_ble_eq_true rfl) (Nat.le_of_ble_eq_true rfl) (Or.inl (fun r h' e => by obtain ⟨rfl, rfl⟩ := e; rfl)) (fun r h' e => ?_)
    obtain ⟨rfl, rfl⟩ := e
    show qJ YX11_sureRatio κ _ (qLy u, mS, y) 0 0 15 [some (qR 0), some (qI w)] [qI (if 0 < q_cnt (sOK m (nR m)) 1331 ∧ rmin m (nR m) w.toNat 1331 = rmax m (nR m) w.toNat 1331 then rmin m (nR m) w.toNat 1331 else -1)]
    refine qJ.run hκ 1 (pc' := 19) (ls' := [some (qR 0), some (qI w)]) (st' := [qI (if 0 < q_cnt (sOK m (nR m)) 1331 ∧ rmin m (nR m) w.toNat 1331 = rmax m (nR m) w.toNat 1331 then rmin m (nR m) w.toNat 1331 else -1)]) rfl ?_
    exact qJ.iret hκ rfl rfl (by decide) (by decide) (⟨mS, by unfold ansSur; congr 2; by_cases z : 0 < q_cnt (sOK m (nR m)) 1331 ∧ rmin m (nR m) w.toNat 1331 = rmax m (nR m) w.toNat 1331; rw [if_pos z, if_pos ⟨sr, z⟩]; rw [if_neg z, if_neg (fun q => z q.2)], rfl, Or.inr hS⟩)

set_option maxRecDepth 100000 in
theorem c_ratioOf (u : qU) (m M y : qM) (nn : Nat) (k w : Int) (hc : CI m M nn 10) (hx : xR m nn) (hw : 0 ≤ w ∧ w ≤ 2) (hk : qr k) : qCt YX8_ratioOf 3 0 0 [qR 39, qI k, qI w] (qLy u, M, y) (fun r h => ∃ M', r = some (qI (if q_nth (sOK m nn) k 1331 = -1 then -1 else rt (q_nth (sOK m nn) k 1331).toNat w.toNat)) ∧ h = (qLy u, M', y) ∧ keep (fun i _ => decide (¬ i = 48)) M' = keep (fun i _ => decide (¬ i = 48)) M) := by
  refine qCt.intro okX8_ratioOf (Nat.le_of_ble_eq_true rfl) (fun κ hκ => ?_)
  have L12 : ∀ (n : Nat) (M1 : qM) (t : Nat) (mo : Int) (ah : Int) (c : Int), (keep (fun i _ => decide (¬ i = 48)) M1 = keep (fun i _ => decide (¬ i = 48)) M) → (ah = (q_cnt (sOK m nn) t : Nat)) → (c = (t : Int)) → ((mo = 1 ∧ t < 1331 ∧ setR M1 t) ∨ (mo = 0 ∧ t = 1331)) → (q_nth (sOK m nn) k t = -1) → (1331 - t) < n → qJ YX8_ratioOf κ (qFin (fun r h => ∃ M', r = some (qI (if q_nth (sOK m nn) k 1331 = -1 then -1 else rt (q_nth (sOK m nn) k 1331).toNat w.toNat)) ∧ h = (qLy u, M', y) ∧ keep (fun i _ => decide (¬ i = 48)) M' = keep (fun i _ => decide (¬ i = 48)) M) 0 0 κ) (qLy u, M1, y) 0 0 12 [some (qR 39), some (qI k), some (qI w), some (qI mo), some (qI ah), some (qI c)] [] := by
    intro n
    induction n with
    | zero => intro M1 t mo ah c _ _ _ _ _ hz0; omega
    | succ n ih12 =>
      intro M1 t mo ah c v12_0 v12_1 v12_2 v12_3 v12_4 v12_m
      have mr : mo = 0 ∨ mo = 1 := by rcases v12_3 with q | q <;> omega
      have tr : t ≤ 1331 := by rcases v12_3 with q | q <;> omega
      refine qJ.run hκ 1 (pc' := 13) (ls' := [some (qR 39), some (qI k), some (qI w), some (qI mo), some (qI ah), some (qI c)]) (st' := [qI mo]) rfl ?_
      refine qJ.if_eq hκ (tgt := 60) rfl rfl (by omega) (fun c13 => ?_) (fun c13 => ?_)
      · show qJ YX8_ratioOf κ _ (qLy u, M1, y) 0 0 60 [some (qR 39), some (qI k), some (qI w), some (qI mo), some (qI ah), some (qI c)] []
        refine qJ.run hκ 1 (pc' := 61) (ls' := [some (qR 39), some (qI k), some (qI w), some (qI mo), some (qI ah), some (qI c)]) (st' := [qI (-1)]) rfl ?_
        exact qJ.iret hκ rfl rfl (by decide) (by decide) (⟨M1, by rw [if_pos (by rw [← show t = 1331 by omega]; exact v12_4)], rfl, v12_0⟩)
      · show qJ YX8_ratioOf κ _ (qLy u, M1, y) 0 0 16 [some (qR 39), some (qI k), some (qI w), some (qI mo), some (qI ah), some (qI c)] []
        have ht : t < 1331 := by rcases v12_3 with q | q; exact q.2.1; exact absurd q.1 c13
        have hSR : setR M1 t := by rcases v12_3 with q | q; exact q.2.2; exact absurd q.1 c13
        have hCI : CI m M1 nn 10 := CI_c (congrFun (congrFun v12_0 39) 6) (congrFun v12_0 40) (congrFun v12_0 41) (congrFun v12_0 42) (congrFun v12_0 43) (congrFun v12_0 44) hc
        have cl := q_cnt_le (cA m nn) 10
        have cl3 := q_cnt_le (sOK m nn) t
        refine qJ.run hκ 2 (pc' := 21) (ls' := [some (qR 39), some (qI k), some (qI w), some (qI mo), some (qI ah), some (qI c)]) (st' := [qI 2000, qI c]) rfl ?_
        refine qJ.icmp_ge hκ (tgt := 60) rfl rfl (by omega) (by omega) (fun c21 => ?_) (fun c21 => ?_)
        · show qJ YX8_ratioOf κ _ (qLy u, M1, y) 0 0 60 [some (qR 39), some (qI k), some (qI w), some (qI mo), some (qI ah), some (qI c)] []
          exfalso; omega
        · show qJ YX8_ratioOf κ _ (qLy u, M1, y) 0 0 24 [some (qR 39), some (qI k), some (qI w), some (qI mo), some (qI ah), some (qI c)] []
          refine qJ.run hκ 2 (pc' := 26) (ls' := [some (qR 39), some (qI k), some (qI w), some (qI mo), some (qI ah), some (qI c)]) (st' := [qI 0, qR 39]) rfl ?_
          refine qJ.callV (As := [qI 0]) (rest := []) hκ rfl kX8_87 (c_disag u m M1 y nn t 0 hCI hx ht hSR (by omega)) rfl rfl (by decide) rfl rfl (Nat.le_of_ble_eq_true rfl) (Nat.le_of_ble_eq_true rfl) (Nat.le_of_ble_eq_true rfl) (Or.inl (fun r h' e => by obtain ⟨rfl, rfl⟩ := e; rfl)) (fun r h' e => ?_)
          obtain ⟨rfl, rfl⟩ := e
          obtain ⟨F, hF0⟩ : ∃ F : Int, F = q_fst (fun i => 0 ≤ (i : Int) ∧ dJ m M1 nn t i) (q_cnt (cA m nn) 10) := ⟨_, rfl⟩
          rw [← hF0]
          have hF : F = q_fst (dJ m M1 nn t) (q_cnt (cA m nn) 10) := by rw [hF0]; exact q_fst_c _ (fun k _ => ⟨fun z => z.2, fun z => ⟨by omega, z⟩⟩)
          have Fr := q_fst_r (dJ m M1 nn t) (q_cnt (cA m nn) 10)
          rw [← hF] at Fr
          have F1 : F = -1 ↔ sOK m nn t := by rw [hF, q_fst_0, dJ_cnt hCI]
          show qJ YX8_ratioOf κ _ (qLy u, M1, y) 0 0 29 [some (qR 39), some (qI k), some (qI w), some (qI mo), some (qI ah), some (qI c)] [qI F]
          refine qJ.run hκ 1 (pc' := 30) (ls' := [some (qR 39), some (qI k), some (qI w), some (qI mo), some (qI ah), some (qI c)]) (st' := [qI (-1), qI F]) rfl ?_
          refine qJ.icmp_ne hκ (tgt := 49) rfl rfl (by omega) (by omega) (fun c30 => ?_) (fun c30 => ?_)
          · show qJ YX8_ratioOf κ _ (qLy u, M1, y) 0 0 49 [some (qR 39), some (qI k), some (qI w), some (qI mo), some (qI ah), some (qI c)] []
            refine qJ.run hκ 1 (pc' := 50) (ls' := [some (qR 39), some (qI k), some (qI w), some (qI mo), some (qI ah), some (qI c)]) (st' := [qR 39]) rfl ?_
            refine qJ.callV (As := []) (rest := []) hκ rfl kX8_93 (c_stepSet2 u M1 y t ht hSR) rfl rfl (by decide) rfl rfl (Nat.le_of_ble_eq_true rfl) (Nat.le_of_ble_eq_true rfl) (Nat.le_of_ble_eq_true rfl) (Or.inl (fun r h' e => by obtain ⟨M3, z3, rfl, rfl, hk3, hst⟩ := e; rfl)) (fun r h' e => ?_)
            obtain ⟨M3, z3, rfl, rfl, hk3, hst⟩ := e
            show qJ YX8_ratioOf κ _ (qLy u, M3, y) 0 0 53 [some (qR 39), some (qI k), some (qI w), some (qI mo), some (qI ah), some (qI c)] [qI z3]
            refine qJ.run hκ 3 (pc' := 12) (ls' := [some (qR 39), some (qI k), some (qI w), some (qI z3), some (qI ah), some (qI (c + 1))]) (st' := []) rfl ?_
            exact ih12  M3 (t + 1) z3 ah (c + 1) (hk3.trans v12_0) (by show ah = ((q_cnt (sOK m nn) t + (if sOK m nn t then 1 else 0) : Nat) : Int); rw [if_neg (fun z => c30 (F1.mpr z))]; omega) (by omega) (hst) (by have := q_fst_no (p := fun s => sOK m nn s ∧ ((q_cnt (sOK m nn) s : Nat) : Int) = k) (i := (t : Int)) (by omega) v12_4 (fun z => c30 (F1.mpr z.1)); exact this) (by omega)
          · show qJ YX8_ratioOf κ _ (qLy u, M1, y) 0 0 33 [some (qR 39), some (qI k), some (qI w), some (qI mo), some (qI ah), some (qI c)] []
            refine qJ.run hκ 2 (pc' := 36) (ls' := [some (qR 39), some (qI k), some (qI w), some (qI mo), some (qI ah), some (qI c)]) (st' := [qI k, qI ah]) rfl ?_
            refine qJ.icmp_ne hκ (tgt := 46) rfl rfl (by omega) (by omega) (fun c36 => ?_) (fun c36 => ?_)
            · show qJ YX8_ratioOf κ _ (qLy u, M1, y) 0 0 46 [some (qR 39), some (qI k), some (qI w), some (qI mo), some (qI ah), some (qI c)] []
              refine qJ.run hκ 2 (pc' := 50) (ls' := [some (qR 39), some (qI k), some (qI w), some (qI mo), some (qI (ah + 1)), some (qI c)]) (st' := [qR 39]) rfl ?_
              refine qJ.callV (As := []) (rest := []) hκ rfl kX8_93 (c_stepSet2 u M1 y t ht hSR) rfl rfl (by decide) rfl rfl (Nat.le_of_ble_eq_true rfl) (Nat.le_of_ble_eq_true rfl) (Nat.le_of_ble_eq_true rfl) (Or.inl (fun r h' e => by obtain ⟨M3, z3, rfl, rfl, hk3, hst⟩ := e; rfl)) (fun r h' e => ?_)
              obtain ⟨M3, z3, rfl, rfl, hk3, hst⟩ := e
              show qJ YX8_ratioOf κ _ (qLy u, M3, y) 0 0 53 [some (qR 39), some (qI k), some (qI w), some (qI mo), some (qI (ah + 1)), some (qI c)] [qI z3]
              refine qJ.run hκ 3 (pc' := 12) (ls' := [some (qR 39), some (qI k), some (qI w), some (qI z3), some (qI (ah + 1)), some (qI (c + 1))]) (st' := []) rfl ?_
              exact ih12  M3 (t + 1) z3 (ah + 1) (c + 1) (hk3.trans v12_0) (by show ah + 1 = ((q_cnt (sOK m nn) t + (if sOK m nn t then 1 else 0) : Nat) : Int); rw [if_pos (F1.mp c30)]; omega) (by omega) (hst) (by have := q_fst_no (p := fun s => sOK m nn s ∧ ((q_cnt (sOK m nn) s : Nat) : Int) = k) (i := (t : Int)) (by omega) v12_4 (fun z => by have z2 : ((q_cnt (sOK m nn) t : Nat) : Int) = k := z.2; omega); exact this) (by omega)
            · show qJ YX8_ratioOf κ _ (qLy u, M1, y) 0 0 39 [some (qR 39), some (qI k), some (qI w), some (qI mo), some (qI ah), some (qI c)] []
              refine qJ.run hκ 3 (pc' := 44) (ls' := [some (qR 39), some (qI k), some (qI w), some (qI mo), some (qI ah), some (qI c)]) (st' := [qI w, qR 48]) rfl ?_
              refine qJ.ald hκ rfl rfl rfl (by decide) (by omega) ?_
              show qJ YX8_ratioOf κ _ (qLy u, M1, y) 0 0 45 [some (qR 39), some (qI k), some (qI w), some (qI mo), some (qI ah), some (qI c)] [qI (M1 48 w.toNat)]
              exact qJ.iret hκ rfl rfl (by decide) (by decide) (by
      have hn : q_nth (sOK m nn) k 1331 = (t : Int) := by
        unfold q_nth
        exact q_fst_hit (p := fun s => sOK m nn s ∧ ((q_cnt (sOK m nn) s : Nat) : Int) = k) (i := (t : Int)) (by omega) v12_4 ⟨F1.mp c30, by show ((q_cnt (sOK m nn) t : Nat) : Int) = k; omega⟩ 1331 (by omega)
      refine ⟨M1, ?_, rfl, v12_0⟩
      rw [hn, if_neg (by omega), show ((t : Int)).toNat = t by omega, setR_w hSR w.toNat (by omega)])
  show qJ YX8_ratioOf κ _ (qLy u, M, y) 0 0 0 [some (qR 39), some (qI k), some (qI w), none, none, none] []
  refine qJ.run hκ 1 (pc' := 1) (ls' := [some (qR 39), some (qI k), some (qI w), none, none, none]) (st' := [qR 39]) rfl ?_
  refine qJ.callV (As := []) (rest := []) hκ rfl kX8_84 (c_startSets u M y) rfl rfl (by decide) rfl rfl (Nat.le_of_ble_eq_true rfl) (Nat.le_of_ble_eq_true rfl) (Nat.le_of_ble_eq_true rfl) (Or.inl (fun r h' e => by obtain ⟨rfl, rfl⟩ := e; rfl)) (fun r h' e => ?_)
  obtain ⟨rfl, rfl⟩ := e
  show qJ YX8_ratioOf κ _ (qLy u, (q_row M 48 (fun k => if k < 3 then 2 else M 48 k)), y) 0 0 4 [some (qR 39), some (qI k), some (qI w), none, none, none] []
  refine qJ.run hκ 6 (pc' := 12) (ls' := [some (qR 39), some (qI k), some (qI w), some (qI 1), some (qI 0), some (qI 0)]) (st' := []) rfl ?_
  exact L12 1332 (q_row M 48 (fun k => if k < 3 then 2 else M 48 k)) 0 1 0 0 (keep_row (by intro j; rfl)) (rfl) (rfl) (Or.inl ⟨rfl, by decide, setR_0 M⟩) (rfl) (by omega)

set_option maxRecDepth 100000 in
theorem x_ratio (u : qU) (m y : qM) (k w : Int) (hR : rL m) (hd8 : rA m) (hC : cS m) (hF : m 0 12 = 0 ∨ m 0 12 = 1) (h1 : qr k) (h2 : qr w) : qCt YX11_ratio 6 0 0 [qR 0, qI k, qI w] (qLy u, m, y) (fun r h => ∃ m', r = some (qI (ansRat m k w)) ∧ h = (qLy u, m', y) ∧ (m' = m ∨ ∃ mS, keep (fun i _ => decide (¬ i = 48)) m' = keep (fun i _ => decide (¬ i = 48)) mS ∧ fSm m mS)) := by
  refine qCt.intro okX11_ratio (Nat.le_of_ble_eq_true rfl) (fun κ hκ => ?_)
  have hd9 := hd8
  obtain ⟨-, ⟨a3, a4, a5⟩, -⟩ := hd9
  have hV : qr (m 1 9) := by omega
  have zr := gHz_r hd8
  have cl := q_cnt_le (sOK m (nR m)) 1331
  have is1 := q_ite01 (0 ≤ w ∧ w ≤ 2)
  show qJ YX11_ratio κ _ (qLy u, m, y) 0 0 0 [some (qR 0), some (qI k), some (qI w)] []
  refine qJ.run hκ 1 (pc' := 1) (ls' := [some (qR 0), some (qI k), some (qI w)]) (st' := [qI w]) rfl ?_
  refine qJ.callS (As := [qI w]) (rest := []) hκ rfl kX11_260 (c_isRatio u m y w (by omega)) (by decide) rfl rfl (Nat.le_of_ble_eq_true rfl) (Nat.le_of_ble_eq_true rfl) (Nat.le_of_ble_eq_true rfl) (Or.inl (fun r h' e => by obtain ⟨rfl, rfl⟩ := e; rfl)) (fun r h' e => ?_)
  obtain ⟨rfl, rfl⟩ := e
  show qJ YX11_ratio κ _ (qLy u, m, y) 0 0 4 [some (qR 0), some (qI k), some (qI w)] [qI (if 0 ≤ w ∧ w ≤ 2 then 1 else 0)]
  refine qJ.if_eq hκ (tgt := 22) rfl rfl (by omega) (fun c4 => ?_) (fun c4 => ?_)
  · show qJ YX11_ratio κ _ (qLy u, m, y) 0 0 22 [some (qR 0), some (qI k), some (qI w)] []
    refine qJ.run hκ 1 (pc' := 23) (ls' := [some (qR 0), some (qI k), some (qI w)]) (st' := [qI (-1)]) rfl ?_
    exact qJ.iret hκ rfl rfl (by decide) (by decide) (by
      first
      | exact ⟨m, by unfold ansRat; rw [if_neg (fun z => by rw [if_pos z] at c4; exact absurd c4 (by decide))], rfl, Or.inl rfl⟩
      | exact ⟨m, by unfold ansRat; rw [if_pos sr, if_pos (q_nth_neg (by omega) _)], rfl, Or.inl rfl⟩)
  · show qJ YX11_ratio κ _ (qLy u, m, y) 0 0 7 [some (qR 0), some (qI k), some (qI w)] []
    have sr : 0 ≤ w ∧ w ≤ 2 := by by_cases z : 0 ≤ w ∧ w ≤ 2; exact z; rw [if_neg z] at c4; exact absurd rfl c4
    refine qJ.run hκ 1 (pc' := 8) (ls' := [some (qR 0), some (qI k), some (qI w)]) (st' := [qI k]) rfl ?_
    refine qJ.if_lt hκ (tgt := 22) rfl rfl (by omega) (fun c8 => ?_) (fun c8 => ?_)
    · show qJ YX11_ratio κ _ (qLy u, m, y) 0 0 22 [some (qR 0), some (qI k), some (qI w)] []
      refine qJ.run hκ 1 (pc' := 23) (ls' := [some (qR 0), some (qI k), some (qI w)]) (st' := [qI (-1)]) rfl ?_
      exact qJ.iret hκ rfl rfl (by decide) (by decide) (by
      first
      | exact ⟨m, by unfold ansRat; rw [if_neg (fun z => by rw [if_pos z] at c4; exact absurd c4 (by decide))], rfl, Or.inl rfl⟩
      | exact ⟨m, by unfold ansRat; rw [if_pos sr, if_pos (q_nth_neg (by omega) _)], rfl, Or.inl rfl⟩)
    · show qJ YX11_ratio κ _ (qLy u, m, y) 0 0 11 [some (qR 0), some (qI k), some (qI w)] []
      refine qJ.run hκ 2 (pc' := 13) (ls' := [some (qR 0), some (qI k), some (qI w)]) (st' := [qR 0, qI k]) rfl ?_
      refine qJ.callV (As := []) (rest := [qI k]) hκ rfl kX11_253 (c_freshSums u m y hR hd8 hC hF) rfl rfl (by decide) rfl rfl (Nat.le_of_ble_eq_true rfl) (Nat.le_of_ble_eq_true rfl) (Nat.le_of_ble_eq_true rfl) (Or.inl (fun r h' e => by obtain ⟨rfl, mS, rfl, hS⟩ := e; rfl)) (fun r h' e => ?_)
      obtain ⟨rfl, mS, rfl, hS⟩ := e
      show qJ YX11_ratio κ _ (qLy u, mS, y) 0 0 16 [some (qR 0), some (qI k), some (qI w)] [qR 39, qI k]
      have f0 := hS.2.2.2.1
      refine qJ.run hκ 1 (pc' := 19) (ls' := [some (qR 0), some (qI k), some (qI w)]) (st' := [qI (mS 39 0), qI k]) rfl ?_
      refine qJ.icmp_lt hκ (tgt := 24) rfl rfl (by omega) (by omega) (fun c19 => ?_) (fun c19 => ?_)
      · show qJ YX11_ratio κ _ (qLy u, mS, y) 0 0 24 [some (qR 0), some (qI k), some (qI w)] []
        refine qJ.run hκ 4 (pc' := 30) (ls' := [some (qR 0), some (qI k), some (qI w)]) (st' := [qI w, qI k, qR 39]) rfl ?_
        refine qJ.callV (As := [qI k, qI w]) (rest := []) hκ rfl kX11_263 (c_ratioOf u m mS y (nR m) k w hS.2.2.1 (xR_of hR) sr h1) rfl rfl (by decide) rfl rfl (Nat.le_of_ble_eq_true rfl) (Nat.le_of_ble_eq_true rfl) (Nat.le_of_ble_eq_true rfl) (Or.inl (fun r h' e => by obtain ⟨mT, rfl, rfl, hT⟩ := e; rfl)) (fun r h' e => ?_)
        obtain ⟨mT, rfl, rfl, hT⟩ := e
        show qJ YX11_ratio κ _ (qLy u, mT, y) 0 0 33 [some (qR 0), some (qI k), some (qI w)] [qI (if q_nth (sOK m (nR m)) k 1331 = -1 then -1 else rt (q_nth (sOK m (nR m)) k 1331).toNat w.toNat)]
        exact qJ.iret hκ rfl rfl (by decide) (by decide) (⟨mT, by unfold ansRat; rw [if_pos sr], rfl, Or.inr ⟨mS, hT, hS⟩⟩)
      · show qJ YX11_ratio κ _ (qLy u, mS, y) 0 0 22 [some (qR 0), some (qI k), some (qI w)] []
        refine qJ.run hκ 1 (pc' := 23) (ls' := [some (qR 0), some (qI k), some (qI w)]) (st' := [qI (-1)]) rfl ?_
        exact qJ.iret hκ rfl rfl (by decide) (by decide) (⟨mS, by unfold ansRat; rw [if_pos sr, if_pos (q_nth_big _ (by omega))], rfl, Or.inr ⟨mS, rfl, hS⟩⟩)

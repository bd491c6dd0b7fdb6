/-! printed by p53.py: Speller built; spelled -/
theorem lxA_k {m M : qM} {a : Int} (h : keep (kN kP) M = keep (kN kP) m) (hx : lxA m a) : lxA M a := by
  have h2 : lxA (keep (kN kP) m) a := hx
  rw [← h] at h2
  exact h2
theorem lxS_k {m M : qM} (h : keep (kN kP) M = keep (kN kP) m) (hx : lxS m) : lxS M := by
  have h2 : lxS (keep (kN kP) m) := hx
  rw [← h] at h2
  exact h2
theorem SP_new {m M1 M2 : qM} {a : Int} {f : Nat → Int} (hk : keep (kN kP) M1 = keep (kN kP) m) (ha : 0 ≤ a ∧ a < 5) (h55 : M2 55 = q_fu (M1 55) a.toNat (vN M1 a (M1 17 a.toNat).toNat : Nat)) (h54 : M2 54 = f) (hf : ∀ j : Nat, (j : Int) < a * 10 → f j = M1 54 j) (hs : SPv M1 f a (M1 17 a.toNat)) (hb : ∀ b : Int, 0 ≤ b → b < a → SP m M1 b ∧ m 17 b.toNat ≤ 10) : ∀ b : Int, 0 ≤ b → b < a + 1 → SP m M2 b := by
  have e17 : M1 17 = m 17 := congrFun hk 17
  intro b b0 b1
  by_cases e : b = a
  · subst e
    refine ⟨by rw [h55, q_fu_eq, e17, vN_k hk], fun j j0 j1 hp => ?_⟩
    rw [h54, ← vN_k hk, ← pV_k hk]
    exact hs j j0 (by rw [e17]; exact j1) (by rw [pV_k hk]; exact hp)
  · obtain ⟨⟨p1, p2⟩, p3⟩ := hb b b0 (by omega)
    refine ⟨by rw [h55, q_fu_ne (by omega)]; exact p1, fun j j0 j1 hp => ?_⟩
    have vl := vN_le m b j.toNat
    rw [h54, hf _ (by omega)]
    exact p2 j j0 j1 hp

set_option maxRecDepth 100000 in
theorem c_pBuild (u : qU) (m y : qM) (hz : Int) (nn : Nat) (hnn : q_pfx (m 18) hz (m 15 0).toNat = nn) (hX : rXn m) (hs : lxS m) (h18 : 0 ≤ m 1 8 ∧ m 1 8 ≤ 999) (h1 : qr hz) : qCt YX7_build 5 0 0 [qR 53, qR 15, qI hz] (qLy u, m, y) (fun r h => r = none ∧ ∃ M, h = (qLy u, M, y) ∧ keep (kN kP) M = keep (kN kP) m ∧ M 53 2 = (nn : Int) ∧ ∀ a : Int, 0 ≤ a → a < (nn : Int) → SP m M a) := by
  refine qCt.intro okX7_build (Nat.le_of_ble_eq_true rfl) (fun κ hκ => ?_)
  have n0 := hX.1.1
  have hS18 : ∀ k : Int, 0 ≤ k → k < m 15 0 → qr (m 18 k.toNat) := fun k k0 k1 => by have := (hX.2.1 k k0 k1).2.2.1; omega
  have nl := q_pfx_le (m 18) hz (m 15 0).toNat
  rw [hnn] at nl
  have hxs : ∀ a : Int, 0 ≤ a → a < (nn : Int) → lxA m a := fun a a0 a1 => rX_lxA hX ⟨a0, by omega⟩
  have L11 : ∀ (n : Nat) (M1 : qM) (a : Int), (0 ≤ a) → (a ≤ (nn : Int)) → (keep (kN kP) M1 = keep (kN kP) m) → (M1 53 2 = (nn : Int)) → (∀ b : Int, 0 ≤ b → b < a → SP m M1 b) → (((nn : Int) - a).toNat) < n → qJ YX7_build κ (qFin (fun r h => r = none ∧ ∃ M, h = (qLy u, M, y) ∧ keep (kN kP) M = keep (kN kP) m ∧ M 53 2 = (nn : Int) ∧ ∀ a : Int, 0 ≤ a → a < (nn : Int) → SP m M a) 0 0 κ) (qLy u, M1, y) 0 0 11 [some (qR 53), some (qR 15), some (qI hz), some (qI a)] [] := by
    intro n
    induction n with
    | zero => intro M1 a _ _ _ _ _ hz0; omega
    | succ n ih11 =>
      intro M1 a v11_0 v11_1 v11_2 v11_3 v11_4 v11_m
      refine qJ.run hκ 3 (pc' := 16) (ls' := [some (qR 53), some (qR 15), some (qI hz), some (qI a)]) (st' := [qI (M1 53 2), qI a]) rfl ?_
      refine qJ.icmp_ge hκ (tgt := 31) rfl rfl (by omega) (by omega) (fun c16 => ?_) (fun c16 => ?_)
      · show qJ YX7_build κ _ (qLy u, M1, y) 0 0 31 [some (qR 53), some (qR 15), some (qI hz), some (qI a)] []
        exact qJ.vret hκ rfl rfl (by decide) (by decide) (⟨rfl, M1, rfl, v11_2, v11_3, fun b b0 b1 => v11_4 b b0 (by omega)⟩)
      · show qJ YX7_build κ _ (qLy u, M1, y) 0 0 19 [some (qR 53), some (qR 15), some (qI hz), some (qI a)] []
        refine qJ.run hκ 3 (pc' := 22) (ls' := [some (qR 53), some (qR 15), some (qI hz), some (qI a)]) (st' := [qI a, qR 15, qR 53]) rfl ?_
        refine qJ.callV (As := [qR 15, qI a]) (rest := []) hκ rfl kX7_28 (c_spell u M1 y a (show lxA M1 a from by have h := hxs a (by omega) (by omega); exact lxA_k v11_2 h) (lxS_k v11_2 hs)) rfl rfl (by decide) rfl rfl (Nat.le_of_ble_eq_true rfl) (Nat.le_of_ble_eq_true rfl) (Nat.le_of_ble_eq_true rfl) (Or.inl (fun r h' e => by obtain ⟨rfl, f, rfl, hf1, hf2⟩ := e; rfl)) (fun r h' e => ?_)
        obtain ⟨rfl, f, rfl, hf1, hf2⟩ := e
        show qJ YX7_build κ _ (qLy u, (q_up (q_row M1 54 f) 55 a.toNat (vN M1 a (M1 17 a.toNat).toNat : Nat)), y) 0 0 25 [some (qR 53), some (qR 15), some (qI hz), some (qI a)] []
        refine qJ.run hκ 2 (pc' := 11) (ls' := [some (qR 53), some (qR 15), some (qI hz), some (qI (a + 1))]) (st' := []) rfl ?_
        exact ih11  (q_up (q_row M1 54 f) 55 a.toNat (vN M1 a (M1 17 a.toNat).toNat : Nat)) (a + 1) (by omega) (by omega) (Eq.trans (keep_up (by rfl)) (Eq.trans (keep_row (by intro j; rfl)) v11_2)) (v11_3) (SP_new v11_2 (by omega) q_up_fu rfl hf1 hf2 (fun b b0 b1 => ⟨v11_4 b b0 b1, (hxs b b0 (by omega)).2.1.2⟩)) (by omega)
  show qJ YX7_build κ _ (qLy u, m, y) 0 0 0 [some (qR 53), some (qR 15), some (qI hz), none] []
  refine qJ.run hκ 3 (pc' := 3) (ls' := [some (qR 53), some (qR 15), some (qI hz), none]) (st' := [qI hz, qR 15, qR 53]) rfl ?_
  refine qJ.callV (As := [qI hz]) (rest := [qR 53]) hκ rfl kX7_22 (hnn ▸ c_seenNames u m y hz n0 h1 hS18) rfl rfl (by decide) rfl rfl (Nat.le_of_ble_eq_true rfl) (Nat.le_of_ble_eq_true rfl) (Nat.le_of_ble_eq_true rfl) (Or.inl (fun r h' e => by obtain ⟨rfl, rfl⟩ := e; rfl)) (fun r h' e => ?_)
  obtain ⟨rfl, rfl⟩ := e
  show qJ YX7_build κ _ (qLy u, m, y) 0 0 6 [some (qR 53), some (qR 15), some (qI hz), none] [qI (nn : Int), qR 53]
  refine qJ.putI hκ rfl rfl rfl rfl (Or.inl rfl) ?_
  show qJ YX7_build κ _ (qLy u, (q_up m 53 2 (nn : Int)), y) 0 0 9 [some (qR 53), some (qR 15), some (qI hz), none] []
  refine qJ.run hκ 2 (pc' := 11) (ls' := [some (qR 53), some (qR 15), some (qI hz), some (qI 0)]) (st' := []) rfl ?_
  exact L11 6 (q_up m 53 2 (nn : Int)) 0 (by omega) (by omega) (keep_up (by rfl)) (rfl) (fun b b0 b1 => by omega) (by omega)

def fSp (m m' : qM) : Prop := keep (kN kP) m' = keep (kN kP) m ∧ m' 0 13 = 0 ∧ m' 53 2 = (nN m : Int) ∧ ∀ a : Int, 0 ≤ a → a < (nN m : Int) → SP m m' a
def cP (m : qM) : Prop := m 0 13 = 0 → m 53 2 = (nN m : Int) ∧ ∀ a : Int, 0 ≤ a → a < (nN m : Int) → SP (keep kKern m) m a
theorem fSp_0 {m : qM} (hc : cP m) (h : m 0 13 = 0) : fSp m m := ⟨rfl, h, (hc h).1, fun a a0 a1 => SP_c (m := keep kKern m) (m' := m) rfl rfl rfl rfl ((hc h).2 a a0 a1)⟩
/-- the k-th value of a name's spelling -/
def sv (m : qM) (a k : Int) : Int := pV m a (q_nth (fun j => ¬ pV m a (j : Int) = -1) k (m 17 a.toNat).toNat)
def vL (m : qM) (a : Int) : Nat := vN m a (m 17 a.toNat).toNat
def ansSpd (m : qM) (a k : Int) : Int := if (0 ≤ a ∧ a < (nN m : Int)) ∧ vL m a ≤ 5 ∧ 0 ≤ k ∧ k < (vL m a : Int) then sv m a k else -1
theorem nth_at {p : Nat → Prop} [DecidablePred p] {k : Int} {n : Nat} (h0 : 0 ≤ k) (h : k < (q_cnt p n : Nat)) : 0 ≤ q_nth p k n ∧ (q_nth p k n).toNat < n ∧ p (q_nth p k n).toNat ∧ (q_cnt p (q_nth p k n).toNat : Int) = k := by
  obtain ⟨t, t1, t2, t3⟩ := q_cnt_find (p := p) n k.toNat (by omega)
  have hn : ¬ q_nth p k n = -1 := fun z => by
    have := (q_fst_0 (fun s => p s ∧ (q_cnt p s : Int) = k) n).mp z
    exact (q_cnt_no _).mp this t t1 ⟨t2, by omega⟩
  obtain ⟨f1, f2, f3, -⟩ := fst_at (J := fun s => p s ∧ (q_cnt p s : Int) = k) n hn
  exact ⟨f1, f2, f3.1, f3.2⟩
theorem SP_sv {m : qM} {f : Nat → Int} {a k : Int} (h : SPv m f a (m 17 a.toNat)) (h0 : 0 ≤ k) (hk : k < (vL m a : Int)) : f (a * 10 + k).toNat = sv m a k := by
  obtain ⟨f1, f2, f3, f4⟩ := nth_at (p := fun j => ¬ pV m a (j : Int) = -1) (n := (m 17 a.toNat).toNat) h0 hk
  have f5 : ¬ pV m a (((q_nth (fun j => ¬ pV m a (j : Int) = -1) k (m 17 a.toNat).toNat).toNat : Nat) : Int) = -1 := f3
  rw [q_tn f1] at f5
  have := h _ f1 (by omega) f5
  unfold sv
  rw [← this]
  congr 2
  unfold vN
  omega

set_option maxRecDepth 100000 in
theorem c_freshSpeller (u : qU) (m y : qM) (hX : rXn m) (hs : lxS m) (hd8 : rA m) (hC : cP m) (hF : m 0 13 = 0 ∨ m 0 13 = 1) : qCt YX11_freshSpeller 6 0 0 [qR 0] (qLy u, m, y) (fun r h => r = some (qR 53) ∧ ∃ m', h = (qLy u, m', y) ∧ fSp m m') := by
  refine qCt.intro okX11_freshSpeller (Nat.le_of_ble_eq_true rfl) (fun κ hκ => ?_)
  have hd9 := hd8
  obtain ⟨-, ⟨a3, a4, a5⟩, -⟩ := hd9
  have hV : qr (m 1 9) := by omega
  have zr := gHz_r hd8
  have n0 := hX.1.1
  have nl := nN_le hX
  have hS18 : ∀ k : Int, 0 ≤ k → k < m 15 0 → qr (m 18 k.toNat) := fun k k0 k1 => by have := (hX.2.1 k k0 k1).2.2.1; omega
  show qJ YX11_freshSpeller κ _ (qLy u, m, y) 0 0 0 [some (qR 0)] []
  refine qJ.run hκ 2 (pc' := 4) (ls' := [some (qR 0)]) (st' := [qI (m 0 13)]) rfl ?_
  refine qJ.if_eq hκ (tgt := 33) rfl rfl (by omega) (fun c4 => ?_) (fun c4 => ?_)
  · show qJ YX11_freshSpeller κ _ (qLy u, m, y) 0 0 33 [some (qR 0)] []
    refine qJ.run hκ 2 (pc' := 37) (ls' := [some (qR 0)]) (st' := [qR 53]) rfl ?_
    exact qJ.aret hκ rfl rfl (by decide) (by decide) (⟨rfl, m, rfl, fSp_0 hC c4⟩)
  · show qJ YX11_freshSpeller κ _ (qLy u, m, y) 0 0 7 [some (qR 0)] []
    refine qJ.run hκ 7 (pc' := 22) (ls' := [some (qR 0)]) (st' := [qR 1, qR 15, qR 53]) rfl ?_
    refine qJ.callV (As := []) (rest := [qR 15, qR 53]) hκ rfl kX11_140 (c_horizon u m y hV) rfl rfl (by decide) rfl rfl (Nat.le_of_ble_eq_true rfl) (Nat.le_of_ble_eq_true rfl) (Nat.le_of_ble_eq_true rfl) (Or.inl (fun r h' e => by obtain ⟨rfl, rfl⟩ := e; rfl)) (fun r h' e => ?_)
    obtain ⟨rfl, rfl⟩ := e
    show qJ YX11_freshSpeller κ _ (qLy u, m, y) 0 0 25 [some (qR 0)] [qI (gHz m), qR 15, qR 53]
    refine qJ.callV (As := [qR 15, qI (gHz m)]) (rest := []) hκ rfl kX11_399 (c_pBuild u m y (gHz m) (nN m) rfl hX hs a3 (by omega)) rfl rfl (by decide) rfl rfl (Nat.le_of_ble_eq_true rfl) (Nat.le_of_ble_eq_true rfl) (Nat.le_of_ble_eq_true rfl) (Or.inl (fun r h' e => by obtain ⟨rfl, M2, rfl, hk2, hn2, hS2⟩ := e; rfl)) (fun r h' e => ?_)
    obtain ⟨rfl, M2, rfl, hk2, hn2, hS2⟩ := e
    show qJ YX11_freshSpeller κ _ (qLy u, M2, y) 0 0 28 [some (qR 0)] []
    refine qJ.run hκ 2 (pc' := 30) (ls' := [some (qR 0)]) (st' := [qI 0, qR 0]) rfl ?_
    refine qJ.putI hκ rfl rfl rfl rfl (Or.inr ⟨rfl, by omega⟩) ?_
    show qJ YX11_freshSpeller κ _ (qLy u, (q_up M2 0 13 0), y) 0 0 33 [some (qR 0)] []
    refine qJ.run hκ 2 (pc' := 37) (ls' := [some (qR 0)]) (st' := [qR 53]) rfl ?_
    exact qJ.aret hκ rfl rfl (by decide) (by decide) (⟨rfl, _, rfl, Eq.trans (keep_up (by rfl)) hk2, rfl, hn2, hS2⟩)

set_option maxRecDepth 100000 in
theorem c_isSeenName (u : qU) (m y : qM) (a : Int) (hX : rXn m) (hd8 : rA m) (h1 : qr a) : qCt YX11_isSeenName 2 0 0 [qR 0, qI a] (qLy u, m, y) (fun r h => ∃ z : Int, r = some (qI z) ∧ (z = 1 ∧ (0 ≤ a ∧ a < (nN m : Int)) ∨ z = 0 ∧ ¬ (0 ≤ a ∧ a < (nN m : Int))) ∧ h = (qLy u, m, y)) := by
  refine qCt.intro okX11_isSeenName (Nat.le_of_ble_eq_true rfl) (fun κ hκ => ?_)
  have hd9 := hd8
  obtain ⟨-, ⟨a3, a4, a5⟩, -⟩ := hd9
  have hV : qr (m 1 9) := by omega
  have zr := gHz_r hd8
  have n0 := hX.1.1
  have nl := nN_le hX
  have hS18 : ∀ k : Int, 0 ≤ k → k < m 15 0 → qr (m 18 k.toNat) := fun k k0 k1 => by have := (hX.2.1 k k0 k1).2.2.1; omega
  show qJ YX11_isSeenName κ _ (qLy u, m, y) 0 0 0 [some (qR 0), some (qI a)] []
  refine qJ.run hκ 1 (pc' := 1) (ls' := [some (qR 0), some (qI a)]) (st' := [qI a]) rfl ?_
  refine qJ.if_lt hκ (tgt := 29) rfl rfl (by omega) (fun c1 => ?_) (fun c1 => ?_)
  · show qJ YX11_isSeenName κ _ (qLy u, m, y) 0 0 29 [some (qR 0), some (qI a)] []
    refine qJ.run hκ 1 (pc' := 30) (ls' := [some (qR 0), some (qI a)]) (st' := [qI 0]) rfl ?_
    exact qJ.bret hκ rfl rfl (by omega) (by decide) (by decide) (⟨_, rfl, by omega, rfl⟩)
  · show qJ YX11_isSeenName κ _ (qLy u, m, y) 0 0 4 [some (qR 0), some (qI a)] []
    refine qJ.run hκ 6 (pc' := 16) (ls' := [some (qR 0), some (qI a)]) (st' := [qR 1, qR 15, qI a]) rfl ?_
    refine qJ.callV (As := []) (rest := [qR 15, qI a]) hκ rfl kX11_140 (c_horizon u m y hV) rfl rfl (by decide) rfl rfl (Nat.le_of_ble_eq_true rfl) (Nat.le_of_ble_eq_true rfl) (Nat.le_of_ble_eq_true rfl) (Or.inl (fun r h' e => by obtain ⟨rfl, rfl⟩ := e; rfl)) (fun r h' e => ?_)
    obtain ⟨rfl, rfl⟩ := e
    show qJ YX11_isSeenName κ _ (qLy u, m, y) 0 0 19 [some (qR 0), some (qI a)] [qI (gHz m), qR 15, qI a]
    refine qJ.callV (As := [qI (gHz m)]) (rest := [qI a]) hκ rfl kX11_380 (c_seenNames u m y (gHz m) n0 (by omega) hS18) rfl rfl (by decide) rfl rfl (Nat.le_of_ble_eq_true rfl) (Nat.le_of_ble_eq_true rfl) (Nat.le_of_ble_eq_true rfl) (Or.inl (fun r h' e => by obtain ⟨rfl, rfl⟩ := e; rfl)) (fun r h' e => ?_)
    obtain ⟨rfl, rfl⟩ := e
    show qJ YX11_isSeenName κ _ (qLy u, m, y) 0 0 22 [some (qR 0), some (qI a)] [qI (nN m : Int), qI a]
    refine qJ.icmp_ge hκ (tgt := 29) rfl rfl (by omega) (by omega) (fun c22 => ?_) (fun c22 => ?_)
    · show qJ YX11_isSeenName κ _ (qLy u, m, y) 0 0 29 [some (qR 0), some (qI a)] []
      refine qJ.run hκ 1 (pc' := 30) (ls' := [some (qR 0), some (qI a)]) (st' := [qI 0]) rfl ?_
      exact qJ.bret hκ rfl rfl (by omega) (by decide) (by decide) (⟨_, rfl, by omega, rfl⟩)
    · show qJ YX11_isSeenName κ _ (qLy u, m, y) 0 0 25 [some (qR 0), some (qI a)] []
      refine qJ.run hκ 2 (pc' := 30) (ls' := [some (qR 0), some (qI a)]) (st' := [qI 1]) rfl ?_
      exact qJ.bret hκ rfl rfl (by omega) (by decide) (by decide) (⟨_, rfl, by omega, rfl⟩)

set_option maxRecDepth 100000 in
theorem c_spl (u : qU) (m M y : qM) (a : Int) (hn : M 53 2 = (nN m : Int)) (hn5 : nN m ≤ 5) (hS : ∀ a : Int, 0 ≤ a → a < (nN m : Int) → SP m M a) (ha : 0 ≤ a ∧ a < 5) (hl : a < (nN m : Int) → m 17 a.toNat ≤ 10) : qCt YX7_spelledLength 1 0 0 [qR 53, qI a] (qLy u, M, y) (fun r h => r = some (qI (if a < (nN m : Int) then (if 5 < vL m a then 0 else (vL m a : Int)) else 0)) ∧ h = (qLy u, M, y)) := by
  refine qCt.intro okX7_spelledLength (Nat.le_of_ble_eq_true rfl) (fun κ hκ => ?_)
  show qJ YX7_spelledLength κ _ (qLy u, M, y) 0 0 0 [some (qR 53), some (qI a)] []
  refine qJ.run hκ 3 (pc' := 5) (ls' := [some (qR 53), some (qI a)]) (st' := [qI (M 53 2), qI a]) rfl ?_
  refine qJ.icmp_lt hκ (tgt := 10) rfl rfl (by omega) (by omega) (fun c5 => ?_) (fun c5 => ?_)
  · show qJ YX7_spelledLength κ _ (qLy u, M, y) 0 0 10 [some (qR 53), some (qI a)] []
    have sp : M 55 a.toNat = (vL m a : Int) := (hS a ha.1 (by omega)).1
    have vl : vL m a ≤ (m 17 a.toNat).toNat := vN_le m a _
    have ll := hl (by omega)
    refine qJ.run hκ 3 (pc' := 15) (ls' := [some (qR 53), some (qI a)]) (st' := [qI a, qR 55]) rfl ?_
    refine qJ.ald hκ rfl rfl rfl (by decide) (by omega) ?_
    show qJ YX7_spelledLength κ _ (qLy u, M, y) 0 0 16 [some (qR 53), some (qI a)] [qI (M 55 a.toNat)]
    refine qJ.run hκ 1 (pc' := 17) (ls' := [some (qR 53), some (qI a)]) (st' := [qI 5, qI (M 55 a.toNat)]) rfl ?_
    refine qJ.icmp_le hκ (tgt := 24) rfl rfl (by omega) (by omega) (fun c17 => ?_) (fun c17 => ?_)
    · show qJ YX7_spelledLength κ _ (qLy u, M, y) 0 0 24 [some (qR 53), some (qI a)] []
      refine qJ.run hκ 3 (pc' := 29) (ls' := [some (qR 53), some (qI a)]) (st' := [qI a, qR 55]) rfl ?_
      refine qJ.ald hκ rfl rfl rfl (by decide) (by omega) ?_
      show qJ YX7_spelledLength κ _ (qLy u, M, y) 0 0 30 [some (qR 53), some (qI a)] [qI (M 55 a.toNat)]
      exact qJ.iret hκ rfl rfl (by decide) (by decide) (⟨by congr 2; rw [if_pos (by omega), if_neg (by omega)]; exact sp, rfl⟩)
    · show qJ YX7_spelledLength κ _ (qLy u, M, y) 0 0 20 [some (qR 53), some (qI a)] []
      refine qJ.run hκ 2 (pc' := 30) (ls' := [some (qR 53), some (qI a)]) (st' := [qI 0]) rfl ?_
      exact qJ.iret hκ rfl rfl (by decide) (by decide) (⟨by congr 2; rw [if_pos (by omega), if_pos (by omega)], rfl⟩)
  · show qJ YX7_spelledLength κ _ (qLy u, M, y) 0 0 8 [some (qR 53), some (qI a)] []
    refine qJ.run hκ 1 (pc' := 9) (ls' := [some (qR 53), some (qI a)]) (st' := [qI 0]) rfl ?_
    exact qJ.iret hκ rfl rfl (by decide) (by decide) (⟨by congr 2; rw [if_neg (by omega)], rfl⟩)

set_option maxRecDepth 100000 in
theorem c_valueAt (u : qU) (M y : qM) (a k : Int) (h0 : 0 ≤ a * 10 + k ∧ a * 10 + k < 50) : qCt YX7_valueAt 1 0 0 [qR 53, qI a, qI k] (qLy u, M, y) (fun r h => r = some (qI (M 54 (a * 10 + k).toNat)) ∧ h = (qLy u, M, y)) := by
  refine qCt.intro okX7_valueAt (Nat.le_of_ble_eq_true rfl) (fun κ hκ => ?_)
  show qJ YX7_valueAt κ _ (qLy u, M, y) 0 0 0 [some (qR 53), some (qI a), some (qI k)] []
  refine qJ.run hκ 7 (pc' := 10) (ls' := [some (qR 53), some (qI a), some (qI k)]) (st' := [qI ((a * 10) + k), qR 54]) rfl ?_
  refine qJ.ald hκ rfl rfl rfl (by decide) (by omega) ?_
  show qJ YX7_valueAt κ _ (qLy u, M, y) 0 0 11 [some (qR 53), some (qI a), some (qI k)] [qI (M 54 (((a * 10) + k).toNat))]
  exact qJ.iret hκ rfl rfl (by decide) (by decide) (by first | exact ⟨rfl, rfl⟩ | (refine ⟨?_, rfl⟩; first | rfl | omega))

set_option maxRecDepth 100000 in
theorem x_spelled (u : qU) (m y : qM) (a k : Int) (hX : rXn m) (hs : lxS m) (hd8 : rA m) (hC : cP m) (hF : m 0 13 = 0 ∨ m 0 13 = 1) (h1 : qr a) (h2 : qr k) : qCt YX11_spelled 7 0 0 [qR 0, qI a, qI k] (qLy u, m, y) (fun r h => ∃ m', r = some (qI (ansSpd m a k)) ∧ h = (qLy u, m', y) ∧ (m' = m ∨ fSp m m')) := by
  refine qCt.intro okX11_spelled (Nat.le_of_ble_eq_true rfl) (fun κ hκ => ?_)
  have hd9 := hd8
  obtain ⟨-, ⟨a3, a4, a5⟩, -⟩ := hd9
  have hV : qr (m 1 9) := by omega
  have zr := gHz_r hd8
  have n0 := hX.1.1
  have nl := nN_le hX
  have hS18 : ∀ k : Int, 0 ≤ k → k < m 15 0 → qr (m 18 k.toNat) := fun k k0 k1 => by have := (hX.2.1 k k0 k1).2.2.1; omega
  show qJ YX11_spelled κ _ (qLy u, m, y) 0 0 0 [some (qR 0), some (qI a), some (qI k)] []
  refine qJ.run hκ 2 (pc' := 2) (ls' := [some (qR 0), some (qI a), some (qI k)]) (st' := [qI a, qR 0]) rfl ?_
  refine qJ.callV (As := [qI a]) (rest := []) hκ rfl kX11_336 (c_isSeenName u m y a hX hd8 (by omega)) rfl rfl (by decide) rfl rfl (Nat.le_of_ble_eq_true rfl) (Nat.le_of_ble_eq_true rfl) (Nat.le_of_ble_eq_true rfl) (Or.inl (fun r h' e => by obtain ⟨z2, rfl, hz2, rfl⟩ := e; rfl)) (fun r h' e => ?_)
  obtain ⟨z2, rfl, hz2, rfl⟩ := e
  show qJ YX11_spelled κ _ (qLy u, m, y) 0 0 5 [some (qR 0), some (qI a), some (qI k)] [qI z2]
  refine qJ.if_eq hκ (tgt := 24) rfl rfl (by omega) (fun c5 => ?_) (fun c5 => ?_)
  · show qJ YX11_spelled κ _ (qLy u, m, y) 0 0 24 [some (qR 0), some (qI a), some (qI k)] []
    refine qJ.run hκ 1 (pc' := 25) (ls' := [some (qR 0), some (qI a), some (qI k)]) (st' := [qI (-1)]) rfl ?_
    exact qJ.iret hκ rfl rfl (by decide) (by decide) (⟨m, by unfold ansSpd; rw [if_neg (fun z => by omega)], rfl, Or.inl rfl⟩)
  · show qJ YX11_spelled κ _ (qLy u, m, y) 0 0 8 [some (qR 0), some (qI a), some (qI k)] []
    refine qJ.run hκ 1 (pc' := 9) (ls' := [some (qR 0), some (qI a), some (qI k)]) (st' := [qI k]) rfl ?_
    refine qJ.if_lt hκ (tgt := 24) rfl rfl (by omega) (fun c9 => ?_) (fun c9 => ?_)
    · show qJ YX11_spelled κ _ (qLy u, m, y) 0 0 24 [some (qR 0), some (qI a), some (qI k)] []
      refine qJ.run hκ 1 (pc' := 25) (ls' := [some (qR 0), some (qI a), some (qI k)]) (st' := [qI (-1)]) rfl ?_
      exact qJ.iret hκ rfl rfl (by decide) (by decide) (⟨m, by unfold ansSpd; rw [if_neg (fun z => by omega)], rfl, Or.inl rfl⟩)
    · show qJ YX11_spelled κ _ (qLy u, m, y) 0 0 12 [some (qR 0), some (qI a), some (qI k)] []
      refine qJ.run hκ 2 (pc' := 14) (ls' := [some (qR 0), some (qI a), some (qI k)]) (st' := [qR 0, qI k]) rfl ?_
      refine qJ.callV (As := []) (rest := [qI k]) hκ rfl kX11_339 (c_freshSpeller u m y hX hs hd8 hC hF) rfl rfl (by decide) rfl rfl (Nat.le_of_ble_eq_true rfl) (Nat.le_of_ble_eq_true rfl) (Nat.le_of_ble_eq_true rfl) (Or.inl (fun r h' e => by obtain ⟨rfl, mP, rfl, hP⟩ := e; rfl)) (fun r h' e => ?_)
      obtain ⟨rfl, mP, rfl, hP⟩ := e
      show qJ YX11_spelled κ _ (qLy u, mP, y) 0 0 17 [some (qR 0), some (qI a), some (qI k)] [qR 53, qI k]
      refine qJ.run hκ 1 (pc' := 18) (ls' := [some (qR 0), some (qI a), some (qI k)]) (st' := [qI a, qR 53, qI k]) rfl ?_
      refine qJ.callV (As := [qI a]) (rest := [qI k]) hκ rfl kX11_343 (c_spl u m mP y a hP.2.2.1 (by omega) hP.2.2.2 (by omega) (fun z => (hX.2.1 a (by omega) (by omega)).2.1.2)) rfl rfl (by decide) rfl rfl (Nat.le_of_ble_eq_true rfl) (Nat.le_of_ble_eq_true rfl) (Nat.le_of_ble_eq_true rfl) (Or.inl (fun r h' e => by obtain ⟨rfl, rfl⟩ := e; rfl)) (fun r h' e => ?_)
      obtain ⟨rfl, rfl⟩ := e
      have vl : vL m a ≤ (m 17 a.toNat).toNat := vN_le m a _
      have ll := (hX.2.1 a (by omega) (by omega)).2.1
      rw [if_pos (show a < (nN m : Int) by omega)]
      have sq : 0 ≤ (if 5 < vL m a then 0 else (vL m a : Int)) ∧ (if 5 < vL m a then 0 else (vL m a : Int)) ≤ 5 := by split <;> omega
      show qJ YX11_spelled κ _ (qLy u, mP, y) 0 0 21 [some (qR 0), some (qI a), some (qI k)] [qI (if 5 < vL m a then 0 else (vL m a : Int)), qI k]
      refine qJ.icmp_lt hκ (tgt := 26) rfl rfl (by omega) (by omega) (fun c21 => ?_) (fun c21 => ?_)
      · show qJ YX11_spelled κ _ (qLy u, mP, y) 0 0 26 [some (qR 0), some (qI a), some (qI k)] []
        refine qJ.run hκ 4 (pc' := 32) (ls' := [some (qR 0), some (qI a), some (qI k)]) (st' := [qI k, qI a, qR 53]) rfl ?_
        refine qJ.callV (As := [qI a, qI k]) (rest := []) hκ rfl kX11_346 (c_valueAt u mP y a k (by omega)) rfl rfl (by decide) rfl rfl (Nat.le_of_ble_eq_true rfl) (Nat.le_of_ble_eq_true rfl) (Nat.le_of_ble_eq_true rfl) (Or.inl (fun r h' e => by obtain ⟨rfl, rfl⟩ := e; rfl)) (fun r h' e => ?_)
        obtain ⟨rfl, rfl⟩ := e
        show qJ YX11_spelled κ _ (qLy u, mP, y) 0 0 35 [some (qR 0), some (qI a), some (qI k)] [qI (mP 54 (a * 10 + k).toNat)]
        exact qJ.iret hκ rfl rfl (by decide) (by decide) (by
      have v5 : vL m a ≤ 5 ∧ k < (vL m a : Int) := by
        by_cases q : 5 < vL m a
        · rw [if_pos q] at c21; omega
        · rw [if_neg q] at c21; omega
      exact ⟨mP, by unfold ansSpd; rw [if_pos ⟨by omega, v5.1, by omega, v5.2⟩, SP_sv (hP.2.2.2 a (by omega) (by omega)).2 (by omega) v5.2], rfl, Or.inr hP⟩)
      · show qJ YX11_spelled κ _ (qLy u, mP, y) 0 0 24 [some (qR 0), some (qI a), some (qI k)] []
        refine qJ.run hκ 1 (pc' := 25) (ls' := [some (qR 0), some (qI a), some (qI k)]) (st' := [qI (-1)]) rfl ?_
        exact qJ.iret hκ rfl rfl (by decide) (by decide) (⟨mP, by unfold ansSpd; rw [if_neg (fun z => by rw [if_neg (show ¬ 5 < vL m a by omega)] at c21; omega)], rfl, Or.inr hP⟩)

/-! printed by p106.py: image and again of the class, of the model -/
def lyA : List qS := (qLy ((none, none, none), [])).take 22
def lyB : List qS := (qLy ((none, none, none), [])).drop 23
set_option maxRecDepth 100000 in
theorem qLy_ab (u : qU) : qLy u = lyA ++ (.inr (.inr (4, oL u.1)) :: (lyB ++ u.2)) := rfl
set_option maxRecDepth 100000 in
theorem lyA_w : lyA.all (q_shw 125) = true := by decide +kernel
set_option maxRecDepth 100000 in
theorem lyB_w : lyB.all (q_shw 125) = true := by decide +kernel
theorem qLy_w {o : qO} {t : List qS} {n : Nat} (hn : 125 ≤ n) (ho : ∀ b, some b ∈ oL o → b < n) (ht : t.all (q_shw n) = true) : (qLy (o, t)).all (q_shw n) = true := by
  rw [qLy_ab, List.all_append, List.all_cons, List.all_append, q_shw_all hn lyA_w, q_shw_all hn lyB_w, ht]
  have e : q_shw n (.inr (.inr (4, oL o))) = true := by
    refine List.all_eq_true.mpr fun x hx => ?_
    cases x with
    | none => rfl
    | some b => exact decide_eq_true (ho b hx)
  show (true && (q_shw n (.inr (.inr (4, oL o))) && (true && true))) = true
  rw [e]
  rfl
set_option maxRecDepth 100000 in
theorem qLy_len (u : qU) : (qLy u).length = 125 + u.2.length := by
  unfold qLy
  rw [List.length_append]
  rfl
def oS (o : qO) (k : Int) (b : Nat) : qO := if k = 0 then (some b, o.2.1, o.2.2) else if k = 1 then (o.1, some b, o.2.2) else (o.1, o.2.1, some b)
set_option maxRecDepth 100000 in
theorem qLy_set {o : qO} {t : List qS} {k : Int} {b : Nat} (hk : 0 ≤ k ∧ k ≤ 2) : (qLy (o, t)).set 22 (.inr (.inr (4, (oL o).set k.toNat (some b)))) = qLy (oS o k b, t) := by
  have : k = 0 ∨ k = 1 ∨ k = 2 := by omega
  rcases this with rfl | rfl | rfl <;> rfl
theorem keep_clr {K : Nat → Nat → Bool} {m : qM} {a : Nat} (h : ∀ j, K a j = false) : keep K (q_clr m a) = keep K m := by
  funext i j
  unfold keep q_clr
  by_cases e : i = a
  · subst e
    rw [h j]
    rfl
  · rw [if_neg e]
theorem sTc_l {m M X : qM} (h : ∀ i, 1 ≤ i → i ≤ 21 → M i = m i) (s : sTc M X) : sTc m X := by
  unfold sTc at s ⊢
  rw [h 1 (by decide) (by decide), h 2 (by decide) (by decide), h 3 (by decide) (by decide), h 4 (by decide) (by decide), h 5 (by decide) (by decide), h 6 (by decide) (by decide), h 7 (by decide) (by decide), h 8 (by decide) (by decide), h 9 (by decide) (by decide), h 10 (by decide) (by decide), h 11 (by decide) (by decide), h 12 (by decide) (by decide), h 13 (by decide) (by decide), h 14 (by decide) (by decide), h 15 (by decide) (by decide), h 16 (by decide) (by decide), h 17 (by decide) (by decide), h 18 (by decide) (by decide), h 19 (by decide) (by decide), h 20 (by decide) (by decide), h 21 (by decide) (by decide)] at s
  exact s
theorem sTc_r {m M X : qM} (h : ∀ i, 1 ≤ i → i ≤ 21 → M i = X i) (s : sTc m M) : sTc m X := by
  unfold sTc at s ⊢
  rw [h 1 (by decide) (by decide), h 2 (by decide) (by decide), h 3 (by decide) (by decide), h 4 (by decide) (by decide), h 5 (by decide) (by decide), h 6 (by decide) (by decide), h 7 (by decide) (by decide), h 8 (by decide) (by decide), h 9 (by decide) (by decide), h 10 (by decide) (by decide), h 11 (by decide) (by decide), h 12 (by decide) (by decide), h 13 (by decide) (by decide), h 14 (by decide) (by decide), h 15 (by decide) (by decide), h 16 (by decide) (by decide), h 17 (by decide) (by decide), h 18 (by decide) (by decide), h 19 (by decide) (by decide), h 20 (by decide) (by decide), h 21 (by decide) (by decide)] at s
  exact s
theorem sTm_l {m M X : qM} (h : ∀ i, 78 ≤ i → i ≤ 106 → M i = m i) (s : sTm M X) : sTm m X := by
  unfold sTm at s ⊢
  rw [h 78 (by decide) (by decide), h 79 (by decide) (by decide), h 80 (by decide) (by decide), h 81 (by decide) (by decide), h 82 (by decide) (by decide), h 83 (by decide) (by decide), h 84 (by decide) (by decide), h 85 (by decide) (by decide), h 86 (by decide) (by decide), h 87 (by decide) (by decide), h 88 (by decide) (by decide), h 89 (by decide) (by decide), h 90 (by decide) (by decide), h 91 (by decide) (by decide), h 92 (by decide) (by decide), h 93 (by decide) (by decide), h 94 (by decide) (by decide), h 95 (by decide) (by decide), h 96 (by decide) (by decide), h 97 (by decide) (by decide), h 98 (by decide) (by decide), h 99 (by decide) (by decide), h 100 (by decide) (by decide), h 101 (by decide) (by decide), h 102 (by decide) (by decide), h 103 (by decide) (by decide), h 104 (by decide) (by decide), h 105 (by decide) (by decide), h 106 (by decide) (by decide)] at s
  exact s
def fgM (m : qM) : qM := q_up (q_up (q_up (q_up (q_up m 0 10 1) 0 11 1) 0 12 1) 0 13 1) 0 14 1
theorem im_w : im125.all (q_shw 146) = true ∧ im146.all (q_shw 167) = true := ⟨by decide +kernel, by decide +kernel⟩

set_option maxRecDepth 100000 in
set_option maxHeartbeats 4000000 in
theorem x_agF (u : qU) (m y : qM) (k : Int) (h1 : qr k) (hk : (0 ≤ k ∧ k ≤ 2) → (oL u.1).getD k.toNat none = none) : qCt YX11_again 5 0 0 [qR 0, qI k] (qLy u, m, y) (fun r h => r = some (qI 0) ∧ h = (qLy u, m, y)) := by
  refine qCt.intro okX11_again (Nat.le_of_ble_eq_true rfl) (fun κ hκ => ?_)
  show qJ YX11_again κ _ (qLy u, m, y) 0 0 0 [some (qR 0), some (qI k), none] []
  refine qJ.run hκ 1 (pc' := 1) (ls' := [some (qR 0), some (qI k), none]) (st' := [qI k]) rfl ?_
  refine qJ.if_lt hκ (tgt := 9) rfl rfl (by omega) (fun c1 => ?_) (fun c1 => ?_)
  · refine qJ.run hκ 1 (pc' := 10) (ls' := [some (qR 0), some (qI k), none]) (st' := [qI 0]) rfl ?_
    exact qJ.bret hκ rfl rfl (Or.inl rfl) (by decide) (by decide) ⟨rfl, rfl⟩
  · refine qJ.run hκ 2 (pc' := 6) (ls' := [some (qR 0), some (qI k), none]) (st' := [qI 3, qI k]) rfl ?_
    refine qJ.icmp_lt hκ (tgt := 11) rfl rfl (by omega) (by omega) (fun c6 => ?_) (fun c6 => ?_)
    · refine qJ.run hκ 3 (pc' := 16) (ls' := [some (qR 0), some (qI k), none]) (st' := [qI k, qR 22]) rfl ?_
      refine qJ.aald (rs := oL u.1) hκ rfl rfl (by show 3 < 2147483648; decide) ⟨by omega, by show k < 3; omega⟩ ?_
      rw [hk (by omega)]
      refine qJ.run hκ 2 (pc' := 19) (ls' := [some (qR 0), some (qI k), some qN]) (st' := [qN]) rfl ?_
      refine qJ.ifnnN hκ rfl ?_
      refine qJ.run hκ 1 (pc' := 23) (ls' := [some (qR 0), some (qI k), some qN]) (st' := [qI 0]) rfl ?_
      exact qJ.bret hκ rfl rfl (Or.inl rfl) (by decide) (by decide) ⟨rfl, rfl⟩
    · refine qJ.run hκ 1 (pc' := 10) (ls' := [some (qR 0), some (qI k), none]) (st' := [qI 0]) rfl ?_
      exact qJ.bret hκ rfl rfl (Or.inl rfl) (by decide) (by decide) ⟨rfl, rfl⟩

set_option maxRecDepth 100000 in
set_option maxHeartbeats 4000000 in
theorem x_imF (u : qU) (m y : qM) (k : Int) (h1 : qr k) (hk : ¬ (0 ≤ k ∧ k ≤ 2)) : qCt YX11_image 5 0 0 [qR 0, qI k] (qLy u, m, y) (fun r h => r = some (qI 0) ∧ h = (qLy u, m, y)) := by
  refine qCt.intro okX11_image (Nat.le_of_ble_eq_true rfl) (fun κ hκ => ?_)
  show qJ YX11_image κ _ (qLy u, m, y) 0 0 0 [some (qR 0), some (qI k), none] []
  refine qJ.run hκ 1 (pc' := 1) (ls' := [some (qR 0), some (qI k), none]) (st' := [qI k]) rfl ?_
  refine qJ.if_lt hκ (tgt := 9) rfl rfl (by omega) (fun c1 => ?_) (fun c1 => ?_)
  · refine qJ.run hκ 1 (pc' := 10) (ls' := [some (qR 0), some (qI k), none]) (st' := [qI 0]) rfl ?_
    exact qJ.bret hκ rfl rfl (Or.inl rfl) (by decide) (by decide) ⟨rfl, rfl⟩
  · refine qJ.run hκ 2 (pc' := 6) (ls' := [some (qR 0), some (qI k), none]) (st' := [qI 3, qI k]) rfl ?_
    refine qJ.icmp_lt hκ (tgt := 11) rfl rfl (by omega) (by omega) (fun c6 => ?_) (fun c6 => ?_)
    · exact absurd ⟨by omega, by omega⟩ hk
    · refine qJ.run hκ 1 (pc' := 10) (ls' := [some (qR 0), some (qI k), none]) (st' := [qI 0]) rfl ?_
      exact qJ.bret hκ rfl rfl (Or.inl rfl) (by decide) (by decide) ⟨rfl, rfl⟩

set_option maxRecDepth 100000 in
set_option maxHeartbeats 4000000 in
theorem x_agO125 (o : qO) (t : List qS) (m y : qM) (k : Int) (hk0 : 0 ≤ k ∧ k ≤ 2) (hk : (oL o).getD k.toNat none = some 125) (h0 : 0 ≤ m 126 0 ∧ m 126 0 ≤ 60) (h2 : 0 ≤ m 126 2 ∧ m 126 2 ≤ 150) (h12 : 0 ≤ m 136 1 ∧ m 136 1 ≤ 512) (h15 : 0 ≤ m 139 0 ∧ m 139 0 ≤ 5) (h4 : 0 ≤ m 125 4 ∧ m 125 4 ≤ 400) (hb : ∀ j : Nat, (j : Int) < m 125 4 → -128 ≤ m 145 j ∧ m 145 j ≤ 127) : qCt YX11_again 5 0 0 [qR 0, qI k] (qLy (o, im125 ++ t), m, y) (fun r h => r = some (qI 1) ∧ ∃ m', h = (qLy (o, im125 ++ t), m', y) ∧ keep (kN kIr125) m' = keep (kN kIr125) (fgM m) ∧ ∀ s, sTc (prj 125 s m) m') := by
  refine qCt.intro okX11_again (Nat.le_of_ble_eq_true rfl) (fun κ hκ => ?_)
  show qJ YX11_again κ _ (qLy (o, im125 ++ t), m, y) 0 0 0 [some (qR 0), some (qI k), none] []
  refine qJ.run hκ 1 (pc' := 1) (ls' := [some (qR 0), some (qI k), none]) (st' := [qI k]) rfl ?_
  refine qJ.if_lt hκ (tgt := 9) rfl rfl (by omega) (fun c1 => ?_) (fun c1 => ?_)
  · exact absurd c1 (by omega)
  · refine qJ.run hκ 2 (pc' := 6) (ls' := [some (qR 0), some (qI k), none]) (st' := [qI 3, qI k]) rfl ?_
    refine qJ.icmp_lt hκ (tgt := 11) rfl rfl (by omega) (by omega) (fun c6 => ?_) (fun c6 => absurd c6 (by omega))
    refine qJ.run hκ 3 (pc' := 16) (ls' := [some (qR 0), some (qI k), none]) (st' := [qI k, qR 22]) rfl ?_
    refine qJ.aald (rs := oL o) hκ rfl rfl (by show 3 < 2147483648; decide) ⟨by omega, by show k < 3; omega⟩ ?_
    rw [hk]
    refine qJ.run hκ 2 (pc' := 19) (ls' := [some (qR 0), some (qI k), some (qR 125)]) (st' := [qR 125]) rfl ?_
    refine qJ.ifnn hκ (tgt := 24) rfl rfl ?_
    refine qJ.run hκ 1 (pc' := 25) (ls' := [some (qR 0), some (qI k), some (qR 125)]) (st' := [qR 0]) rfl ?_
    refine qJ.callV (As := []) (rest := []) hκ rfl kX11_107 (c_forget (o, im125 ++ t) m y) rfl rfl (by decide) rfl rfl (Nat.le_of_ble_eq_true rfl) (Nat.le_of_ble_eq_true rfl) (Nat.le_of_ble_eq_true rfl) (Or.inl (fun r h' e => by obtain ⟨rfl, rfl⟩ := e; rfl)) (fun r h' e => ?_)
    obtain ⟨rfl, rfl⟩ := e
    show qJ YX11_again κ _ (qLy (o, im125 ++ t), fgM m, y) 0 0 28 [some (qR 0), some (qI k), some (qR 125)] []
    refine qJ.run hκ 3 (pc' := 33) (ls' := [some (qR 0), some (qI k), some (qR 125)]) (st' := [qR 125, qR 1]) rfl ?_
    refine qJ.callV (b := 1) (As := [qR 125]) (rest := []) hκ rfl kX11_386 (c_ctr125 o t (fgM m) y h0 h2 h12 h15 h4 hb) rfl rfl (by decide) rfl rfl (Nat.le_of_ble_eq_true rfl) (Nat.le_of_ble_eq_true rfl) (Nat.le_of_ble_eq_true rfl) (Or.inl (fun r h' e => by obtain ⟨rfl, m', rfl, -⟩ := e; rfl)) (fun r h' e => ?_)
    obtain ⟨rfl, m', rfl, K, g1, g2, g3, g4, g5, g6, g7⟩ := e
    show qJ YX11_again κ _ (qLy (o, im125 ++ t), m', y) 0 0 36 [some (qR 0), some (qI k), some (qR 125)] []
    refine qJ.run hκ 1 (pc' := 37) (ls' := [some (qR 0), some (qI k), some (qR 125)]) (st' := [qI 1]) rfl ?_
    exact qJ.bret hκ rfl rfl (Or.inr rfl) (by decide) (by decide) ⟨rfl, m', rfl, K, fun s => ⟨g1, g2, g3, g4, g5, g6, g7⟩⟩

set_option maxRecDepth 100000 in
set_option maxHeartbeats 4000000 in
theorem x_imO125 (o : qO) (t : List qS) (m y : qM) (k : Int) (hk0 : 0 ≤ k ∧ k ≤ 2) (hk : (oL o).getD k.toNat none = some 125) (h0 : 0 ≤ m 2 0 ∧ m 2 0 ≤ 60) (h2 : 0 ≤ m 2 2 ∧ m 2 2 ≤ 150) (h12 : 0 ≤ m 12 1 ∧ m 12 1 ≤ 512) (h15 : 0 ≤ m 15 0 ∧ m 15 0 ≤ 5) (h4 : 0 ≤ m 1 4 ∧ m 1 4 ≤ 400) (hb : ∀ j : Nat, (j : Int) < m 1 4 → -128 ≤ m 21 j ∧ m 21 j ≤ 127) : qCt YX11_image 5 0 0 [qR 0, qI k] (qLy (o, im125 ++ t), m, y) (fun r h => r = some (qI 1) ∧ ∃ m', h = (qLy (o, im125 ++ t), m', y) ∧ keep (kN kIw125) m' = keep (kN kIw125) m ∧ ∀ s, sTc m (prj 125 s m')) := by
  refine qCt.intro okX11_image (Nat.le_of_ble_eq_true rfl) (fun κ hκ => ?_)
  show qJ YX11_image κ _ (qLy (o, im125 ++ t), m, y) 0 0 0 [some (qR 0), some (qI k), none] []
  refine qJ.run hκ 1 (pc' := 1) (ls' := [some (qR 0), some (qI k), none]) (st' := [qI k]) rfl ?_
  refine qJ.if_lt hκ (tgt := 9) rfl rfl (by omega) (fun c1 => ?_) (fun c1 => ?_)
  · exact absurd c1 (by omega)
  · refine qJ.run hκ 2 (pc' := 6) (ls' := [some (qR 0), some (qI k), none]) (st' := [qI 3, qI k]) rfl ?_
    refine qJ.icmp_lt hκ (tgt := 11) rfl rfl (by omega) (by omega) (fun c6 => ?_) (fun c6 => absurd c6 (by omega))
    refine qJ.run hκ 3 (pc' := 16) (ls' := [some (qR 0), some (qI k), none]) (st' := [qI k, qR 22]) rfl ?_
    refine qJ.aald (rs := oL o) hκ rfl rfl (by show 3 < 2147483648; decide) ⟨by omega, by show k < 3; omega⟩ ?_
    rw [hk]
    refine qJ.run hκ 2 (pc' := 19) (ls' := [some (qR 0), some (qI k), some (qR 125)]) (st' := [qR 125]) rfl ?_
    refine qJ.ifnn hκ (tgt := 37) rfl rfl ?_
    refine qJ.run hκ 3 (pc' := 42) (ls' := [some (qR 0), some (qI k), some (qR 125)]) (st' := [qR 1, qR 125]) rfl ?_
    refine qJ.callV (b := 125) (As := [qR 1]) (rest := []) hκ rfl kX11_386 (c_ctw125 o t m y h0 h2 h12 h15 h4 hb) rfl rfl (by decide) rfl rfl (Nat.le_of_ble_eq_true rfl) (Nat.le_of_ble_eq_true rfl) (Nat.le_of_ble_eq_true rfl) (Or.inl (fun r h' e => by obtain ⟨rfl, m', rfl, -⟩ := e; rfl)) (fun r h' e => ?_)
    obtain ⟨rfl, m', rfl, K, g1, g2, g3, g4, g5, g6, g7⟩ := e
    show qJ YX11_image κ _ (qLy (o, im125 ++ t), m', y) 0 0 45 [some (qR 0), some (qI k), some (qR 125)] []
    refine qJ.run hκ 1 (pc' := 46) (ls' := [some (qR 0), some (qI k), some (qR 125)]) (st' := [qI 1]) rfl ?_
    exact qJ.bret hκ rfl rfl (Or.inr rfl) (by decide) (by decide) ⟨rfl, m', rfl, K, fun s => ⟨g1, g2, g3, g4, g5, g6, g7⟩⟩

set_option maxRecDepth 100000 in
set_option maxHeartbeats 4000000 in
theorem nM125_k (m : qM) : keep (kN kIw125) (q_up (q_up (q_up (q_up (q_up (q_up (q_clr (q_row (q_clr (q_clr (q_up (q_clr (q_clr (q_clr (q_up (q_clr (q_clr (q_clr (q_up (q_up (q_clr (q_clr (q_clr (q_clr (q_clr (q_clr (q_clr (q_clr (q_clr (q_clr (q_up (q_up (q_up (q_clr (q_clr m 125) 126) 126 0 0) 126 1 0) 126 2 0) 127) 128) 129) 130) 131) 132) 133) 134) 135) 136) 136 0 0) 136 1 0) 137) 138) 139) 139 0 0) 140) 141) 142) 139 4 0) 143) 144) 143 (fun k => if k < 18 then (-1) else (q_clr (q_clr (q_up (q_clr (q_clr (q_clr (q_up m 139 0 0) 140) 141) 142) 139 4 0) 143) 144) 143 k)) 145) 125 4 0) 125 5 0) 125 6 (-1)) 125 7 0) 125 8 0) 125 9 (-1)) = keep (kN kIw125) m := (Eq.trans (keep_up (by rfl)) (Eq.trans (keep_up (by rfl)) (Eq.trans (keep_up (by rfl)) (Eq.trans (keep_up (by rfl)) (Eq.trans (keep_up (by rfl)) (Eq.trans (keep_up (by rfl)) (Eq.trans (keep_clr (by intro j; rfl)) (Eq.trans (keep_row (by intro j; rfl)) (Eq.trans (keep_clr (by intro j; rfl)) (Eq.trans (keep_clr (by intro j; rfl)) (Eq.trans (keep_up (by rfl)) (Eq.trans (keep_clr (by intro j; rfl)) (Eq.trans (keep_clr (by intro j; rfl)) (Eq.trans (keep_clr (by intro j; rfl)) (Eq.trans (keep_up (by rfl)) (Eq.trans (keep_clr (by intro j; rfl)) (Eq.trans (keep_clr (by intro j; rfl)) (Eq.trans (keep_clr (by intro j; rfl)) (Eq.trans (keep_up (by rfl)) (Eq.trans (keep_up (by rfl)) (Eq.trans (keep_clr (by intro j; rfl)) (Eq.trans (keep_clr (by intro j; rfl)) (Eq.trans (keep_clr (by intro j; rfl)) (Eq.trans (keep_clr (by intro j; rfl)) (Eq.trans (keep_clr (by intro j; rfl)) (Eq.trans (keep_clr (by intro j; rfl)) (Eq.trans (keep_clr (by intro j; rfl)) (Eq.trans (keep_clr (by intro j; rfl)) (Eq.trans (keep_clr (by intro j; rfl)) (Eq.trans (keep_clr (by intro j; rfl)) (Eq.trans (keep_up (by rfl)) (Eq.trans (keep_up (by rfl)) (Eq.trans (keep_up (by rfl)) (Eq.trans (keep_clr (by intro j; rfl)) (Eq.trans (keep_clr (by intro j; rfl)) rfl)))))))))))))))))))))))))))))))))))
set_option maxRecDepth 100000 in
set_option maxHeartbeats 4000000 in
theorem x_imN125 (o : qO) (m y : qM) (k : Int) (hk0 : 0 ≤ k ∧ k ≤ 2) (hk : (oL o).getD k.toNat none = none) (ho : ∀ b, some b ∈ oL o → b < 125) (h0 : 0 ≤ m 2 0 ∧ m 2 0 ≤ 60) (h2 : 0 ≤ m 2 2 ∧ m 2 2 ≤ 150) (h12 : 0 ≤ m 12 1 ∧ m 12 1 ≤ 512) (h15 : 0 ≤ m 15 0 ∧ m 15 0 ≤ 5) (h4 : 0 ≤ m 1 4 ∧ m 1 4 ≤ 400) (hb : ∀ j : Nat, (j : Int) < m 1 4 → -128 ≤ m 21 j ∧ m 21 j ≤ 127) : qCt YX11_image 5 21 2101 [qR 0, qI k] (qLy (o, []), m, y) (fun r h => r = some (qI 1) ∧ ∃ m' y', h = (qLy (oS o k 125, im125 ++ []), m', y') ∧ keep (kN kIw125) m' = keep (kN kIw125) m ∧ ∀ s, sTc m (prj 125 s m')) := by
  have hw : (qLy (o, [])).all (q_shw 125) = true := qLy_w (by decide) ho rfl
  have hln : (qLy (o, [])).length = 125 := by rw [qLy_len]; rfl
  have hst : qLy (o, []) ++ (.inl (9, [.inr (some 126), .inr (some 136), .inr (some 139), .inr (some 145), .inl 0, .inl 0, .inl 0, .inl 0, .inl 0, .inl 0]) :: .inl (1, [.inl 0, .inl 0, .inl 0, .inr (some 127), .inr (some 128), .inr (some 129), .inr (some 130), .inr (some 131), .inr (some 132), .inr (some 133), .inr (some 134), .inr (some 135)]) :: .inr (.inl (0, 300)) :: .inr (.inl (0, 60)) :: .inr (.inl (0, 60)) :: .inr (.inl (0, 60)) :: .inr (.inl (0, 60)) :: .inr (.inl (0, 60)) :: .inr (.inl (0, 150)) :: .inr (.inl (0, 150)) :: .inr (.inl (0, 150)) :: .inl (3, [.inl 0, .inl 0, .inr (some 137), .inr (some 138)]) :: .inr (.inl (0, 512)) :: .inr (.inl (0, 10)) :: .inl (4, [.inl 0, .inr (some 140), .inr (some 141), .inr (some 142), .inl 0, .inr (some 143), .inr (some 144)]) :: .inr (.inl (0, 50)) :: .inr (.inl (0, 5)) :: .inr (.inl (0, 5)) :: .inr (.inl (0, 18)) :: .inr (.inl (0, 18)) :: .inr (.inl (1, 400)) :: []) = qLy (o, im125 ++ []) := by
    unfold qLy
    rw [List.append_assoc]
    rfl
  refine qCt.intro okX11_image (Nat.le_of_ble_eq_true rfl) (fun κ hκ => ?_)
  show qJ YX11_image κ _ (qLy (o, []), m, y) 0 0 0 [some (qR 0), some (qI k), none] []
  refine qJ.run hκ 1 (pc' := 1) (ls' := [some (qR 0), some (qI k), none]) (st' := [qI k]) rfl ?_
  refine qJ.if_lt hκ (tgt := 9) rfl rfl (by omega) (fun c1 => ?_) (fun c1 => ?_)
  · exact absurd c1 (by omega)
  · refine qJ.run hκ 2 (pc' := 6) (ls' := [some (qR 0), some (qI k), none]) (st' := [qI 3, qI k]) rfl ?_
    refine qJ.icmp_lt hκ (tgt := 11) rfl rfl (by omega) (by omega) (fun c6 => ?_) (fun c6 => absurd c6 (by omega))
    refine qJ.run hκ 3 (pc' := 16) (ls' := [some (qR 0), some (qI k), none]) (st' := [qI k, qR 22]) rfl ?_
    refine qJ.aald (rs := oL o) hκ rfl rfl (by show 3 < 2147483648; decide) ⟨by omega, by show k < 3; omega⟩ ?_
    rw [hk]
    refine qJ.run hκ 2 (pc' := 19) (ls' := [some (qR 0), some (qI k), some qN]) (st' := [qN]) rfl ?_
    refine qJ.ifnnN hκ rfl ?_
    refine qJ.newL (ci := 9) (fs := [.inr none, .inr none, .inr none, .inr none, .inl 0, .inl 0, .inl 0, .inl 0, .inl 0, .inl 0]) (qLy (o, []) ++ (.inl (9, [.inr none, .inr none, .inr none, .inr none, .inl 0, .inl 0, .inl 0, .inl 0, .inl 0, .inl 0]) :: [])) 125 hln rfl hκ rfl rfl kn_X11_9 kd_9 hw (by rfl) (by rfl) (Nat.le_of_ble_eq_true rfl) (Nat.le_of_ble_eq_true rfl) (Nat.le_of_ble_eq_true rfl) ?_
    show qJ YX11_image κ _ _ 1 10 25 [some (qR 0), some (qI k), some qN] [qR 125]
    refine qJ.run hκ 1 (pc' := 26) (ls' := [some (qR 0), some (qI k), some qN]) (st' := [qR 125, qR 125]) rfl ?_
    refine qJ.callIN (b := 125) (As := []) (rest := [qR 125]) hκ rfl kX11_11 (i_X9_125 (qLy (o, [])) hln (fun n hn => q_shw_all hn hw) (q_clr m 125) (q_clr y 125)) (Nat.le_of_ble_eq_true rfl) rfl rfl (Nat.le_of_ble_eq_true rfl) (Nat.le_of_ble_eq_true rfl) (Nat.le_of_ble_eq_true rfl) (q_wfL 126 (pr_len hln rfl) (by rfl) (by rfl)) (fun r h' e => ?_)
    obtain ⟨rfl, rfl⟩ := e
    refine qJ.cast (h' := (qLy (o, im125 ++ []), (q_up (q_up (q_up (q_up (q_up (q_up (q_clr (q_row (q_clr (q_clr (q_up (q_clr (q_clr (q_clr (q_up (q_clr (q_clr (q_clr (q_up (q_up (q_clr (q_clr (q_clr (q_clr (q_clr (q_clr (q_clr (q_clr (q_clr (q_clr (q_up (q_up (q_up (q_clr (q_clr m 125) 126) 126 0 0) 126 1 0) 126 2 0) 127) 128) 129) 130) 131) 132) 133) 134) 135) 136) 136 0 0) 136 1 0) 137) 138) 139) 139 0 0) 140) 141) 142) 139 4 0) 143) 144) 143 (fun k => if k < 18 then (-1) else (q_clr (q_clr (q_up (q_clr (q_clr (q_clr (q_up m 139 0 0) 140) 141) 142) 139 4 0) 143) 144) 143 k)) 145) 125 4 0) 125 5 0) 125 6 (-1)) 125 7 0) 125 8 0) 125 9 (-1)), (q_clr (q_clr (q_clr (q_clr (q_clr (q_clr (q_clr (q_clr (q_clr (q_clr (q_clr (q_clr (q_clr (q_clr (q_clr (q_clr (q_clr (q_clr (q_clr (q_clr (q_clr y 125) 126) 127) 128) 129) 130) 131) 132) 133) 134) 135) 136) 137) 138) 139) 140) 141) 142) 143) 144) 145))) (cs' := 21) (sl' := 2101) (pc' := 29) (ls' := [some (qR 0), some (qI k), some qN]) (st' := [qR 125]) ?_ (by rw [hst]; rfl) rfl rfl
    refine qJ.run hκ 5 (pc' := 36) (ls' := [some (qR 0), some (qI k), some (qR 125)]) (st' := [qR 125, qI k, qR 22]) rfl ?_
    refine qJ.aast (ci := 9) (rs := oL o) hκ rfl rfl rfl rfl (by show 3 < 2147483648; decide) ⟨by omega, by show k < 3; omega⟩ ?_
    refine qJ.cast (h' := (qLy (oS o k 125, im125 ++ []), (q_up (q_up (q_up (q_up (q_up (q_up (q_clr (q_row (q_clr (q_clr (q_up (q_clr (q_clr (q_clr (q_up (q_clr (q_clr (q_clr (q_up (q_up (q_clr (q_clr (q_clr (q_clr (q_clr (q_clr (q_clr (q_clr (q_clr (q_clr (q_up (q_up (q_up (q_clr (q_clr m 125) 126) 126 0 0) 126 1 0) 126 2 0) 127) 128) 129) 130) 131) 132) 133) 134) 135) 136) 136 0 0) 136 1 0) 137) 138) 139) 139 0 0) 140) 141) 142) 139 4 0) 143) 144) 143 (fun k => if k < 18 then (-1) else (q_clr (q_clr (q_up (q_clr (q_clr (q_clr (q_up m 139 0 0) 140) 141) 142) 139 4 0) 143) 144) 143 k)) 145) 125 4 0) 125 5 0) 125 6 (-1)) 125 7 0) 125 8 0) 125 9 (-1)), (q_clr (q_clr (q_clr (q_clr (q_clr (q_clr (q_clr (q_clr (q_clr (q_clr (q_clr (q_clr (q_clr (q_clr (q_clr (q_clr (q_clr (q_clr (q_clr (q_clr (q_clr y 125) 126) 127) 128) 129) 130) 131) 132) 133) 134) 135) 136) 137) 138) 139) 140) 141) 142) 143) 144) 145))) (cs' := 21) (sl' := 2101) (pc' := 37) (ls' := [some (qR 0), some (qI k), some (qR 125)]) (st' := []) ?_ (congrArg (fun L => (L, (q_up (q_up (q_up (q_up (q_up (q_up (q_clr (q_row (q_clr (q_clr (q_up (q_clr (q_clr (q_clr (q_up (q_clr (q_clr (q_clr (q_up (q_up (q_clr (q_clr (q_clr (q_clr (q_clr (q_clr (q_clr (q_clr (q_clr (q_clr (q_up (q_up (q_up (q_clr (q_clr m 125) 126) 126 0 0) 126 1 0) 126 2 0) 127) 128) 129) 130) 131) 132) 133) 134) 135) 136) 136 0 0) 136 1 0) 137) 138) 139) 139 0 0) 140) 141) 142) 139 4 0) 143) 144) 143 (fun k => if k < 18 then (-1) else (q_clr (q_clr (q_up (q_clr (q_clr (q_clr (q_up m 139 0 0) 140) 141) 142) 139 4 0) 143) 144) 143 k)) 145) 125 4 0) 125 5 0) 125 6 (-1)) 125 7 0) 125 8 0) 125 9 (-1)), (q_clr (q_clr (q_clr (q_clr (q_clr (q_clr (q_clr (q_clr (q_clr (q_clr (q_clr (q_clr (q_clr (q_clr (q_clr (q_clr (q_clr (q_clr (q_clr (q_clr (q_clr y 125) 126) 127) 128) 129) 130) 131) 132) 133) 134) 135) 136) 137) 138) 139) 140) 141) 142) 143) 144) 145))) (qLy_set hk0)) rfl rfl
    refine qJ.run hκ 3 (pc' := 42) (ls' := [some (qR 0), some (qI k), some (qR 125)]) (st' := [qR 1, qR 125]) rfl ?_
    have K0 := nM125_k m
    generalize (q_up (q_up (q_up (q_up (q_up (q_up (q_clr (q_row (q_clr (q_clr (q_up (q_clr (q_clr (q_clr (q_up (q_clr (q_clr (q_clr (q_up (q_up (q_clr (q_clr (q_clr (q_clr (q_clr (q_clr (q_clr (q_clr (q_clr (q_clr (q_up (q_up (q_up (q_clr (q_clr m 125) 126) 126 0 0) 126 1 0) 126 2 0) 127) 128) 129) 130) 131) 132) 133) 134) 135) 136) 136 0 0) 136 1 0) 137) 138) 139) 139 0 0) 140) 141) 142) 139 4 0) 143) 144) 143 (fun k => if k < 18 then (-1) else (q_clr (q_clr (q_up (q_clr (q_clr (q_clr (q_up m 139 0 0) 140) 141) 142) 139 4 0) 143) 144) 143 k)) 145) 125 4 0) 125 5 0) 125 6 (-1)) 125 7 0) 125 8 0) 125 9 (-1)) = M0 at K0 ⊢
    have Mr : ∀ i, i < 125 → M0 i = m i := fun i hi => keep_rw K0 (fun j => by unfold kN kIw125; rw [decide_eq_false (by omega)]; rfl)
    refine qJ.callV (b := 125) (As := [qR 1]) (rest := []) hκ rfl kX11_386 (c_ctw125 (oS o k 125) [] M0 (q_clr (q_clr (q_clr (q_clr (q_clr (q_clr (q_clr (q_clr (q_clr (q_clr (q_clr (q_clr (q_clr (q_clr (q_clr (q_clr (q_clr (q_clr (q_clr (q_clr (q_clr y 125) 126) 127) 128) 129) 130) 131) 132) 133) 134) 135) 136) 137) 138) 139) 140) 141) 142) 143) 144) 145) (by rw [Mr 2 (by decide)]; exact h0) (by rw [Mr 2 (by decide)]; exact h2) (by rw [Mr 12 (by decide)]; exact h12) (by rw [Mr 15 (by decide)]; exact h15) (by rw [Mr 1 (by decide)]; exact h4) (by rw [Mr 1 (by decide), Mr 21 (by decide)]; exact hb)) rfl rfl (by decide) rfl rfl (Nat.le_of_ble_eq_true rfl) (Nat.le_of_ble_eq_true rfl) (Nat.le_of_ble_eq_true rfl) (Or.inl (fun r h' e => by obtain ⟨rfl, m', rfl, -⟩ := e; rfl)) (fun r h' e => ?_)
    obtain ⟨rfl, m', rfl, K, g1, g2, g3, g4, g5, g6, g7⟩ := e
    refine qJ.cast (h' := (qLy (oS o k 125, im125 ++ []), m', (q_clr (q_clr (q_clr (q_clr (q_clr (q_clr (q_clr (q_clr (q_clr (q_clr (q_clr (q_clr (q_clr (q_clr (q_clr (q_clr (q_clr (q_clr (q_clr (q_clr (q_clr y 125) 126) 127) 128) 129) 130) 131) 132) 133) 134) 135) 136) 137) 138) 139) 140) 141) 142) 143) 144) 145))) (cs' := 21) (sl' := 2101) (pc' := 45) (ls' := [some (qR 0), some (qI k), some (qR 125)]) (st' := []) ?_ rfl rfl rfl
    refine qJ.run hκ 1 (pc' := 46) (ls' := [some (qR 0), some (qI k), some (qR 125)]) (st' := [qI 1]) rfl ?_
    refine qJ.bret hκ rfl rfl (Or.inr rfl) (Nat.le_refl _) (Nat.le_refl _) ⟨rfl, m', _, rfl, K.trans K0, fun s => sTc_l (fun i h1 h2 => Mr i (by omega)) ⟨g1, g2, g3, g4, g5, g6, g7⟩⟩

set_option maxRecDepth 100000 in
set_option maxHeartbeats 4000000 in
theorem x_agO146 (o : qO) (t : List qS) (m y : qM) (k : Int) (hk0 : 0 ≤ k ∧ k ≤ 2) (hk : (oL o).getD k.toNat none = some 146) (h0 : 0 ≤ m 147 0 ∧ m 147 0 ≤ 60) (h2 : 0 ≤ m 147 2 ∧ m 147 2 ≤ 150) (h12 : 0 ≤ m 157 1 ∧ m 157 1 ≤ 512) (h15 : 0 ≤ m 160 0 ∧ m 160 0 ≤ 5) (h4 : 0 ≤ m 146 4 ∧ m 146 4 ≤ 400) (hb : ∀ j : Nat, (j : Int) < m 146 4 → -128 ≤ m 166 j ∧ m 166 j ≤ 127) : qCt YX11_again 5 0 0 [qR 0, qI k] (qLy (o, im125 ++ (im146 ++ t)), m, y) (fun r h => r = some (qI 1) ∧ ∃ m', h = (qLy (o, im125 ++ (im146 ++ t)), m', y) ∧ keep (kN kIr146) m' = keep (kN kIr146) (fgM m) ∧ ∀ s, sTc (prj 146 s m) m') := by
  refine qCt.intro okX11_again (Nat.le_of_ble_eq_true rfl) (fun κ hκ => ?_)
  show qJ YX11_again κ _ (qLy (o, im125 ++ (im146 ++ t)), m, y) 0 0 0 [some (qR 0), some (qI k), none] []
  refine qJ.run hκ 1 (pc' := 1) (ls' := [some (qR 0), some (qI k), none]) (st' := [qI k]) rfl ?_
  refine qJ.if_lt hκ (tgt := 9) rfl rfl (by omega) (fun c1 => ?_) (fun c1 => ?_)
  · exact absurd c1 (by omega)
  · refine qJ.run hκ 2 (pc' := 6) (ls' := [some (qR 0), some (qI k), none]) (st' := [qI 3, qI k]) rfl ?_
    refine qJ.icmp_lt hκ (tgt := 11) rfl rfl (by omega) (by omega) (fun c6 => ?_) (fun c6 => absurd c6 (by omega))
    refine qJ.run hκ 3 (pc' := 16) (ls' := [some (qR 0), some (qI k), none]) (st' := [qI k, qR 22]) rfl ?_
    refine qJ.aald (rs := oL o) hκ rfl rfl (by show 3 < 2147483648; decide) ⟨by omega, by show k < 3; omega⟩ ?_
    rw [hk]
    refine qJ.run hκ 2 (pc' := 19) (ls' := [some (qR 0), some (qI k), some (qR 146)]) (st' := [qR 146]) rfl ?_
    refine qJ.ifnn hκ (tgt := 24) rfl rfl ?_
    refine qJ.run hκ 1 (pc' := 25) (ls' := [some (qR 0), some (qI k), some (qR 146)]) (st' := [qR 0]) rfl ?_
    refine qJ.callV (As := []) (rest := []) hκ rfl kX11_107 (c_forget (o, im125 ++ (im146 ++ t)) m y) rfl rfl (by decide) rfl rfl (Nat.le_of_ble_eq_true rfl) (Nat.le_of_ble_eq_true rfl) (Nat.le_of_ble_eq_true rfl) (Or.inl (fun r h' e => by obtain ⟨rfl, rfl⟩ := e; rfl)) (fun r h' e => ?_)
    obtain ⟨rfl, rfl⟩ := e
    show qJ YX11_again κ _ (qLy (o, im125 ++ (im146 ++ t)), fgM m, y) 0 0 28 [some (qR 0), some (qI k), some (qR 146)] []
    refine qJ.run hκ 3 (pc' := 33) (ls' := [some (qR 0), some (qI k), some (qR 146)]) (st' := [qR 146, qR 1]) rfl ?_
    refine qJ.callV (b := 1) (As := [qR 146]) (rest := []) hκ rfl kX11_386 (c_ctr146 o t (fgM m) y h0 h2 h12 h15 h4 hb) rfl rfl (by decide) rfl rfl (Nat.le_of_ble_eq_true rfl) (Nat.le_of_ble_eq_true rfl) (Nat.le_of_ble_eq_true rfl) (Or.inl (fun r h' e => by obtain ⟨rfl, m', rfl, -⟩ := e; rfl)) (fun r h' e => ?_)
    obtain ⟨rfl, m', rfl, K, g1, g2, g3, g4, g5, g6, g7⟩ := e
    show qJ YX11_again κ _ (qLy (o, im125 ++ (im146 ++ t)), m', y) 0 0 36 [some (qR 0), some (qI k), some (qR 146)] []
    refine qJ.run hκ 1 (pc' := 37) (ls' := [some (qR 0), some (qI k), some (qR 146)]) (st' := [qI 1]) rfl ?_
    exact qJ.bret hκ rfl rfl (Or.inr rfl) (by decide) (by decide) ⟨rfl, m', rfl, K, fun s => ⟨g1, g2, g3, g4, g5, g6, g7⟩⟩

set_option maxRecDepth 100000 in
set_option maxHeartbeats 4000000 in
theorem x_imO146 (o : qO) (t : List qS) (m y : qM) (k : Int) (hk0 : 0 ≤ k ∧ k ≤ 2) (hk : (oL o).getD k.toNat none = some 146) (h0 : 0 ≤ m 2 0 ∧ m 2 0 ≤ 60) (h2 : 0 ≤ m 2 2 ∧ m 2 2 ≤ 150) (h12 : 0 ≤ m 12 1 ∧ m 12 1 ≤ 512) (h15 : 0 ≤ m 15 0 ∧ m 15 0 ≤ 5) (h4 : 0 ≤ m 1 4 ∧ m 1 4 ≤ 400) (hb : ∀ j : Nat, (j : Int) < m 1 4 → -128 ≤ m 21 j ∧ m 21 j ≤ 127) : qCt YX11_image 5 0 0 [qR 0, qI k] (qLy (o, im125 ++ (im146 ++ t)), m, y) (fun r h => r = some (qI 1) ∧ ∃ m', h = (qLy (o, im125 ++ (im146 ++ t)), m', y) ∧ keep (kN kIw146) m' = keep (kN kIw146) m ∧ ∀ s, sTc m (prj 146 s m')) := by
  refine qCt.intro okX11_image (Nat.le_of_ble_eq_true rfl) (fun κ hκ => ?_)
  show qJ YX11_image κ _ (qLy (o, im125 ++ (im146 ++ t)), m, y) 0 0 0 [some (qR 0), some (qI k), none] []
  refine qJ.run hκ 1 (pc' := 1) (ls' := [some (qR 0), some (qI k), none]) (st' := [qI k]) rfl ?_
  refine qJ.if_lt hκ (tgt := 9) rfl rfl (by omega) (fun c1 => ?_) (fun c1 => ?_)
  · exact absurd c1 (by omega)
  · refine qJ.run hκ 2 (pc' := 6) (ls' := [some (qR 0), some (qI k), none]) (st' := [qI 3, qI k]) rfl ?_
    refine qJ.icmp_lt hκ (tgt := 11) rfl rfl (by omega) (by omega) (fun c6 => ?_) (fun c6 => absurd c6 (by omega))
    refine qJ.run hκ 3 (pc' := 16) (ls' := [some (qR 0), some (qI k), none]) (st' := [qI k, qR 22]) rfl ?_
    refine qJ.aald (rs := oL o) hκ rfl rfl (by show 3 < 2147483648; decide) ⟨by omega, by show k < 3; omega⟩ ?_
    rw [hk]
    refine qJ.run hκ 2 (pc' := 19) (ls' := [some (qR 0), some (qI k), some (qR 146)]) (st' := [qR 146]) rfl ?_
    refine qJ.ifnn hκ (tgt := 37) rfl rfl ?_
    refine qJ.run hκ 3 (pc' := 42) (ls' := [some (qR 0), some (qI k), some (qR 146)]) (st' := [qR 1, qR 146]) rfl ?_
    refine qJ.callV (b := 146) (As := [qR 1]) (rest := []) hκ rfl kX11_386 (c_ctw146 o t m y h0 h2 h12 h15 h4 hb) rfl rfl (by decide) rfl rfl (Nat.le_of_ble_eq_true rfl) (Nat.le_of_ble_eq_true rfl) (Nat.le_of_ble_eq_true rfl) (Or.inl (fun r h' e => by obtain ⟨rfl, m', rfl, -⟩ := e; rfl)) (fun r h' e => ?_)
    obtain ⟨rfl, m', rfl, K, g1, g2, g3, g4, g5, g6, g7⟩ := e
    show qJ YX11_image κ _ (qLy (o, im125 ++ (im146 ++ t)), m', y) 0 0 45 [some (qR 0), some (qI k), some (qR 146)] []
    refine qJ.run hκ 1 (pc' := 46) (ls' := [some (qR 0), some (qI k), some (qR 146)]) (st' := [qI 1]) rfl ?_
    exact qJ.bret hκ rfl rfl (Or.inr rfl) (by decide) (by decide) ⟨rfl, m', rfl, K, fun s => ⟨g1, g2, g3, g4, g5, g6, g7⟩⟩

set_option maxRecDepth 100000 in
set_option maxHeartbeats 4000000 in
theorem nM146_k (m : qM) : keep (kN kIw146) (q_up (q_up (q_up (q_up (q_up (q_up (q_clr (q_row (q_clr (q_clr (q_up (q_clr (q_clr (q_clr (q_up (q_clr (q_clr (q_clr (q_up (q_up (q_clr (q_clr (q_clr (q_clr (q_clr (q_clr (q_clr (q_clr (q_clr (q_clr (q_up (q_up (q_up (q_clr (q_clr m 146) 147) 147 0 0) 147 1 0) 147 2 0) 148) 149) 150) 151) 152) 153) 154) 155) 156) 157) 157 0 0) 157 1 0) 158) 159) 160) 160 0 0) 161) 162) 163) 160 4 0) 164) 165) 164 (fun k => if k < 18 then (-1) else (q_clr (q_clr (q_up (q_clr (q_clr (q_clr (q_up m 160 0 0) 161) 162) 163) 160 4 0) 164) 165) 164 k)) 166) 146 4 0) 146 5 0) 146 6 (-1)) 146 7 0) 146 8 0) 146 9 (-1)) = keep (kN kIw146) m := (Eq.trans (keep_up (by rfl)) (Eq.trans (keep_up (by rfl)) (Eq.trans (keep_up (by rfl)) (Eq.trans (keep_up (by rfl)) (Eq.trans (keep_up (by rfl)) (Eq.trans (keep_up (by rfl)) (Eq.trans (keep_clr (by intro j; rfl)) (Eq.trans (keep_row (by intro j; rfl)) (Eq.trans (keep_clr (by intro j; rfl)) (Eq.trans (keep_clr (by intro j; rfl)) (Eq.trans (keep_up (by rfl)) (Eq.trans (keep_clr (by intro j; rfl)) (Eq.trans (keep_clr (by intro j; rfl)) (Eq.trans (keep_clr (by intro j; rfl)) (Eq.trans (keep_up (by rfl)) (Eq.trans (keep_clr (by intro j; rfl)) (Eq.trans (keep_clr (by intro j; rfl)) (Eq.trans (keep_clr (by intro j; rfl)) (Eq.trans (keep_up (by rfl)) (Eq.trans (keep_up (by rfl)) (Eq.trans (keep_clr (by intro j; rfl)) (Eq.trans (keep_clr (by intro j; rfl)) (Eq.trans (keep_clr (by intro j; rfl)) (Eq.trans (keep_clr (by intro j; rfl)) (Eq.trans (keep_clr (by intro j; rfl)) (Eq.trans (keep_clr (by intro j; rfl)) (Eq.trans (keep_clr (by intro j; rfl)) (Eq.trans (keep_clr (by intro j; rfl)) (Eq.trans (keep_clr (by intro j; rfl)) (Eq.trans (keep_clr (by intro j; rfl)) (Eq.trans (keep_up (by rfl)) (Eq.trans (keep_up (by rfl)) (Eq.trans (keep_up (by rfl)) (Eq.trans (keep_clr (by intro j; rfl)) (Eq.trans (keep_clr (by intro j; rfl)) rfl)))))))))))))))))))))))))))))))))))
set_option maxRecDepth 100000 in
set_option maxHeartbeats 4000000 in
theorem x_imN146 (o : qO) (m y : qM) (k : Int) (hk0 : 0 ≤ k ∧ k ≤ 2) (hk : (oL o).getD k.toNat none = none) (ho : ∀ b, some b ∈ oL o → b < 146) (h0 : 0 ≤ m 2 0 ∧ m 2 0 ≤ 60) (h2 : 0 ≤ m 2 2 ∧ m 2 2 ≤ 150) (h12 : 0 ≤ m 12 1 ∧ m 12 1 ≤ 512) (h15 : 0 ≤ m 15 0 ∧ m 15 0 ≤ 5) (h4 : 0 ≤ m 1 4 ∧ m 1 4 ≤ 400) (hb : ∀ j : Nat, (j : Int) < m 1 4 → -128 ≤ m 21 j ∧ m 21 j ≤ 127) : qCt YX11_image 5 21 2101 [qR 0, qI k] (qLy (o, im125 ++ []), m, y) (fun r h => r = some (qI 1) ∧ ∃ m' y', h = (qLy (oS o k 146, im125 ++ (im146 ++ [])), m', y') ∧ keep (kN kIw146) m' = keep (kN kIw146) m ∧ ∀ s, sTc m (prj 146 s m')) := by
  have hw : (qLy (o, im125 ++ [])).all (q_shw 146) = true := qLy_w (by decide) ho (by rw [List.all_append, im_w.1]; rfl)
  have hln : (qLy (o, im125 ++ [])).length = 146 := by rw [qLy_len]; rfl
  have hst : qLy (o, im125 ++ []) ++ (.inl (9, [.inr (some 147), .inr (some 157), .inr (some 160), .inr (some 166), .inl 0, .inl 0, .inl 0, .inl 0, .inl 0, .inl 0]) :: .inl (1, [.inl 0, .inl 0, .inl 0, .inr (some 148), .inr (some 149), .inr (some 150), .inr (some 151), .inr (some 152), .inr (some 153), .inr (some 154), .inr (some 155), .inr (some 156)]) :: .inr (.inl (0, 300)) :: .inr (.inl (0, 60)) :: .inr (.inl (0, 60)) :: .inr (.inl (0, 60)) :: .inr (.inl (0, 60)) :: .inr (.inl (0, 60)) :: .inr (.inl (0, 150)) :: .inr (.inl (0, 150)) :: .inr (.inl (0, 150)) :: .inl (3, [.inl 0, .inl 0, .inr (some 158), .inr (some 159)]) :: .inr (.inl (0, 512)) :: .inr (.inl (0, 10)) :: .inl (4, [.inl 0, .inr (some 161), .inr (some 162), .inr (some 163), .inl 0, .inr (some 164), .inr (some 165)]) :: .inr (.inl (0, 50)) :: .inr (.inl (0, 5)) :: .inr (.inl (0, 5)) :: .inr (.inl (0, 18)) :: .inr (.inl (0, 18)) :: .inr (.inl (1, 400)) :: []) = qLy (o, im125 ++ (im146 ++ [])) := by
    unfold qLy
    rw [List.append_assoc]
    rfl
  refine qCt.intro okX11_image (Nat.le_of_ble_eq_true rfl) (fun κ hκ => ?_)
  show qJ YX11_image κ _ (qLy (o, im125 ++ []), m, y) 0 0 0 [some (qR 0), some (qI k), none] []
  refine qJ.run hκ 1 (pc' := 1) (ls' := [some (qR 0), some (qI k), none]) (st' := [qI k]) rfl ?_
  refine qJ.if_lt hκ (tgt := 9) rfl rfl (by omega) (fun c1 => ?_) (fun c1 => ?_)
  · exact absurd c1 (by omega)
  · refine qJ.run hκ 2 (pc' := 6) (ls' := [some (qR 0), some (qI k), none]) (st' := [qI 3, qI k]) rfl ?_
    refine qJ.icmp_lt hκ (tgt := 11) rfl rfl (by omega) (by omega) (fun c6 => ?_) (fun c6 => absurd c6 (by omega))
    refine qJ.run hκ 3 (pc' := 16) (ls' := [some (qR 0), some (qI k), none]) (st' := [qI k, qR 22]) rfl ?_
    refine qJ.aald (rs := oL o) hκ rfl rfl (by show 3 < 2147483648; decide) ⟨by omega, by show k < 3; omega⟩ ?_
    rw [hk]
    refine qJ.run hκ 2 (pc' := 19) (ls' := [some (qR 0), some (qI k), some qN]) (st' := [qN]) rfl ?_
    refine qJ.ifnnN hκ rfl ?_
    refine qJ.newL (ci := 9) (fs := [.inr none, .inr none, .inr none, .inr none, .inl 0, .inl 0, .inl 0, .inl 0, .inl 0, .inl 0]) (qLy (o, im125 ++ []) ++ (.inl (9, [.inr none, .inr none, .inr none, .inr none, .inl 0, .inl 0, .inl 0, .inl 0, .inl 0, .inl 0]) :: [])) 146 hln rfl hκ rfl rfl kn_X11_9 kd_9 hw (by rfl) (by rfl) (Nat.le_of_ble_eq_true rfl) (Nat.le_of_ble_eq_true rfl) (Nat.le_of_ble_eq_true rfl) ?_
    show qJ YX11_image κ _ _ 1 10 25 [some (qR 0), some (qI k), some qN] [qR 146]
    refine qJ.run hκ 1 (pc' := 26) (ls' := [some (qR 0), some (qI k), some qN]) (st' := [qR 146, qR 146]) rfl ?_
    refine qJ.callIN (b := 146) (As := []) (rest := [qR 146]) hκ rfl kX11_11 (i_X9_146 (qLy (o, im125 ++ [])) hln (fun n hn => q_shw_all hn hw) (q_clr m 146) (q_clr y 146)) (Nat.le_of_ble_eq_true rfl) rfl rfl (Nat.le_of_ble_eq_true rfl) (Nat.le_of_ble_eq_true rfl) (Nat.le_of_ble_eq_true rfl) (q_wfL 147 (pr_len hln rfl) (by rfl) (by rfl)) (fun r h' e => ?_)
    obtain ⟨rfl, rfl⟩ := e
    refine qJ.cast (h' := (qLy (o, im125 ++ (im146 ++ [])), (q_up (q_up (q_up (q_up (q_up (q_up (q_clr (q_row (q_clr (q_clr (q_up (q_clr (q_clr (q_clr (q_up (q_clr (q_clr (q_clr (q_up (q_up (q_clr (q_clr (q_clr (q_clr (q_clr (q_clr (q_clr (q_clr (q_clr (q_clr (q_up (q_up (q_up (q_clr (q_clr m 146) 147) 147 0 0) 147 1 0) 147 2 0) 148) 149) 150) 151) 152) 153) 154) 155) 156) 157) 157 0 0) 157 1 0) 158) 159) 160) 160 0 0) 161) 162) 163) 160 4 0) 164) 165) 164 (fun k => if k < 18 then (-1) else (q_clr (q_clr (q_up (q_clr (q_clr (q_clr (q_up m 160 0 0) 161) 162) 163) 160 4 0) 164) 165) 164 k)) 166) 146 4 0) 146 5 0) 146 6 (-1)) 146 7 0) 146 8 0) 146 9 (-1)), (q_clr (q_clr (q_clr (q_clr (q_clr (q_clr (q_clr (q_clr (q_clr (q_clr (q_clr (q_clr (q_clr (q_clr (q_clr (q_clr (q_clr (q_clr (q_clr (q_clr (q_clr y 146) 147) 148) 149) 150) 151) 152) 153) 154) 155) 156) 157) 158) 159) 160) 161) 162) 163) 164) 165) 166))) (cs' := 21) (sl' := 2101) (pc' := 29) (ls' := [some (qR 0), some (qI k), some qN]) (st' := [qR 146]) ?_ (by rw [hst]; rfl) rfl rfl
    refine qJ.run hκ 5 (pc' := 36) (ls' := [some (qR 0), some (qI k), some (qR 146)]) (st' := [qR 146, qI k, qR 22]) rfl ?_
    refine qJ.aast (ci := 9) (rs := oL o) hκ rfl rfl rfl rfl (by show 3 < 2147483648; decide) ⟨by omega, by show k < 3; omega⟩ ?_
    refine qJ.cast (h' := (qLy (oS o k 146, im125 ++ (im146 ++ [])), (q_up (q_up (q_up (q_up (q_up (q_up (q_clr (q_row (q_clr (q_clr (q_up (q_clr (q_clr (q_clr (q_up (q_clr (q_clr (q_clr (q_up (q_up (q_clr (q_clr (q_clr (q_clr (q_clr (q_clr (q_clr (q_clr (q_clr (q_clr (q_up (q_up (q_up (q_clr (q_clr m 146) 147) 147 0 0) 147 1 0) 147 2 0) 148) 149) 150) 151) 152) 153) 154) 155) 156) 157) 157 0 0) 157 1 0) 158) 159) 160) 160 0 0) 161) 162) 163) 160 4 0) 164) 165) 164 (fun k => if k < 18 then (-1) else (q_clr (q_clr (q_up (q_clr (q_clr (q_clr (q_up m 160 0 0) 161) 162) 163) 160 4 0) 164) 165) 164 k)) 166) 146 4 0) 146 5 0) 146 6 (-1)) 146 7 0) 146 8 0) 146 9 (-1)), (q_clr (q_clr (q_clr (q_clr (q_clr (q_clr (q_clr (q_clr (q_clr (q_clr (q_clr (q_clr (q_clr (q_clr (q_clr (q_clr (q_clr (q_clr (q_clr (q_clr (q_clr y 146) 147) 148) 149) 150) 151) 152) 153) 154) 155) 156) 157) 158) 159) 160) 161) 162) 163) 164) 165) 166))) (cs' := 21) (sl' := 2101) (pc' := 37) (ls' := [some (qR 0), some (qI k), some (qR 146)]) (st' := []) ?_ (congrArg (fun L => (L, (q_up (q_up (q_up (q_up (q_up (q_up (q_clr (q_row (q_clr (q_clr (q_up (q_clr (q_clr (q_clr (q_up (q_clr (q_clr (q_clr (q_up (q_up (q_clr (q_clr (q_clr (q_clr (q_clr (q_clr (q_clr (q_clr (q_clr (q_clr (q_up (q_up (q_up (q_clr (q_clr m 146) 147) 147 0 0) 147 1 0) 147 2 0) 148) 149) 150) 151) 152) 153) 154) 155) 156) 157) 157 0 0) 157 1 0) 158) 159) 160) 160 0 0) 161) 162) 163) 160 4 0) 164) 165) 164 (fun k => if k < 18 then (-1) else (q_clr (q_clr (q_up (q_clr (q_clr (q_clr (q_up m 160 0 0) 161) 162) 163) 160 4 0) 164) 165) 164 k)) 166) 146 4 0) 146 5 0) 146 6 (-1)) 146 7 0) 146 8 0) 146 9 (-1)), (q_clr (q_clr (q_clr (q_clr (q_clr (q_clr (q_clr (q_clr (q_clr (q_clr (q_clr (q_clr (q_clr (q_clr (q_clr (q_clr (q_clr (q_clr (q_clr (q_clr (q_clr y 146) 147) 148) 149) 150) 151) 152) 153) 154) 155) 156) 157) 158) 159) 160) 161) 162) 163) 164) 165) 166))) (qLy_set hk0)) rfl rfl
    refine qJ.run hκ 3 (pc' := 42) (ls' := [some (qR 0), some (qI k), some (qR 146)]) (st' := [qR 1, qR 146]) rfl ?_
    have K0 := nM146_k m
    generalize (q_up (q_up (q_up (q_up (q_up (q_up (q_clr (q_row (q_clr (q_clr (q_up (q_clr (q_clr (q_clr (q_up (q_clr (q_clr (q_clr (q_up (q_up (q_clr (q_clr (q_clr (q_clr (q_clr (q_clr (q_clr (q_clr (q_clr (q_clr (q_up (q_up (q_up (q_clr (q_clr m 146) 147) 147 0 0) 147 1 0) 147 2 0) 148) 149) 150) 151) 152) 153) 154) 155) 156) 157) 157 0 0) 157 1 0) 158) 159) 160) 160 0 0) 161) 162) 163) 160 4 0) 164) 165) 164 (fun k => if k < 18 then (-1) else (q_clr (q_clr (q_up (q_clr (q_clr (q_clr (q_up m 160 0 0) 161) 162) 163) 160 4 0) 164) 165) 164 k)) 166) 146 4 0) 146 5 0) 146 6 (-1)) 146 7 0) 146 8 0) 146 9 (-1)) = M0 at K0 ⊢
    have Mr : ∀ i, i < 146 → M0 i = m i := fun i hi => keep_rw K0 (fun j => by unfold kN kIw146; rw [decide_eq_false (by omega)]; rfl)
    refine qJ.callV (b := 146) (As := [qR 1]) (rest := []) hκ rfl kX11_386 (c_ctw146 (oS o k 146) [] M0 (q_clr (q_clr (q_clr (q_clr (q_clr (q_clr (q_clr (q_clr (q_clr (q_clr (q_clr (q_clr (q_clr (q_clr (q_clr (q_clr (q_clr (q_clr (q_clr (q_clr (q_clr y 146) 147) 148) 149) 150) 151) 152) 153) 154) 155) 156) 157) 158) 159) 160) 161) 162) 163) 164) 165) 166) (by rw [Mr 2 (by decide)]; exact h0) (by rw [Mr 2 (by decide)]; exact h2) (by rw [Mr 12 (by decide)]; exact h12) (by rw [Mr 15 (by decide)]; exact h15) (by rw [Mr 1 (by decide)]; exact h4) (by rw [Mr 1 (by decide), Mr 21 (by decide)]; exact hb)) rfl rfl (by decide) rfl rfl (Nat.le_of_ble_eq_true rfl) (Nat.le_of_ble_eq_true rfl) (Nat.le_of_ble_eq_true rfl) (Or.inl (fun r h' e => by obtain ⟨rfl, m', rfl, -⟩ := e; rfl)) (fun r h' e => ?_)
    obtain ⟨rfl, m', rfl, K, g1, g2, g3, g4, g5, g6, g7⟩ := e
    refine qJ.cast (h' := (qLy (oS o k 146, im125 ++ (im146 ++ [])), m', (q_clr (q_clr (q_clr (q_clr (q_clr (q_clr (q_clr (q_clr (q_clr (q_clr (q_clr (q_clr (q_clr (q_clr (q_clr (q_clr (q_clr (q_clr (q_clr (q_clr (q_clr y 146) 147) 148) 149) 150) 151) 152) 153) 154) 155) 156) 157) 158) 159) 160) 161) 162) 163) 164) 165) 166))) (cs' := 21) (sl' := 2101) (pc' := 45) (ls' := [some (qR 0), some (qI k), some (qR 146)]) (st' := []) ?_ rfl rfl rfl
    refine qJ.run hκ 1 (pc' := 46) (ls' := [some (qR 0), some (qI k), some (qR 146)]) (st' := [qI 1]) rfl ?_
    refine qJ.bret hκ rfl rfl (Or.inr rfl) (Nat.le_refl _) (Nat.le_refl _) ⟨rfl, m', _, rfl, K.trans K0, fun s => sTc_l (fun i h1 h2 => Mr i (by omega)) ⟨g1, g2, g3, g4, g5, g6, g7⟩⟩

set_option maxRecDepth 100000 in
set_option maxHeartbeats 4000000 in
theorem x_agO167 (o : qO) (t : List qS) (m y : qM) (k : Int) (hk0 : 0 ≤ k ∧ k ≤ 2) (hk : (oL o).getD k.toNat none = some 167) (h0 : 0 ≤ m 168 0 ∧ m 168 0 ≤ 60) (h2 : 0 ≤ m 168 2 ∧ m 168 2 ≤ 150) (h12 : 0 ≤ m 178 1 ∧ m 178 1 ≤ 512) (h15 : 0 ≤ m 181 0 ∧ m 181 0 ≤ 5) (h4 : 0 ≤ m 167 4 ∧ m 167 4 ≤ 400) (hb : ∀ j : Nat, (j : Int) < m 167 4 → -128 ≤ m 187 j ∧ m 187 j ≤ 127) : qCt YX11_again 5 0 0 [qR 0, qI k] (qLy (o, im125 ++ (im146 ++ (im167 ++ t))), m, y) (fun r h => r = some (qI 1) ∧ ∃ m', h = (qLy (o, im125 ++ (im146 ++ (im167 ++ t))), m', y) ∧ keep (kN kIr167) m' = keep (kN kIr167) (fgM m) ∧ ∀ s, sTc (prj 167 s m) m') := by
  refine qCt.intro okX11_again (Nat.le_of_ble_eq_true rfl) (fun κ hκ => ?_)
  show qJ YX11_again κ _ (qLy (o, im125 ++ (im146 ++ (im167 ++ t))), m, y) 0 0 0 [some (qR 0), some (qI k), none] []
  refine qJ.run hκ 1 (pc' := 1) (ls' := [some (qR 0), some (qI k), none]) (st' := [qI k]) rfl ?_
  refine qJ.if_lt hκ (tgt := 9) rfl rfl (by omega) (fun c1 => ?_) (fun c1 => ?_)
  · exact absurd c1 (by omega)
  · refine qJ.run hκ 2 (pc' := 6) (ls' := [some (qR 0), some (qI k), none]) (st' := [qI 3, qI k]) rfl ?_
    refine qJ.icmp_lt hκ (tgt := 11) rfl rfl (by omega) (by omega) (fun c6 => ?_) (fun c6 => absurd c6 (by omega))
    refine qJ.run hκ 3 (pc' := 16) (ls' := [some (qR 0), some (qI k), none]) (st' := [qI k, qR 22]) rfl ?_
    refine qJ.aald (rs := oL o) hκ rfl rfl (by show 3 < 2147483648; decide) ⟨by omega, by show k < 3; omega⟩ ?_
    rw [hk]
    refine qJ.run hκ 2 (pc' := 19) (ls' := [some (qR 0), some (qI k), some (qR 167)]) (st' := [qR 167]) rfl ?_
    refine qJ.ifnn hκ (tgt := 24) rfl rfl ?_
    refine qJ.run hκ 1 (pc' := 25) (ls' := [some (qR 0), some (qI k), some (qR 167)]) (st' := [qR 0]) rfl ?_
    refine qJ.callV (As := []) (rest := []) hκ rfl kX11_107 (c_forget (o, im125 ++ (im146 ++ (im167 ++ t))) m y) rfl rfl (by decide) rfl rfl (Nat.le_of_ble_eq_true rfl) (Nat.le_of_ble_eq_true rfl) (Nat.le_of_ble_eq_true rfl) (Or.inl (fun r h' e => by obtain ⟨rfl, rfl⟩ := e; rfl)) (fun r h' e => ?_)
    obtain ⟨rfl, rfl⟩ := e
    show qJ YX11_again κ _ (qLy (o, im125 ++ (im146 ++ (im167 ++ t))), fgM m, y) 0 0 28 [some (qR 0), some (qI k), some (qR 167)] []
    refine qJ.run hκ 3 (pc' := 33) (ls' := [some (qR 0), some (qI k), some (qR 167)]) (st' := [qR 167, qR 1]) rfl ?_
    refine qJ.callV (b := 1) (As := [qR 167]) (rest := []) hκ rfl kX11_386 (c_ctr167 o t (fgM m) y h0 h2 h12 h15 h4 hb) rfl rfl (by decide) rfl rfl (Nat.le_of_ble_eq_true rfl) (Nat.le_of_ble_eq_true rfl) (Nat.le_of_ble_eq_true rfl) (Or.inl (fun r h' e => by obtain ⟨rfl, m', rfl, -⟩ := e; rfl)) (fun r h' e => ?_)
    obtain ⟨rfl, m', rfl, K, g1, g2, g3, g4, g5, g6, g7⟩ := e
    show qJ YX11_again κ _ (qLy (o, im125 ++ (im146 ++ (im167 ++ t))), m', y) 0 0 36 [some (qR 0), some (qI k), some (qR 167)] []
    refine qJ.run hκ 1 (pc' := 37) (ls' := [some (qR 0), some (qI k), some (qR 167)]) (st' := [qI 1]) rfl ?_
    exact qJ.bret hκ rfl rfl (Or.inr rfl) (by decide) (by decide) ⟨rfl, m', rfl, K, fun s => ⟨g1, g2, g3, g4, g5, g6, g7⟩⟩

set_option maxRecDepth 100000 in
set_option maxHeartbeats 4000000 in
theorem x_imO167 (o : qO) (t : List qS) (m y : qM) (k : Int) (hk0 : 0 ≤ k ∧ k ≤ 2) (hk : (oL o).getD k.toNat none = some 167) (h0 : 0 ≤ m 2 0 ∧ m 2 0 ≤ 60) (h2 : 0 ≤ m 2 2 ∧ m 2 2 ≤ 150) (h12 : 0 ≤ m 12 1 ∧ m 12 1 ≤ 512) (h15 : 0 ≤ m 15 0 ∧ m 15 0 ≤ 5) (h4 : 0 ≤ m 1 4 ∧ m 1 4 ≤ 400) (hb : ∀ j : Nat, (j : Int) < m 1 4 → -128 ≤ m 21 j ∧ m 21 j ≤ 127) : qCt YX11_image 5 0 0 [qR 0, qI k] (qLy (o, im125 ++ (im146 ++ (im167 ++ t))), m, y) (fun r h => r = some (qI 1) ∧ ∃ m', h = (qLy (o, im125 ++ (im146 ++ (im167 ++ t))), m', y) ∧ keep (kN kIw167) m' = keep (kN kIw167) m ∧ ∀ s, sTc m (prj 167 s m')) := by
  refine qCt.intro okX11_image (Nat.le_of_ble_eq_true rfl) (fun κ hκ => ?_)
  show qJ YX11_image κ _ (qLy (o, im125 ++ (im146 ++ (im167 ++ t))), m, y) 0 0 0 [some (qR 0), some (qI k), none] []
  refine qJ.run hκ 1 (pc' := 1) (ls' := [some (qR 0), some (qI k), none]) (st' := [qI k]) rfl ?_
  refine qJ.if_lt hκ (tgt := 9) rfl rfl (by omega) (fun c1 => ?_) (fun c1 => ?_)
  · exact absurd c1 (by omega)
  · refine qJ.run hκ 2 (pc' := 6) (ls' := [some (qR 0), some (qI k), none]) (st' := [qI 3, qI k]) rfl ?_
    refine qJ.icmp_lt hκ (tgt := 11) rfl rfl (by omega) (by omega) (fun c6 => ?_) (fun c6 => absurd c6 (by omega))
    refine qJ.run hκ 3 (pc' := 16) (ls' := [some (qR 0), some (qI k), none]) (st' := [qI k, qR 22]) rfl ?_
    refine qJ.aald (rs := oL o) hκ rfl rfl (by show 3 < 2147483648; decide) ⟨by omega, by show k < 3; omega⟩ ?_
    rw [hk]
    refine qJ.run hκ 2 (pc' := 19) (ls' := [some (qR 0), some (qI k), some (qR 167)]) (st' := [qR 167]) rfl ?_
    refine qJ.ifnn hκ (tgt := 37) rfl rfl ?_
    refine qJ.run hκ 3 (pc' := 42) (ls' := [some (qR 0), some (qI k), some (qR 167)]) (st' := [qR 1, qR 167]) rfl ?_
    refine qJ.callV (b := 167) (As := [qR 1]) (rest := []) hκ rfl kX11_386 (c_ctw167 o t m y h0 h2 h12 h15 h4 hb) rfl rfl (by decide) rfl rfl (Nat.le_of_ble_eq_true rfl) (Nat.le_of_ble_eq_true rfl) (Nat.le_of_ble_eq_true rfl) (Or.inl (fun r h' e => by obtain ⟨rfl, m', rfl, -⟩ := e; rfl)) (fun r h' e => ?_)
    obtain ⟨rfl, m', rfl, K, g1, g2, g3, g4, g5, g6, g7⟩ := e
    show qJ YX11_image κ _ (qLy (o, im125 ++ (im146 ++ (im167 ++ t))), m', y) 0 0 45 [some (qR 0), some (qI k), some (qR 167)] []
    refine qJ.run hκ 1 (pc' := 46) (ls' := [some (qR 0), some (qI k), some (qR 167)]) (st' := [qI 1]) rfl ?_
    exact qJ.bret hκ rfl rfl (Or.inr rfl) (by decide) (by decide) ⟨rfl, m', rfl, K, fun s => ⟨g1, g2, g3, g4, g5, g6, g7⟩⟩

set_option maxRecDepth 100000 in
set_option maxHeartbeats 4000000 in
theorem nM167_k (m : qM) : keep (kN kIw167) (q_up (q_up (q_up (q_up (q_up (q_up (q_clr (q_row (q_clr (q_clr (q_up (q_clr (q_clr (q_clr (q_up (q_clr (q_clr (q_clr (q_up (q_up (q_clr (q_clr (q_clr (q_clr (q_clr (q_clr (q_clr (q_clr (q_clr (q_clr (q_up (q_up (q_up (q_clr (q_clr m 167) 168) 168 0 0) 168 1 0) 168 2 0) 169) 170) 171) 172) 173) 174) 175) 176) 177) 178) 178 0 0) 178 1 0) 179) 180) 181) 181 0 0) 182) 183) 184) 181 4 0) 185) 186) 185 (fun k => if k < 18 then (-1) else (q_clr (q_clr (q_up (q_clr (q_clr (q_clr (q_up m 181 0 0) 182) 183) 184) 181 4 0) 185) 186) 185 k)) 187) 167 4 0) 167 5 0) 167 6 (-1)) 167 7 0) 167 8 0) 167 9 (-1)) = keep (kN kIw167) m := (Eq.trans (keep_up (by rfl)) (Eq.trans (keep_up (by rfl)) (Eq.trans (keep_up (by rfl)) (Eq.trans (keep_up (by rfl)) (Eq.trans (keep_up (by rfl)) (Eq.trans (keep_up (by rfl)) (Eq.trans (keep_clr (by intro j; rfl)) (Eq.trans (keep_row (by intro j; rfl)) (Eq.trans (keep_clr (by intro j; rfl)) (Eq.trans (keep_clr (by intro j; rfl)) (Eq.trans (keep_up (by rfl)) (Eq.trans (keep_clr (by intro j; rfl)) (Eq.trans (keep_clr (by intro j; rfl)) (Eq.trans (keep_clr (by intro j; rfl)) (Eq.trans (keep_up (by rfl)) (Eq.trans (keep_clr (by intro j; rfl)) (Eq.trans (keep_clr (by intro j; rfl)) (Eq.trans (keep_clr (by intro j; rfl)) (Eq.trans (keep_up (by rfl)) (Eq.trans (keep_up (by rfl)) (Eq.trans (keep_clr (by intro j; rfl)) (Eq.trans (keep_clr (by intro j; rfl)) (Eq.trans (keep_clr (by intro j; rfl)) (Eq.trans (keep_clr (by intro j; rfl)) (Eq.trans (keep_clr (by intro j; rfl)) (Eq.trans (keep_clr (by intro j; rfl)) (Eq.trans (keep_clr (by intro j; rfl)) (Eq.trans (keep_clr (by intro j; rfl)) (Eq.trans (keep_clr (by intro j; rfl)) (Eq.trans (keep_clr (by intro j; rfl)) (Eq.trans (keep_up (by rfl)) (Eq.trans (keep_up (by rfl)) (Eq.trans (keep_up (by rfl)) (Eq.trans (keep_clr (by intro j; rfl)) (Eq.trans (keep_clr (by intro j; rfl)) rfl)))))))))))))))))))))))))))))))))))
set_option maxRecDepth 100000 in
set_option maxHeartbeats 4000000 in
theorem x_imN167 (o : qO) (m y : qM) (k : Int) (hk0 : 0 ≤ k ∧ k ≤ 2) (hk : (oL o).getD k.toNat none = none) (ho : ∀ b, some b ∈ oL o → b < 167) (h0 : 0 ≤ m 2 0 ∧ m 2 0 ≤ 60) (h2 : 0 ≤ m 2 2 ∧ m 2 2 ≤ 150) (h12 : 0 ≤ m 12 1 ∧ m 12 1 ≤ 512) (h15 : 0 ≤ m 15 0 ∧ m 15 0 ≤ 5) (h4 : 0 ≤ m 1 4 ∧ m 1 4 ≤ 400) (hb : ∀ j : Nat, (j : Int) < m 1 4 → -128 ≤ m 21 j ∧ m 21 j ≤ 127) : qCt YX11_image 5 21 2101 [qR 0, qI k] (qLy (o, im125 ++ (im146 ++ [])), m, y) (fun r h => r = some (qI 1) ∧ ∃ m' y', h = (qLy (oS o k 167, im125 ++ (im146 ++ (im167 ++ []))), m', y') ∧ keep (kN kIw167) m' = keep (kN kIw167) m ∧ ∀ s, sTc m (prj 167 s m')) := by
  have hw : (qLy (o, im125 ++ (im146 ++ []))).all (q_shw 167) = true := qLy_w (by decide) ho (by rw [List.all_append, List.all_append, q_shw_all (show 146 ≤ 167 by decide) im_w.1, im_w.2]; rfl)
  have hln : (qLy (o, im125 ++ (im146 ++ []))).length = 167 := by rw [qLy_len]; rfl
  have hst : qLy (o, im125 ++ (im146 ++ [])) ++ (.inl (9, [.inr (some 168), .inr (some 178), .inr (some 181), .inr (some 187), .inl 0, .inl 0, .inl 0, .inl 0, .inl 0, .inl 0]) :: .inl (1, [.inl 0, .inl 0, .inl 0, .inr (some 169), .inr (some 170), .inr (some 171), .inr (some 172), .inr (some 173), .inr (some 174), .inr (some 175), .inr (some 176), .inr (some 177)]) :: .inr (.inl (0, 300)) :: .inr (.inl (0, 60)) :: .inr (.inl (0, 60)) :: .inr (.inl (0, 60)) :: .inr (.inl (0, 60)) :: .inr (.inl (0, 60)) :: .inr (.inl (0, 150)) :: .inr (.inl (0, 150)) :: .inr (.inl (0, 150)) :: .inl (3, [.inl 0, .inl 0, .inr (some 179), .inr (some 180)]) :: .inr (.inl (0, 512)) :: .inr (.inl (0, 10)) :: .inl (4, [.inl 0, .inr (some 182), .inr (some 183), .inr (some 184), .inl 0, .inr (some 185), .inr (some 186)]) :: .inr (.inl (0, 50)) :: .inr (.inl (0, 5)) :: .inr (.inl (0, 5)) :: .inr (.inl (0, 18)) :: .inr (.inl (0, 18)) :: .inr (.inl (1, 400)) :: []) = qLy (o, im125 ++ (im146 ++ (im167 ++ []))) := by
    unfold qLy
    rw [List.append_assoc]
    rfl
  refine qCt.intro okX11_image (Nat.le_of_ble_eq_true rfl) (fun κ hκ => ?_)
  show qJ YX11_image κ _ (qLy (o, im125 ++ (im146 ++ [])), m, y) 0 0 0 [some (qR 0), some (qI k), none] []
  refine qJ.run hκ 1 (pc' := 1) (ls' := [some (qR 0), some (qI k), none]) (st' := [qI k]) rfl ?_
  refine qJ.if_lt hκ (tgt := 9) rfl rfl (by omega) (fun c1 => ?_) (fun c1 => ?_)
  · exact absurd c1 (by omega)
  · refine qJ.run hκ 2 (pc' := 6) (ls' := [some (qR 0), some (qI k), none]) (st' := [qI 3, qI k]) rfl ?_
    refine qJ.icmp_lt hκ (tgt := 11) rfl rfl (by omega) (by omega) (fun c6 => ?_) (fun c6 => absurd c6 (by omega))
    refine qJ.run hκ 3 (pc' := 16) (ls' := [some (qR 0), some (qI k), none]) (st' := [qI k, qR 22]) rfl ?_
    refine qJ.aald (rs := oL o) hκ rfl rfl (by show 3 < 2147483648; decide) ⟨by omega, by show k < 3; omega⟩ ?_
    rw [hk]
    refine qJ.run hκ 2 (pc' := 19) (ls' := [some (qR 0), some (qI k), some qN]) (st' := [qN]) rfl ?_
    refine qJ.ifnnN hκ rfl ?_
    refine qJ.newL (ci := 9) (fs := [.inr none, .inr none, .inr none, .inr none, .inl 0, .inl 0, .inl 0, .inl 0, .inl 0, .inl 0]) (qLy (o, im125 ++ (im146 ++ [])) ++ (.inl (9, [.inr none, .inr none, .inr none, .inr none, .inl 0, .inl 0, .inl 0, .inl 0, .inl 0, .inl 0]) :: [])) 167 hln rfl hκ rfl rfl kn_X11_9 kd_9 hw (by rfl) (by rfl) (Nat.le_of_ble_eq_true rfl) (Nat.le_of_ble_eq_true rfl) (Nat.le_of_ble_eq_true rfl) ?_
    show qJ YX11_image κ _ _ 1 10 25 [some (qR 0), some (qI k), some qN] [qR 167]
    refine qJ.run hκ 1 (pc' := 26) (ls' := [some (qR 0), some (qI k), some qN]) (st' := [qR 167, qR 167]) rfl ?_
    refine qJ.callIN (b := 167) (As := []) (rest := [qR 167]) hκ rfl kX11_11 (i_X9_167 (qLy (o, im125 ++ (im146 ++ []))) hln (fun n hn => q_shw_all hn hw) (q_clr m 167) (q_clr y 167)) (Nat.le_of_ble_eq_true rfl) rfl rfl (Nat.le_of_ble_eq_true rfl) (Nat.le_of_ble_eq_true rfl) (Nat.le_of_ble_eq_true rfl) (q_wfL 168 (pr_len hln rfl) (by rfl) (by rfl)) (fun r h' e => ?_)
    obtain ⟨rfl, rfl⟩ := e
    refine qJ.cast (h' := (qLy (o, im125 ++ (im146 ++ (im167 ++ []))), (q_up (q_up (q_up (q_up (q_up (q_up (q_clr (q_row (q_clr (q_clr (q_up (q_clr (q_clr (q_clr (q_up (q_clr (q_clr (q_clr (q_up (q_up (q_clr (q_clr (q_clr (q_clr (q_clr (q_clr (q_clr (q_clr (q_clr (q_clr (q_up (q_up (q_up (q_clr (q_clr m 167) 168) 168 0 0) 168 1 0) 168 2 0) 169) 170) 171) 172) 173) 174) 175) 176) 177) 178) 178 0 0) 178 1 0) 179) 180) 181) 181 0 0) 182) 183) 184) 181 4 0) 185) 186) 185 (fun k => if k < 18 then (-1) else (q_clr (q_clr (q_up (q_clr (q_clr (q_clr (q_up m 181 0 0) 182) 183) 184) 181 4 0) 185) 186) 185 k)) 187) 167 4 0) 167 5 0) 167 6 (-1)) 167 7 0) 167 8 0) 167 9 (-1)), (q_clr (q_clr (q_clr (q_clr (q_clr (q_clr (q_clr (q_clr (q_clr (q_clr (q_clr (q_clr (q_clr (q_clr (q_clr (q_clr (q_clr (q_clr (q_clr (q_clr (q_clr y 167) 168) 169) 170) 171) 172) 173) 174) 175) 176) 177) 178) 179) 180) 181) 182) 183) 184) 185) 186) 187))) (cs' := 21) (sl' := 2101) (pc' := 29) (ls' := [some (qR 0), some (qI k), some qN]) (st' := [qR 167]) ?_ (by rw [hst]; rfl) rfl rfl
    refine qJ.run hκ 5 (pc' := 36) (ls' := [some (qR 0), some (qI k), some (qR 167)]) (st' := [qR 167, qI k, qR 22]) rfl ?_
    refine qJ.aast (ci := 9) (rs := oL o) hκ rfl rfl rfl rfl (by show 3 < 2147483648; decide) ⟨by omega, by show k < 3; omega⟩ ?_
    refine qJ.cast (h' := (qLy (oS o k 167, im125 ++ (im146 ++ (im167 ++ []))), (q_up (q_up (q_up (q_up (q_up (q_up (q_clr (q_row (q_clr (q_clr (q_up (q_clr (q_clr (q_clr (q_up (q_clr (q_clr (q_clr (q_up (q_up (q_clr (q_clr (q_clr (q_clr (q_clr (q_clr (q_clr (q_clr (q_clr (q_clr (q_up (q_up (q_up (q_clr (q_clr m 167) 168) 168 0 0) 168 1 0) 168 2 0) 169) 170) 171) 172) 173) 174) 175) 176) 177) 178) 178 0 0) 178 1 0) 179) 180) 181) 181 0 0) 182) 183) 184) 181 4 0) 185) 186) 185 (fun k => if k < 18 then (-1) else (q_clr (q_clr (q_up (q_clr (q_clr (q_clr (q_up m 181 0 0) 182) 183) 184) 181 4 0) 185) 186) 185 k)) 187) 167 4 0) 167 5 0) 167 6 (-1)) 167 7 0) 167 8 0) 167 9 (-1)), (q_clr (q_clr (q_clr (q_clr (q_clr (q_clr (q_clr (q_clr (q_clr (q_clr (q_clr (q_clr (q_clr (q_clr (q_clr (q_clr (q_clr (q_clr (q_clr (q_clr (q_clr y 167) 168) 169) 170) 171) 172) 173) 174) 175) 176) 177) 178) 179) 180) 181) 182) 183) 184) 185) 186) 187))) (cs' := 21) (sl' := 2101) (pc' := 37) (ls' := [some (qR 0), some (qI k), some (qR 167)]) (st' := []) ?_ (congrArg (fun L => (L, (q_up (q_up (q_up (q_up (q_up (q_up (q_clr (q_row (q_clr (q_clr (q_up (q_clr (q_clr (q_clr (q_up (q_clr (q_clr (q_clr (q_up (q_up (q_clr (q_clr (q_clr (q_clr (q_clr (q_clr (q_clr (q_clr (q_clr (q_clr (q_up (q_up (q_up (q_clr (q_clr m 167) 168) 168 0 0) 168 1 0) 168 2 0) 169) 170) 171) 172) 173) 174) 175) 176) 177) 178) 178 0 0) 178 1 0) 179) 180) 181) 181 0 0) 182) 183) 184) 181 4 0) 185) 186) 185 (fun k => if k < 18 then (-1) else (q_clr (q_clr (q_up (q_clr (q_clr (q_clr (q_up m 181 0 0) 182) 183) 184) 181 4 0) 185) 186) 185 k)) 187) 167 4 0) 167 5 0) 167 6 (-1)) 167 7 0) 167 8 0) 167 9 (-1)), (q_clr (q_clr (q_clr (q_clr (q_clr (q_clr (q_clr (q_clr (q_clr (q_clr (q_clr (q_clr (q_clr (q_clr (q_clr (q_clr (q_clr (q_clr (q_clr (q_clr (q_clr y 167) 168) 169) 170) 171) 172) 173) 174) 175) 176) 177) 178) 179) 180) 181) 182) 183) 184) 185) 186) 187))) (qLy_set hk0)) rfl rfl
    refine qJ.run hκ 3 (pc' := 42) (ls' := [some (qR 0), some (qI k), some (qR 167)]) (st' := [qR 1, qR 167]) rfl ?_
    have K0 := nM167_k m
    generalize (q_up (q_up (q_up (q_up (q_up (q_up (q_clr (q_row (q_clr (q_clr (q_up (q_clr (q_clr (q_clr (q_up (q_clr (q_clr (q_clr (q_up (q_up (q_clr (q_clr (q_clr (q_clr (q_clr (q_clr (q_clr (q_clr (q_clr (q_clr (q_up (q_up (q_up (q_clr (q_clr m 167) 168) 168 0 0) 168 1 0) 168 2 0) 169) 170) 171) 172) 173) 174) 175) 176) 177) 178) 178 0 0) 178 1 0) 179) 180) 181) 181 0 0) 182) 183) 184) 181 4 0) 185) 186) 185 (fun k => if k < 18 then (-1) else (q_clr (q_clr (q_up (q_clr (q_clr (q_clr (q_up m 181 0 0) 182) 183) 184) 181 4 0) 185) 186) 185 k)) 187) 167 4 0) 167 5 0) 167 6 (-1)) 167 7 0) 167 8 0) 167 9 (-1)) = M0 at K0 ⊢
    have Mr : ∀ i, i < 167 → M0 i = m i := fun i hi => keep_rw K0 (fun j => by unfold kN kIw167; rw [decide_eq_false (by omega)]; rfl)
    refine qJ.callV (b := 167) (As := [qR 1]) (rest := []) hκ rfl kX11_386 (c_ctw167 (oS o k 167) [] M0 (q_clr (q_clr (q_clr (q_clr (q_clr (q_clr (q_clr (q_clr (q_clr (q_clr (q_clr (q_clr (q_clr (q_clr (q_clr (q_clr (q_clr (q_clr (q_clr (q_clr (q_clr y 167) 168) 169) 170) 171) 172) 173) 174) 175) 176) 177) 178) 179) 180) 181) 182) 183) 184) 185) 186) 187) (by rw [Mr 2 (by decide)]; exact h0) (by rw [Mr 2 (by decide)]; exact h2) (by rw [Mr 12 (by decide)]; exact h12) (by rw [Mr 15 (by decide)]; exact h15) (by rw [Mr 1 (by decide)]; exact h4) (by rw [Mr 1 (by decide), Mr 21 (by decide)]; exact hb)) rfl rfl (by decide) rfl rfl (Nat.le_of_ble_eq_true rfl) (Nat.le_of_ble_eq_true rfl) (Nat.le_of_ble_eq_true rfl) (Or.inl (fun r h' e => by obtain ⟨rfl, m', rfl, -⟩ := e; rfl)) (fun r h' e => ?_)
    obtain ⟨rfl, m', rfl, K, g1, g2, g3, g4, g5, g6, g7⟩ := e
    refine qJ.cast (h' := (qLy (oS o k 167, im125 ++ (im146 ++ (im167 ++ []))), m', (q_clr (q_clr (q_clr (q_clr (q_clr (q_clr (q_clr (q_clr (q_clr (q_clr (q_clr (q_clr (q_clr (q_clr (q_clr (q_clr (q_clr (q_clr (q_clr (q_clr (q_clr y 167) 168) 169) 170) 171) 172) 173) 174) 175) 176) 177) 178) 179) 180) 181) 182) 183) 184) 185) 186) 187))) (cs' := 21) (sl' := 2101) (pc' := 45) (ls' := [some (qR 0), some (qI k), some (qR 167)]) (st' := []) ?_ rfl rfl rfl
    refine qJ.run hκ 1 (pc' := 46) (ls' := [some (qR 0), some (qI k), some (qR 167)]) (st' := [qI 1]) rfl ?_
    refine qJ.bret hκ rfl rfl (Or.inr rfl) (Nat.le_refl _) (Nat.le_refl _) ⟨rfl, m', _, rfl, K.trans K0, fun s => sTc_l (fun i h1 h2 => Mr i (by omega)) ⟨g1, g2, g3, g4, g5, g6, g7⟩⟩

set_option maxRecDepth 100000 in
theorem m_image (u : qU) (m y : qM) (k : Int) (h1 : qr k) (h99 : n99 m) : qCt YX12_image 3 0 0 [qR 77, qI k] (qLy u, m, y) (fun r h => (¬ (0 ≤ k ∧ k ≤ 2) ∧ r = some (qI 0) ∧ h = (qLy u, q_up m 77 0 0, y)) ∨ ((0 ≤ k ∧ k ≤ 2) ∧ r = some (qI 1) ∧ ∃ m', h = (qLy u, q_up m' 124 k.toNat 1, y) ∧ keep (kN kCp) m' = keep (kN kCp) (q_up m 77 0 0) ∧ cpA 0 (k + 1) (q_up m 77 0 0) m' ∧ cpC 0 (k + 1) (q_up m 77 0 0) m' ∧ cpT 0 (k + 1) (q_up m 77 0 0) m' ∧ cpE 0 (k + 1) (q_up m 77 0 0) m')) := by
  refine qCt.intro okX12_image (Nat.le_of_ble_eq_true rfl) (fun κ hκ => ?_)
  have ii := q_ite01 (0 ≤ k ∧ k ≤ 2)
  show qJ YX12_image κ _ (qLy u, m, y) 0 0 0 [some (qR 77), some (qI k)] []
  refine qJ.run hκ 2 (pc' := 2) (ls' := [some (qR 77), some (qI k)]) (st' := [qI 0, qR 77]) rfl ?_
  refine qJ.putI hκ rfl rfl rfl rfl (Or.inl rfl) ?_
  show qJ YX12_image κ _ (qLy u, (q_up m 77 0 0), y) 0 0 5 [some (qR 77), some (qI k)] []
  refine qJ.run hκ 3 (pc' := 8) (ls' := [some (qR 77), some (qI k)]) (st' := [qI 2, qI 0, qI k]) rfl ?_
  refine qJ.callS (As := [qI k, qI 0, qI 2]) (rest := []) hκ rfl kX12_167 (c_in u (q_up m 77 0 0) y k 0 2 (by omega) (by omega) (by omega)) (by decide) rfl rfl (Nat.le_of_ble_eq_true rfl) (Nat.le_of_ble_eq_true rfl) (Nat.le_of_ble_eq_true rfl) (Or.inl (fun r h' e => by obtain ⟨z8, rfl, hz8, rfl⟩ := e; rfl)) (fun r h' e => ?_)
  obtain ⟨z8, rfl, hz8, rfl⟩ := e
  show qJ YX12_image κ _ (qLy u, (q_up m 77 0 0), y) 0 0 11 [some (qR 77), some (qI k)] [qI z8]
  refine qJ.if_ne hκ (tgt := 16) rfl rfl (by omega) (fun c11 => ?_) (fun c11 => ?_)
  · show qJ YX12_image κ _ (qLy u, (q_up m 77 0 0), y) 0 0 16 [some (qR 77), some (qI k)] []
    refine qJ.run hκ 5 (pc' := 21) (ls' := [some (qR 77), some (qI k)]) (st' := [qI (k + 1), qI 0, qR 77]) rfl ?_
    have kk : 0 ≤ k ∧ k ≤ 2 := by omega
    refine qJ.callV (As := [qI 0, qI (k + 1)]) (rest := []) hκ rfl kX12_386 (m_copy u (q_up m 77 0 0) y 0 (k + 1) (by omega) (by omega) (by omega) (fun a a0 a1 => by rw [show 10 * (0 : Int) + a = a by omega]; exact h99 a a0 a1)) rfl rfl (by decide) rfl rfl (Nat.le_of_ble_eq_true rfl) (Nat.le_of_ble_eq_true rfl) (Nat.le_of_ble_eq_true rfl) (Or.inl (fun r h' e => by obtain ⟨rfl, m', rfl, K, A1, A2, A3, A4⟩ := e; rfl)) (fun r h' e => ?_)
    obtain ⟨rfl, m', rfl, K, A1, A2, A3, A4⟩ := e
    show qJ YX12_image κ _ (qLy u, m', y) 0 0 24 [some (qR 77), some (qI k)] []
    refine qJ.run hκ 4 (pc' := 30) (ls' := [some (qR 77), some (qI k)]) (st' := [qI 1, qI k, qR 124]) rfl ?_
    refine qJ.ast hκ rfl rfl rfl (by decide) (by omega) ?_
    refine qJ.mc (m1 := (q_up m' 124 k.toNat (q_nar 2 1))) (m2 := (q_up m' 124 k.toNat 1)) (by rw [q_n2 (by omega)]) ?_
    show qJ YX12_image κ _ (qLy u, (q_up m' 124 k.toNat 1), y) 0 0 31 [some (qR 77), some (qI k)] []
    refine qJ.run hκ 1 (pc' := 32) (ls' := [some (qR 77), some (qI k)]) (st' := [qI 1]) rfl ?_
    exact qJ.bret hκ rfl rfl (by omega) (by decide) (by decide) (Or.inr ⟨kk, rfl, m', rfl, K, A1, A2, A3, A4⟩)
  · show qJ YX12_image κ _ (qLy u, (q_up m 77 0 0), y) 0 0 14 [some (qR 77), some (qI k)] []
    refine qJ.run hκ 1 (pc' := 15) (ls' := [some (qR 77), some (qI k)]) (st' := [qI 0]) rfl ?_
    exact qJ.bret hκ rfl rfl (by omega) (by decide) (by decide) (Or.inl ⟨fun q => by omega, rfl, rfl⟩)

set_option maxRecDepth 100000 in
theorem m_again (u : qU) (m y : qM) (k : Int) (h1 : qr k) (h124 : (0 ≤ k ∧ k ≤ 2) → m 124 k.toNat = 0 ∨ m 124 k.toNat = 1) (h99 : ((0 ≤ k ∧ k ≤ 2) ∧ m 124 k.toNat = 1) → ∀ a : Int, 0 ≤ a → a < 10 → 0 ≤ m 99 (10 * (k + 1) + a).toNat ∧ m 99 (10 * (k + 1) + a).toNat ≤ 1000) : qCt YX12_again 3 0 0 [qR 77, qI k] (qLy u, m, y) (fun r h => (¬ ((0 ≤ k ∧ k ≤ 2) ∧ m 124 k.toNat = 1) ∧ r = some (qI 0) ∧ h = (qLy u, q_up m 77 0 0, y)) ∨ (((0 ≤ k ∧ k ≤ 2) ∧ m 124 k.toNat = 1) ∧ r = some (qI 1) ∧ ∃ m', h = (qLy u, m', y) ∧ keep (kN kCp) m' = keep (kN kCp) (q_up m 77 0 0) ∧ cpA (k + 1) 0 (q_up m 77 0 0) m' ∧ cpC (k + 1) 0 (q_up m 77 0 0) m' ∧ cpT (k + 1) 0 (q_up m 77 0 0) m' ∧ cpE (k + 1) 0 (q_up m 77 0 0) m')) := by
  refine qCt.intro okX12_again (Nat.le_of_ble_eq_true rfl) (fun κ hκ => ?_)
  have ii := q_ite01 (0 ≤ k ∧ k ≤ 2)
  show qJ YX12_again κ _ (qLy u, m, y) 0 0 0 [some (qR 77), some (qI k)] []
  refine qJ.run hκ 2 (pc' := 2) (ls' := [some (qR 77), some (qI k)]) (st' := [qI 0, qR 77]) rfl ?_
  refine qJ.putI hκ rfl rfl rfl rfl (Or.inl rfl) ?_
  show qJ YX12_again κ _ (qLy u, (q_up m 77 0 0), y) 0 0 5 [some (qR 77), some (qI k)] []
  refine qJ.run hκ 3 (pc' := 8) (ls' := [some (qR 77), some (qI k)]) (st' := [qI 2, qI 0, qI k]) rfl ?_
  refine qJ.callS (As := [qI k, qI 0, qI 2]) (rest := []) hκ rfl kX12_167 (c_in u (q_up m 77 0 0) y k 0 2 (by omega) (by omega) (by omega)) (by decide) rfl rfl (Nat.le_of_ble_eq_true rfl) (Nat.le_of_ble_eq_true rfl) (Nat.le_of_ble_eq_true rfl) (Or.inl (fun r h' e => by obtain ⟨z8, rfl, hz8, rfl⟩ := e; rfl)) (fun r h' e => ?_)
  obtain ⟨z8, rfl, hz8, rfl⟩ := e
  show qJ YX12_again κ _ (qLy u, (q_up m 77 0 0), y) 0 0 11 [some (qR 77), some (qI k)] [qI z8]
  refine qJ.if_eq hκ (tgt := 23) rfl rfl (by omega) (fun c11 => ?_) (fun c11 => ?_)
  · show qJ YX12_again κ _ (qLy u, (q_up m 77 0 0), y) 0 0 23 [some (qR 77), some (qI k)] []
    refine qJ.run hκ 1 (pc' := 24) (ls' := [some (qR 77), some (qI k)]) (st' := [qI 0]) rfl ?_
    exact qJ.bret hκ rfl rfl (by omega) (by decide) (by decide) (Or.inl ⟨fun q => by omega, rfl, rfl⟩)
  · show qJ YX12_again κ _ (qLy u, (q_up m 77 0 0), y) 0 0 14 [some (qR 77), some (qI k)] []
    have kk : 0 ≤ k ∧ k ≤ 2 := by omega
    have r4 := h124 kk
    refine qJ.run hκ 3 (pc' := 19) (ls' := [some (qR 77), some (qI k)]) (st' := [qI k, qR 124]) rfl ?_
    refine qJ.ald hκ rfl rfl rfl (by decide) (by omega) ?_
    show qJ YX12_again κ _ (qLy u, (q_up m 77 0 0), y) 0 0 20 [some (qR 77), some (qI k)] [qI (m 124 k.toNat)]
    refine qJ.if_ne hκ (tgt := 25) rfl rfl (by omega) (fun c20 => ?_) (fun c20 => ?_)
    · show qJ YX12_again κ _ (qLy u, (q_up m 77 0 0), y) 0 0 25 [some (qR 77), some (qI k)] []
      refine qJ.run hκ 5 (pc' := 30) (ls' := [some (qR 77), some (qI k)]) (st' := [qI 0, qI (k + 1), qR 77]) rfl ?_
      refine qJ.callV (As := [qI (k + 1), qI 0]) (rest := []) hκ rfl kX12_386 (m_copy u (q_up m 77 0 0) y (k + 1) 0 (by omega) (by omega) (by omega) (h99 ⟨kk, by omega⟩)) rfl rfl (by decide) rfl rfl (Nat.le_of_ble_eq_true rfl) (Nat.le_of_ble_eq_true rfl) (Nat.le_of_ble_eq_true rfl) (Or.inl (fun r h' e => by obtain ⟨rfl, m', rfl, K, A1, A2, A3, A4⟩ := e; rfl)) (fun r h' e => ?_)
      obtain ⟨rfl, m', rfl, K, A1, A2, A3, A4⟩ := e
      show qJ YX12_again κ _ (qLy u, m', y) 0 0 33 [some (qR 77), some (qI k)] []
      refine qJ.run hκ 1 (pc' := 34) (ls' := [some (qR 77), some (qI k)]) (st' := [qI 1]) rfl ?_
      exact qJ.bret hκ rfl rfl (by omega) (by decide) (by decide) (Or.inr ⟨⟨kk, by omega⟩, rfl, m', rfl, K, A1, A2, A3, A4⟩)
    · show qJ YX12_again κ _ (qLy u, (q_up m 77 0 0), y) 0 0 23 [some (qR 77), some (qI k)] []
      refine qJ.run hκ 1 (pc' := 24) (ls' := [some (qR 77), some (qI k)]) (st' := [qI 0]) rfl ?_
      exact qJ.bret hκ rfl rfl (by omega) (by decide) (by decide) (Or.inl ⟨fun q => by omega, rfl, rfl⟩)

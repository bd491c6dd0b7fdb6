/-! printed by p107.py: word and name of the model again, with what they leave alone -/
def mUp (m m' : qM) : Prop := (∀ j : Nat, 1 ≤ j → m' 85 j = m 85 j ∧ m' 86 j = m 86 j ∧ m' 92 j = m 92 j) ∧ ∀ j : Nat, 300 ≤ j → m' 87 j = m 87 j

set_option maxRecDepth 100000 in
theorem m_wordI (u : qU) (m y : qM) (nm a b c d e : Int) (hw : 0 ≤ m 85 0 ∧ m 85 0 ≤ 60) (hn2 : 0 ≤ m 86 0 ∧ m 86 0 ≤ 12) (ht : 0 ≤ m 92 0 ∧ m 92 0 ≤ 150) (hnm : nm = 0 ∨ nm = 1) (ha : qr a) (hb : qr b) (hc : qr c) (hd : qr d) (he : qr e) : qCt YX12_word 3 0 0 [qR 77, qI nm, qI a, qI b, qI c, qI d, qI e] (qLy u, m, y) (fun r h => (∃ n m', r = some (qI (m 85 0)) ∧ mwA m nm a b c d e n ∧ h = (qLy u, m', y) ∧ (mWd m m' n nm (wv a b c d e) ∧ mUp m m')) ∨ (∃ gv, r = some (qI (-1)) ∧ (∀ n, ¬ mwA m nm a b c d e n) ∧ h = (qLy u, q_row (q_up m 77 0 0) 107 gv, y))) := by
  refine qCt.intro okX12_word (Nat.le_of_ble_eq_true rfl) (fun κ hκ => ?_)
  obtain ⟨gv, hgv⟩ : ∃ gv, gv = q_fu (q_fu (q_fu (q_fu (q_fu (m 107) 0 a) 1 b) 2 c) 3 d) 4 e := ⟨_, rfl⟩
  have gve : ∀ k : Nat, k < 5 → gv k = wv a b c d e k := by rw [hgv]; exact wv_fu
  have gvr : ∀ k : Nat, k < 5 → qr (gv k) := fun k hk => by rw [gve k hk]; exact wv_r ha hb hc hd he k
  have L218 : ∀ (n : Nat) (n1 : Int) (gp : Int) (f : Nat → Int) (k : Int), (0 ≤ k) → (k ≤ 5) → (((∀ j : Nat, (j : Int) < m 85 0 * 5 → f j = m 87 j) ∧ (∀ j : Int, 0 ≤ j → j < k → f (5 * m 85 0 + j).toNat = gv j.toNat)) ∧ ∀ j : Nat, 300 ≤ j → f j = m 87 j) → (wOK gv n1 ∧ wG gv n1) → (1 ≤ n1 ∧ n1 ≤ 5) → (m 85 0 < 60 ∧ m 92 0 < 150 ∧ (nm = 0 ∨ m 86 0 < 12)) → ((5 - k).toNat) < n → qJ YX12_word κ (qFin (fun r h => (∃ n m', r = some (qI (m 85 0)) ∧ mwA m nm a b c d e n ∧ h = (qLy u, m', y) ∧ (mWd m m' n nm (wv a b c d e) ∧ mUp m m')) ∨ (∃ gv, r = some (qI (-1)) ∧ (∀ n, ¬ mwA m nm a b c d e n) ∧ h = (qLy u, q_row (q_up m 77 0 0) 107 gv, y))) 0 0 κ) (qLy u, (q_row (q_up (q_up (q_row (q_up m 77 0 0) 107 gv) 85 0 (m 85 0 + 1)) 86 0 (m 86 0 + nm)) 87 f), y) 0 0 218 [some (qR 77), some (qI nm), some (qI a), some (qI b), some (qI c), some (qI d), some (qI e), some (qI n1), some (qI gp), some (qI (m 85 0)), some (qI k)] [] := by
    intro n
    induction n with
    | zero => intro n1 gp f k _ _ _ _ _ _ hz0; omega
    | succ n ih218 =>
      intro n1 gp f k v218_0 v218_1 v218_2 v218_3 v218_4 v218_5 v218_m
      refine qJ.run hκ 2 (pc' := 221) (ls' := [some (qR 77), some (qI nm), some (qI a), some (qI b), some (qI c), some (qI d), some (qI e), some (qI n1), some (qI gp), some (qI (m 85 0)), some (qI k)]) (st' := [qI 5, qI k]) rfl ?_
      refine qJ.icmp_ge hκ (tgt := 249) rfl rfl (by omega) (by omega) (fun c221 => ?_) (fun c221 => ?_)
      · show qJ YX12_word κ _ (qLy u, (q_row (q_up (q_up (q_row (q_up m 77 0 0) 107 gv) 85 0 (m 85 0 + 1)) 86 0 (m 86 0 + nm)) 87 f), y) 0 0 249 [some (qR 77), some (qI nm), some (qI a), some (qI b), some (qI c), some (qI d), some (qI e), some (qI n1), some (qI gp), some (qI (m 85 0)), some (qI k)] []
        refine qJ.run hκ 4 (pc' := 257) (ls' := [some (qR 77), some (qI nm), some (qI a), some (qI b), some (qI c), some (qI d), some (qI e), some (qI n1), some (qI gp), some (qI (m 85 0)), some (qI k)]) (st' := [qI n1, qI (m 85 0), qR 88]) rfl ?_
        refine qJ.ast hκ rfl rfl rfl (by decide) (by omega) ?_
        show qJ YX12_word κ _ (qLy u, (q_up (q_row (q_up (q_up (q_row (q_up m 77 0 0) 107 gv) 85 0 (m 85 0 + 1)) 86 0 (m 86 0 + nm)) 87 f) 88 ((m 85 0).toNat) n1), y) 0 0 258 [some (qR 77), some (qI nm), some (qI a), some (qI b), some (qI c), some (qI d), some (qI e), some (qI n1), some (qI gp), some (qI (m 85 0)), some (qI k)] []
        refine qJ.run hκ 6 (pc' := 269) (ls' := [some (qR 77), some (qI nm), some (qI a), some (qI b), some (qI c), some (qI d), some (qI e), some (qI n1), some (qI gp), some (qI (m 85 0)), some (qI k)]) (st' := [qI 0, qR 84, qI (m 85 0), qR 89]) rfl ?_
        refine qJ.ald hκ rfl rfl rfl (by decide) (by omega) ?_
        show qJ YX12_word κ _ (qLy u, (q_up (q_row (q_up (q_up (q_row (q_up m 77 0 0) 107 gv) 85 0 (m 85 0 + 1)) 86 0 (m 86 0 + nm)) 87 f) 88 ((m 85 0).toNat) n1), y) 0 0 270 [some (qR 77), some (qI nm), some (qI a), some (qI b), some (qI c), some (qI d), some (qI e), some (qI n1), some (qI gp), some (qI (m 85 0)), some (qI k)] [qI (m 84 0), qI (m 85 0), qR 89]
        refine qJ.ast hκ rfl rfl rfl (by decide) (by omega) ?_
        show qJ YX12_word κ _ (qLy u, (q_up (q_up (q_row (q_up (q_up (q_row (q_up m 77 0 0) 107 gv) 85 0 (m 85 0 + 1)) 86 0 (m 86 0 + nm)) 87 f) 88 ((m 85 0).toNat) n1) 89 ((m 85 0).toNat) (m 84 0)), y) 0 0 271 [some (qR 77), some (qI nm), some (qI a), some (qI b), some (qI c), some (qI d), some (qI e), some (qI n1), some (qI gp), some (qI (m 85 0)), some (qI k)] []
        refine qJ.run hκ 6 (pc' := 282) (ls' := [some (qR 77), some (qI nm), some (qI a), some (qI b), some (qI c), some (qI d), some (qI e), some (qI n1), some (qI gp), some (qI (m 85 0)), some (qI k)]) (st' := [qI 0, qR 82, qI (m 85 0), qR 90]) rfl ?_
        refine qJ.ald hκ rfl rfl rfl (by decide) (by omega) ?_
        show qJ YX12_word κ _ (qLy u, (q_up (q_up (q_row (q_up (q_up (q_row (q_up m 77 0 0) 107 gv) 85 0 (m 85 0 + 1)) 86 0 (m 86 0 + nm)) 87 f) 88 ((m 85 0).toNat) n1) 89 ((m 85 0).toNat) (m 84 0)), y) 0 0 283 [some (qR 77), some (qI nm), some (qI a), some (qI b), some (qI c), some (qI d), some (qI e), some (qI n1), some (qI gp), some (qI (m 85 0)), some (qI k)] [qI (m 82 0), qI (m 85 0), qR 90]
        refine qJ.ast hκ rfl rfl rfl (by decide) (by omega) ?_
        show qJ YX12_word κ _ (qLy u, (q_up (q_up (q_up (q_row (q_up (q_up (q_row (q_up m 77 0 0) 107 gv) 85 0 (m 85 0 + 1)) 86 0 (m 86 0 + nm)) 87 f) 88 ((m 85 0).toNat) n1) 89 ((m 85 0).toNat) (m 84 0)) 90 ((m 85 0).toNat) (m 82 0)), y) 0 0 284 [some (qR 77), some (qI nm), some (qI a), some (qI b), some (qI c), some (qI d), some (qI e), some (qI n1), some (qI gp), some (qI (m 85 0)), some (qI k)] []
        refine qJ.run hκ 4 (pc' := 291) (ls' := [some (qR 77), some (qI nm), some (qI a), some (qI b), some (qI c), some (qI d), some (qI e), some (qI n1), some (qI gp), some (qI (m 85 0)), some (qI k)]) (st' := [qI nm, qI (m 85 0), qR 91]) rfl ?_
        refine qJ.ast hκ rfl rfl rfl (by decide) (by omega) ?_
        refine qJ.mc (m1 := (q_up (q_up (q_up (q_up (q_row (q_up (q_up (q_row (q_up m 77 0 0) 107 gv) 85 0 (m 85 0 + 1)) 86 0 (m 86 0 + nm)) 87 f) 88 ((m 85 0).toNat) n1) 89 ((m 85 0).toNat) (m 84 0)) 90 ((m 85 0).toNat) (m 82 0)) 91 ((m 85 0).toNat) (q_nar 2 nm))) (m2 := (q_up (q_up (q_up (q_up (q_row (q_up (q_up (q_row (q_up m 77 0 0) 107 gv) 85 0 (m 85 0 + 1)) 86 0 (m 86 0 + nm)) 87 f) 88 ((m 85 0).toNat) n1) 89 ((m 85 0).toNat) (m 84 0)) 90 ((m 85 0).toNat) (m 82 0)) 91 ((m 85 0).toNat) nm)) (by rw [q_n2 (by omega)]) ?_
        show qJ YX12_word κ _ (qLy u, (q_up (q_up (q_up (q_up (q_row (q_up (q_up (q_row (q_up m 77 0 0) 107 gv) 85 0 (m 85 0 + 1)) 86 0 (m 86 0 + nm)) 87 f) 88 ((m 85 0).toNat) n1) 89 ((m 85 0).toNat) (m 84 0)) 90 ((m 85 0).toNat) (m 82 0)) 91 ((m 85 0).toNat) nm), y) 0 0 292 [some (qR 77), some (qI nm), some (qI a), some (qI b), some (qI c), some (qI d), some (qI e), some (qI n1), some (qI gp), some (qI (m 85 0)), some (qI k)] []
        refine qJ.run hκ 3 (pc' := 296) (ls' := [some (qR 77), some (qI nm), some (qI a), some (qI b), some (qI c), some (qI d), some (qI e), some (qI n1), some (qI gp), some (qI (m 85 0)), some (qI k)]) (st' := [qI (-1), qI (m 85 0), qR 77]) rfl ?_
        refine qJ.callV (As := [qI (m 85 0), qI (-1)]) (rest := []) hκ rfl kX12_179 (c_mTold u (q_up (q_up (q_up (q_up (q_row (q_up (q_up (q_row (q_up m 77 0 0) 107 gv) 85 0 (m 85 0 + 1)) 86 0 (m 86 0 + nm)) 87 f) 88 ((m 85 0).toNat) n1) 89 ((m 85 0).toNat) (m 84 0)) 90 ((m 85 0).toNat) (m 82 0)) 91 ((m 85 0).toNat) nm) y (m 85 0) (-1) (show 0 ≤ m 92 0 ∧ m 92 0 < 150 from by omega)) rfl rfl (by decide) rfl rfl (Nat.le_of_ble_eq_true rfl) (Nat.le_of_ble_eq_true rfl) (Nat.le_of_ble_eq_true rfl) (Or.inl (fun r h' e => by obtain ⟨rfl, rfl⟩ := e; rfl)) (fun r h' e => ?_)
        obtain ⟨rfl, rfl⟩ := e
        show qJ YX12_word κ _ (qLy u, (q_up (q_up (q_up (q_up (q_up (q_up (q_up (q_up (q_row (q_up (q_up (q_row (q_up m 77 0 0) 107 gv) 85 0 (m 85 0 + 1)) 86 0 (m 86 0 + nm)) 87 f) 88 ((m 85 0).toNat) n1) 89 ((m 85 0).toNat) (m 84 0)) 90 ((m 85 0).toNat) (m 82 0)) 91 ((m 85 0).toNat) nm) 92 0 (m 92 0 + 1)) 93 ((m 92 0).toNat) (m 85 0)) 94 ((m 92 0).toNat) (-1)) 95 ((m 92 0).toNat) (m 82 0)), y) 0 0 299 [some (qR 77), some (qI nm), some (qI a), some (qI b), some (qI c), some (qI d), some (qI e), some (qI n1), some (qI gp), some (qI (m 85 0)), some (qI k)] []
        refine qJ.run hκ 1 (pc' := 301) (ls' := [some (qR 77), some (qI nm), some (qI a), some (qI b), some (qI c), some (qI d), some (qI e), some (qI n1), some (qI gp), some (qI (m 85 0)), some (qI k)]) (st' := [qI (m 85 0)]) rfl ?_
        exact qJ.iret hκ rfl rfl (by decide) (by decide) (Or.inl ⟨n1, _, rfl, ⟨⟨by omega, wOK_c gve v218_3.1, (wG_c (by omega) gve).mp v218_3.2⟩, by omega, by omega, by omega⟩, rfl, ⟨(Eq.trans (keep_up (by rfl)) (Eq.trans (keep_up (by rfl)) (Eq.trans (keep_up (by rfl)) (Eq.trans (keep_up (by rfl)) (Eq.trans (keep_up (by rfl)) (Eq.trans (keep_up (by rfl)) (Eq.trans (keep_up (by rfl)) (Eq.trans (keep_up (by rfl)) (Eq.trans (keep_row (by intro j; rfl)) (Eq.trans (keep_up (by rfl)) (Eq.trans (keep_up (by rfl)) (Eq.trans (keep_row (by intro j; rfl)) (Eq.trans (keep_up (by rfl)) rfl))))))))))))), ⟨rfl, rfl, rfl⟩, ⟨v218_2.1.1, fun j h1 h2 => by rw [← gve _ (by omega)]; exact v218_2.1.2 j h1 (by omega)⟩, ⟨q_up_fu, q_up_fu, q_up_fu, q_up_fu⟩, q_up_fu, q_up_fu, q_up_fu⟩, ⟨fun j hj => ⟨(show q_up (q_row (q_up m 77 0 0) 107 gv) 85 0 (m 85 0 + 1) 85 j = (q_row (q_up m 77 0 0) 107 gv) 85 j from q_up_ne2 (by omega)), (show q_up (q_up (q_row (q_up m 77 0 0) 107 gv) 85 0 (m 85 0 + 1)) 86 0 (m 86 0 + nm) 86 j = (q_up (q_row (q_up m 77 0 0) 107 gv) 85 0 (m 85 0 + 1)) 86 j from q_up_ne2 (by omega)), (show q_up (q_up (q_up (q_up (q_up (q_row (q_up (q_up (q_row (q_up m 77 0 0) 107 gv) 85 0 (m 85 0 + 1)) 86 0 (m 86 0 + nm)) 87 f) 88 ((m 85 0).toNat) n1) 89 ((m 85 0).toNat) (m 84 0)) 90 ((m 85 0).toNat) (m 82 0)) 91 ((m 85 0).toNat) nm) 92 0 (m 92 0 + 1) 92 j = (q_up (q_up (q_up (q_up (q_row (q_up (q_up (q_row (q_up m 77 0 0) 107 gv) 85 0 (m 85 0 + 1)) 86 0 (m 86 0 + nm)) 87 f) 88 ((m 85 0).toNat) n1) 89 ((m 85 0).toNat) (m 84 0)) 90 ((m 85 0).toNat) (m 82 0)) 91 ((m 85 0).toNat) nm) 92 j from q_up_ne2 (by omega))⟩, fun j hj => v218_2.2 j hj⟩⟩)
      · show qJ YX12_word κ _ (qLy u, (q_row (q_up (q_up (q_row (q_up m 77 0 0) 107 gv) 85 0 (m 85 0 + 1)) 86 0 (m 86 0 + nm)) 87 f), y) 0 0 224 [some (qR 77), some (qI nm), some (qI a), some (qI b), some (qI c), some (qI d), some (qI e), some (qI n1), some (qI gp), some (qI (m 85 0)), some (qI k)] []
        refine qJ.run hκ 10 (pc' := 241) (ls' := [some (qR 77), some (qI nm), some (qI a), some (qI b), some (qI c), some (qI d), some (qI e), some (qI n1), some (qI gp), some (qI (m 85 0)), some (qI k)]) (st' := [qI k, qR 107, qI ((5 * (m 85 0)) + k), qR 87]) rfl ?_
        refine qJ.ald hκ rfl rfl rfl (by decide) (by omega) ?_
        show qJ YX12_word κ _ (qLy u, (q_row (q_up (q_up (q_row (q_up m 77 0 0) 107 gv) 85 0 (m 85 0 + 1)) 86 0 (m 86 0 + nm)) 87 f), y) 0 0 242 [some (qR 77), some (qI nm), some (qI a), some (qI b), some (qI c), some (qI d), some (qI e), some (qI n1), some (qI gp), some (qI (m 85 0)), some (qI k)] [qI (gv k.toNat), qI ((5 * (m 85 0)) + k), qR 87]
        refine qJ.ast hκ rfl rfl rfl (by decide) (by omega) ?_
        refine qJ.mc (m1 := (q_up (q_row (q_up (q_up (q_row (q_up m 77 0 0) 107 gv) 85 0 (m 85 0 + 1)) 86 0 (m 86 0 + nm)) 87 f) 87 (((5 * (m 85 0)) + k).toNat) (gv k.toNat))) (m2 := (q_row (q_up (q_up (q_row (q_up m 77 0 0) 107 gv) 85 0 (m 85 0 + 1)) 86 0 (m 86 0 + nm)) 87 (q_fu f (((5 * (m 85 0)) + k).toNat) (gv k.toNat)))) (by rw [q_up_row_eq]) ?_
        show qJ YX12_word κ _ (qLy u, (q_row (q_up (q_up (q_row (q_up m 77 0 0) 107 gv) 85 0 (m 85 0 + 1)) 86 0 (m 86 0 + nm)) 87 (q_fu f (((5 * (m 85 0)) + k).toNat) (gv k.toNat))), y) 0 0 243 [some (qR 77), some (qI nm), some (qI a), some (qI b), some (qI c), some (qI d), some (qI e), some (qI n1), some (qI gp), some (qI (m 85 0)), some (qI k)] []
        refine qJ.run hκ 2 (pc' := 218) (ls' := [some (qR 77), some (qI nm), some (qI a), some (qI b), some (qI c), some (qI d), some (qI e), some (qI n1), some (qI gp), some (qI (m 85 0)), some (qI (k + 1))]) (st' := []) rfl ?_
        exact qJ.cast (ih218  n1 gp (q_fu f (((5 * (m 85 0)) + k).toNat) (gv k.toNat)) (k + 1) (by omega) (by omega) (⟨⟨fun j hj => by rw [q_fu_ne (by omega)]; exact v218_2.1.1 j hj, fun j h1 h2 => by by_cases e : j = k; subst e; rw [q_fu_eq]; rw [q_fu_ne (by omega)]; exact v218_2.1.2 j h1 (by omega)⟩, fun j hj => by rw [q_fu_ne (by omega)]; exact v218_2.2 j hj⟩) (v218_3) (by omega) (by omega) (by omega)) (rfl) rfl rfl
  have L103 : ∀ (n : Nat) (n1 : Int) (gp : Int) (k : Int), (0 ≤ n1) → (n1 ≤ k) → (k ≤ 5) → (∀ k : Nat, (k : Int) < n1 → 0 ≤ gv k ∧ gv k ≤ 20) → (gp = (q_cnt (fun k => gv k = 20) n1.toNat : Nat)) → (∀ j : Nat, n1 ≤ (j : Int) → (j : Int) < k → gv j = -1) → (n1 = 5 ∨ ¬ (0 ≤ gv n1.toNat ∧ gv n1.toNat ≤ 20)) → ((5 - k).toNat) < n → qJ YX12_word κ (qFin (fun r h => (∃ n m', r = some (qI (m 85 0)) ∧ mwA m nm a b c d e n ∧ h = (qLy u, m', y) ∧ (mWd m m' n nm (wv a b c d e) ∧ mUp m m')) ∨ (∃ gv, r = some (qI (-1)) ∧ (∀ n, ¬ mwA m nm a b c d e n) ∧ h = (qLy u, q_row (q_up m 77 0 0) 107 gv, y))) 0 0 κ) (qLy u, (q_row (q_up m 77 0 0) 107 gv), y) 0 0 103 [some (qR 77), some (qI nm), some (qI a), some (qI b), some (qI c), some (qI d), some (qI e), some (qI n1), some (qI gp), some (qI k), none] [] := by
    intro n
    induction n with
    | zero => intro n1 gp k _ _ _ _ _ _ _ hz0; omega
    | succ n ih103 =>
      intro n1 gp k v103_0 v103_1 v103_2 v103_3 v103_4 v103_5 v103_6 v103_m
      refine qJ.run hκ 2 (pc' := 106) (ls' := [some (qR 77), some (qI nm), some (qI a), some (qI b), some (qI c), some (qI d), some (qI e), some (qI n1), some (qI gp), some (qI k), none]) (st' := [qI 5, qI k]) rfl ?_
      refine qJ.icmp_ge hκ (tgt := 128) rfl rfl (by omega) (by omega) (fun c106 => ?_) (fun c106 => ?_)
      · show qJ YX12_word κ _ (qLy u, (q_row (q_up m 77 0 0) 107 gv), y) 0 0 128 [some (qR 77), some (qI nm), some (qI a), some (qI b), some (qI c), some (qI d), some (qI e), some (qI n1), some (qI gp), some (qI k), none] []
        have cl := q_cnt_le (fun k => gv k = 20) n1.toNat
        have okg : wOK gv n1 := ⟨by omega, v103_3, fun j h1 h2 => v103_5 j h1 (by omega)⟩
        refine qJ.run hκ 3 (pc' := 133) (ls' := [some (qR 77), some (qI nm), some (qI a), some (qI b), some (qI c), some (qI d), some (qI e), some (qI n1), some (qI gp), some (qI k), none]) (st' := [qI 0, qR 85]) rfl ?_
        refine qJ.ald hκ rfl rfl rfl (by decide) (by omega) ?_
        show qJ YX12_word κ _ (qLy u, (q_row (q_up m 77 0 0) 107 gv), y) 0 0 134 [some (qR 77), some (qI nm), some (qI a), some (qI b), some (qI c), some (qI d), some (qI e), some (qI n1), some (qI gp), some (qI k), none] [qI (m 85 0)]
        refine qJ.run hκ 1 (pc' := 136) (ls' := [some (qR 77), some (qI nm), some (qI a), some (qI b), some (qI c), some (qI d), some (qI e), some (qI n1), some (qI gp), some (qI k), none]) (st' := [qI 60, qI (m 85 0)]) rfl ?_
        refine qJ.icmp_eq hκ (tgt := 177) rfl rfl (by omega) (by omega) (fun c136 => ?_) (fun c136 => ?_)
        · show qJ YX12_word κ _ (qLy u, (q_row (q_up m 77 0 0) 107 gv), y) 0 0 177 [some (qR 77), some (qI nm), some (qI a), some (qI b), some (qI c), some (qI d), some (qI e), some (qI n1), some (qI gp), some (qI k), none] []
          refine qJ.run hκ 1 (pc' := 178) (ls' := [some (qR 77), some (qI nm), some (qI a), some (qI b), some (qI c), some (qI d), some (qI e), some (qI n1), some (qI gp), some (qI k), none]) (st' := [qI (-1)]) rfl ?_
          exact qJ.iret hκ rfl rfl (by decide) (by decide) (Or.inr ⟨gv, rfl, fun q hq => by have h2 := wOK_u (wOK_c (fun k hk => (gve k hk).symm) hq.1.2.1) okg; subst h2; have h3 := (wG_c hq.1.2.1.1.2 gve).mpr hq.1.2.2; unfold wG at h3; have h4 := hq.2; have h5 := hq.1.1; omega, rfl⟩)
        · show qJ YX12_word κ _ (qLy u, (q_row (q_up m 77 0 0) 107 gv), y) 0 0 139 [some (qR 77), some (qI nm), some (qI a), some (qI b), some (qI c), some (qI d), some (qI e), some (qI n1), some (qI gp), some (qI k), none] []
          refine qJ.run hκ 3 (pc' := 144) (ls' := [some (qR 77), some (qI nm), some (qI a), some (qI b), some (qI c), some (qI d), some (qI e), some (qI n1), some (qI gp), some (qI k), none]) (st' := [qI 0, qR 92]) rfl ?_
          refine qJ.ald hκ rfl rfl rfl (by decide) (by omega) ?_
          show qJ YX12_word κ _ (qLy u, (q_row (q_up m 77 0 0) 107 gv), y) 0 0 145 [some (qR 77), some (qI nm), some (qI a), some (qI b), some (qI c), some (qI d), some (qI e), some (qI n1), some (qI gp), some (qI k), none] [qI (m 92 0)]
          refine qJ.run hκ 1 (pc' := 148) (ls' := [some (qR 77), some (qI nm), some (qI a), some (qI b), some (qI c), some (qI d), some (qI e), some (qI n1), some (qI gp), some (qI k), none]) (st' := [qI 150, qI (m 92 0)]) rfl ?_
          refine qJ.icmp_eq hκ (tgt := 177) rfl rfl (by omega) (by omega) (fun c148 => ?_) (fun c148 => ?_)
          · show qJ YX12_word κ _ (qLy u, (q_row (q_up m 77 0 0) 107 gv), y) 0 0 177 [some (qR 77), some (qI nm), some (qI a), some (qI b), some (qI c), some (qI d), some (qI e), some (qI n1), some (qI gp), some (qI k), none] []
            refine qJ.run hκ 1 (pc' := 178) (ls' := [some (qR 77), some (qI nm), some (qI a), some (qI b), some (qI c), some (qI d), some (qI e), some (qI n1), some (qI gp), some (qI k), none]) (st' := [qI (-1)]) rfl ?_
            exact qJ.iret hκ rfl rfl (by decide) (by decide) (Or.inr ⟨gv, rfl, fun q hq => by have h2 := wOK_u (wOK_c (fun k hk => (gve k hk).symm) hq.1.2.1) okg; subst h2; have h3 := (wG_c hq.1.2.1.1.2 gve).mpr hq.1.2.2; unfold wG at h3; have h4 := hq.2; have h5 := hq.1.1; omega, rfl⟩)
          · show qJ YX12_word κ _ (qLy u, (q_row (q_up m 77 0 0) 107 gv), y) 0 0 151 [some (qR 77), some (qI nm), some (qI a), some (qI b), some (qI c), some (qI d), some (qI e), some (qI n1), some (qI gp), some (qI k), none] []
            refine qJ.run hκ 1 (pc' := 152) (ls' := [some (qR 77), some (qI nm), some (qI a), some (qI b), some (qI c), some (qI d), some (qI e), some (qI n1), some (qI gp), some (qI k), none]) (st' := [qI nm]) rfl ?_
            refine qJ.if_eq hκ (tgt := 166) rfl rfl (by omega) (fun c152 => ?_) (fun c152 => ?_)
            · show qJ YX12_word κ _ (qLy u, (q_row (q_up m 77 0 0) 107 gv), y) 0 0 166 [some (qR 77), some (qI nm), some (qI a), some (qI b), some (qI c), some (qI d), some (qI e), some (qI n1), some (qI gp), some (qI k), none] []
              refine qJ.run hκ 1 (pc' := 168) (ls' := [some (qR 77), some (qI nm), some (qI a), some (qI b), some (qI c), some (qI d), some (qI e), some (qI n1), some (qI gp), some (qI k), none]) (st' := [qI n1]) rfl ?_
              refine qJ.if_eq hκ (tgt := 177) rfl rfl (by omega) (fun c168 => ?_) (fun c168 => ?_)
              · show qJ YX12_word κ _ (qLy u, (q_row (q_up m 77 0 0) 107 gv), y) 0 0 177 [some (qR 77), some (qI nm), some (qI a), some (qI b), some (qI c), some (qI d), some (qI e), some (qI n1), some (qI gp), some (qI k), none] []
                refine qJ.run hκ 1 (pc' := 178) (ls' := [some (qR 77), some (qI nm), some (qI a), some (qI b), some (qI c), some (qI d), some (qI e), some (qI n1), some (qI gp), some (qI k), none]) (st' := [qI (-1)]) rfl ?_
                exact qJ.iret hκ rfl rfl (by decide) (by decide) (Or.inr ⟨gv, rfl, fun q hq => by have h2 := wOK_u (wOK_c (fun k hk => (gve k hk).symm) hq.1.2.1) okg; subst h2; have h3 := (wG_c hq.1.2.1.1.2 gve).mpr hq.1.2.2; unfold wG at h3; have h4 := hq.2; have h5 := hq.1.1; omega, rfl⟩)
              · show qJ YX12_word κ _ (qLy u, (q_row (q_up m 77 0 0) 107 gv), y) 0 0 171 [some (qR 77), some (qI nm), some (qI a), some (qI b), some (qI c), some (qI d), some (qI e), some (qI n1), some (qI gp), some (qI k), none] []
                refine qJ.run hκ 2 (pc' := 174) (ls' := [some (qR 77), some (qI nm), some (qI a), some (qI b), some (qI c), some (qI d), some (qI e), some (qI n1), some (qI gp), some (qI k), none]) (st' := [qI 1, qI gp]) rfl ?_
                refine qJ.icmp_le hκ (tgt := 179) rfl rfl (by omega) (by omega) (fun c174 => ?_) (fun c174 => ?_)
                · show qJ YX12_word κ _ (qLy u, (q_row (q_up m 77 0 0) 107 gv), y) 0 0 179 [some (qR 77), some (qI nm), some (qI a), some (qI b), some (qI c), some (qI d), some (qI e), some (qI n1), some (qI gp), some (qI k), none] []
                  have okw : wOK gv n1 ∧ wG gv n1 := ⟨okg, by unfold wG; omega⟩
                  refine qJ.run hκ 3 (pc' := 184) (ls' := [some (qR 77), some (qI nm), some (qI a), some (qI b), some (qI c), some (qI d), some (qI e), some (qI n1), some (qI gp), some (qI k), none]) (st' := [qI 0, qR 85]) rfl ?_
                  refine qJ.ald hκ rfl rfl rfl (by decide) (by omega) ?_
                  show qJ YX12_word κ _ (qLy u, (q_row (q_up m 77 0 0) 107 gv), y) 0 0 185 [some (qR 77), some (qI nm), some (qI a), some (qI b), some (qI c), some (qI d), some (qI e), some (qI n1), some (qI gp), some (qI k), none] [qI (m 85 0)]
                  refine qJ.run hκ 5 (pc' := 193) (ls' := [some (qR 77), some (qI nm), some (qI a), some (qI b), some (qI c), some (qI d), some (qI e), some (qI n1), some (qI gp), some (qI (m 85 0)), none]) (st' := [qI 0, qR 85, qI 0, qR 85]) rfl ?_
                  refine qJ.ald hκ rfl rfl rfl (by decide) (by omega) ?_
                  show qJ YX12_word κ _ (qLy u, (q_row (q_up m 77 0 0) 107 gv), y) 0 0 194 [some (qR 77), some (qI nm), some (qI a), some (qI b), some (qI c), some (qI d), some (qI e), some (qI n1), some (qI gp), some (qI (m 85 0)), none] [qI (m 85 0), qI 0, qR 85]
                  refine qJ.run hκ 2 (pc' := 196) (ls' := [some (qR 77), some (qI nm), some (qI a), some (qI b), some (qI c), some (qI d), some (qI e), some (qI n1), some (qI gp), some (qI (m 85 0)), none]) (st' := [qI ((m 85 0) + 1), qI 0, qR 85]) rfl ?_
                  refine qJ.ast hκ rfl rfl rfl (by decide) (by omega) ?_
                  show qJ YX12_word κ _ (qLy u, (q_up (q_row (q_up m 77 0 0) 107 gv) 85 0 ((m 85 0) + 1)), y) 0 0 197 [some (qR 77), some (qI nm), some (qI a), some (qI b), some (qI c), some (qI d), some (qI e), some (qI n1), some (qI gp), some (qI (m 85 0)), none] []
                  refine qJ.run hκ 4 (pc' := 203) (ls' := [some (qR 77), some (qI nm), some (qI a), some (qI b), some (qI c), some (qI d), some (qI e), some (qI n1), some (qI gp), some (qI (m 85 0)), none]) (st' := [qI 0, qR 86, qI 0, qR 86]) rfl ?_
                  refine qJ.ald hκ rfl rfl rfl (by decide) (by omega) ?_
                  show qJ YX12_word κ _ (qLy u, (q_up (q_row (q_up m 77 0 0) 107 gv) 85 0 ((m 85 0) + 1)), y) 0 0 204 [some (qR 77), some (qI nm), some (qI a), some (qI b), some (qI c), some (qI d), some (qI e), some (qI n1), some (qI gp), some (qI (m 85 0)), none] [qI (m 86 0), qI 0, qR 86]
                  refine qJ.run hκ 1 (pc' := 205) (ls' := [some (qR 77), some (qI nm), some (qI a), some (qI b), some (qI c), some (qI d), some (qI e), some (qI n1), some (qI gp), some (qI (m 85 0)), none]) (st' := [qI nm, qI (m 86 0), qI 0, qR 86]) rfl ?_
                  refine qJ.if_eq hκ (tgt := 212) rfl rfl (by omega) (fun c205 => ?_) (fun c205 => ?_)
                  · show qJ YX12_word κ _ (qLy u, (q_up (q_row (q_up m 77 0 0) 107 gv) 85 0 ((m 85 0) + 1)), y) 0 0 212 [some (qR 77), some (qI nm), some (qI a), some (qI b), some (qI c), some (qI d), some (qI e), some (qI n1), some (qI gp), some (qI (m 85 0)), none] [qI (m 86 0), qI 0, qR 86]
                    refine qJ.run hκ 2 (pc' := 214) (ls' := [some (qR 77), some (qI nm), some (qI a), some (qI b), some (qI c), some (qI d), some (qI e), some (qI n1), some (qI gp), some (qI (m 85 0)), none]) (st' := [qI ((m 86 0) + 0), qI 0, qR 86]) rfl ?_
                    refine qJ.ast hκ rfl rfl rfl (by decide) (by omega) ?_
                    show qJ YX12_word κ _ (qLy u, (q_up (q_up (q_row (q_up m 77 0 0) 107 gv) 85 0 ((m 85 0) + 1)) 86 0 ((m 86 0) + 0)), y) 0 0 215 [some (qR 77), some (qI nm), some (qI a), some (qI b), some (qI c), some (qI d), some (qI e), some (qI n1), some (qI gp), some (qI (m 85 0)), none] []
                    refine qJ.run hκ 2 (pc' := 218) (ls' := [some (qR 77), some (qI nm), some (qI a), some (qI b), some (qI c), some (qI d), some (qI e), some (qI n1), some (qI gp), some (qI (m 85 0)), some (qI 0)]) (st' := []) rfl ?_
                    exact qJ.cast (L218 6 n1 gp (m 87) 0 (by omega) (by omega) (⟨⟨fun j _ => rfl, fun j h1 h2 => by omega⟩, fun j _ => rfl⟩) (okw) (by omega) (by omega) (by omega)) (by rcases hnm with rfl | rfl <;> first | (exfalso; omega) | exact congrArg (fun z => (qLy u, z, y)) (q_row_id (a := 87) (f := m 87) (by rfl)).symm) rfl rfl
                  · show qJ YX12_word κ _ (qLy u, (q_up (q_row (q_up m 77 0 0) 107 gv) 85 0 ((m 85 0) + 1)), y) 0 0 208 [some (qR 77), some (qI nm), some (qI a), some (qI b), some (qI c), some (qI d), some (qI e), some (qI n1), some (qI gp), some (qI (m 85 0)), none] [qI (m 86 0), qI 0, qR 86]
                    refine qJ.run hκ 3 (pc' := 214) (ls' := [some (qR 77), some (qI nm), some (qI a), some (qI b), some (qI c), some (qI d), some (qI e), some (qI n1), some (qI gp), some (qI (m 85 0)), none]) (st' := [qI ((m 86 0) + 1), qI 0, qR 86]) rfl ?_
                    refine qJ.ast hκ rfl rfl rfl (by decide) (by omega) ?_
                    show qJ YX12_word κ _ (qLy u, (q_up (q_up (q_row (q_up m 77 0 0) 107 gv) 85 0 ((m 85 0) + 1)) 86 0 ((m 86 0) + 1)), y) 0 0 215 [some (qR 77), some (qI nm), some (qI a), some (qI b), some (qI c), some (qI d), some (qI e), some (qI n1), some (qI gp), some (qI (m 85 0)), none] []
                    refine qJ.run hκ 2 (pc' := 218) (ls' := [some (qR 77), some (qI nm), some (qI a), some (qI b), some (qI c), some (qI d), some (qI e), some (qI n1), some (qI gp), some (qI (m 85 0)), some (qI 0)]) (st' := []) rfl ?_
                    exact qJ.cast (L218 6 n1 gp (m 87) 0 (by omega) (by omega) (⟨⟨fun j _ => rfl, fun j h1 h2 => by omega⟩, fun j _ => rfl⟩) (okw) (by omega) (by omega) (by omega)) (by rcases hnm with rfl | rfl <;> first | (exfalso; omega) | exact congrArg (fun z => (qLy u, z, y)) (q_row_id (a := 87) (f := m 87) (by rfl)).symm) rfl rfl
                · show qJ YX12_word κ _ (qLy u, (q_row (q_up m 77 0 0) 107 gv), y) 0 0 177 [some (qR 77), some (qI nm), some (qI a), some (qI b), some (qI c), some (qI d), some (qI e), some (qI n1), some (qI gp), some (qI k), none] []
                  refine qJ.run hκ 1 (pc' := 178) (ls' := [some (qR 77), some (qI nm), some (qI a), some (qI b), some (qI c), some (qI d), some (qI e), some (qI n1), some (qI gp), some (qI k), none]) (st' := [qI (-1)]) rfl ?_
                  exact qJ.iret hκ rfl rfl (by decide) (by decide) (Or.inr ⟨gv, rfl, fun q hq => by have h2 := wOK_u (wOK_c (fun k hk => (gve k hk).symm) hq.1.2.1) okg; subst h2; have h3 := (wG_c hq.1.2.1.1.2 gve).mpr hq.1.2.2; unfold wG at h3; have h4 := hq.2; have h5 := hq.1.1; omega, rfl⟩)
            · show qJ YX12_word κ _ (qLy u, (q_row (q_up m 77 0 0) 107 gv), y) 0 0 155 [some (qR 77), some (qI nm), some (qI a), some (qI b), some (qI c), some (qI d), some (qI e), some (qI n1), some (qI gp), some (qI k), none] []
              refine qJ.run hκ 3 (pc' := 160) (ls' := [some (qR 77), some (qI nm), some (qI a), some (qI b), some (qI c), some (qI d), some (qI e), some (qI n1), some (qI gp), some (qI k), none]) (st' := [qI 0, qR 86]) rfl ?_
              refine qJ.ald hκ rfl rfl rfl (by decide) (by omega) ?_
              show qJ YX12_word κ _ (qLy u, (q_row (q_up m 77 0 0) 107 gv), y) 0 0 161 [some (qR 77), some (qI nm), some (qI a), some (qI b), some (qI c), some (qI d), some (qI e), some (qI n1), some (qI gp), some (qI k), none] [qI (m 86 0)]
              refine qJ.run hκ 1 (pc' := 163) (ls' := [some (qR 77), some (qI nm), some (qI a), some (qI b), some (qI c), some (qI d), some (qI e), some (qI n1), some (qI gp), some (qI k), none]) (st' := [qI 12, qI (m 86 0)]) rfl ?_
              refine qJ.icmp_eq hκ (tgt := 177) rfl rfl (by omega) (by omega) (fun c163 => ?_) (fun c163 => ?_)
              · show qJ YX12_word κ _ (qLy u, (q_row (q_up m 77 0 0) 107 gv), y) 0 0 177 [some (qR 77), some (qI nm), some (qI a), some (qI b), some (qI c), some (qI d), some (qI e), some (qI n1), some (qI gp), some (qI k), none] []
                refine qJ.run hκ 1 (pc' := 178) (ls' := [some (qR 77), some (qI nm), some (qI a), some (qI b), some (qI c), some (qI d), some (qI e), some (qI n1), some (qI gp), some (qI k), none]) (st' := [qI (-1)]) rfl ?_
                exact qJ.iret hκ rfl rfl (by decide) (by decide) (Or.inr ⟨gv, rfl, fun q hq => by have h2 := wOK_u (wOK_c (fun k hk => (gve k hk).symm) hq.1.2.1) okg; subst h2; have h3 := (wG_c hq.1.2.1.1.2 gve).mpr hq.1.2.2; unfold wG at h3; have h4 := hq.2; have h5 := hq.1.1; omega, rfl⟩)
              · show qJ YX12_word κ _ (qLy u, (q_row (q_up m 77 0 0) 107 gv), y) 0 0 166 [some (qR 77), some (qI nm), some (qI a), some (qI b), some (qI c), some (qI d), some (qI e), some (qI n1), some (qI gp), some (qI k), none] []
                refine qJ.run hκ 1 (pc' := 168) (ls' := [some (qR 77), some (qI nm), some (qI a), some (qI b), some (qI c), some (qI d), some (qI e), some (qI n1), some (qI gp), some (qI k), none]) (st' := [qI n1]) rfl ?_
                refine qJ.if_eq hκ (tgt := 177) rfl rfl (by omega) (fun c168 => ?_) (fun c168 => ?_)
                · show qJ YX12_word κ _ (qLy u, (q_row (q_up m 77 0 0) 107 gv), y) 0 0 177 [some (qR 77), some (qI nm), some (qI a), some (qI b), some (qI c), some (qI d), some (qI e), some (qI n1), some (qI gp), some (qI k), none] []
                  refine qJ.run hκ 1 (pc' := 178) (ls' := [some (qR 77), some (qI nm), some (qI a), some (qI b), some (qI c), some (qI d), some (qI e), some (qI n1), some (qI gp), some (qI k), none]) (st' := [qI (-1)]) rfl ?_
                  exact qJ.iret hκ rfl rfl (by decide) (by decide) (Or.inr ⟨gv, rfl, fun q hq => by have h2 := wOK_u (wOK_c (fun k hk => (gve k hk).symm) hq.1.2.1) okg; subst h2; have h3 := (wG_c hq.1.2.1.1.2 gve).mpr hq.1.2.2; unfold wG at h3; have h4 := hq.2; have h5 := hq.1.1; omega, rfl⟩)
                · show qJ YX12_word κ _ (qLy u, (q_row (q_up m 77 0 0) 107 gv), y) 0 0 171 [some (qR 77), some (qI nm), some (qI a), some (qI b), some (qI c), some (qI d), some (qI e), some (qI n1), some (qI gp), some (qI k), none] []
                  refine qJ.run hκ 2 (pc' := 174) (ls' := [some (qR 77), some (qI nm), some (qI a), some (qI b), some (qI c), some (qI d), some (qI e), some (qI n1), some (qI gp), some (qI k), none]) (st' := [qI 1, qI gp]) rfl ?_
                  refine qJ.icmp_le hκ (tgt := 179) rfl rfl (by omega) (by omega) (fun c174 => ?_) (fun c174 => ?_)
                  · show qJ YX12_word κ _ (qLy u, (q_row (q_up m 77 0 0) 107 gv), y) 0 0 179 [some (qR 77), some (qI nm), some (qI a), some (qI b), some (qI c), some (qI d), some (qI e), some (qI n1), some (qI gp), some (qI k), none] []
                    have okw : wOK gv n1 ∧ wG gv n1 := ⟨okg, by unfold wG; omega⟩
                    refine qJ.run hκ 3 (pc' := 184) (ls' := [some (qR 77), some (qI nm), some (qI a), some (qI b), some (qI c), some (qI d), some (qI e), some (qI n1), some (qI gp), some (qI k), none]) (st' := [qI 0, qR 85]) rfl ?_
                    refine qJ.ald hκ rfl rfl rfl (by decide) (by omega) ?_
                    show qJ YX12_word κ _ (qLy u, (q_row (q_up m 77 0 0) 107 gv), y) 0 0 185 [some (qR 77), some (qI nm), some (qI a), some (qI b), some (qI c), some (qI d), some (qI e), some (qI n1), some (qI gp), some (qI k), none] [qI (m 85 0)]
                    refine qJ.run hκ 5 (pc' := 193) (ls' := [some (qR 77), some (qI nm), some (qI a), some (qI b), some (qI c), some (qI d), some (qI e), some (qI n1), some (qI gp), some (qI (m 85 0)), none]) (st' := [qI 0, qR 85, qI 0, qR 85]) rfl ?_
                    refine qJ.ald hκ rfl rfl rfl (by decide) (by omega) ?_
                    show qJ YX12_word κ _ (qLy u, (q_row (q_up m 77 0 0) 107 gv), y) 0 0 194 [some (qR 77), some (qI nm), some (qI a), some (qI b), some (qI c), some (qI d), some (qI e), some (qI n1), some (qI gp), some (qI (m 85 0)), none] [qI (m 85 0), qI 0, qR 85]
                    refine qJ.run hκ 2 (pc' := 196) (ls' := [some (qR 77), some (qI nm), some (qI a), some (qI b), some (qI c), some (qI d), some (qI e), some (qI n1), some (qI gp), some (qI (m 85 0)), none]) (st' := [qI ((m 85 0) + 1), qI 0, qR 85]) rfl ?_
                    refine qJ.ast hκ rfl rfl rfl (by decide) (by omega) ?_
                    show qJ YX12_word κ _ (qLy u, (q_up (q_row (q_up m 77 0 0) 107 gv) 85 0 ((m 85 0) + 1)), y) 0 0 197 [some (qR 77), some (qI nm), some (qI a), some (qI b), some (qI c), some (qI d), some (qI e), some (qI n1), some (qI gp), some (qI (m 85 0)), none] []
                    refine qJ.run hκ 4 (pc' := 203) (ls' := [some (qR 77), some (qI nm), some (qI a), some (qI b), some (qI c), some (qI d), some (qI e), some (qI n1), some (qI gp), some (qI (m 85 0)), none]) (st' := [qI 0, qR 86, qI 0, qR 86]) rfl ?_
                    refine qJ.ald hκ rfl rfl rfl (by decide) (by omega) ?_
                    show qJ YX12_word κ _ (qLy u, (q_up (q_row (q_up m 77 0 0) 107 gv) 85 0 ((m 85 0) + 1)), y) 0 0 204 [some (qR 77), some (qI nm), some (qI a), some (qI b), some (qI c), some (qI d), some (qI e), some (qI n1), some (qI gp), some (qI (m 85 0)), none] [qI (m 86 0), qI 0, qR 86]
                    refine qJ.run hκ 1 (pc' := 205) (ls' := [some (qR 77), some (qI nm), some (qI a), some (qI b), some (qI c), some (qI d), some (qI e), some (qI n1), some (qI gp), some (qI (m 85 0)), none]) (st' := [qI nm, qI (m 86 0), qI 0, qR 86]) rfl ?_
                    refine qJ.if_eq hκ (tgt := 212) rfl rfl (by omega) (fun c205 => ?_) (fun c205 => ?_)
                    · show qJ YX12_word κ _ (qLy u, (q_up (q_row (q_up m 77 0 0) 107 gv) 85 0 ((m 85 0) + 1)), y) 0 0 212 [some (qR 77), some (qI nm), some (qI a), some (qI b), some (qI c), some (qI d), some (qI e), some (qI n1), some (qI gp), some (qI (m 85 0)), none] [qI (m 86 0), qI 0, qR 86]
                      refine qJ.run hκ 2 (pc' := 214) (ls' := [some (qR 77), some (qI nm), some (qI a), some (qI b), some (qI c), some (qI d), some (qI e), some (qI n1), some (qI gp), some (qI (m 85 0)), none]) (st' := [qI ((m 86 0) + 0), qI 0, qR 86]) rfl ?_
                      refine qJ.ast hκ rfl rfl rfl (by decide) (by omega) ?_
                      show qJ YX12_word κ _ (qLy u, (q_up (q_up (q_row (q_up m 77 0 0) 107 gv) 85 0 ((m 85 0) + 1)) 86 0 ((m 86 0) + 0)), y) 0 0 215 [some (qR 77), some (qI nm), some (qI a), some (qI b), some (qI c), some (qI d), some (qI e), some (qI n1), some (qI gp), some (qI (m 85 0)), none] []
                      refine qJ.run hκ 2 (pc' := 218) (ls' := [some (qR 77), some (qI nm), some (qI a), some (qI b), some (qI c), some (qI d), some (qI e), some (qI n1), some (qI gp), some (qI (m 85 0)), some (qI 0)]) (st' := []) rfl ?_
                      exact qJ.cast (L218 6 n1 gp (m 87) 0 (by omega) (by omega) (⟨⟨fun j _ => rfl, fun j h1 h2 => by omega⟩, fun j _ => rfl⟩) (okw) (by omega) (by omega) (by omega)) (by rcases hnm with rfl | rfl <;> first | (exfalso; omega) | exact congrArg (fun z => (qLy u, z, y)) (q_row_id (a := 87) (f := m 87) (by rfl)).symm) rfl rfl
                    · show qJ YX12_word κ _ (qLy u, (q_up (q_row (q_up m 77 0 0) 107 gv) 85 0 ((m 85 0) + 1)), y) 0 0 208 [some (qR 77), some (qI nm), some (qI a), some (qI b), some (qI c), some (qI d), some (qI e), some (qI n1), some (qI gp), some (qI (m 85 0)), none] [qI (m 86 0), qI 0, qR 86]
                      refine qJ.run hκ 3 (pc' := 214) (ls' := [some (qR 77), some (qI nm), some (qI a), some (qI b), some (qI c), some (qI d), some (qI e), some (qI n1), some (qI gp), some (qI (m 85 0)), none]) (st' := [qI ((m 86 0) + 1), qI 0, qR 86]) rfl ?_
                      refine qJ.ast hκ rfl rfl rfl (by decide) (by omega) ?_
                      show qJ YX12_word κ _ (qLy u, (q_up (q_up (q_row (q_up m 77 0 0) 107 gv) 85 0 ((m 85 0) + 1)) 86 0 ((m 86 0) + 1)), y) 0 0 215 [some (qR 77), some (qI nm), some (qI a), some (qI b), some (qI c), some (qI d), some (qI e), some (qI n1), some (qI gp), some (qI (m 85 0)), none] []
                      refine qJ.run hκ 2 (pc' := 218) (ls' := [some (qR 77), some (qI nm), some (qI a), some (qI b), some (qI c), some (qI d), some (qI e), some (qI n1), some (qI gp), some (qI (m 85 0)), some (qI 0)]) (st' := []) rfl ?_
                      exact qJ.cast (L218 6 n1 gp (m 87) 0 (by omega) (by omega) (⟨⟨fun j _ => rfl, fun j h1 h2 => by omega⟩, fun j _ => rfl⟩) (okw) (by omega) (by omega) (by omega)) (by rcases hnm with rfl | rfl <;> first | (exfalso; omega) | exact congrArg (fun z => (qLy u, z, y)) (q_row_id (a := 87) (f := m 87) (by rfl)).symm) rfl rfl
                  · show qJ YX12_word κ _ (qLy u, (q_row (q_up m 77 0 0) 107 gv), y) 0 0 177 [some (qR 77), some (qI nm), some (qI a), some (qI b), some (qI c), some (qI d), some (qI e), some (qI n1), some (qI gp), some (qI k), none] []
                    refine qJ.run hκ 1 (pc' := 178) (ls' := [some (qR 77), some (qI nm), some (qI a), some (qI b), some (qI c), some (qI d), some (qI e), some (qI n1), some (qI gp), some (qI k), none]) (st' := [qI (-1)]) rfl ?_
                    exact qJ.iret hκ rfl rfl (by decide) (by decide) (Or.inr ⟨gv, rfl, fun q hq => by have h2 := wOK_u (wOK_c (fun k hk => (gve k hk).symm) hq.1.2.1) okg; subst h2; have h3 := (wG_c hq.1.2.1.1.2 gve).mpr hq.1.2.2; unfold wG at h3; have h4 := hq.2; have h5 := hq.1.1; omega, rfl⟩)
      · show qJ YX12_word κ _ (qLy u, (q_row (q_up m 77 0 0) 107 gv), y) 0 0 109 [some (qR 77), some (qI nm), some (qI a), some (qI b), some (qI c), some (qI d), some (qI e), some (qI n1), some (qI gp), some (qI k), none] []
        have q1 := gvr k.toNat (by omega)
        refine qJ.run hκ 3 (pc' := 115) (ls' := [some (qR 77), some (qI nm), some (qI a), some (qI b), some (qI c), some (qI d), some (qI e), some (qI n1), some (qI gp), some (qI k), none]) (st' := [qI k, qR 107]) rfl ?_
        refine qJ.ald hκ rfl rfl rfl (by decide) (by omega) ?_
        show qJ YX12_word κ _ (qLy u, (q_row (q_up m 77 0 0) 107 gv), y) 0 0 116 [some (qR 77), some (qI nm), some (qI a), some (qI b), some (qI c), some (qI d), some (qI e), some (qI n1), some (qI gp), some (qI k), none] [qI (gv k.toNat)]
        refine qJ.run hκ 1 (pc' := 117) (ls' := [some (qR 77), some (qI nm), some (qI a), some (qI b), some (qI c), some (qI d), some (qI e), some (qI n1), some (qI gp), some (qI k), none]) (st' := [qI (-1), qI (gv k.toNat)]) rfl ?_
        refine qJ.icmp_eq hκ (tgt := 122) rfl rfl (by omega) (by omega) (fun c117 => ?_) (fun c117 => ?_)
        · show qJ YX12_word κ _ (qLy u, (q_row (q_up m 77 0 0) 107 gv), y) 0 0 122 [some (qR 77), some (qI nm), some (qI a), some (qI b), some (qI c), some (qI d), some (qI e), some (qI n1), some (qI gp), some (qI k), none] []
          refine qJ.run hκ 2 (pc' := 103) (ls' := [some (qR 77), some (qI nm), some (qI a), some (qI b), some (qI c), some (qI d), some (qI e), some (qI n1), some (qI gp), some (qI (k + 1)), none]) (st' := []) rfl ?_
          exact ih103  n1 gp (k + 1) (by omega) (by omega) (by omega) (v103_3) (v103_4) (fun j h1 h2 => by by_cases q : (j : Int) < k; exact v103_5 j h1 q; rw [show j = k.toNat by omega]; exact c117) (v103_6) (by omega)
        · show qJ YX12_word κ _ (qLy u, (q_row (q_up m 77 0 0) 107 gv), y) 0 0 120 [some (qR 77), some (qI nm), some (qI a), some (qI b), some (qI c), some (qI d), some (qI e), some (qI n1), some (qI gp), some (qI k), none] []
          refine qJ.run hκ 1 (pc' := 121) (ls' := [some (qR 77), some (qI nm), some (qI a), some (qI b), some (qI c), some (qI d), some (qI e), some (qI n1), some (qI gp), some (qI k), none]) (st' := [qI (-1)]) rfl ?_
          exact qJ.iret hκ rfl rfl (by decide) (by decide) (Or.inr ⟨gv, rfl, fun q hq => by have h2 := wOK_c (fun k hk => (gve k hk).symm) hq.1.2.1; exact wBad2 (n := n1) (k := k) (by omega) v103_3 v103_6 c117 q h2, rfl⟩)
  have L49 : ∀ (n : Nat) (n1 : Int) (gp : Int), (0 ≤ n1) → (n1 ≤ 5) → (∀ k : Nat, (k : Int) < n1 → 0 ≤ gv k ∧ gv k ≤ 20) → (gp = (q_cnt (fun k => gv k = 20) n1.toNat : Nat)) → ((5 - n1).toNat) < n → qJ YX12_word κ (qFin (fun r h => (∃ n m', r = some (qI (m 85 0)) ∧ mwA m nm a b c d e n ∧ h = (qLy u, m', y) ∧ (mWd m m' n nm (wv a b c d e) ∧ mUp m m')) ∨ (∃ gv, r = some (qI (-1)) ∧ (∀ n, ¬ mwA m nm a b c d e n) ∧ h = (qLy u, q_row (q_up m 77 0 0) 107 gv, y))) 0 0 κ) (qLy u, (q_row (q_up m 77 0 0) 107 gv), y) 0 0 49 [some (qR 77), some (qI nm), some (qI a), some (qI b), some (qI c), some (qI d), some (qI e), some (qI n1), some (qI gp), none, none] [] := by
    intro n
    induction n with
    | zero => intro n1 gp _ _ _ _ hz0; omega
    | succ n ih49 =>
      intro n1 gp v49_0 v49_1 v49_2 v49_3 v49_m
      have cl := q_cnt_le (fun k => gv k = 20) n1.toNat
      refine qJ.run hκ 2 (pc' := 52) (ls' := [some (qR 77), some (qI nm), some (qI a), some (qI b), some (qI c), some (qI d), some (qI e), some (qI n1), some (qI gp), none, none]) (st' := [qI 5, qI n1]) rfl ?_
      refine qJ.icmp_ge hκ (tgt := 99) rfl rfl (by omega) (by omega) (fun c52 => ?_) (fun c52 => ?_)
      · show qJ YX12_word κ _ (qLy u, (q_row (q_up m 77 0 0) 107 gv), y) 0 0 99 [some (qR 77), some (qI nm), some (qI a), some (qI b), some (qI c), some (qI d), some (qI e), some (qI n1), some (qI gp), none, none] []
        refine qJ.run hκ 2 (pc' := 103) (ls' := [some (qR 77), some (qI nm), some (qI a), some (qI b), some (qI c), some (qI d), some (qI e), some (qI n1), some (qI gp), some (qI n1), none]) (st' := []) rfl ?_
        exact L103 6 n1 gp n1 (by omega) (by omega) (by omega) (v49_2) (v49_3) (fun j h1 h2 => by omega) (Or.inl (by omega)) (by omega)
      · show qJ YX12_word κ _ (qLy u, (q_row (q_up m 77 0 0) 107 gv), y) 0 0 55 [some (qR 77), some (qI nm), some (qI a), some (qI b), some (qI c), some (qI d), some (qI e), some (qI n1), some (qI gp), none, none] []
        have q1 := gvr n1.toNat (by omega)
        refine qJ.run hκ 3 (pc' := 61) (ls' := [some (qR 77), some (qI nm), some (qI a), some (qI b), some (qI c), some (qI d), some (qI e), some (qI n1), some (qI gp), none, none]) (st' := [qI n1, qR 107]) rfl ?_
        refine qJ.ald hκ rfl rfl rfl (by decide) (by omega) ?_
        show qJ YX12_word κ _ (qLy u, (q_row (q_up m 77 0 0) 107 gv), y) 0 0 62 [some (qR 77), some (qI nm), some (qI a), some (qI b), some (qI c), some (qI d), some (qI e), some (qI n1), some (qI gp), none, none] [qI (gv n1.toNat)]
        refine qJ.run hκ 2 (pc' := 65) (ls' := [some (qR 77), some (qI nm), some (qI a), some (qI b), some (qI c), some (qI d), some (qI e), some (qI n1), some (qI gp), none, none]) (st' := [qI 20, qI 0, qI (gv n1.toNat)]) rfl ?_
        refine qJ.callS (As := [qI (gv n1.toNat), qI 0, qI 20]) (rest := []) hκ rfl kX12_167 (c_in u (q_row (q_up m 77 0 0) 107 gv) y (gv n1.toNat) 0 20 (by omega) (by omega) (by omega)) (by decide) rfl rfl (Nat.le_of_ble_eq_true rfl) (Nat.le_of_ble_eq_true rfl) (Nat.le_of_ble_eq_true rfl) (Or.inl (fun r h' e => by obtain ⟨z65, rfl, hz65, rfl⟩ := e; rfl)) (fun r h' e => ?_)
        obtain ⟨z65, rfl, hz65, rfl⟩ := e
        show qJ YX12_word κ _ (qLy u, (q_row (q_up m 77 0 0) 107 gv), y) 0 0 68 [some (qR 77), some (qI nm), some (qI a), some (qI b), some (qI c), some (qI d), some (qI e), some (qI n1), some (qI gp), none, none] [qI z65]
        refine qJ.if_eq hκ (tgt := 99) rfl rfl (by omega) (fun c68 => ?_) (fun c68 => ?_)
        · show qJ YX12_word κ _ (qLy u, (q_row (q_up m 77 0 0) 107 gv), y) 0 0 99 [some (qR 77), some (qI nm), some (qI a), some (qI b), some (qI c), some (qI d), some (qI e), some (qI n1), some (qI gp), none, none] []
          refine qJ.run hκ 2 (pc' := 103) (ls' := [some (qR 77), some (qI nm), some (qI a), some (qI b), some (qI c), some (qI d), some (qI e), some (qI n1), some (qI gp), some (qI n1), none]) (st' := []) rfl ?_
          exact L103 6 n1 gp n1 (by omega) (by omega) (by omega) (v49_2) (v49_3) (fun j h1 h2 => by omega) (Or.inr (by omega)) (by omega)
        · show qJ YX12_word κ _ (qLy u, (q_row (q_up m 77 0 0) 107 gv), y) 0 0 71 [some (qR 77), some (qI nm), some (qI a), some (qI b), some (qI c), some (qI d), some (qI e), some (qI n1), some (qI gp), none, none] []
          have nx2 : ∀ k : Nat, (k : Int) < n1 + 1 → 0 ≤ gv k ∧ gv k ≤ 20 := fun k hk => by by_cases q : (k : Int) < n1; exact v49_2 k q; rw [show k = n1.toNat by omega]; omega
          refine qJ.run hκ 4 (pc' := 79) (ls' := [some (qR 77), some (qI nm), some (qI a), some (qI b), some (qI c), some (qI d), some (qI e), some (qI n1), some (qI gp), none, none]) (st' := [qI n1, qR 107, qI gp]) rfl ?_
          refine qJ.ald hκ rfl rfl rfl (by decide) (by omega) ?_
          show qJ YX12_word κ _ (qLy u, (q_row (q_up m 77 0 0) 107 gv), y) 0 0 80 [some (qR 77), some (qI nm), some (qI a), some (qI b), some (qI c), some (qI d), some (qI e), some (qI n1), some (qI gp), none, none] [qI (gv n1.toNat), qI gp]
          refine qJ.run hκ 1 (pc' := 82) (ls' := [some (qR 77), some (qI nm), some (qI a), some (qI b), some (qI c), some (qI d), some (qI e), some (qI n1), some (qI gp), none, none]) (st' := [qI 20, qI (gv n1.toNat), qI gp]) rfl ?_
          refine qJ.icmp_ne hκ (tgt := 89) rfl rfl (by omega) (by omega) (fun c82 => ?_) (fun c82 => ?_)
          · show qJ YX12_word κ _ (qLy u, (q_row (q_up m 77 0 0) 107 gv), y) 0 0 89 [some (qR 77), some (qI nm), some (qI a), some (qI b), some (qI c), some (qI d), some (qI e), some (qI n1), some (qI gp), none, none] [qI gp]
            refine qJ.run hκ 5 (pc' := 49) (ls' := [some (qR 77), some (qI nm), some (qI a), some (qI b), some (qI c), some (qI d), some (qI e), some (qI (n1 + 1)), some (qI (gp + 0)), none, none]) (st' := []) rfl ?_
            exact ih49  (n1 + 1) (gp + 0) (by omega) (by omega) (nx2) (by rw [q_cnt_s v49_0, if_neg c82]; omega) (by omega)
          · show qJ YX12_word κ _ (qLy u, (q_row (q_up m 77 0 0) 107 gv), y) 0 0 85 [some (qR 77), some (qI nm), some (qI a), some (qI b), some (qI c), some (qI d), some (qI e), some (qI n1), some (qI gp), none, none] [qI gp]
            refine qJ.run hκ 6 (pc' := 49) (ls' := [some (qR 77), some (qI nm), some (qI a), some (qI b), some (qI c), some (qI d), some (qI e), some (qI (n1 + 1)), some (qI (gp + 1)), none, none]) (st' := []) rfl ?_
            exact ih49  (n1 + 1) (gp + 1) (by omega) (by omega) (nx2) (by rw [q_cnt_s v49_0, if_pos c82]; omega) (by omega)
  show qJ YX12_word κ _ (qLy u, m, y) 0 0 0 [some (qR 77), some (qI nm), some (qI a), some (qI b), some (qI c), some (qI d), some (qI e), none, none, none, none] []
  refine qJ.run hκ 2 (pc' := 2) (ls' := [some (qR 77), some (qI nm), some (qI a), some (qI b), some (qI c), some (qI d), some (qI e), none, none, none, none]) (st' := [qI 0, qR 77]) rfl ?_
  refine qJ.putI hκ rfl rfl rfl rfl (Or.inl rfl) ?_
  show qJ YX12_word κ _ (qLy u, (q_up m 77 0 0), y) 0 0 5 [some (qR 77), some (qI nm), some (qI a), some (qI b), some (qI c), some (qI d), some (qI e), none, none, none, none] []
  refine qJ.run hκ 4 (pc' := 11) (ls' := [some (qR 77), some (qI nm), some (qI a), some (qI b), some (qI c), some (qI d), some (qI e), none, none, none, none]) (st' := [qI a, qI 0, qR 107]) rfl ?_
  refine qJ.ast hκ rfl rfl rfl (by decide) (by omega) ?_
  show qJ YX12_word κ _ (qLy u, (q_up (q_up m 77 0 0) 107 0 a), y) 0 0 12 [some (qR 77), some (qI nm), some (qI a), some (qI b), some (qI c), some (qI d), some (qI e), none, none, none, none] []
  refine qJ.run hκ 4 (pc' := 18) (ls' := [some (qR 77), some (qI nm), some (qI a), some (qI b), some (qI c), some (qI d), some (qI e), none, none, none, none]) (st' := [qI b, qI 1, qR 107]) rfl ?_
  refine qJ.ast hκ rfl rfl rfl (by decide) (by omega) ?_
  show qJ YX12_word κ _ (qLy u, (q_up (q_up (q_up m 77 0 0) 107 0 a) 107 1 b), y) 0 0 19 [some (qR 77), some (qI nm), some (qI a), some (qI b), some (qI c), some (qI d), some (qI e), none, none, none, none] []
  refine qJ.run hκ 4 (pc' := 26) (ls' := [some (qR 77), some (qI nm), some (qI a), some (qI b), some (qI c), some (qI d), some (qI e), none, none, none, none]) (st' := [qI c, qI 2, qR 107]) rfl ?_
  refine qJ.ast hκ rfl rfl rfl (by decide) (by omega) ?_
  show qJ YX12_word κ _ (qLy u, (q_up (q_up (q_up (q_up m 77 0 0) 107 0 a) 107 1 b) 107 2 c), y) 0 0 27 [some (qR 77), some (qI nm), some (qI a), some (qI b), some (qI c), some (qI d), some (qI e), none, none, none, none] []
  refine qJ.run hκ 4 (pc' := 34) (ls' := [some (qR 77), some (qI nm), some (qI a), some (qI b), some (qI c), some (qI d), some (qI e), none, none, none, none]) (st' := [qI d, qI 3, qR 107]) rfl ?_
  refine qJ.ast hκ rfl rfl rfl (by decide) (by omega) ?_
  show qJ YX12_word κ _ (qLy u, (q_up (q_up (q_up (q_up (q_up m 77 0 0) 107 0 a) 107 1 b) 107 2 c) 107 3 d), y) 0 0 35 [some (qR 77), some (qI nm), some (qI a), some (qI b), some (qI c), some (qI d), some (qI e), none, none, none, none] []
  refine qJ.run hκ 4 (pc' := 42) (ls' := [some (qR 77), some (qI nm), some (qI a), some (qI b), some (qI c), some (qI d), some (qI e), none, none, none, none]) (st' := [qI e, qI 4, qR 107]) rfl ?_
  refine qJ.ast hκ rfl rfl rfl (by decide) (by omega) ?_
  show qJ YX12_word κ _ (qLy u, (q_up (q_up (q_up (q_up (q_up (q_up m 77 0 0) 107 0 a) 107 1 b) 107 2 c) 107 3 d) 107 4 e), y) 0 0 43 [some (qR 77), some (qI nm), some (qI a), some (qI b), some (qI c), some (qI d), some (qI e), none, none, none, none] []
  refine qJ.mc (m1 := (q_up (q_up (q_up (q_up (q_up (q_up m 77 0 0) 107 0 a) 107 1 b) 107 2 c) 107 3 d) 107 4 e)) (m2 := (q_row (q_up m 77 0 0) 107 gv)) (by rw [hgv, q_up5]; rfl) ?_
  show qJ YX12_word κ _ (qLy u, (q_row (q_up m 77 0 0) 107 gv), y) 0 0 43 [some (qR 77), some (qI nm), some (qI a), some (qI b), some (qI c), some (qI d), some (qI e), none, none, none, none] []
  refine qJ.run hκ 4 (pc' := 49) (ls' := [some (qR 77), some (qI nm), some (qI a), some (qI b), some (qI c), some (qI d), some (qI e), some (qI 0), some (qI 0), none, none]) (st' := []) rfl ?_
  exact L49 6 0 0 (by omega) (by omega) (fun k hk => by omega) (rfl) (by omega)

set_option maxRecDepth 100000 in
theorem m_nameI (u : qU) (m y : qM) (t0 : 0 ≤ m 79 0 ∧ m 79 0 ≤ 400) (hbt : ∀ j : Nat, (j : Int) < m 79 0 → -128 ≤ m 78 j ∧ m 78 j ≤ 127) (n0 : 0 ≤ m 101 0 ∧ m 101 0 ≤ 5) : qCt YX12_name 2 0 0 [qR 77] (qLy u, m, y) (fun r h => (r = some (qI (-2)) ∧ (m 101 0 = 5) ∧ h = (qLy u, (q_up (q_up (q_up (q_up m 77 0 0) 79 0 0) 80 0 0) 81 0 (-1)), y)) ∨ (r = some (qI (-1)) ∧ (¬ m 101 0 = 5 ∧ ¬ noL (m 78) (m 79 0) = -1) ∧ h = (qLy u, (q_up (q_up (q_up (q_up (q_up (q_up m 77 0 0) 79 0 0) 80 0 0) 81 0 (-1)) 80 0 1) 81 0 (noL (m 78) (m 79 0))), y)) ∨ (r = some (qI (-1)) ∧ (¬ m 101 0 = 5 ∧ noL (m 78) (m 79 0) = -1 ∧ 10 < m 79 0) ∧ h = (qLy u, (q_up (q_up (q_up (q_up (q_up (q_up m 77 0 0) 79 0 0) 80 0 0) 81 0 (-1)) 80 0 2) 81 0 10), y)) ∨ (r = some (qI (m 101 0)) ∧ (¬ m 101 0 = 5 ∧ noL (m 78) (m 79 0) = -1 ∧ m 79 0 ≤ 10) ∧ ∃ f, h = (qLy u, q_row (q_up (q_up (q_up (q_up (q_up (q_up (q_up m 77 0 0) 79 0 0) 80 0 0) 81 0 (-1)) 101 0 (m 101 0 + 1)) 102 ((m 101 0).toNat) (m 79 0)) 103 ((m 101 0).toNat) (m 82 0)) 104 f, y) ∧ (∀ j : Nat, (j : Int) < m 101 0 * 10 → f j = m 104 j) ∧ (∀ i : Int, 0 ≤ i → i < m 79 0 → f (10 * m 101 0 + i).toNat = m 78 i.toNat) ∧ ∀ j : Nat, 50 ≤ j → f j = m 104 j)) := by
  refine qCt.intro okX12_name (Nat.le_of_ble_eq_true rfl) (fun κ hκ => ?_)
  have L154 : ∀ (n : Nat) (f : Nat → Int) (k : Int), (0 ≤ k) → (k ≤ m 79 0) → (((∀ j : Nat, (j : Int) < m 101 0 * 10 → f j = m 104 j) ∧ ∀ i : Int, 0 ≤ i → i < k → f (10 * m 101 0 + i).toNat = m 78 i.toNat) ∧ ∀ j : Nat, 50 ≤ j → f j = m 104 j) → (¬ m 101 0 = 5 ∧ noL (m 78) (m 79 0) = -1 ∧ m 79 0 ≤ 10) → ((m 79 0 - k).toNat) < n → qJ YX12_name κ (qFin (fun r h => (r = some (qI (-2)) ∧ (m 101 0 = 5) ∧ h = (qLy u, (q_up (q_up (q_up (q_up m 77 0 0) 79 0 0) 80 0 0) 81 0 (-1)), y)) ∨ (r = some (qI (-1)) ∧ (¬ m 101 0 = 5 ∧ ¬ noL (m 78) (m 79 0) = -1) ∧ h = (qLy u, (q_up (q_up (q_up (q_up (q_up (q_up m 77 0 0) 79 0 0) 80 0 0) 81 0 (-1)) 80 0 1) 81 0 (noL (m 78) (m 79 0))), y)) ∨ (r = some (qI (-1)) ∧ (¬ m 101 0 = 5 ∧ noL (m 78) (m 79 0) = -1 ∧ 10 < m 79 0) ∧ h = (qLy u, (q_up (q_up (q_up (q_up (q_up (q_up m 77 0 0) 79 0 0) 80 0 0) 81 0 (-1)) 80 0 2) 81 0 10), y)) ∨ (r = some (qI (m 101 0)) ∧ (¬ m 101 0 = 5 ∧ noL (m 78) (m 79 0) = -1 ∧ m 79 0 ≤ 10) ∧ ∃ f, h = (qLy u, q_row (q_up (q_up (q_up (q_up (q_up (q_up (q_up m 77 0 0) 79 0 0) 80 0 0) 81 0 (-1)) 101 0 (m 101 0 + 1)) 102 ((m 101 0).toNat) (m 79 0)) 103 ((m 101 0).toNat) (m 82 0)) 104 f, y) ∧ (∀ j : Nat, (j : Int) < m 101 0 * 10 → f j = m 104 j) ∧ (∀ i : Int, 0 ≤ i → i < m 79 0 → f (10 * m 101 0 + i).toNat = m 78 i.toNat) ∧ ∀ j : Nat, 50 ≤ j → f j = m 104 j)) 0 0 κ) (qLy u, (q_row (q_up (q_up (q_up (q_up (q_up (q_up (q_up m 77 0 0) 79 0 0) 80 0 0) 81 0 (-1)) 101 0 (m 101 0 + 1)) 102 ((m 101 0).toNat) (m 79 0)) 103 ((m 101 0).toNat) (m 82 0)) 104 f), y) 0 0 154 [some (qR 77), some (qI (m 79 0)), some (qI (m 101 0)), some (qI k)] [] := by
    intro n
    induction n with
    | zero => intro f k _ _ _ _ hz0; omega
    | succ n ih154 =>
      intro f k v154_0 v154_1 v154_2 v154_3 v154_m
      refine qJ.run hκ 2 (pc' := 156) (ls' := [some (qR 77), some (qI (m 79 0)), some (qI (m 101 0)), some (qI k)]) (st' := [qI (m 79 0), qI k]) rfl ?_
      refine qJ.icmp_ge hκ (tgt := 182) rfl rfl (by omega) (by omega) (fun c156 => ?_) (fun c156 => ?_)
      · show qJ YX12_name κ _ (qLy u, (q_row (q_up (q_up (q_up (q_up (q_up (q_up (q_up m 77 0 0) 79 0 0) 80 0 0) 81 0 (-1)) 101 0 (m 101 0 + 1)) 102 ((m 101 0).toNat) (m 79 0)) 103 ((m 101 0).toNat) (m 82 0)) 104 f), y) 0 0 182 [some (qR 77), some (qI (m 79 0)), some (qI (m 101 0)), some (qI k)] []
        refine qJ.run hκ 1 (pc' := 183) (ls' := [some (qR 77), some (qI (m 79 0)), some (qI (m 101 0)), some (qI k)]) (st' := [qI (m 101 0)]) rfl ?_
        exact qJ.iret hκ rfl rfl (by decide) (by decide) (Or.inr (Or.inr (Or.inr ⟨rfl, v154_3, f, rfl, v154_2.1.1, by rw [show m 79 0 = k by omega]; exact v154_2.1.2, v154_2.2⟩)))
      · show qJ YX12_name κ _ (qLy u, (q_row (q_up (q_up (q_up (q_up (q_up (q_up (q_up m 77 0 0) 79 0 0) 80 0 0) 81 0 (-1)) 101 0 (m 101 0 + 1)) 102 ((m 101 0).toNat) (m 79 0)) 103 ((m 101 0).toNat) (m 82 0)) 104 f), y) 0 0 159 [some (qR 77), some (qI (m 79 0)), some (qI (m 101 0)), some (qI k)] []
        have bb := hbt k.toNat (by omega)
        refine qJ.run hκ 10 (pc' := 174) (ls' := [some (qR 77), some (qI (m 79 0)), some (qI (m 101 0)), some (qI k)]) (st' := [qI k, qR 78, qI ((10 * (m 101 0)) + k), qR 104]) rfl ?_
        refine qJ.ald hκ rfl rfl rfl (by decide) (by omega) ?_
        show qJ YX12_name κ _ (qLy u, (q_row (q_up (q_up (q_up (q_up (q_up (q_up (q_up m 77 0 0) 79 0 0) 80 0 0) 81 0 (-1)) 101 0 (m 101 0 + 1)) 102 ((m 101 0).toNat) (m 79 0)) 103 ((m 101 0).toNat) (m 82 0)) 104 f), y) 0 0 175 [some (qR 77), some (qI (m 79 0)), some (qI (m 101 0)), some (qI k)] [qI (m 78 k.toNat), qI ((10 * (m 101 0)) + k), qR 104]
        refine qJ.ast hκ rfl rfl rfl (by decide) (by omega) ?_
        refine qJ.mc (m1 := (q_up (q_row (q_up (q_up (q_up (q_up (q_up (q_up (q_up m 77 0 0) 79 0 0) 80 0 0) 81 0 (-1)) 101 0 (m 101 0 + 1)) 102 ((m 101 0).toNat) (m 79 0)) 103 ((m 101 0).toNat) (m 82 0)) 104 f) 104 (((10 * (m 101 0)) + k).toNat) (q_nar 1 (m 78 k.toNat)))) (m2 := (q_up (q_row (q_up (q_up (q_up (q_up (q_up (q_up (q_up m 77 0 0) 79 0 0) 80 0 0) 81 0 (-1)) 101 0 (m 101 0 + 1)) 102 ((m 101 0).toNat) (m 79 0)) 103 ((m 101 0).toNat) (m 82 0)) 104 f) 104 (((10 * (m 101 0)) + k).toNat) (m 78 k.toNat))) (by rw [n_by (hbt k.toNat (by omega))]) ?_
        refine qJ.mc (m1 := (q_up (q_row (q_up (q_up (q_up (q_up (q_up (q_up (q_up m 77 0 0) 79 0 0) 80 0 0) 81 0 (-1)) 101 0 (m 101 0 + 1)) 102 ((m 101 0).toNat) (m 79 0)) 103 ((m 101 0).toNat) (m 82 0)) 104 f) 104 (((10 * (m 101 0)) + k).toNat) (m 78 k.toNat))) (m2 := (q_row (q_up (q_up (q_up (q_up (q_up (q_up (q_up m 77 0 0) 79 0 0) 80 0 0) 81 0 (-1)) 101 0 (m 101 0 + 1)) 102 ((m 101 0).toNat) (m 79 0)) 103 ((m 101 0).toNat) (m 82 0)) 104 (q_fu f (((10 * (m 101 0)) + k).toNat) (m 78 k.toNat)))) (by rw [q_up_row_eq]) ?_
        show qJ YX12_name κ _ (qLy u, (q_row (q_up (q_up (q_up (q_up (q_up (q_up (q_up m 77 0 0) 79 0 0) 80 0 0) 81 0 (-1)) 101 0 (m 101 0 + 1)) 102 ((m 101 0).toNat) (m 79 0)) 103 ((m 101 0).toNat) (m 82 0)) 104 (q_fu f (((10 * (m 101 0)) + k).toNat) (m 78 k.toNat))), y) 0 0 176 [some (qR 77), some (qI (m 79 0)), some (qI (m 101 0)), some (qI k)] []
        refine qJ.run hκ 2 (pc' := 154) (ls' := [some (qR 77), some (qI (m 79 0)), some (qI (m 101 0)), some (qI (k + 1))]) (st' := []) rfl ?_
        exact qJ.cast (ih154  (q_fu f (((10 * (m 101 0)) + k).toNat) (m 78 k.toNat)) (k + 1) (by omega) (by omega) (⟨⟨fun j hj => by rw [q_fu_ne (by omega)]; exact v154_2.1.1 j hj, fun i h1 h2 => by by_cases e : i = k; (subst e; rw [q_fu_eq]); rw [q_fu_ne (by omega)]; exact v154_2.1.2 i h1 (by omega)⟩, fun j hj => by rw [q_fu_ne (by have := v154_3; omega)]; exact v154_2.2 j hj⟩) (v154_3) (by omega)) (rfl) rfl rfl
  have L40 : ∀ (n : Nat) (k : Int), (0 ≤ k) → (k ≤ m 79 0) → (q_fst (fun j => lcode (m 78 j) < 0) k.toNat = -1) → (¬ m 101 0 = 5) → ((m 79 0 - k).toNat) < n → qJ YX12_name κ (qFin (fun r h => (r = some (qI (-2)) ∧ (m 101 0 = 5) ∧ h = (qLy u, (q_up (q_up (q_up (q_up m 77 0 0) 79 0 0) 80 0 0) 81 0 (-1)), y)) ∨ (r = some (qI (-1)) ∧ (¬ m 101 0 = 5 ∧ ¬ noL (m 78) (m 79 0) = -1) ∧ h = (qLy u, (q_up (q_up (q_up (q_up (q_up (q_up m 77 0 0) 79 0 0) 80 0 0) 81 0 (-1)) 80 0 1) 81 0 (noL (m 78) (m 79 0))), y)) ∨ (r = some (qI (-1)) ∧ (¬ m 101 0 = 5 ∧ noL (m 78) (m 79 0) = -1 ∧ 10 < m 79 0) ∧ h = (qLy u, (q_up (q_up (q_up (q_up (q_up (q_up m 77 0 0) 79 0 0) 80 0 0) 81 0 (-1)) 80 0 2) 81 0 10), y)) ∨ (r = some (qI (m 101 0)) ∧ (¬ m 101 0 = 5 ∧ noL (m 78) (m 79 0) = -1 ∧ m 79 0 ≤ 10) ∧ ∃ f, h = (qLy u, q_row (q_up (q_up (q_up (q_up (q_up (q_up (q_up m 77 0 0) 79 0 0) 80 0 0) 81 0 (-1)) 101 0 (m 101 0 + 1)) 102 ((m 101 0).toNat) (m 79 0)) 103 ((m 101 0).toNat) (m 82 0)) 104 f, y) ∧ (∀ j : Nat, (j : Int) < m 101 0 * 10 → f j = m 104 j) ∧ (∀ i : Int, 0 ≤ i → i < m 79 0 → f (10 * m 101 0 + i).toNat = m 78 i.toNat) ∧ ∀ j : Nat, 50 ≤ j → f j = m 104 j)) 0 0 κ) (qLy u, (q_up (q_up (q_up (q_up m 77 0 0) 79 0 0) 80 0 0) 81 0 (-1)), y) 0 0 40 [some (qR 77), some (qI (m 79 0)), some (qI k), none] [] := by
    intro n
    induction n with
    | zero => intro k _ _ _ _ hz0; omega
    | succ n ih40 =>
      intro k v40_0 v40_1 v40_2 v40_3 v40_m
      refine qJ.run hκ 2 (pc' := 42) (ls' := [some (qR 77), some (qI (m 79 0)), some (qI k), none]) (st' := [qI (m 79 0), qI k]) rfl ?_
      refine qJ.icmp_ge hκ (tgt := 81) rfl rfl (by omega) (by omega) (fun c42 => ?_) (fun c42 => ?_)
      · show qJ YX12_name κ _ (qLy u, (q_up (q_up (q_up (q_up m 77 0 0) 79 0 0) 80 0 0) 81 0 (-1)), y) 0 0 81 [some (qR 77), some (qI (m 79 0)), some (qI k), none] []
        refine qJ.run hκ 1 (pc' := 82) (ls' := [some (qR 77), some (qI (m 79 0)), some (qI k), none]) (st' := [qI (m 79 0)]) rfl ?_
        refine qJ.if_eq hκ (tgt := 91) rfl rfl (by omega) (fun c82 => ?_) (fun c82 => ?_)
        · show qJ YX12_name κ _ (qLy u, (q_up (q_up (q_up (q_up m 77 0 0) 79 0 0) 80 0 0) 81 0 (-1)), y) 0 0 91 [some (qR 77), some (qI (m 79 0)), some (qI k), none] []
          refine qJ.run hκ 2 (pc' := 93) (ls' := [some (qR 77), some (qI (m 79 0)), some (qI k), none]) (st' := [qI (m 79 0), qR 77]) rfl ?_
          refine qJ.if_ne hκ (tgt := 100) rfl rfl (by omega) (fun c93 => ?_) (fun c93 => ?_)
          · show qJ YX12_name κ _ (qLy u, (q_up (q_up (q_up (q_up m 77 0 0) 79 0 0) 80 0 0) 81 0 (-1)), y) 0 0 100 [some (qR 77), some (qI (m 79 0)), some (qI k), none] [qR 77]
            refine qJ.run hκ 2 (pc' := 102) (ls' := [some (qR 77), some (qI (m 79 0)), some (qI k), none]) (st' := [qI (m 79 0), qI 2, qR 77]) rfl ?_
            refine qJ.if_ne hκ (tgt := 109) rfl rfl (by omega) (fun c102 => ?_) (fun c102 => ?_)
            · show qJ YX12_name κ _ (qLy u, (q_up (q_up (q_up (q_up m 77 0 0) 79 0 0) 80 0 0) 81 0 (-1)), y) 0 0 109 [some (qR 77), some (qI (m 79 0)), some (qI k), none] [qI 2, qR 77]
              refine qJ.run hκ 1 (pc' := 111) (ls' := [some (qR 77), some (qI (m 79 0)), some (qI k), none]) (st' := [qI 10, qI 2, qR 77]) rfl ?_
              refine qJ.callV (As := [qI 2, qI 10]) (rest := []) hκ rfl kX12_255 (m_fails u (q_up (q_up (q_up (q_up m 77 0 0) 79 0 0) 80 0 0) 81 0 (-1)) y 2 10) rfl rfl (by decide) rfl rfl (Nat.le_of_ble_eq_true rfl) (Nat.le_of_ble_eq_true rfl) (Nat.le_of_ble_eq_true rfl) (Or.inl (fun r h' e => by obtain ⟨rfl, rfl⟩ := e; rfl)) (fun r h' e => ?_)
              obtain ⟨rfl, rfl⟩ := e
              show qJ YX12_name κ _ (qLy u, (q_up (q_up (q_up (q_up (q_up (q_up m 77 0 0) 79 0 0) 80 0 0) 81 0 (-1)) 80 0 2) 81 0 10), y) 0 0 114 [some (qR 77), some (qI (m 79 0)), some (qI k), none] []
              refine qJ.run hκ 1 (pc' := 115) (ls' := [some (qR 77), some (qI (m 79 0)), some (qI k), none]) (st' := [qI (-1)]) rfl ?_
              exact qJ.iret hκ rfl rfl (by decide) (by decide) (by first | (exfalso; omega) | exact Or.inr (Or.inr (Or.inl ⟨rfl, ⟨by omega, nlE, by omega⟩, rfl⟩)))
            · show qJ YX12_name κ _ (qLy u, (q_up (q_up (q_up (q_up m 77 0 0) 79 0 0) 80 0 0) 81 0 (-1)), y) 0 0 105 [some (qR 77), some (qI (m 79 0)), some (qI k), none] [qI 2, qR 77]
              refine qJ.run hκ 2 (pc' := 111) (ls' := [some (qR 77), some (qI (m 79 0)), some (qI k), none]) (st' := [qI 0, qI 2, qR 77]) rfl ?_
              refine qJ.callV (As := [qI 2, qI 0]) (rest := []) hκ rfl kX12_255 (m_fails u (q_up (q_up (q_up (q_up m 77 0 0) 79 0 0) 80 0 0) 81 0 (-1)) y 2 0) rfl rfl (by decide) rfl rfl (Nat.le_of_ble_eq_true rfl) (Nat.le_of_ble_eq_true rfl) (Nat.le_of_ble_eq_true rfl) (Or.inl (fun r h' e => by obtain ⟨rfl, rfl⟩ := e; rfl)) (fun r h' e => ?_)
              obtain ⟨rfl, rfl⟩ := e
              show qJ YX12_name κ _ (qLy u, (q_up (q_up (q_up (q_up (q_up (q_up m 77 0 0) 79 0 0) 80 0 0) 81 0 (-1)) 80 0 2) 81 0 0), y) 0 0 114 [some (qR 77), some (qI (m 79 0)), some (qI k), none] []
              refine qJ.run hκ 1 (pc' := 115) (ls' := [some (qR 77), some (qI (m 79 0)), some (qI k), none]) (st' := [qI (-1)]) rfl ?_
              exact qJ.iret hκ rfl rfl (by decide) (by decide) (by exfalso; omega)
          · show qJ YX12_name κ _ (qLy u, (q_up (q_up (q_up (q_up m 77 0 0) 79 0 0) 80 0 0) 81 0 (-1)), y) 0 0 96 [some (qR 77), some (qI (m 79 0)), some (qI k), none] [qR 77]
            refine qJ.run hκ 3 (pc' := 102) (ls' := [some (qR 77), some (qI (m 79 0)), some (qI k), none]) (st' := [qI (m 79 0), qI 1, qR 77]) rfl ?_
            refine qJ.if_ne hκ (tgt := 109) rfl rfl (by omega) (fun c102 => ?_) (fun c102 => ?_)
            · show qJ YX12_name κ _ (qLy u, (q_up (q_up (q_up (q_up m 77 0 0) 79 0 0) 80 0 0) 81 0 (-1)), y) 0 0 109 [some (qR 77), some (qI (m 79 0)), some (qI k), none] [qI 1, qR 77]
              refine qJ.run hκ 1 (pc' := 111) (ls' := [some (qR 77), some (qI (m 79 0)), some (qI k), none]) (st' := [qI 10, qI 1, qR 77]) rfl ?_
              refine qJ.callV (As := [qI 1, qI 10]) (rest := []) hκ rfl kX12_255 (m_fails u (q_up (q_up (q_up (q_up m 77 0 0) 79 0 0) 80 0 0) 81 0 (-1)) y 1 10) rfl rfl (by decide) rfl rfl (Nat.le_of_ble_eq_true rfl) (Nat.le_of_ble_eq_true rfl) (Nat.le_of_ble_eq_true rfl) (Or.inl (fun r h' e => by obtain ⟨rfl, rfl⟩ := e; rfl)) (fun r h' e => ?_)
              obtain ⟨rfl, rfl⟩ := e
              show qJ YX12_name κ _ (qLy u, (q_up (q_up (q_up (q_up (q_up (q_up m 77 0 0) 79 0 0) 80 0 0) 81 0 (-1)) 80 0 1) 81 0 10), y) 0 0 114 [some (qR 77), some (qI (m 79 0)), some (qI k), none] []
              refine qJ.run hκ 1 (pc' := 115) (ls' := [some (qR 77), some (qI (m 79 0)), some (qI k), none]) (st' := [qI (-1)]) rfl ?_
              exact qJ.iret hκ rfl rfl (by decide) (by decide) (by exfalso; omega)
            · show qJ YX12_name κ _ (qLy u, (q_up (q_up (q_up (q_up m 77 0 0) 79 0 0) 80 0 0) 81 0 (-1)), y) 0 0 105 [some (qR 77), some (qI (m 79 0)), some (qI k), none] [qI 1, qR 77]
              refine qJ.run hκ 2 (pc' := 111) (ls' := [some (qR 77), some (qI (m 79 0)), some (qI k), none]) (st' := [qI 0, qI 1, qR 77]) rfl ?_
              refine qJ.callV (As := [qI 1, qI 0]) (rest := []) hκ rfl kX12_255 (m_fails u (q_up (q_up (q_up (q_up m 77 0 0) 79 0 0) 80 0 0) 81 0 (-1)) y 1 0) rfl rfl (by decide) rfl rfl (Nat.le_of_ble_eq_true rfl) (Nat.le_of_ble_eq_true rfl) (Nat.le_of_ble_eq_true rfl) (Or.inl (fun r h' e => by obtain ⟨rfl, rfl⟩ := e; rfl)) (fun r h' e => ?_)
              obtain ⟨rfl, rfl⟩ := e
              show qJ YX12_name κ _ (qLy u, (q_up (q_up (q_up (q_up (q_up (q_up m 77 0 0) 79 0 0) 80 0 0) 81 0 (-1)) 80 0 1) 81 0 0), y) 0 0 114 [some (qR 77), some (qI (m 79 0)), some (qI k), none] []
              refine qJ.run hκ 1 (pc' := 115) (ls' := [some (qR 77), some (qI (m 79 0)), some (qI k), none]) (st' := [qI (-1)]) rfl ?_
              exact qJ.iret hκ rfl rfl (by decide) (by decide) (by first | (exfalso; omega) | exact Or.inr (Or.inl ⟨rfl, ⟨by omega, by unfold noL; rw [if_pos (by omega)]; decide⟩, by unfold noL; rw [if_pos (show m 79 0 = 0 by omega)]⟩))
        · show qJ YX12_name κ _ (qLy u, (q_up (q_up (q_up (q_up m 77 0 0) 79 0 0) 80 0 0) 81 0 (-1)), y) 0 0 85 [some (qR 77), some (qI (m 79 0)), some (qI k), none] []
          have nlE : noL (m 78) (m 79 0) = -1 := by unfold noL; rw [if_neg (by omega), show (m 79 0).toNat = k.toNat by omega]; exact v40_2
          refine qJ.run hκ 2 (pc' := 88) (ls' := [some (qR 77), some (qI (m 79 0)), some (qI k), none]) (st' := [qI 10, qI (m 79 0)]) rfl ?_
          refine qJ.icmp_le hκ (tgt := 116) rfl rfl (by omega) (by omega) (fun c88 => ?_) (fun c88 => ?_)
          · show qJ YX12_name κ _ (qLy u, (q_up (q_up (q_up (q_up m 77 0 0) 79 0 0) 80 0 0) 81 0 (-1)), y) 0 0 116 [some (qR 77), some (qI (m 79 0)), some (qI k), none] []
            refine qJ.run hκ 3 (pc' := 121) (ls' := [some (qR 77), some (qI (m 79 0)), some (qI k), none]) (st' := [qI 0, qR 101]) rfl ?_
            refine qJ.ald hκ rfl rfl rfl (by decide) (by omega) ?_
            show qJ YX12_name κ _ (qLy u, (q_up (q_up (q_up (q_up m 77 0 0) 79 0 0) 80 0 0) 81 0 (-1)), y) 0 0 122 [some (qR 77), some (qI (m 79 0)), some (qI k), none] [qI (m 101 0)]
            refine qJ.run hκ 5 (pc' := 129) (ls' := [some (qR 77), some (qI (m 79 0)), some (qI (m 101 0)), none]) (st' := [qI 0, qR 101, qI 0, qR 101]) rfl ?_
            refine qJ.ald hκ rfl rfl rfl (by decide) (by omega) ?_
            show qJ YX12_name κ _ (qLy u, (q_up (q_up (q_up (q_up m 77 0 0) 79 0 0) 80 0 0) 81 0 (-1)), y) 0 0 130 [some (qR 77), some (qI (m 79 0)), some (qI (m 101 0)), none] [qI (m 101 0), qI 0, qR 101]
            refine qJ.run hκ 2 (pc' := 132) (ls' := [some (qR 77), some (qI (m 79 0)), some (qI (m 101 0)), none]) (st' := [qI ((m 101 0) + 1), qI 0, qR 101]) rfl ?_
            refine qJ.ast hκ rfl rfl rfl (by decide) (by omega) ?_
            show qJ YX12_name κ _ (qLy u, (q_up (q_up (q_up (q_up (q_up m 77 0 0) 79 0 0) 80 0 0) 81 0 (-1)) 101 0 ((m 101 0) + 1)), y) 0 0 133 [some (qR 77), some (qI (m 79 0)), some (qI (m 101 0)), none] []
            refine qJ.run hκ 4 (pc' := 139) (ls' := [some (qR 77), some (qI (m 79 0)), some (qI (m 101 0)), none]) (st' := [qI (m 79 0), qI (m 101 0), qR 102]) rfl ?_
            refine qJ.ast hκ rfl rfl rfl (by decide) (by omega) ?_
            show qJ YX12_name κ _ (qLy u, (q_up (q_up (q_up (q_up (q_up (q_up m 77 0 0) 79 0 0) 80 0 0) 81 0 (-1)) 101 0 ((m 101 0) + 1)) 102 ((m 101 0).toNat) (m 79 0)), y) 0 0 140 [some (qR 77), some (qI (m 79 0)), some (qI (m 101 0)), none] []
            refine qJ.run hκ 6 (pc' := 150) (ls' := [some (qR 77), some (qI (m 79 0)), some (qI (m 101 0)), none]) (st' := [qI 0, qR 82, qI (m 101 0), qR 103]) rfl ?_
            refine qJ.ald hκ rfl rfl rfl (by decide) (by omega) ?_
            show qJ YX12_name κ _ (qLy u, (q_up (q_up (q_up (q_up (q_up (q_up m 77 0 0) 79 0 0) 80 0 0) 81 0 (-1)) 101 0 ((m 101 0) + 1)) 102 ((m 101 0).toNat) (m 79 0)), y) 0 0 151 [some (qR 77), some (qI (m 79 0)), some (qI (m 101 0)), none] [qI (m 82 0), qI (m 101 0), qR 103]
            refine qJ.ast hκ rfl rfl rfl (by decide) (by omega) ?_
            show qJ YX12_name κ _ (qLy u, (q_up (q_up (q_up (q_up (q_up (q_up (q_up m 77 0 0) 79 0 0) 80 0 0) 81 0 (-1)) 101 0 ((m 101 0) + 1)) 102 ((m 101 0).toNat) (m 79 0)) 103 ((m 101 0).toNat) (m 82 0)), y) 0 0 152 [some (qR 77), some (qI (m 79 0)), some (qI (m 101 0)), none] []
            refine qJ.run hκ 2 (pc' := 154) (ls' := [some (qR 77), some (qI (m 79 0)), some (qI (m 101 0)), some (qI 0)]) (st' := []) rfl ?_
            exact qJ.cast (L154 12 (m 104) 0 (by omega) (by omega) (⟨⟨fun j _ => rfl, fun i h1 h2 => by omega⟩, fun j _ => rfl⟩) (⟨by omega, nlE, by omega⟩) (by omega)) (congrArg (fun z => (qLy u, z, y)) (q_row_id (a := 104) (f := m 104) (by rfl)).symm) rfl rfl
          · show qJ YX12_name κ _ (qLy u, (q_up (q_up (q_up (q_up m 77 0 0) 79 0 0) 80 0 0) 81 0 (-1)), y) 0 0 91 [some (qR 77), some (qI (m 79 0)), some (qI k), none] []
            refine qJ.run hκ 2 (pc' := 93) (ls' := [some (qR 77), some (qI (m 79 0)), some (qI k), none]) (st' := [qI (m 79 0), qR 77]) rfl ?_
            refine qJ.if_ne hκ (tgt := 100) rfl rfl (by omega) (fun c93 => ?_) (fun c93 => ?_)
            · show qJ YX12_name κ _ (qLy u, (q_up (q_up (q_up (q_up m 77 0 0) 79 0 0) 80 0 0) 81 0 (-1)), y) 0 0 100 [some (qR 77), some (qI (m 79 0)), some (qI k), none] [qR 77]
              refine qJ.run hκ 2 (pc' := 102) (ls' := [some (qR 77), some (qI (m 79 0)), some (qI k), none]) (st' := [qI (m 79 0), qI 2, qR 77]) rfl ?_
              refine qJ.if_ne hκ (tgt := 109) rfl rfl (by omega) (fun c102 => ?_) (fun c102 => ?_)
              · show qJ YX12_name κ _ (qLy u, (q_up (q_up (q_up (q_up m 77 0 0) 79 0 0) 80 0 0) 81 0 (-1)), y) 0 0 109 [some (qR 77), some (qI (m 79 0)), some (qI k), none] [qI 2, qR 77]
                refine qJ.run hκ 1 (pc' := 111) (ls' := [some (qR 77), some (qI (m 79 0)), some (qI k), none]) (st' := [qI 10, qI 2, qR 77]) rfl ?_
                refine qJ.callV (As := [qI 2, qI 10]) (rest := []) hκ rfl kX12_255 (m_fails u (q_up (q_up (q_up (q_up m 77 0 0) 79 0 0) 80 0 0) 81 0 (-1)) y 2 10) rfl rfl (by decide) rfl rfl (Nat.le_of_ble_eq_true rfl) (Nat.le_of_ble_eq_true rfl) (Nat.le_of_ble_eq_true rfl) (Or.inl (fun r h' e => by obtain ⟨rfl, rfl⟩ := e; rfl)) (fun r h' e => ?_)
                obtain ⟨rfl, rfl⟩ := e
                show qJ YX12_name κ _ (qLy u, (q_up (q_up (q_up (q_up (q_up (q_up m 77 0 0) 79 0 0) 80 0 0) 81 0 (-1)) 80 0 2) 81 0 10), y) 0 0 114 [some (qR 77), some (qI (m 79 0)), some (qI k), none] []
                refine qJ.run hκ 1 (pc' := 115) (ls' := [some (qR 77), some (qI (m 79 0)), some (qI k), none]) (st' := [qI (-1)]) rfl ?_
                exact qJ.iret hκ rfl rfl (by decide) (by decide) (by first | (exfalso; omega) | exact Or.inr (Or.inr (Or.inl ⟨rfl, ⟨by omega, nlE, by omega⟩, rfl⟩)))
              · show qJ YX12_name κ _ (qLy u, (q_up (q_up (q_up (q_up m 77 0 0) 79 0 0) 80 0 0) 81 0 (-1)), y) 0 0 105 [some (qR 77), some (qI (m 79 0)), some (qI k), none] [qI 2, qR 77]
                refine qJ.run hκ 2 (pc' := 111) (ls' := [some (qR 77), some (qI (m 79 0)), some (qI k), none]) (st' := [qI 0, qI 2, qR 77]) rfl ?_
                refine qJ.callV (As := [qI 2, qI 0]) (rest := []) hκ rfl kX12_255 (m_fails u (q_up (q_up (q_up (q_up m 77 0 0) 79 0 0) 80 0 0) 81 0 (-1)) y 2 0) rfl rfl (by decide) rfl rfl (Nat.le_of_ble_eq_true rfl) (Nat.le_of_ble_eq_true rfl) (Nat.le_of_ble_eq_true rfl) (Or.inl (fun r h' e => by obtain ⟨rfl, rfl⟩ := e; rfl)) (fun r h' e => ?_)
                obtain ⟨rfl, rfl⟩ := e
                show qJ YX12_name κ _ (qLy u, (q_up (q_up (q_up (q_up (q_up (q_up m 77 0 0) 79 0 0) 80 0 0) 81 0 (-1)) 80 0 2) 81 0 0), y) 0 0 114 [some (qR 77), some (qI (m 79 0)), some (qI k), none] []
                refine qJ.run hκ 1 (pc' := 115) (ls' := [some (qR 77), some (qI (m 79 0)), some (qI k), none]) (st' := [qI (-1)]) rfl ?_
                exact qJ.iret hκ rfl rfl (by decide) (by decide) (by exfalso; omega)
            · show qJ YX12_name κ _ (qLy u, (q_up (q_up (q_up (q_up m 77 0 0) 79 0 0) 80 0 0) 81 0 (-1)), y) 0 0 96 [some (qR 77), some (qI (m 79 0)), some (qI k), none] [qR 77]
              refine qJ.run hκ 3 (pc' := 102) (ls' := [some (qR 77), some (qI (m 79 0)), some (qI k), none]) (st' := [qI (m 79 0), qI 1, qR 77]) rfl ?_
              refine qJ.if_ne hκ (tgt := 109) rfl rfl (by omega) (fun c102 => ?_) (fun c102 => ?_)
              · show qJ YX12_name κ _ (qLy u, (q_up (q_up (q_up (q_up m 77 0 0) 79 0 0) 80 0 0) 81 0 (-1)), y) 0 0 109 [some (qR 77), some (qI (m 79 0)), some (qI k), none] [qI 1, qR 77]
                refine qJ.run hκ 1 (pc' := 111) (ls' := [some (qR 77), some (qI (m 79 0)), some (qI k), none]) (st' := [qI 10, qI 1, qR 77]) rfl ?_
                refine qJ.callV (As := [qI 1, qI 10]) (rest := []) hκ rfl kX12_255 (m_fails u (q_up (q_up (q_up (q_up m 77 0 0) 79 0 0) 80 0 0) 81 0 (-1)) y 1 10) rfl rfl (by decide) rfl rfl (Nat.le_of_ble_eq_true rfl) (Nat.le_of_ble_eq_true rfl) (Nat.le_of_ble_eq_true rfl) (Or.inl (fun r h' e => by obtain ⟨rfl, rfl⟩ := e; rfl)) (fun r h' e => ?_)
                obtain ⟨rfl, rfl⟩ := e
                show qJ YX12_name κ _ (qLy u, (q_up (q_up (q_up (q_up (q_up (q_up m 77 0 0) 79 0 0) 80 0 0) 81 0 (-1)) 80 0 1) 81 0 10), y) 0 0 114 [some (qR 77), some (qI (m 79 0)), some (qI k), none] []
                refine qJ.run hκ 1 (pc' := 115) (ls' := [some (qR 77), some (qI (m 79 0)), some (qI k), none]) (st' := [qI (-1)]) rfl ?_
                exact qJ.iret hκ rfl rfl (by decide) (by decide) (by exfalso; omega)
              · show qJ YX12_name κ _ (qLy u, (q_up (q_up (q_up (q_up m 77 0 0) 79 0 0) 80 0 0) 81 0 (-1)), y) 0 0 105 [some (qR 77), some (qI (m 79 0)), some (qI k), none] [qI 1, qR 77]
                refine qJ.run hκ 2 (pc' := 111) (ls' := [some (qR 77), some (qI (m 79 0)), some (qI k), none]) (st' := [qI 0, qI 1, qR 77]) rfl ?_
                refine qJ.callV (As := [qI 1, qI 0]) (rest := []) hκ rfl kX12_255 (m_fails u (q_up (q_up (q_up (q_up m 77 0 0) 79 0 0) 80 0 0) 81 0 (-1)) y 1 0) rfl rfl (by decide) rfl rfl (Nat.le_of_ble_eq_true rfl) (Nat.le_of_ble_eq_true rfl) (Nat.le_of_ble_eq_true rfl) (Or.inl (fun r h' e => by obtain ⟨rfl, rfl⟩ := e; rfl)) (fun r h' e => ?_)
                obtain ⟨rfl, rfl⟩ := e
                show qJ YX12_name κ _ (qLy u, (q_up (q_up (q_up (q_up (q_up (q_up m 77 0 0) 79 0 0) 80 0 0) 81 0 (-1)) 80 0 1) 81 0 0), y) 0 0 114 [some (qR 77), some (qI (m 79 0)), some (qI k), none] []
                refine qJ.run hκ 1 (pc' := 115) (ls' := [some (qR 77), some (qI (m 79 0)), some (qI k), none]) (st' := [qI (-1)]) rfl ?_
                exact qJ.iret hκ rfl rfl (by decide) (by decide) (by first | (exfalso; omega) | exact Or.inr (Or.inl ⟨rfl, ⟨by omega, by unfold noL; rw [if_pos (by omega)]; decide⟩, by unfold noL; rw [if_pos (show m 79 0 = 0 by omega)]⟩))
      · show qJ YX12_name κ _ (qLy u, (q_up (q_up (q_up (q_up m 77 0 0) 79 0 0) 80 0 0) 81 0 (-1)), y) 0 0 45 [some (qR 77), some (qI (m 79 0)), some (qI k), none] []
        have bb := hbt k.toNat (by omega)
        have lno := lc_no (m 78 k.toNat)
        have vr := vow_r (m 78 k.toNat)
        have cr := cons_r (m 78 k.toNat)
        refine qJ.run hκ 3 (pc' := 50) (ls' := [some (qR 77), some (qI (m 79 0)), some (qI k), none]) (st' := [qI k, qR 78]) rfl ?_
        refine qJ.ald hκ rfl rfl rfl (by decide) (by omega) ?_
        show qJ YX12_name κ _ (qLy u, (q_up (q_up (q_up (q_up m 77 0 0) 79 0 0) 80 0 0) 81 0 (-1)), y) 0 0 51 [some (qR 77), some (qI (m 79 0)), some (qI k), none] [qI (m 78 k.toNat)]
        refine qJ.run hκ 2 (pc' := 53) (ls' := [some (qR 77), some (qI (m 79 0)), some (qI k), some (qI (m 78 k.toNat))]) (st' := [qI (m 78 k.toNat)]) rfl ?_
        refine qJ.callS (As := [qI (m 78 k.toNat)]) (rest := []) hκ rfl kX12_258 (m_cons u (q_up (q_up (q_up (q_up m 77 0 0) 79 0 0) 80 0 0) 81 0 (-1)) y (m 78 k.toNat) (by omega)) (by decide) rfl rfl (Nat.le_of_ble_eq_true rfl) (Nat.le_of_ble_eq_true rfl) (Nat.le_of_ble_eq_true rfl) (Or.inl (fun r h' e => by obtain ⟨rfl, rfl⟩ := e; rfl)) (fun r h' e => ?_)
        obtain ⟨rfl, rfl⟩ := e
        show qJ YX12_name κ _ (qLy u, (q_up (q_up (q_up (q_up m 77 0 0) 79 0 0) 80 0 0) 81 0 (-1)), y) 0 0 56 [some (qR 77), some (qI (m 79 0)), some (qI k), some (qI (m 78 k.toNat))] [qI (cons (m 78 k.toNat))]
        refine qJ.if_ne hκ (tgt := 75) rfl rfl (by omega) (fun c56 => ?_) (fun c56 => ?_)
        · show qJ YX12_name κ _ (qLy u, (q_up (q_up (q_up (q_up m 77 0 0) 79 0 0) 80 0 0) 81 0 (-1)), y) 0 0 75 [some (qR 77), some (qI (m 79 0)), some (qI k), some (qI (m 78 k.toNat))] []
          refine qJ.run hκ 2 (pc' := 40) (ls' := [some (qR 77), some (qI (m 79 0)), some (qI (k + 1)), some (qI (m 78 k.toNat))]) (st' := []) rfl ?_
          refine qJ.dl [true, true, true, false] ?_
          show qJ YX12_name κ _ (qLy u, (q_up (q_up (q_up (q_up m 77 0 0) 79 0 0) 80 0 0) 81 0 (-1)), y) 0 0 40 [some (qR 77), some (qI (m 79 0)), some (qI (k + 1)), none] []
          exact ih40  (k + 1) (by omega) (by omega) (q_fst_no v40_0 v40_2 (fun z => by have z2 := lno.mpr z; omega)) (by omega) (by omega)
        · show qJ YX12_name κ _ (qLy u, (q_up (q_up (q_up (q_up m 77 0 0) 79 0 0) 80 0 0) 81 0 (-1)), y) 0 0 59 [some (qR 77), some (qI (m 79 0)), some (qI k), some (qI (m 78 k.toNat))] []
          refine qJ.run hκ 1 (pc' := 60) (ls' := [some (qR 77), some (qI (m 79 0)), some (qI k), some (qI (m 78 k.toNat))]) (st' := [qI (m 78 k.toNat)]) rfl ?_
          refine qJ.callS (As := [qI (m 78 k.toNat)]) (rest := []) hκ rfl kX12_261 (m_vow u (q_up (q_up (q_up (q_up m 77 0 0) 79 0 0) 80 0 0) 81 0 (-1)) y (m 78 k.toNat) (by omega)) (by decide) rfl rfl (Nat.le_of_ble_eq_true rfl) (Nat.le_of_ble_eq_true rfl) (Nat.le_of_ble_eq_true rfl) (Or.inl (fun r h' e => by obtain ⟨rfl, rfl⟩ := e; rfl)) (fun r h' e => ?_)
          obtain ⟨rfl, rfl⟩ := e
          show qJ YX12_name κ _ (qLy u, (q_up (q_up (q_up (q_up m 77 0 0) 79 0 0) 80 0 0) 81 0 (-1)), y) 0 0 63 [some (qR 77), some (qI (m 79 0)), some (qI k), some (qI (m 78 k.toNat))] [qI (vow (m 78 k.toNat))]
          refine qJ.run hκ 1 (pc' := 64) (ls' := [some (qR 77), some (qI (m 79 0)), some (qI k), some (qI (m 78 k.toNat))]) (st' := [qI (-1), qI (vow (m 78 k.toNat))]) rfl ?_
          refine qJ.icmp_ne hκ (tgt := 75) rfl rfl (by omega) (by omega) (fun c64 => ?_) (fun c64 => ?_)
          · show qJ YX12_name κ _ (qLy u, (q_up (q_up (q_up (q_up m 77 0 0) 79 0 0) 80 0 0) 81 0 (-1)), y) 0 0 75 [some (qR 77), some (qI (m 79 0)), some (qI k), some (qI (m 78 k.toNat))] []
            refine qJ.run hκ 2 (pc' := 40) (ls' := [some (qR 77), some (qI (m 79 0)), some (qI (k + 1)), some (qI (m 78 k.toNat))]) (st' := []) rfl ?_
            refine qJ.dl [true, true, true, false] ?_
            show qJ YX12_name κ _ (qLy u, (q_up (q_up (q_up (q_up m 77 0 0) 79 0 0) 80 0 0) 81 0 (-1)), y) 0 0 40 [some (qR 77), some (qI (m 79 0)), some (qI (k + 1)), none] []
            exact ih40  (k + 1) (by omega) (by omega) (q_fst_no v40_0 v40_2 (fun z => by have z2 := lno.mpr z; omega)) (by omega) (by omega)
          · show qJ YX12_name κ _ (qLy u, (q_up (q_up (q_up (q_up m 77 0 0) 79 0 0) 80 0 0) 81 0 (-1)), y) 0 0 67 [some (qR 77), some (qI (m 79 0)), some (qI k), some (qI (m 78 k.toNat))] []
            refine qJ.run hκ 3 (pc' := 70) (ls' := [some (qR 77), some (qI (m 79 0)), some (qI k), some (qI (m 78 k.toNat))]) (st' := [qI k, qI 1, qR 77]) rfl ?_
            refine qJ.callV (As := [qI 1, qI k]) (rest := []) hκ rfl kX12_255 (m_fails u (q_up (q_up (q_up (q_up m 77 0 0) 79 0 0) 80 0 0) 81 0 (-1)) y 1 k) rfl rfl (by decide) rfl rfl (Nat.le_of_ble_eq_true rfl) (Nat.le_of_ble_eq_true rfl) (Nat.le_of_ble_eq_true rfl) (Or.inl (fun r h' e => by obtain ⟨rfl, rfl⟩ := e; rfl)) (fun r h' e => ?_)
            obtain ⟨rfl, rfl⟩ := e
            show qJ YX12_name κ _ (qLy u, (q_up (q_up (q_up (q_up (q_up (q_up m 77 0 0) 79 0 0) 80 0 0) 81 0 (-1)) 80 0 1) 81 0 k), y) 0 0 73 [some (qR 77), some (qI (m 79 0)), some (qI k), some (qI (m 78 k.toNat))] []
            refine qJ.run hκ 1 (pc' := 74) (ls' := [some (qR 77), some (qI (m 79 0)), some (qI k), some (qI (m 78 k.toNat))]) (st' := [qI (-1)]) rfl ?_
            exact qJ.iret hκ rfl rfl (by decide) (by decide) (by
      have hit := q_fst_hit (p := fun j => lcode (m 78 j) < 0) v40_0 v40_2 (lno.mp ⟨by omega, by omega⟩) (m 79 0).toNat (by omega)
      have e : noL (m 78) (m 79 0) = k := by unfold noL; rw [if_neg (by omega), hit]
      exact Or.inr (Or.inl ⟨rfl, ⟨v40_3, by rw [e]; omega⟩, by rw [e]⟩))
  show qJ YX12_name κ _ (qLy u, m, y) 0 0 0 [some (qR 77), none, none, none] []
  refine qJ.run hκ 2 (pc' := 2) (ls' := [some (qR 77), none, none, none]) (st' := [qI 0, qR 77]) rfl ?_
  refine qJ.putI hκ rfl rfl rfl rfl (Or.inl rfl) ?_
  show qJ YX12_name κ _ (qLy u, (q_up m 77 0 0), y) 0 0 5 [some (qR 77), none, none, none] []
  refine qJ.run hκ 3 (pc' := 10) (ls' := [some (qR 77), none, none, none]) (st' := [qI 0, qR 79]) rfl ?_
  refine qJ.ald hκ rfl rfl rfl (by decide) (by omega) ?_
  show qJ YX12_name κ _ (qLy u, (q_up m 77 0 0), y) 0 0 11 [some (qR 77), none, none, none] [qI (m 79 0)]
  refine qJ.run hκ 5 (pc' := 18) (ls' := [some (qR 77), some (qI (m 79 0)), none, none]) (st' := [qI 0, qI 0, qR 79]) rfl ?_
  refine qJ.ast hκ rfl rfl rfl (by decide) (by omega) ?_
  show qJ YX12_name κ _ (qLy u, (q_up (q_up m 77 0 0) 79 0 0), y) 0 0 19 [some (qR 77), some (qI (m 79 0)), none, none] []
  refine qJ.run hκ 3 (pc' := 22) (ls' := [some (qR 77), some (qI (m 79 0)), none, none]) (st' := [qI (-1), qI 0, qR 77]) rfl ?_
  refine qJ.callV (As := [qI 0, qI (-1)]) (rest := []) hκ rfl kX12_255 (m_fails u (q_up (q_up m 77 0 0) 79 0 0) y 0 (-1)) rfl rfl (by decide) rfl rfl (Nat.le_of_ble_eq_true rfl) (Nat.le_of_ble_eq_true rfl) (Nat.le_of_ble_eq_true rfl) (Or.inl (fun r h' e => by obtain ⟨rfl, rfl⟩ := e; rfl)) (fun r h' e => ?_)
  obtain ⟨rfl, rfl⟩ := e
  show qJ YX12_name κ _ (qLy u, (q_up (q_up (q_up (q_up m 77 0 0) 79 0 0) 80 0 0) 81 0 (-1)), y) 0 0 25 [some (qR 77), some (qI (m 79 0)), none, none] []
  refine qJ.run hκ 3 (pc' := 30) (ls' := [some (qR 77), some (qI (m 79 0)), none, none]) (st' := [qI 0, qR 101]) rfl ?_
  refine qJ.ald hκ rfl rfl rfl (by decide) (by omega) ?_
  show qJ YX12_name κ _ (qLy u, (q_up (q_up (q_up (q_up m 77 0 0) 79 0 0) 80 0 0) 81 0 (-1)), y) 0 0 31 [some (qR 77), some (qI (m 79 0)), none, none] [qI (m 101 0)]
  refine qJ.run hκ 1 (pc' := 32) (ls' := [some (qR 77), some (qI (m 79 0)), none, none]) (st' := [qI 5, qI (m 101 0)]) rfl ?_
  refine qJ.icmp_ne hκ (tgt := 38) rfl rfl (by omega) (by omega) (fun c32 => ?_) (fun c32 => ?_)
  · show qJ YX12_name κ _ (qLy u, (q_up (q_up (q_up (q_up m 77 0 0) 79 0 0) 80 0 0) 81 0 (-1)), y) 0 0 38 [some (qR 77), some (qI (m 79 0)), none, none] []
    refine qJ.run hκ 2 (pc' := 40) (ls' := [some (qR 77), some (qI (m 79 0)), some (qI 0), none]) (st' := []) rfl ?_
    exact L40 402 0 (by omega) (by omega) (rfl) (by omega) (by omega)
  · show qJ YX12_name κ _ (qLy u, (q_up (q_up (q_up (q_up m 77 0 0) 79 0 0) 80 0 0) 81 0 (-1)), y) 0 0 35 [some (qR 77), some (qI (m 79 0)), none, none] []
    refine qJ.run hκ 1 (pc' := 37) (ls' := [some (qR 77), some (qI (m 79 0)), none, none]) (st' := [qI (-2)]) rfl ?_
    exact qJ.iret hκ rfl rfl (by decide) (by decide) (Or.inl ⟨rfl, by omega, rfl⟩)

/-! printed by p99.py: readings, reading, value, sure of the model -/
theorem drop_c {R : Nat → Int} {L' : List (Nat → Int)} : ∀ (c : Nat) (l : List (Nat → Int)), l.drop c = R :: L' → l[c]? = some R ∧ l.drop (c + 1) = L'
  | 0, l, h => by
    rw [List.drop_zero] at h
    subst h
    exact ⟨rfl, rfl⟩
  | c + 1, [], h => by rw [List.drop_nil] at h; cases h
  | c + 1, a :: l, h => drop_c c l h
theorem itS_o {m M : qM} {L : List (Nat → Int)} (h : itS m M L) : keep kObs M = keep kObs m := h.1.1
theorem VM_l {m : qM} {R : Nat → Int} (hD : dOk (DD m)) (h : R ∈ RLm m) : ∀ t : Nat, t < 20 → -1 ≤ VM (DD m) R (nS m) t ∧ VM (DD m) R (nS m) t ≤ 27 := by
  have k := LVr_mem h
  exact VM_b hD (nS m) (Int.le_refl _) (fun e he => ⟨(k.2 e he).1, by have := (k.2 e he).2; show R e < (nC m : Int); have := (k.2 e he).1; omega⟩)
/-- the model's way to what is sure -/
def mSf (D : qD) (n s : Nat) : Int → List (Nat → Int) → Int
  | v, [] => v
  | v, R :: L => mSf D n s (if v = -2 ∨ v = VM D R n s then VM D R n s else -1) L
theorem mSf_y {D : qD} {n s : Nat} {v : Int} : ∀ L, (∀ R, R ∈ L → VM D R n s = v) → mSf D n s v L = v
  | [], _ => rfl
  | R :: L, h => by
    have e := h R List.mem_cons_self
    show mSf D n s (if v = -2 ∨ v = VM D R n s then VM D R n s else -1) L = v
    rw [if_pos (Or.inr e.symm), e]
    exact mSf_y L (fun R' hR => h R' (List.mem_cons_of_mem _ hR))
theorem mSf_1 {D : qD} {n s : Nat} : ∀ L, mSf D n s (-1) L = -1
  | [] => rfl
  | R :: L => by
    show mSf D n s (if (-1 : Int) = -2 ∨ -1 = VM D R n s then VM D R n s else -1) L = -1
    by_cases e : (-1 : Int) = VM D R n s
    · rw [if_pos (Or.inr e), ← e]; exact mSf_1 L
    · rw [if_neg (fun z => z.elim (by decide) e)]; exact mSf_1 L
theorem mSf_n {D : qD} {n s : Nat} {v : Int} (hv : ¬ v = -2) : ∀ L, (∃ R, R ∈ L ∧ ¬ VM D R n s = v) → mSf D n s v L = -1
  | [], ⟨R, h, _⟩ => absurd h List.not_mem_nil
  | R :: L, h => by
    show mSf D n s (if v = -2 ∨ v = VM D R n s then VM D R n s else -1) L = -1
    by_cases e : v = VM D R n s
    · rw [if_pos (Or.inr e), ← e]
      obtain ⟨R', h1, h2⟩ := h
      rcases List.mem_cons.mp h1 with g | g
      · rw [g] at h2; exact absurd e.symm h2
      · exact mSf_n hv L ⟨R', g, h2⟩
    · rw [if_neg (fun z => z.elim hv e)]; exact mSf_1 L
theorem sV_2 {D : qD} {s : Nat} : ∀ (L : List (Nat → Int)), (∀ R, R ∈ L → 0 ≤ VM D R (dN D).toNat s) → sV D s (-2) L = -2
  | [], _ => rfl
  | R :: L, h0 => by
    have a := h0 R List.mem_cons_self
    show sV D s (nV (-2) (VM D R (dN D).toNat s) (if VM D R (dN D).toNat s = -1 then 0 else 1)) L = -2
    have e2 : nV (-2) (VM D R (dN D).toNat s) 1 = -2 := by unfold nV; rw [if_neg (by decide), if_neg (by decide), if_neg (by omega)]
    rw [if_neg (by omega), e2]
    exact sV_2 L (fun R'' hR => h0 R'' (List.mem_cons_of_mem _ hR))
theorem sV_n {D : qD} {s : Nat} {w : Int} : ∀ (L : List (Nat → Int)), (∀ R, R ∈ L → 0 ≤ VM D R (dN D).toNat s) → (∃ R, R ∈ L ∧ ¬ VM D R (dN D).toNat s = w) → 0 ≤ w → sV D s w L = -2
  | [], _, ⟨R, h, _⟩, _ => absurd h List.not_mem_nil
  | R :: L, h0, h, hw => by
    have a := h0 R List.mem_cons_self
    show sV D s (nV w (VM D R (dN D).toNat s) (if VM D R (dN D).toNat s = -1 then 0 else 1)) L = -2
    rw [if_neg (by omega)]
    by_cases e : VM D R (dN D).toNat s = w
    · obtain ⟨R', h1, h2⟩ := h
      have e2 : nV w (VM D R (dN D).toNat s) 1 = w := by unfold nV; rw [if_neg (by decide), if_neg (by omega), if_pos e.symm]
      rw [e2]
      rcases List.mem_cons.mp h1 with g | g
      · rw [g] at h2; exact absurd e h2
      · exact sV_n L (fun R'' hR => h0 R'' (List.mem_cons_of_mem _ hR)) ⟨R', g, h2⟩ hw
    · have e2 : nV w (VM D R (dN D).toNat s) 1 = -2 := by unfold nV; rw [if_neg (by decide), if_neg (by omega), if_neg (fun z => e z.symm)]
      rw [e2]
      exact sV_2 L (fun R'' hR => h0 R'' (List.mem_cons_of_mem _ hR))

theorem sure_e {m : qM} {s : Nat} (hD : dOk (DD m)) (hs : s < 20) : (if mSf (DD m) (nS m) s (-2) (RLm m) = -2 then -1 else mSf (DD m) (nS m) s (-2) (RLm m)) = (if 0 < (RLm m).length ∧ sC (DD m) s (RLm m) = ((RLm m).length : Nat) ∧ ¬ sV (DD m) s (-1) (RLm m) = -2 then sV (DD m) s (-1) (RLm m) else -1) := by
  have rg : ∀ R, R ∈ RLm m → -1 ≤ VM (DD m) R (nS m) s ∧ VM (DD m) R (nS m) s ≤ 27 := fun R hR => VM_l hD hR s hs
  generalize RLm m = L at rg
  cases L with
  | nil =>
    show (if (-2 : Int) = -2 then -1 else -2) = _
    rw [if_pos rfl, if_neg (fun z => absurd z.1 (by decide))]
  | cons R L =>
    have r0 := rg R List.mem_cons_self
    have rl : ∀ R', R' ∈ L → -1 ≤ VM (DD m) R' (nS m) s ∧ VM (DD m) R' (nS m) s ≤ 27 := fun R' hR => rg R' (List.mem_cons_of_mem _ hR)
    have eM : mSf (DD m) (nS m) s (-2) (R :: L) = mSf (DD m) (nS m) s (VM (DD m) R (nS m) s) L := by
      show mSf (DD m) (nS m) s (if (-2 : Int) = -2 ∨ -2 = VM (DD m) R (nS m) s then VM (DD m) R (nS m) s else -1) L = _
      rw [if_pos (Or.inl rfl)]
    rw [eM]
    have eN : (dN (DD m)).toNat = nS m := rfl
    by_cases c : VM (DD m) R (nS m) s = -1
    · rw [c, mSf_1, if_neg (by decide)]
      have sc : ¬ sC (DD m) s (R :: L) = (((R :: L).length : Nat) : Int) := by
        unfold sC
        rw [eN, List.countP_cons_of_neg (by rw [c]; decide)]
        have := List.countP_le_length (p := fun R : Nat → Int => decide (¬ VM (DD m) R (nS m) s = -1)) (l := L)
        rw [List.length_cons]
        omega
      rw [if_neg (fun z => sc z.2.1)]
    · have w0 : 0 ≤ VM (DD m) R (nS m) s := by omega
      have eV : sV (DD m) s (-1) (R :: L) = sV (DD m) s (VM (DD m) R (nS m) s) L := by
        show sV (DD m) s (nV (-1) (VM (DD m) R (nS m) s) (if VM (DD m) R (nS m) s = -1 then 0 else 1)) L = _
        rw [if_neg c]
        have : nV (-1) (VM (DD m) R (nS m) s) 1 = VM (DD m) R (nS m) s := by unfold nV; rw [if_neg (by decide), if_pos rfl]
        rw [this]
      rw [eV]
      by_cases al : ∀ R', R' ∈ L → VM (DD m) R' (nS m) s = VM (DD m) R (nS m) s
      · rw [mSf_y L al, if_neg (by omega), sV_all w0 L _ al]
        have nn : nV (VM (DD m) R (nS m) s) (VM (DD m) R (nS m) s) (L.length : Nat) = VM (DD m) R (nS m) s := by
          unfold nV
          by_cases z : ((L.length : Nat) : Int) = 0
          · rw [if_pos z]
          · rw [if_neg z, if_neg c, if_pos rfl]
        have sc : sC (DD m) s (R :: L) = (((R :: L).length : Nat) : Int) := sC_all w0 (R :: L) (fun R' hR => by
          rcases List.mem_cons.mp hR with g | g
          · rw [g]; rfl
          · exact al R' g)
        rw [nn, if_pos ⟨by rw [List.length_cons]; omega, sc, by omega⟩]
      · have ex : ∃ R', R' ∈ L ∧ ¬ VM (DD m) R' (nS m) s = VM (DD m) R (nS m) s := Classical.byContradiction fun z => al fun R' hR => Classical.byContradiction fun y => z ⟨R', hR, y⟩
        rw [mSf_n (by omega) L ex, if_neg (by decide)]
        by_cases al2 : ∀ R', R' ∈ L → 0 ≤ VM (DD m) R' (nS m) s
        · rw [sV_n L al2 ex w0, if_neg (fun z => z.2.2 rfl)]
        · have ex2 : ∃ R', R' ∈ L ∧ ¬ 0 ≤ VM (DD m) R' (nS m) s := Classical.byContradiction fun z => al2 fun R' hR => Classical.byContradiction fun y => z ⟨R', hR, y⟩
          obtain ⟨R', h1, h2⟩ := ex2
          have e1 : VM (DD m) R' (nS m) s = -1 := by have := rl R' h1; omega
          have sc : ¬ sC (DD m) s (R :: L) = (((R :: L).length : Nat) : Int) := by
            unfold sC
            intro z
            have z2 := List.countP_eq_length.mp (Int.ofNat.inj z) R' (List.mem_cons_of_mem _ h1)
            exact (of_decide_eq_true z2) e1
          rw [if_neg (fun z => sc z.2.1)]

set_option maxRecDepth 100000 in
theorem m_readings (u : qU) (m y : qM) (hR : rC m) (hX : rXn m) (hl : rXl m) : qCt YX12_readings 6 0 0 [qR 77] (qLy u, m, y) (fun r h => ∃ m', r = some (qI (ansRds m)) ∧ h = (qLy u, m', y) ∧ keep kObs m' = keep kObs m) := by
  refine qCt.intro okX12_readings (Nat.le_of_ble_eq_true rfl) (fun κ hκ => ?_)
  have L11 : ∀ (n : Nat) (k : Int) (M6 : qM) (L : List (Nat → Int)), (itS m M6 L) → (k + ((L.length : Nat) : Int) = ((RLm m).length : Nat)) → (dOk (DD m)) → (L.length) < n → qJ YX12_readings κ (qFin (fun r h => ∃ m', r = some (qI (ansRds m)) ∧ h = (qLy u, m', y) ∧ keep kObs m' = keep kObs m) 0 0 κ) (qLy u, M6, y) 0 0 11 [some (qR 77), some (qI k)] [] := by
    intro n
    induction n with
    | zero => intro k M6 L _ _ _ hz0; omega
    | succ n ih11 =>
      intro k M6 L v11_0 v11_1 v11_2 v11_m
      refine qJ.run hκ 1 (pc' := 12) (ls' := [some (qR 77), some (qI k)]) (st' := [qR 77]) rfl ?_
      refine qJ.callV (As := []) (rest := []) hκ rfl kX12_380 (m_nextR u m M6 y L hR hX (rX_lxS hl) v11_2 v11_0) rfl rfl (by decide) rfl rfl (Nat.le_of_ble_eq_true rfl) (Nat.le_of_ble_eq_true rfl) (Nat.le_of_ble_eq_true rfl) (Or.inl (fun r h' e => by obtain ⟨z12, m7, rfl, rfl, K7, H7⟩ := e; rfl)) (fun r h' e => ?_)
      obtain ⟨z12, m7, rfl, rfl, K7, H7⟩ := e
      have zr : z12 = 0 ∨ z12 = 1 := by rcases H7 with q | q; (left; exact q.1); (right; exact q.1)
      show qJ YX12_readings κ _ (qLy u, m7, y) 0 0 15 [some (qR 77), some (qI k)] [qI z12]
      refine qJ.if_eq hκ (tgt := 24) rfl rfl (by omega) (fun c15 => ?_) (fun c15 => ?_)
      · show qJ YX12_readings κ _ (qLy u, m7, y) 0 0 24 [some (qR 77), some (qI k)] []
        have Z7 : L = [] ∧ itS m m7 [] := by rcases H7 with q | q; (exact q.2); (have := q.1; omega)
        clear H7
        refine qJ.run hκ 1 (pc' := 25) (ls' := [some (qR 77), some (qI k)]) (st' := [qI k]) rfl ?_
        exact qJ.iret hκ rfl rfl (by decide) (by decide) (⟨m7, by unfold ansRds; rw [Z7.1] at v11_1; have v1 : k + 0 = ((RLm m).length : Nat) := v11_1; rw [← v1, Int.add_zero], rfl, itS_o Z7.2⟩)
      · show qJ YX12_readings κ _ (qLy u, m7, y) 0 0 18 [some (qR 77), some (qI k)] []
        have Y7 : ∃ R L', L = R :: L' ∧ itS m m7 L' ∧ (∀ e : Nat, e < 5 → m7 121 e = R e) ∧ ∀ s : Nat, s < 20 → m7 122 s = VM (DD m) R (nS m) s := by rcases H7 with q | q; (have := q.1; omega); (exact q.2)
        clear H7
        obtain ⟨R, L', y1, y2, y3, y4⟩ := Y7
        refine qJ.run hκ 2 (pc' := 11) (ls' := [some (qR 77), some (qI (k + 1))]) (st' := []) rfl ?_
        exact ih11  (k + 1) m7 L' (y2) (by rw [y1, List.length_cons] at v11_1; omega) (v11_2) (by rw [y1, List.length_cons] at v11_m; omega)
  show qJ YX12_readings κ _ (qLy u, m, y) 0 0 0 [some (qR 77), none] []
  refine qJ.run hκ 2 (pc' := 2) (ls' := [some (qR 77), none]) (st' := [qI 0, qR 77]) rfl ?_
  refine qJ.putI hκ rfl rfl rfl rfl (Or.inl rfl) ?_
  show qJ YX12_readings κ _ (qLy u, (q_up m 77 0 0), y) 0 0 5 [some (qR 77), none] []
  refine qJ.run hκ 1 (pc' := 6) (ls' := [some (qR 77), none]) (st' := [qR 77]) rfl ?_
  refine qJ.callV (As := []) (rest := []) hκ rfl kX12_377 (m_startR u m (q_up m 77 0 0) y hR hX hl (keep_up (by rfl))) rfl rfl (by decide) rfl rfl (Nat.le_of_ble_eq_true rfl) (Nat.le_of_ble_eq_true rfl) (Nat.le_of_ble_eq_true rfl) (Or.inl (fun r h' e => by obtain ⟨rfl, m5, rfl, K5, I5, hD⟩ := e; rfl)) (fun r h' e => ?_)
  obtain ⟨rfl, m5, rfl, K5, I5, hD⟩ := e
  show qJ YX12_readings κ _ (qLy u, m5, y) 0 0 9 [some (qR 77), none] []
  refine qJ.run hκ 2 (pc' := 11) (ls' := [some (qR 77), some (qI 0)]) (st' := []) rfl ?_
  exact L11 ((RLm m).length + 1) 0 m5 (RLm m) (I5) (by omega) (hD) (by omega)

set_option maxRecDepth 100000 in
theorem m_goTo (u : qU) (m M y : qM) (k : Int) (hR : rC m) (hX : rXn m) (hl : rXl m) (hK : keep kObs M = keep kObs m) (h1 : qr k) : qCt YX12_goTo 6 0 0 [qR 77, qI k] (qLy u, M, y) (fun r h => ∃ (z : Int) (M' : qM), r = some (qI z) ∧ h = (qLy u, M', y) ∧ mR m M' ∧ dOk (DD m) ∧ ((z = 0 ∧ kth m k = none) ∨ (z = 1 ∧ ∃ R, kth m k = some R ∧ (∀ e : Nat, e < 5 → M' 121 e = R e) ∧ ∀ s : Nat, s < 20 → M' 122 s = VM (DD m) R (nS m) s))) := by
  refine qCt.intro okX12_goTo (Nat.le_of_ble_eq_true rfl) (fun κ hκ => ?_)
  have L16 : ∀ (n : Nat) (c : Int) (f : Int) (M6 : qM), (0 ≤ c ∧ (c ≤ k + 1 ∨ f = 0)) → ((f = 0 ∧ kth m k = none ∧ mR m M6) ∨ (f = 1 ∧ 0 ≤ k ∧ itS m M6 ((RLm m).drop c.toNat) ∧ (0 < c → ∃ R, (RLm m)[(c - 1).toNat]? = some R ∧ (∀ e : Nat, e < 5 → M6 121 e = R e) ∧ ∀ s : Nat, s < 20 → M6 122 s = VM (DD m) R (nS m) s))) → (dOk (DD m)) → (f = 0 ∨ f = 1) → ((k + 2 - c + f).toNat) < n → qJ YX12_goTo κ (qFin (fun r h => ∃ (z : Int) (M' : qM), r = some (qI z) ∧ h = (qLy u, M', y) ∧ mR m M' ∧ dOk (DD m) ∧ ((z = 0 ∧ kth m k = none) ∨ (z = 1 ∧ ∃ R, kth m k = some R ∧ (∀ e : Nat, e < 5 → M' 121 e = R e) ∧ ∀ s : Nat, s < 20 → M' 122 s = VM (DD m) R (nS m) s))) 0 0 κ) (qLy u, M6, y) 0 0 16 [some (qR 77), some (qI k), some (qI c), some (qI f)] [] := by
    intro n
    induction n with
    | zero => intro c f M6 _ _ _ _ hz0; omega
    | succ n ih16 =>
      intro c f M6 v16_0 v16_1 v16_2 v16_3 v16_m
      refine qJ.run hκ 1 (pc' := 17) (ls' := [some (qR 77), some (qI k), some (qI c), some (qI f)]) (st' := [qI f]) rfl ?_
      refine qJ.if_eq hκ (tgt := 36) rfl rfl (by omega) (fun c17 => ?_) (fun c17 => ?_)
      · show qJ YX12_goTo κ _ (qLy u, M6, y) 0 0 36 [some (qR 77), some (qI k), some (qI c), some (qI f)] []
        refine qJ.run hκ 1 (pc' := 37) (ls' := [some (qR 77), some (qI k), some (qI c), some (qI f)]) (st' := [qI f]) rfl ?_
        exact qJ.bret hκ rfl rfl (by omega) (by decide) (by decide) (by
      rcases v16_1 with ⟨q1, q2, q3⟩ | ⟨q1, q2, q3, q4⟩
      · exact ⟨f, M6, rfl, rfl, q3, v16_2, Or.inl ⟨q1, q2⟩⟩
      · first
        | exact absurd (q1.symm.trans c17) (by decide)
        | (obtain ⟨R, g1, g2, g3⟩ := q4 (by omega)
           exact ⟨f, M6, rfl, rfl, q3.1, v16_2, Or.inr ⟨q1, R, by unfold kth; rw [if_pos q2, show k.toNat = (c - 1).toNat by omega]; exact g1, g2, g3⟩⟩))
      · show qJ YX12_goTo κ _ (qLy u, M6, y) 0 0 20 [some (qR 77), some (qI k), some (qI c), some (qI f)] []
        have Y6 : 0 ≤ k ∧ itS m M6 ((RLm m).drop c.toNat) ∧ (0 < c → ∃ R, (RLm m)[(c - 1).toNat]? = some R ∧ (∀ e : Nat, e < 5 → M6 121 e = R e) ∧ ∀ s : Nat, s < 20 → M6 122 s = VM (DD m) R (nS m) s) := by rcases v16_1 with q | q; (exact absurd q.1 c17); (exact q.2)
        have ck : c ≤ k + 1 := by omega
        have cb : c ≤ 248832 := by
          by_cases z : 0 < c
          · obtain ⟨R, g1, -⟩ := Y6.2.2 z
            have := (List.getElem?_eq_some_iff.mp g1).1
            have := RLm_b v16_2
            omega
          · omega
        refine qJ.run hκ 2 (pc' := 22) (ls' := [some (qR 77), some (qI k), some (qI c), some (qI f)]) (st' := [qI k, qI c]) rfl ?_
        refine qJ.icmp_gt hκ (tgt := 36) rfl rfl (by omega) (by omega) (fun c22 => ?_) (fun c22 => ?_)
        · show qJ YX12_goTo κ _ (qLy u, M6, y) 0 0 36 [some (qR 77), some (qI k), some (qI c), some (qI f)] []
          refine qJ.run hκ 1 (pc' := 37) (ls' := [some (qR 77), some (qI k), some (qI c), some (qI f)]) (st' := [qI f]) rfl ?_
          exact qJ.bret hκ rfl rfl (by omega) (by decide) (by decide) (by
      rcases v16_1 with ⟨q1, q2, q3⟩ | ⟨q1, q2, q3, q4⟩
      · exact ⟨f, M6, rfl, rfl, q3, v16_2, Or.inl ⟨q1, q2⟩⟩
      · first
        | exact absurd (q1.symm.trans c17) (by decide)
        | (obtain ⟨R, g1, g2, g3⟩ := q4 (by omega)
           exact ⟨f, M6, rfl, rfl, q3.1, v16_2, Or.inr ⟨q1, R, by unfold kth; rw [if_pos q2, show k.toNat = (c - 1).toNat by omega]; exact g1, g2, g3⟩⟩))
        · show qJ YX12_goTo κ _ (qLy u, M6, y) 0 0 25 [some (qR 77), some (qI k), some (qI c), some (qI f)] []
          refine qJ.run hκ 1 (pc' := 26) (ls' := [some (qR 77), some (qI k), some (qI c), some (qI f)]) (st' := [qR 77]) rfl ?_
          refine qJ.callV (As := []) (rest := []) hκ rfl kX12_380 (m_nextR u m M6 y ((RLm m).drop c.toNat) hR hX (rX_lxS hl) v16_2 Y6.2.1) rfl rfl (by decide) rfl rfl (Nat.le_of_ble_eq_true rfl) (Nat.le_of_ble_eq_true rfl) (Nat.le_of_ble_eq_true rfl) (Or.inl (fun r h' e => by obtain ⟨z26, m7, rfl, rfl, K7, H7⟩ := e; rfl)) (fun r h' e => ?_)
          obtain ⟨z26, m7, rfl, rfl, K7, H7⟩ := e
          have zr : z26 = 0 ∨ z26 = 1 := by rcases H7 with q | q; (left; exact q.1); (right; exact q.1)
          show qJ YX12_goTo κ _ (qLy u, m7, y) 0 0 29 [some (qR 77), some (qI k), some (qI c), some (qI f)] [qI z26]
          refine qJ.run hκ 3 (pc' := 16) (ls' := [some (qR 77), some (qI k), some (qI (c + 1)), some (qI z26)]) (st' := []) rfl ?_
          exact ih16  (c + 1) z26 m7 (by omega) (by
          rcases H7 with ⟨q1, q2, q3⟩ | ⟨q1, R, L', q2, q3, q4, q5⟩
          · have ln := List.drop_eq_nil_iff.mp q2
            exact Or.inl ⟨q1, by unfold kth; rw [if_pos Y6.1, List.getElem?_eq_none (by omega)], q3.1⟩
          · have dc := drop_c c.toNat (RLm m) q2
            refine Or.inr ⟨q1, Y6.1, ?_, fun _ => ⟨R, ?_, q4, q5⟩⟩
            · rw [show (c + 1).toNat = c.toNat + 1 by omega, dc.2]; exact q3
            · rw [show (c + 1 - 1).toNat = c.toNat by omega]; exact dc.1) (v16_2) (zr) (by rcases zr with q | q <;> omega)
  show qJ YX12_goTo κ _ (qLy u, M, y) 0 0 0 [some (qR 77), some (qI k), none, none] []
  refine qJ.run hκ 1 (pc' := 1) (ls' := [some (qR 77), some (qI k), none, none]) (st' := [qR 77]) rfl ?_
  refine qJ.callV (As := []) (rest := []) hκ rfl kX12_377 (m_startR u m M y hR hX hl hK) rfl rfl (by decide) rfl rfl (Nat.le_of_ble_eq_true rfl) (Nat.le_of_ble_eq_true rfl) (Nat.le_of_ble_eq_true rfl) (Or.inl (fun r h' e => by obtain ⟨rfl, m5, rfl, K5, I5, hD⟩ := e; rfl)) (fun r h' e => ?_)
  obtain ⟨rfl, m5, rfl, K5, I5, hD⟩ := e
  show qJ YX12_goTo κ _ (qLy u, m5, y) 0 0 4 [some (qR 77), some (qI k), none, none] []
  refine qJ.run hκ 3 (pc' := 7) (ls' := [some (qR 77), some (qI k), some (qI 0), none]) (st' := [qI k]) rfl ?_
  refine qJ.if_lt hκ (tgt := 14) rfl rfl (by omega) (fun c7 => ?_) (fun c7 => ?_)
  · show qJ YX12_goTo κ _ (qLy u, m5, y) 0 0 14 [some (qR 77), some (qI k), some (qI 0), none] []
    refine qJ.run hκ 2 (pc' := 16) (ls' := [some (qR 77), some (qI k), some (qI 0), some (qI 0)]) (st' := []) rfl ?_
    exact L16 ((k + 4).toNat + 1) 0 0 m5 (by omega) (Or.inl ⟨rfl, by unfold kth; rw [if_neg (by omega)], I5.1⟩) (hD) (by omega) (by omega)
  · show qJ YX12_goTo κ _ (qLy u, m5, y) 0 0 10 [some (qR 77), some (qI k), some (qI 0), none] []
    refine qJ.run hκ 3 (pc' := 16) (ls' := [some (qR 77), some (qI k), some (qI 0), some (qI 1)]) (st' := []) rfl ?_
    exact L16 ((k + 4).toNat + 1) 0 1 m5 (by omega) (Or.inr ⟨rfl, by omega, by rw [show (0 : Int).toNat = 0 from rfl, List.drop_zero]; exact I5, fun z => absurd z (by decide)⟩) (hD) (by omega) (by omega)

theorem wdO_no {m : qM} {R : Nat → Int} {a : Int} (h : ¬ (0 ≤ a ∧ a < (nN m : Int))) : wdO m R a = -1 := by
  unfold wdO
  rw [if_pos ((q_fst_0 _ _).mpr ((q_cnt_no _).mpr fun e he z => ?_))]
  have b := sN_at he
  have c := b.2.2.1.1
  rw [q_tn b.1] at c
  omega
theorem rdg_e {m : qM} {k a : Int} : ansRdg m k a = (match kth m k with | some R => wdO m R a | none => -1) := by
  unfold ansRdg
  by_cases c : 0 ≤ a ∧ a < (nN m : Int)
  · rw [if_pos c]
    rfl
  · rw [if_neg c]
    cases kth m k with
    | none => rfl
    | some R => exact (wdO_no c).symm

set_option maxRecDepth 100000 in
theorem m_reading (u : qU) (m y : qM) (k a : Int) (hR : rC m) (hX : rXn m) (hl : rXl m) (h1 : qr k) (h2 : qr a) : qCt YX12_reading 7 0 0 [qR 77, qI k, qI a] (qLy u, m, y) (fun r h => ∃ m', r = some (qI (ansRdg m k a)) ∧ h = (qLy u, m', y) ∧ keep kObs m' = keep kObs m) := by
  refine qCt.intro okX12_reading (Nat.le_of_ble_eq_true rfl) (fun κ hκ => ?_)
  have L17 : ∀ (n : Nat) (i : Int) (M6 : qM) (R : Nat → Int), (0 ≤ i ∧ i ≤ (nS m : Int)) → (mR m M6) → (kth m k = some R ∧ ∀ e : Nat, e < 5 → M6 121 e = R e) → (q_fst (fun e => sN m e = a) i.toNat = -1) → (((nS m : Int) - i).toNat) < n → qJ YX12_reading κ (qFin (fun r h => ∃ m', r = some (qI (ansRdg m k a)) ∧ h = (qLy u, m', y) ∧ keep kObs m' = keep kObs m) 0 0 κ) (qLy u, M6, y) 0 0 17 [some (qR 77), some (qI k), some (qI a), some (qI i)] [] := by
    intro n
    induction n with
    | zero => intro i M6 R _ _ _ _ hz0; omega
    | succ n ih17 =>
      intro i M6 R v17_0 v17_1 v17_2 v17_3 v17_m
      have k54 : M6 77 54 = (nS m : Int) := v17_1.2.1.1
      have ns := nS_le m
      refine qJ.run hκ 3 (pc' := 22) (ls' := [some (qR 77), some (qI k), some (qI a), some (qI i)]) (st' := [qI (M6 77 54), qI i]) rfl ?_
      refine qJ.icmp_ge hκ (tgt := 53) rfl rfl (by omega) (by omega) (fun c22 => ?_) (fun c22 => ?_)
      · show qJ YX12_reading κ _ (qLy u, M6, y) 0 0 53 [some (qR 77), some (qI k), some (qI a), some (qI i)] []
        refine qJ.run hκ 1 (pc' := 54) (ls' := [some (qR 77), some (qI k), some (qI a), some (qI i)]) (st' := [qI (-1)]) rfl ?_
        exact qJ.iret hκ rfl rfl (by decide) (by decide) (by
      refine ⟨M6, ?_, rfl, v17_1.1⟩
      rw [rdg_e, v17_2.1]
      show _ = some (qI (wdO m R a))
      unfold wdO
      rw [if_pos (by rw [show nS m = i.toNat by omega]; exact v17_3)])
      · show qJ YX12_reading κ _ (qLy u, M6, y) 0 0 25 [some (qR 77), some (qI k), some (qI a), some (qI i)] []
        have e9 : M6 119 i.toNat = sN m i.toNat := v17_1.2.2.1.1 i.toNat (by omega)
        have s9 := sN_at (m := m) (i := i.toNat) (by omega)
        have rm := (LVr_mem (kth_mem v17_2.1)).2 i.toNat (by omega)
        have r1 : M6 121 i.toNat = R i.toNat := v17_2.2 i.toNat (by omega)
        have nc := (nC_le hR).1
        refine qJ.run hκ 3 (pc' := 30) (ls' := [some (qR 77), some (qI k), some (qI a), some (qI i)]) (st' := [qI i, qR 119]) rfl ?_
        refine qJ.ald hκ rfl rfl rfl (by decide) (by omega) ?_
        show qJ YX12_reading κ _ (qLy u, M6, y) 0 0 31 [some (qR 77), some (qI k), some (qI a), some (qI i)] [qI (M6 119 i.toNat)]
        refine qJ.run hκ 1 (pc' := 32) (ls' := [some (qR 77), some (qI k), some (qI a), some (qI i)]) (st' := [qI a, qI (M6 119 i.toNat)]) rfl ?_
        refine qJ.icmp_ne hκ (tgt := 47) rfl rfl (by omega) (by omega) (fun c32 => ?_) (fun c32 => ?_)
        · show qJ YX12_reading κ _ (qLy u, M6, y) 0 0 47 [some (qR 77), some (qI k), some (qI a), some (qI i)] []
          refine qJ.run hκ 2 (pc' := 17) (ls' := [some (qR 77), some (qI k), some (qI a), some (qI (i + 1))]) (st' := []) rfl ?_
          exact ih17  (i + 1) M6 R (by omega) (v17_1) (v17_2) (q_fst_no v17_0.1 v17_3 (fun z => c32 (e9.trans z))) (by omega)
        · show qJ YX12_reading κ _ (qLy u, M6, y) 0 0 35 [some (qR 77), some (qI k), some (qI a), some (qI i)] []
          refine qJ.run hκ 5 (pc' := 44) (ls' := [some (qR 77), some (qI k), some (qI a), some (qI i)]) (st' := [qI i, qR 121, qR 120]) rfl ?_
          refine qJ.ald hκ rfl rfl rfl (by decide) (by omega) ?_
          show qJ YX12_reading κ _ (qLy u, M6, y) 0 0 45 [some (qR 77), some (qI k), some (qI a), some (qI i)] [qI (M6 121 i.toNat), qR 120]
          refine qJ.ald hκ rfl rfl rfl (by decide) (by omega) ?_
          show qJ YX12_reading κ _ (qLy u, M6, y) 0 0 46 [some (qR 77), some (qI k), some (qI a), some (qI i)] [qI (M6 120 ((M6 121 i.toNat).toNat))]
          exact qJ.iret hκ rfl rfl (by decide) (by decide) (by
      refine ⟨M6, ?_, rfl, v17_1.1⟩
      rw [rdg_e, v17_2.1]
      have h := q_fst_hit (p := fun e => sN m e = a) v17_0.1 v17_3 (e9.symm.trans c32) (nS m) (by omega)
      show _ = some (qI (wdO m R a))
      unfold wdO
      rw [h, if_neg (by omega), r1, v17_1.2.2.1.2 _ rm.2])
  show qJ YX12_reading κ _ (qLy u, m, y) 0 0 0 [some (qR 77), some (qI k), some (qI a), none] []
  refine qJ.run hκ 2 (pc' := 2) (ls' := [some (qR 77), some (qI k), some (qI a), none]) (st' := [qI 0, qR 77]) rfl ?_
  refine qJ.putI hκ rfl rfl rfl rfl (Or.inl rfl) ?_
  show qJ YX12_reading κ _ (qLy u, (q_up m 77 0 0), y) 0 0 5 [some (qR 77), some (qI k), some (qI a), none] []
  refine qJ.run hκ 2 (pc' := 7) (ls' := [some (qR 77), some (qI k), some (qI a), none]) (st' := [qI k, qR 77]) rfl ?_
  refine qJ.callV (As := [qI k]) (rest := []) hκ rfl kX12_383 (m_goTo u m (q_up m 77 0 0) y k hR hX hl (keep_up (by rfl)) (by omega)) rfl rfl (by decide) rfl rfl (Nat.le_of_ble_eq_true rfl) (Nat.le_of_ble_eq_true rfl) (Nat.le_of_ble_eq_true rfl) (Or.inl (fun r h' e => by obtain ⟨zg, m6, rfl, rfl, hm6, hD, HG⟩ := e; rfl)) (fun r h' e => ?_)
  obtain ⟨zg, m6, rfl, rfl, hm6, hD, HG⟩ := e
  have zr : zg = 0 ∨ zg = 1 := by rcases HG with q | q; (left; exact q.1); (right; exact q.1)
  show qJ YX12_reading κ _ (qLy u, m6, y) 0 0 10 [some (qR 77), some (qI k), some (qI a), none] [qI zg]
  refine qJ.if_ne hκ (tgt := 15) rfl rfl (by omega) (fun c10 => ?_) (fun c10 => ?_)
  · show qJ YX12_reading κ _ (qLy u, m6, y) 0 0 15 [some (qR 77), some (qI k), some (qI a), none] []
    have YG : ∃ R, kth m k = some R ∧ (∀ e : Nat, e < 5 → m6 121 e = R e) ∧ ∀ s : Nat, s < 20 → m6 122 s = VM (DD m) R (nS m) s := by rcases HG with q | q; (have := q.1; omega); (exact q.2)
    clear HG
    obtain ⟨R, g1, g2, g3⟩ := YG
    have ns := nS_le m
    refine qJ.run hκ 2 (pc' := 17) (ls' := [some (qR 77), some (qI k), some (qI a), some (qI 0)]) (st' := []) rfl ?_
    exact L17 6 0 m6 R (by omega) (hm6) (⟨g1, g2⟩) (rfl) (by omega)
  · show qJ YX12_reading κ _ (qLy u, m6, y) 0 0 13 [some (qR 77), some (qI k), some (qI a), none] []
    have NG : kth m k = none := by rcases HG with q | q; (exact q.2); (have := q.1; omega)
    refine qJ.run hκ 1 (pc' := 14) (ls' := [some (qR 77), some (qI k), some (qI a), none]) (st' := [qI (-1)]) rfl ?_
    exact qJ.iret hκ rfl rfl (by decide) (by decide) (⟨m6, by rw [rdg_e, NG], rfl, hm6.1⟩)

set_option maxRecDepth 100000 in
theorem m_value (u : qU) (m y : qM) (k s : Int) (hR : rC m) (hX : rXn m) (hl : rXl m) (h1 : qr k) (h2 : qr s) : qCt YX12_value 7 0 0 [qR 77, qI k, qI s] (qLy u, m, y) (fun r h => ∃ m', r = some (qI (ansVal m k s)) ∧ h = (qLy u, m', y) ∧ keep kObs m' = keep kObs m) := by
  refine qCt.intro okX12_value (Nat.le_of_ble_eq_true rfl) (fun κ hκ => ?_)
  show qJ YX12_value κ _ (qLy u, m, y) 0 0 0 [some (qR 77), some (qI k), some (qI s)] []
  refine qJ.run hκ 2 (pc' := 2) (ls' := [some (qR 77), some (qI k), some (qI s)]) (st' := [qI 0, qR 77]) rfl ?_
  refine qJ.putI hκ rfl rfl rfl rfl (Or.inl rfl) ?_
  show qJ YX12_value κ _ (qLy u, (q_up m 77 0 0), y) 0 0 5 [some (qR 77), some (qI k), some (qI s)] []
  refine qJ.run hκ 1 (pc' := 6) (ls' := [some (qR 77), some (qI k), some (qI s)]) (st' := [qI s]) rfl ?_
  refine qJ.callS (As := [qI s]) (rest := []) hκ rfl kX12_171 (c_mIsSign u (q_up m 77 0 0) y s (by omega)) (by decide) rfl rfl (Nat.le_of_ble_eq_true rfl) (Nat.le_of_ble_eq_true rfl) (Nat.le_of_ble_eq_true rfl) (Or.inl (fun r h' e => by obtain ⟨z6, rfl, hz6, rfl⟩ := e; rfl)) (fun r h' e => ?_)
  obtain ⟨z6, rfl, hz6, rfl⟩ := e
  show qJ YX12_value κ _ (qLy u, (q_up m 77 0 0), y) 0 0 9 [some (qR 77), some (qI k), some (qI s)] [qI z6]
  refine qJ.if_eq hκ (tgt := 29) rfl rfl (by omega) (fun c9 => ?_) (fun c9 => ?_)
  · show qJ YX12_value κ _ (qLy u, (q_up m 77 0 0), y) 0 0 29 [some (qR 77), some (qI k), some (qI s)] []
    refine qJ.run hκ 1 (pc' := 30) (ls' := [some (qR 77), some (qI k), some (qI s)]) (st' := [qI (-1)]) rfl ?_
    exact qJ.iret hκ rfl rfl (by decide) (by decide) (⟨_, by unfold ansVal; rw [if_neg (fun z => by omega)], rfl, keep_up (by rfl)⟩)
  · show qJ YX12_value κ _ (qLy u, (q_up m 77 0 0), y) 0 0 12 [some (qR 77), some (qI k), some (qI s)] []
    refine qJ.run hκ 2 (pc' := 14) (ls' := [some (qR 77), some (qI k), some (qI s)]) (st' := [qI k, qR 77]) rfl ?_
    refine qJ.callV (As := [qI k]) (rest := []) hκ rfl kX12_383 (m_goTo u m (q_up m 77 0 0) y k hR hX hl (keep_up (by rfl)) (by omega)) rfl rfl (by decide) rfl rfl (Nat.le_of_ble_eq_true rfl) (Nat.le_of_ble_eq_true rfl) (Nat.le_of_ble_eq_true rfl) (Or.inl (fun r h' e => by obtain ⟨zg, m6, rfl, rfl, hm6, hD, HG⟩ := e; rfl)) (fun r h' e => ?_)
    obtain ⟨zg, m6, rfl, rfl, hm6, hD, HG⟩ := e
    have zr : zg = 0 ∨ zg = 1 := by rcases HG with q | q; (left; exact q.1); (right; exact q.1)
    show qJ YX12_value κ _ (qLy u, m6, y) 0 0 17 [some (qR 77), some (qI k), some (qI s)] [qI zg]
    refine qJ.if_eq hκ (tgt := 29) rfl rfl (by omega) (fun c17 => ?_) (fun c17 => ?_)
    · show qJ YX12_value κ _ (qLy u, m6, y) 0 0 29 [some (qR 77), some (qI k), some (qI s)] []
      have NG : kth m k = none := by rcases HG with q | q; (exact q.2); (have := q.1; omega)
      refine qJ.run hκ 1 (pc' := 30) (ls' := [some (qR 77), some (qI k), some (qI s)]) (st' := [qI (-1)]) rfl ?_
      exact qJ.iret hκ rfl rfl (by decide) (by decide) (⟨m6, by unfold ansVal; rw [if_pos (by omega), NG], rfl, hm6.1⟩)
    · show qJ YX12_value κ _ (qLy u, m6, y) 0 0 20 [some (qR 77), some (qI k), some (qI s)] []
      have YG : ∃ R, kth m k = some R ∧ (∀ e : Nat, e < 5 → m6 121 e = R e) ∧ ∀ s : Nat, s < 20 → m6 122 s = VM (DD m) R (nS m) s := by rcases HG with q | q; (have := q.1; omega); (exact q.2)
      clear HG
      obtain ⟨R, g1, g2, g3⟩ := YG
      refine qJ.run hκ 3 (pc' := 25) (ls' := [some (qR 77), some (qI k), some (qI s)]) (st' := [qI s, qR 122]) rfl ?_
      refine qJ.ald hκ rfl rfl rfl (by decide) (by omega) ?_
      show qJ YX12_value κ _ (qLy u, m6, y) 0 0 26 [some (qR 77), some (qI k), some (qI s)] [qI (m6 122 s.toNat)]
      refine qJ.run hκ 1 (pc' := 30) (ls' := [some (qR 77), some (qI k), some (qI s)]) (st' := [qI (m6 122 s.toNat)]) rfl ?_
      exact qJ.iret hκ rfl rfl (by decide) (by decide) (⟨m6, by unfold ansVal; rw [if_pos (by omega), g1]; exact congrArg (fun x => some (qI x)) (g3 s.toNat (by omega)), rfl, hm6.1⟩)

set_option maxRecDepth 100000 in
theorem m_sure (u : qU) (m y : qM) (s : Int) (hR : rC m) (hX : rXn m) (hl : rXl m) (h1 : qr s) : qCt YX12_sure 6 0 0 [qR 77, qI s] (qLy u, m, y) (fun r h => ∃ m', r = some (qI (ansSure m s)) ∧ h = (qLy u, m', y) ∧ keep kObs m' = keep kObs m) := by
  refine qCt.intro okX12_sure (Nat.le_of_ble_eq_true rfl) (fun κ hκ => ?_)
  have L21 : ∀ (n : Nat) (v : Int) (M6 : qM) (L : List (Nat → Int)), (itS m M6 L) → (mSf (DD m) (nS m) s.toNat v L = mSf (DD m) (nS m) s.toNat (-2) (RLm m)) → (dOk (DD m)) → (0 ≤ s ∧ s ≤ 19) → (-2 ≤ v ∧ v ≤ 27) → (∀ R, R ∈ L → R ∈ RLm m) → (L.length) < n → qJ YX12_sure κ (qFin (fun r h => ∃ m', r = some (qI (ansSure m s)) ∧ h = (qLy u, m', y) ∧ keep kObs m' = keep kObs m) 0 0 κ) (qLy u, M6, y) 0 0 21 [some (qR 77), some (qI s), some (qI v), none] [] := by
    intro n
    induction n with
    | zero => intro v M6 L _ _ _ _ _ _ hz0; omega
    | succ n ih21 =>
      intro v M6 L v21_0 v21_1 v21_2 v21_3 v21_4 v21_5 v21_m
      refine qJ.run hκ 1 (pc' := 22) (ls' := [some (qR 77), some (qI s), some (qI v), none]) (st' := [qR 77]) rfl ?_
      refine qJ.callV (As := []) (rest := []) hκ rfl kX12_380 (m_nextR u m M6 y L hR hX (rX_lxS hl) v21_2 v21_0) rfl rfl (by decide) rfl rfl (Nat.le_of_ble_eq_true rfl) (Nat.le_of_ble_eq_true rfl) (Nat.le_of_ble_eq_true rfl) (Or.inl (fun r h' e => by obtain ⟨z22, m7, rfl, rfl, K7, H7⟩ := e; rfl)) (fun r h' e => ?_)
      obtain ⟨z22, m7, rfl, rfl, K7, H7⟩ := e
      have zr : z22 = 0 ∨ z22 = 1 := by rcases H7 with q | q; (left; exact q.1); (right; exact q.1)
      show qJ YX12_sure κ _ (qLy u, m7, y) 0 0 25 [some (qR 77), some (qI s), some (qI v), none] [qI z22]
      refine qJ.if_eq hκ (tgt := 55) rfl rfl (by omega) (fun c25 => ?_) (fun c25 => ?_)
      · show qJ YX12_sure κ _ (qLy u, m7, y) 0 0 55 [some (qR 77), some (qI s), some (qI v), none] []
        have Z7 : L = [] ∧ itS m m7 [] := by rcases H7 with q | q; (exact q.2); (have := q.1; omega)
        clear H7
        refine qJ.run hκ 2 (pc' := 58) (ls' := [some (qR 77), some (qI s), some (qI v), none]) (st' := [qI (-2), qI v]) rfl ?_
        refine qJ.icmp_ne hκ (tgt := 65) rfl rfl (by omega) (by omega) (fun c58 => ?_) (fun c58 => ?_)
        · show qJ YX12_sure κ _ (qLy u, m7, y) 0 0 65 [some (qR 77), some (qI s), some (qI v), none] []
          refine qJ.run hκ 1 (pc' := 66) (ls' := [some (qR 77), some (qI s), some (qI v), none]) (st' := [qI v]) rfl ?_
          exact qJ.iret hκ rfl rfl (by decide) (by decide) (by
      refine ⟨m7, ?_, rfl, itS_o Z7.2⟩
      rw [Z7.1] at v21_1
      have v1 : v = mSf (DD m) (nS m) s.toNat (-2) (RLm m) := v21_1
      unfold ansSure
      rw [if_pos v21_3, ← sure_e v21_2 (by omega), ← v1]
      rw [if_neg (by omega)])
        · show qJ YX12_sure κ _ (qLy u, m7, y) 0 0 61 [some (qR 77), some (qI s), some (qI v), none] []
          refine qJ.run hκ 2 (pc' := 66) (ls' := [some (qR 77), some (qI s), some (qI v), none]) (st' := [qI (-1)]) rfl ?_
          exact qJ.iret hκ rfl rfl (by decide) (by decide) (by
      refine ⟨m7, ?_, rfl, itS_o Z7.2⟩
      rw [Z7.1] at v21_1
      have v1 : v = mSf (DD m) (nS m) s.toNat (-2) (RLm m) := v21_1
      unfold ansSure
      rw [if_pos v21_3, ← sure_e v21_2 (by omega), ← v1]
      rw [if_pos (by omega)])
      · show qJ YX12_sure κ _ (qLy u, m7, y) 0 0 28 [some (qR 77), some (qI s), some (qI v), none] []
        have Y7 : ∃ R L', L = R :: L' ∧ itS m m7 L' ∧ (∀ e : Nat, e < 5 → m7 121 e = R e) ∧ ∀ s : Nat, s < 20 → m7 122 s = VM (DD m) R (nS m) s := by rcases H7 with q | q; (have := q.1; omega); (exact q.2)
        clear H7
        obtain ⟨R, L', y1, y2, y3, y4⟩ := Y7
        have e3 := y4 s.toNat (by omega)
        have vr := VM_l v21_2 (v21_5 R (by rw [y1]; exact List.mem_cons_self)) s.toNat (by omega)
        have ml : L'.length < L.length := by rw [y1, List.length_cons]; omega
        have mi : ∀ R, R ∈ L' → R ∈ RLm m := fun R h => v21_5 R (by rw [y1]; exact List.mem_cons_of_mem _ h)
        rw [y1] at v21_1
        refine qJ.run hκ 3 (pc' := 33) (ls' := [some (qR 77), some (qI s), some (qI v), none]) (st' := [qI s, qR 122]) rfl ?_
        refine qJ.ald hκ rfl rfl rfl (by decide) (by omega) ?_
        show qJ YX12_sure κ _ (qLy u, m7, y) 0 0 34 [some (qR 77), some (qI s), some (qI v), none] [qI (m7 122 s.toNat)]
        refine qJ.run hκ 3 (pc' := 38) (ls' := [some (qR 77), some (qI s), some (qI v), some (qI (m7 122 s.toNat))]) (st' := [qI (-2), qI v]) rfl ?_
        refine qJ.icmp_eq hκ (tgt := 46) rfl rfl (by omega) (by omega) (fun c38 => ?_) (fun c38 => ?_)
        · show qJ YX12_sure κ _ (qLy u, m7, y) 0 0 46 [some (qR 77), some (qI s), some (qI v), some (qI (m7 122 s.toNat))] []
          refine qJ.run hκ 4 (pc' := 21) (ls' := [some (qR 77), some (qI s), some (qI (m7 122 s.toNat)), some (qI (m7 122 s.toNat))]) (st' := []) rfl ?_
          refine qJ.dl [true, true, true, false] ?_
          show qJ YX12_sure κ _ (qLy u, m7, y) 0 0 21 [some (qR 77), some (qI s), some (qI (m7 122 s.toNat)), none] []
          exact ih21  (m7 122 s.toNat) m7 L' (y2) (by rw [← v21_1]; show _ = mSf (DD m) (nS m) s.toNat (if v = -2 ∨ v = VM (DD m) R (nS m) s.toNat then VM (DD m) R (nS m) s.toNat else -1) L'; rw [if_pos (Or.inl c38), e3]) (v21_2) (v21_3) (by omega) (mi) (by omega)
        · show qJ YX12_sure κ _ (qLy u, m7, y) 0 0 41 [some (qR 77), some (qI s), some (qI v), some (qI (m7 122 s.toNat))] []
          refine qJ.run hκ 2 (pc' := 43) (ls' := [some (qR 77), some (qI s), some (qI v), some (qI (m7 122 s.toNat))]) (st' := [qI (m7 122 s.toNat), qI v]) rfl ?_
          refine qJ.icmp_ne hκ (tgt := 50) rfl rfl (by omega) (by omega) (fun c43 => ?_) (fun c43 => ?_)
          · show qJ YX12_sure κ _ (qLy u, m7, y) 0 0 50 [some (qR 77), some (qI s), some (qI v), some (qI (m7 122 s.toNat))] []
            refine qJ.run hκ 3 (pc' := 21) (ls' := [some (qR 77), some (qI s), some (qI (-1)), some (qI (m7 122 s.toNat))]) (st' := []) rfl ?_
            refine qJ.dl [true, true, true, false] ?_
            show qJ YX12_sure κ _ (qLy u, m7, y) 0 0 21 [some (qR 77), some (qI s), some (qI (-1)), none] []
            exact ih21  (-1) m7 L' (y2) (by rw [← v21_1]; show _ = mSf (DD m) (nS m) s.toNat (if v = -2 ∨ v = VM (DD m) R (nS m) s.toNat then VM (DD m) R (nS m) s.toNat else -1) L'; rw [if_neg (fun z => z.elim c38 (fun w => c43 (w.trans e3.symm)))]) (v21_2) (v21_3) (by omega) (mi) (by omega)
          · show qJ YX12_sure κ _ (qLy u, m7, y) 0 0 46 [some (qR 77), some (qI s), some (qI v), some (qI (m7 122 s.toNat))] []
            refine qJ.run hκ 4 (pc' := 21) (ls' := [some (qR 77), some (qI s), some (qI (m7 122 s.toNat)), some (qI (m7 122 s.toNat))]) (st' := []) rfl ?_
            refine qJ.dl [true, true, true, false] ?_
            show qJ YX12_sure κ _ (qLy u, m7, y) 0 0 21 [some (qR 77), some (qI s), some (qI (m7 122 s.toNat)), none] []
            exact ih21  (m7 122 s.toNat) m7 L' (y2) (by rw [← v21_1]; show _ = mSf (DD m) (nS m) s.toNat (if v = -2 ∨ v = VM (DD m) R (nS m) s.toNat then VM (DD m) R (nS m) s.toNat else -1) L'; rw [if_pos (Or.inr (c43.trans e3)), e3]) (v21_2) (v21_3) (by omega) (mi) (by omega)
  show qJ YX12_sure κ _ (qLy u, m, y) 0 0 0 [some (qR 77), some (qI s), none, none] []
  refine qJ.run hκ 2 (pc' := 2) (ls' := [some (qR 77), some (qI s), none, none]) (st' := [qI 0, qR 77]) rfl ?_
  refine qJ.putI hκ rfl rfl rfl rfl (Or.inl rfl) ?_
  show qJ YX12_sure κ _ (qLy u, (q_up m 77 0 0), y) 0 0 5 [some (qR 77), some (qI s), none, none] []
  refine qJ.run hκ 1 (pc' := 6) (ls' := [some (qR 77), some (qI s), none, none]) (st' := [qI s]) rfl ?_
  refine qJ.callS (As := [qI s]) (rest := []) hκ rfl kX12_171 (c_mIsSign u (q_up m 77 0 0) y s (by omega)) (by decide) rfl rfl (Nat.le_of_ble_eq_true rfl) (Nat.le_of_ble_eq_true rfl) (Nat.le_of_ble_eq_true rfl) (Or.inl (fun r h' e => by obtain ⟨z6, rfl, hz6, rfl⟩ := e; rfl)) (fun r h' e => ?_)
  obtain ⟨z6, rfl, hz6, rfl⟩ := e
  show qJ YX12_sure κ _ (qLy u, (q_up m 77 0 0), y) 0 0 9 [some (qR 77), some (qI s), none, none] [qI z6]
  refine qJ.if_ne hκ (tgt := 14) rfl rfl (by omega) (fun c9 => ?_) (fun c9 => ?_)
  · show qJ YX12_sure κ _ (qLy u, (q_up m 77 0 0), y) 0 0 14 [some (qR 77), some (qI s), none, none] []
    refine qJ.run hκ 1 (pc' := 15) (ls' := [some (qR 77), some (qI s), none, none]) (st' := [qR 77]) rfl ?_
    refine qJ.callV (As := []) (rest := []) hκ rfl kX12_377 (m_startR u m (q_up m 77 0 0) y hR hX hl (keep_up (by rfl))) rfl rfl (by decide) rfl rfl (Nat.le_of_ble_eq_true rfl) (Nat.le_of_ble_eq_true rfl) (Nat.le_of_ble_eq_true rfl) (Or.inl (fun r h' e => by obtain ⟨rfl, m5, rfl, K5, I5, hD⟩ := e; rfl)) (fun r h' e => ?_)
    obtain ⟨rfl, m5, rfl, K5, I5, hD⟩ := e
    show qJ YX12_sure κ _ (qLy u, m5, y) 0 0 18 [some (qR 77), some (qI s), none, none] []
    refine qJ.run hκ 2 (pc' := 21) (ls' := [some (qR 77), some (qI s), some (qI (-2)), none]) (st' := []) rfl ?_
    exact L21 ((RLm m).length + 1) (-2) m5 (RLm m) (I5) (rfl) (hD) (by omega) (by omega) (fun R h => h) (by omega)
  · show qJ YX12_sure κ _ (qLy u, (q_up m 77 0 0), y) 0 0 12 [some (qR 77), some (qI s), none, none] []
    refine qJ.run hκ 1 (pc' := 13) (ls' := [some (qR 77), some (qI s), none, none]) (st' := [qI (-1)]) rfl ?_
    exact qJ.iret hκ rfl rfl (by decide) (by decide) (⟨_, by unfold ansSure; rw [if_neg (fun z => by omega)], rfl, keep_up (by rfl)⟩)

/-! printed by p100.py: next of the model -/
/-- whose word it is in a reading; 5 if it is nobody's -/
def whoF (R : Nat → Int) (c : Int) : Nat → Int
  | 0 => 5
  | i + 1 => if R i = c then (i : Int) else whoF R c i
theorem whoF_r {R : Nat → Int} {c : Int} : ∀ n : Nat, n ≤ 5 → 0 ≤ whoF R c n ∧ whoF R c n ≤ 5
  | 0, _ => by show (0 : Int) ≤ 5 ∧ (5 : Int) ≤ 5; omega
  | n + 1, h => by
    have := whoF_r (R := R) (c := c) n (by omega)
    unfold whoF
    split <;> omega
def dsR (R : Nat → Int) (n : Nat) : Prop := ∀ i j, i < j → j < n → ¬ R i = R j
theorem whoF_5 {R : Nat → Int} {c : Int} : ∀ n : Nat, n ≤ 5 → (∀ i, i < n → ¬ R i = c) → whoF R c n = 5
  | 0, _, _ => rfl
  | n + 1, h, hn => by
    unfold whoF
    rw [if_neg (hn n (by omega))]
    exact whoF_5 n (by omega) (fun i hi => hn i (by omega))
theorem whoF_i {R : Nat → Int} {c : Int} : ∀ n : Nat, n ≤ 5 → dsR R n → ∀ i : Nat, i < n → (whoF R c n = (i : Int) ↔ R i = c)
  | 0, _, _, i, hi => absurd hi (Nat.not_lt_zero i)
  | n + 1, h, hd, i, hi => by
    unfold whoF
    by_cases e : R n = c
    · rw [if_pos e]
      by_cases g : i = n
      · rw [g]; exact ⟨fun _ => e, fun _ => rfl⟩
      · exact ⟨fun z => by omega, fun z => absurd (z.trans e.symm) (hd i n (by omega) (by omega))⟩
    · rw [if_neg e]
      by_cases g : i = n
      · rw [g]
        refine ⟨fun z => ?_, fun z => absurd z e⟩
        exfalso
        by_cases x : ∃ j, j < n ∧ R j = c
        · obtain ⟨j, j1, j2⟩ := x
          have := (whoF_i n (by omega) (fun a b ab bn => hd a b ab (by omega)) j j1).mpr j2
          omega
        · have := whoF_5 (R := R) (c := c) n (by omega) (fun j j1 j2 => x ⟨j, j1, j2⟩)
          omega
      · exact whoF_i n (by omega) (fun a b ab bn => hd a b ab (by omega)) i (by omega)
def oFt (n : Nat) (L : List (Nat → Int)) (c i : Int) : Int := (L.countP (fun R => decide (whoF R c n = i)) : Nat)
theorem oFt_i {n : Nat} (hn : n ≤ 5) {L : List (Nat → Int)} (hL : ∀ R, R ∈ L → dsR R n) {c : Int} {i : Nat} (hi : i < n) : oFt n L c (i : Int) = hC L i c := by
  unfold oFt hC
  congr 1
  exact List.countP_congr fun R hR => by
    rw [decide_eq_true_eq, decide_eq_true_eq]
    exact whoF_i n hn (hL R hR) i hi
theorem oFt_0 {n : Nat} (hn : n ≤ 5) {L : List (Nat → Int)} {c : Int} {i : Nat} (h1 : n ≤ i) (h2 : i < 5) : oFt n L c (i : Int) = 0 := by
  unfold oFt
  rw [List.countP_eq_zero.mpr (fun R hR z => ?_)]
  · rfl
  · have z2 := of_decide_eq_true z
    have k : ∀ m : Nat, m ≤ n → whoF R c m = 5 ∨ whoF R c m < (m : Int) := by
      intro m
      induction m with
      | zero => intro _; exact Or.inl rfl
      | succ m ih =>
        intro hm
        have := ih (by omega)
        unfold whoF
        by_cases e : R m = c
        · rw [if_pos e]; omega
        · rw [if_neg e]; omega
    have := k n (Nat.le_refl n)
    omega
/-- how often a word stands in a reading -/
def sO1 (R : Nat → Int) (c : Int) : Nat → Int
  | 0 => 0
  | i + 1 => sO1 R c i + (if R i = c then 1 else 0)
theorem smH_c {R : Nat → Int} {L : List (Nat → Int)} {c : Int} : ∀ n, smH (R :: L) c n = smH L c n + sO1 R c n
  | 0 => rfl
  | n + 1 => by
    show smH (R :: L) c n + hC (R :: L) n c = smH L c n + hC L n c + (sO1 R c n + (if R n = c then 1 else 0))
    rw [smH_c n]
    have : hC (R :: L) n c = hC L n c + (if R n = c then 1 else 0) := by
      unfold hC
      rw [List.countP_cons]
      by_cases e : R n = c
      · rw [if_pos e, if_pos (decide_eq_true e)]; omega
      · rw [if_neg e, if_neg (fun z => e (of_decide_eq_true z))]; omega
    omega
theorem sO1_w {R : Nat → Int} {c : Int} : ∀ n : Nat, n ≤ 5 → dsR R n → sO1 R c n + (if whoF R c n = 5 then 1 else 0) = 1
  | 0, _, _ => rfl
  | n + 1, h, hd => by
    have ih := sO1_w (R := R) (c := c) n (by omega) (fun a b ab bn => hd a b ab (by omega))
    show sO1 R c n + (if R n = c then 1 else 0) + (if (if R n = c then (n : Int) else whoF R c n) = 5 then 1 else 0) = 1
    by_cases e : R n = c
    · have w5 := whoF_5 (R := R) (c := c) n (by omega) (fun j j1 j2 => hd j n j1 (by omega) (j2.trans e.symm))
      rw [if_pos w5] at ih
      rw [if_pos e, if_pos e, if_neg (by omega)]
      omega
    · rw [if_neg e, if_neg e]
      omega
theorem oFt_5 {n : Nat} (hn : n ≤ 5) {c : Int} : ∀ L : List (Nat → Int), (∀ R, R ∈ L → dsR R n) → oFt n L c 5 = (L.length : Nat) - smH L c n
  | [], _ => by
    have : smH [] c n = 0 := by
      have k : ∀ n, smH [] c n = 0 := fun n => by
        induction n with
        | zero => rfl
        | succ n ih => show smH [] c n + 0 = 0; rw [ih]; rfl
      exact k n
    rw [this]; rfl
  | R :: L, h => by
    have ih := oFt_5 hn (c := c) L (fun R' hR => h R' (List.mem_cons_of_mem _ hR))
    have s := sO1_w (R := R) (c := c) n hn (h R List.mem_cons_self)
    rw [smH_c, List.length_cons]
    have e : oFt n (R :: L) c 5 = oFt n L c 5 + (if whoF R c n = 5 then 1 else 0) := by
      unfold oFt
      rw [List.countP_cons]
      by_cases e : whoF R c n = 5
      · rw [if_pos e, if_pos (decide_eq_true e)]; omega
      · rw [if_neg e, if_neg (fun z => e (of_decide_eq_true z))]; omega
    omega
theorem oFt_app (n : Nat) (A B : List (Nat → Int)) (c i : Int) : oFt n (A ++ B) c i = oFt n A c i + oFt n B c i := by unfold oFt; rw [List.countP_append]; omega
theorem oFt_one {n : Nat} {R : Nat → Int} {c i : Int} : oFt n [R] c i = if whoF R c n = i then 1 else 0 := by
  unfold oFt
  rw [List.countP_cons]
  by_cases e : whoF R c n = i
  · rw [if_pos e, if_pos (decide_eq_true e)]; rfl
  · rw [if_neg e, if_neg (fun z => e (of_decide_eq_true z))]; rfl
/-- the greatest of the first i counts -/
def wFt (n : Nat) (L : List (Nat → Int)) (c : Int) : Nat → Int
  | 0 => 0
  | i + 1 => max (wFt n L c i) (oFt n L c (i : Int))
theorem wFt_m {n : Nat} (hn : n ≤ 5) {L : List (Nat → Int)} (hL : ∀ R, R ∈ L → dsR R n) {c : Int} : ∀ i : Nat, i ≤ 5 → wFt n L c i = mxH L c (min i n)
  | 0, _ => by rw [Nat.zero_min]; rfl
  | i + 1, h => by
    have ih := wFt_m hn hL (c := c) i (by omega)
    show max (wFt n L c i) (oFt n L c (i : Int)) = _
    rw [ih]
    by_cases e : i < n
    · rw [oFt_i hn hL e, show min (i + 1) n = i + 1 by omega, show min i n = i by omega]
      rfl
    · rw [oFt_0 hn (by omega) (by omega), show min (i + 1) n = n by omega, show min i n = n by omega]
      have := (mxH_r (L := L) (j := c) n).1
      omega
theorem wFt_6 {n : Nat} (hn : n ≤ 5) {L : List (Nat → Int)} (hL : ∀ R, R ∈ L → dsR R n) {c : Int} : wFt n L c 6 = gLf L n c := by
  show max (wFt n L c 5) (oFt n L c 5) = _
  rw [wFt_m hn hL 5 (by decide), oFt_5 hn L hL, show min 5 n = n by omega]
  rfl
theorem dsR_m {m : qM} {R : Nat → Int} (h : R ∈ RLm m) : dsR R (nS m) := by
  unfold RLm at h
  by_cases c : gB m (nT m) ∨ nS m = 0
  · rw [if_pos c] at h; exact absurd h List.not_mem_nil
  · rw [if_neg c] at h
    intro i j ij jn
    exact ((LV_mem (nS m) 0 _ h).2.1 j (Nat.zero_le j) (by omega)).2.1 i ij
theorem bst_1 {L : List (Nat → Int)} {n : Nat} {cw : Nat → Int} : ∀ k, (∀ j, j < k → 0 ≤ cw j) → (bst L n cw k).1 = -1 → (bst L n cw k).2 = -1
  | 0, _, _ => rfl
  | k + 1, h, z => by
    unfold bst at z ⊢
    by_cases c : (bst L n cw k).1 = -1 ∨ gLf L n (k : Int) < (bst L n cw k).2
    · rw [if_pos c] at z
      have z2 : cw k = -1 := z
      have := h k (by omega)
      omega
    · rw [if_neg c] at z
      exact absurd (Or.inl z) c
theorem oFt_r (n : Nat) (L : List (Nat → Int)) (c i : Int) : 0 ≤ oFt n L c i ∧ oFt n L c i ≤ (L.length : Nat) := by
  unfold oFt
  have := List.countP_le_length (p := fun R : Nat → Int => decide (whoF R c n = i)) (l := L)
  omega
theorem wFt_r {n : Nat} {L : List (Nat → Int)} {c : Int} : ∀ i, 0 ≤ wFt n L c i ∧ wFt n L c i ≤ (L.length : Nat)
  | 0 => ⟨Int.le_refl 0, Int.natCast_nonneg _⟩
  | i + 1 => by
    have a := wFt_r (n := n) (L := L) (c := c) i
    have b := oFt_r n L c (i : Int)
    show 0 ≤ max (wFt n L c i) (oFt n L c (i : Int)) ∧ max (wFt n L c i) (oFt n L c (i : Int)) ≤ _
    omega
/-- often holds the counts of A -/
def ofS (m M : qM) (A : List (Nat → Int)) (k : Int) (R : Nat → Int) : Prop := ∀ c : Nat, c < nC m → ∀ i : Nat, i < 6 → M 123 (6 * c + i) = oFt (nS m) A (c : Int) (i : Int) + (if (c : Int) < k ∧ whoF R (c : Int) (nS m) = (i : Int) then 1 else 0)

set_option maxRecDepth 100000 in
theorem m_next (u : qU) (m y : qM) (w : Int) (hR : rC m) (hX : rXn m) (hl : rXl m) (h1 : qr w) : qCt YX12_next 6 0 0 [qR 77, qI w] (qLy u, m, y) (fun r h => ∃ m', r = some (qI (ansNxt m w)) ∧ h = (qLy u, m', y) ∧ keep kObs m' = keep kObs m) := by
  refine qCt.intro okX12_next (Nat.le_of_ble_eq_true rfl) (fun κ hκ => ?_)
  have ns := nS_le m
  have nc := (nC_le hR).1
  have cwr : ∀ j : Nat, j < nC m → 0 ≤ cW m j ∧ cW m j ≤ 60 := fun j hj => by have := cW_at hj; have := nW_le hR.1; have := hR.1.1.1; omega
  have L137 : ∀ (n : Nat) (c : Int) (b : Int) (e : Int) (M6 : qM) (k : Int), (0 ≤ c ∧ c ≤ (nC m : Int)) → (mR m M6) → (ofS m M6 (RLm m) 0 (fun _ => -1)) → (k = ((RLm m).length : Nat) ∧ (RLm m).length ≤ 248832) → (b = (bst (RLm m) (nS m) (cW m) c.toNat).1 ∧ (b = -1 ∨ e = (bst (RLm m) (nS m) (cW m) c.toNat).2) ∧ (0 ≤ e ∧ e ≤ 248832)) → (0 ≤ w ∧ w ≤ 1) → (¬ (RLm m).length = 0 ∨ c = 0) → (((nC m : Int) - c).toNat) < n → qJ YX12_next κ (qFin (fun r h => ∃ m', r = some (qI (ansNxt m w)) ∧ h = (qLy u, m', y) ∧ keep kObs m' = keep kObs m) 0 0 κ) (qLy u, M6, y) 0 0 137 [some (qR 77), some (qI w), some (qI k), some (qI b), some (qI e), some (qI c), none, none] [] := by
    intro n
    induction n with
    | zero => intro c b e M6 k _ _ _ _ _ _ _ hz0; omega
    | succ n ih137 =>
      intro c b e M6 k v137_0 v137_1 v137_2 v137_3 v137_4 v137_5 v137_6 v137_m
      have L156 : ∀ (n : Nat) (x : Int) (i : Int), (0 ≤ i ∧ i ≤ 6) → (x = wFt (nS m) (RLm m) c i.toNat) → (c < (nC m : Int) ∧ ¬ (RLm m).length = 0) → ((6 - i).toNat) < n → qJ YX12_next κ (qFin (fun r h => ∃ m', r = some (qI (ansNxt m w)) ∧ h = (qLy u, m', y) ∧ keep kObs m' = keep kObs m) 0 0 κ) (qLy u, M6, y) 0 0 156 [some (qR 77), some (qI w), some (qI k), some (qI b), some (qI e), some (qI c), some (qI x), some (qI i)] [] := by
        intro n
        induction n with
        | zero => intro x i _ _ _ hz0; omega
        | succ n ih156 =>
          intro x i v156_0 v156_1 v156_2 v156_m
          have wr0 := wFt_r (n := nS m) (L := RLm m) (c := c) i.toNat
          have br := bst_r (L := RLm m) (n := nS m) (cw := cW m) ns v137_3.2 c.toNat (fun j hj => cwr j (by omega))
          have k56 : M6 77 56 = (nC m : Int) := v137_1.2.1.2
          refine qJ.run hκ 2 (pc' := 160) (ls' := [some (qR 77), some (qI w), some (qI k), some (qI b), some (qI e), some (qI c), some (qI x), some (qI i)]) (st' := [qI 6, qI i]) rfl ?_
          refine qJ.icmp_ge hκ (tgt := 207) rfl rfl (by omega) (by omega) (fun c160 => ?_) (fun c160 => ?_)
          · show qJ YX12_next κ _ (qLy u, M6, y) 0 0 207 [some (qR 77), some (qI w), some (qI k), some (qI b), some (qI e), some (qI c), some (qI x), some (qI i)] []
            have xg : x = gLf (RLm m) (nS m) c := by rw [v156_1, show i.toNat = 6 by omega]; exact wFt_6 ns (fun R hR => dsR_m hR)
            have xr := gLf_r (L := RLm m) (n := nS m) (j := c) ns v137_3.2
            have cwc : M6 120 c.toNat = cW m c.toNat := v137_1.2.2.1.2 c.toNat (by omega)
            have cwr1 := cwr c.toNat (by omega)
            refine qJ.run hκ 2 (pc' := 209) (ls' := [some (qR 77), some (qI w), some (qI k), some (qI b), some (qI e), some (qI c), some (qI x), some (qI i)]) (st' := [qI (-1), qI b]) rfl ?_
            refine qJ.icmp_eq hκ (tgt := 219) rfl rfl (by omega) (by omega) (fun c209 => ?_) (fun c209 => ?_)
            · show qJ YX12_next κ _ (qLy u, M6, y) 0 0 219 [some (qR 77), some (qI w), some (qI k), some (qI b), some (qI e), some (qI c), some (qI x), some (qI i)] []
              refine qJ.run hκ 3 (pc' := 225) (ls' := [some (qR 77), some (qI w), some (qI k), some (qI b), some (qI e), some (qI c), some (qI x), some (qI i)]) (st' := [qI c, qR 120]) rfl ?_
              refine qJ.ald hκ rfl rfl rfl (by decide) (by omega) ?_
              show qJ YX12_next κ _ (qLy u, M6, y) 0 0 226 [some (qR 77), some (qI w), some (qI k), some (qI b), some (qI e), some (qI c), some (qI x), some (qI i)] [qI (M6 120 c.toNat)]
              refine qJ.run hκ 5 (pc' := 137) (ls' := [some (qR 77), some (qI w), some (qI k), some (qI (M6 120 c.toNat)), some (qI x), some (qI (c + 1)), some (qI x), some (qI i)]) (st' := []) rfl ?_
              refine qJ.dl [true, true, true, true, true, true, false, false] ?_
              show qJ YX12_next κ _ (qLy u, M6, y) 0 0 137 [some (qR 77), some (qI w), some (qI k), some (qI (M6 120 c.toNat)), some (qI x), some (qI (c + 1)), none, none] []
              exact ih137  (c + 1) (M6 120 c.toNat) x M6 k (by omega) (v137_1) (v137_2) (v137_3) (⟨by rw [show (c + 1).toNat = c.toNat + 1 by omega]; unfold bst; rw [if_pos (Or.inl (by omega))]; exact cwc, Or.inr (by rw [show (c + 1).toNat = c.toNat + 1 by omega]; unfold bst; rw [if_pos (Or.inl (by omega))]; show x = gLf (RLm m) (nS m) ((c.toNat : Nat) : Int); rw [q_tn v137_0.1]; exact xg), by omega⟩) (v137_5) (by omega) (by omega)
            · show qJ YX12_next κ _ (qLy u, M6, y) 0 0 212 [some (qR 77), some (qI w), some (qI k), some (qI b), some (qI e), some (qI c), some (qI x), some (qI i)] []
              refine qJ.run hκ 2 (pc' := 216) (ls' := [some (qR 77), some (qI w), some (qI k), some (qI b), some (qI e), some (qI c), some (qI x), some (qI i)]) (st' := [qI e, qI x]) rfl ?_
              refine qJ.icmp_ge hκ (tgt := 231) rfl rfl (by omega) (by omega) (fun c216 => ?_) (fun c216 => ?_)
              · show qJ YX12_next κ _ (qLy u, M6, y) 0 0 231 [some (qR 77), some (qI w), some (qI k), some (qI b), some (qI e), some (qI c), some (qI x), some (qI i)] []
                refine qJ.run hκ 2 (pc' := 137) (ls' := [some (qR 77), some (qI w), some (qI k), some (qI b), some (qI e), some (qI (c + 1)), some (qI x), some (qI i)]) (st' := []) rfl ?_
                refine qJ.dl [true, true, true, true, true, true, false, false] ?_
                show qJ YX12_next κ _ (qLy u, M6, y) 0 0 137 [some (qR 77), some (qI w), some (qI k), some (qI b), some (qI e), some (qI (c + 1)), none, none] []
                exact ih137  (c + 1) b e M6 k (by omega) (v137_1) (v137_2) (v137_3) (⟨by rw [show (c + 1).toNat = c.toNat + 1 by omega]; unfold bst; rw [if_neg (fun z => by rw [q_tn v137_0.1] at z; omega)]; exact v137_4.1, by rw [show (c + 1).toNat = c.toNat + 1 by omega]; unfold bst; rw [if_neg (fun z => by rw [q_tn v137_0.1] at z; omega)]; exact v137_4.2.1, v137_4.2.2⟩) (v137_5) (by omega) (by omega)
              · show qJ YX12_next κ _ (qLy u, M6, y) 0 0 219 [some (qR 77), some (qI w), some (qI k), some (qI b), some (qI e), some (qI c), some (qI x), some (qI i)] []
                refine qJ.run hκ 3 (pc' := 225) (ls' := [some (qR 77), some (qI w), some (qI k), some (qI b), some (qI e), some (qI c), some (qI x), some (qI i)]) (st' := [qI c, qR 120]) rfl ?_
                refine qJ.ald hκ rfl rfl rfl (by decide) (by omega) ?_
                show qJ YX12_next κ _ (qLy u, M6, y) 0 0 226 [some (qR 77), some (qI w), some (qI k), some (qI b), some (qI e), some (qI c), some (qI x), some (qI i)] [qI (M6 120 c.toNat)]
                refine qJ.run hκ 5 (pc' := 137) (ls' := [some (qR 77), some (qI w), some (qI k), some (qI (M6 120 c.toNat)), some (qI x), some (qI (c + 1)), some (qI x), some (qI i)]) (st' := []) rfl ?_
                refine qJ.dl [true, true, true, true, true, true, false, false] ?_
                show qJ YX12_next κ _ (qLy u, M6, y) 0 0 137 [some (qR 77), some (qI w), some (qI k), some (qI (M6 120 c.toNat)), some (qI x), some (qI (c + 1)), none, none] []
                exact ih137  (c + 1) (M6 120 c.toNat) x M6 k (by omega) (v137_1) (v137_2) (v137_3) (⟨by rw [show (c + 1).toNat = c.toNat + 1 by omega]; unfold bst; rw [if_pos (Or.inr (by rw [q_tn v137_0.1]; omega))]; exact cwc, Or.inr (by rw [show (c + 1).toNat = c.toNat + 1 by omega]; unfold bst; rw [if_pos (Or.inr (by rw [q_tn v137_0.1]; omega))]; show x = gLf (RLm m) (nS m) ((c.toNat : Nat) : Int); rw [q_tn v137_0.1]; exact xg), by omega⟩) (v137_5) (by omega) (by omega)
          · show qJ YX12_next κ _ (qLy u, M6, y) 0 0 163 [some (qR 77), some (qI w), some (qI k), some (qI b), some (qI e), some (qI c), some (qI x), some (qI i)] []
            have of1 : M6 123 ((6 * c) + i).toNat = oFt (nS m) (RLm m) c i := by
              have h := v137_2 c.toNat (by omega) i.toNat (by omega)
              rw [if_neg (fun z => by have := z.1; omega), q_tn v137_0.1, q_tn v156_0.1] at h
              rw [show ((6 * c) + i).toNat = 6 * c.toNat + i.toNat by omega, h]; omega
            have or1 := oFt_r (nS m) (RLm m) c i
            refine qJ.run hκ 7 (pc' := 175) (ls' := [some (qR 77), some (qI w), some (qI k), some (qI b), some (qI e), some (qI c), some (qI x), some (qI i)]) (st' := [qI ((6 * c) + i), qR 123]) rfl ?_
            refine qJ.ald hκ rfl rfl rfl (by decide) (by omega) ?_
            show qJ YX12_next κ _ (qLy u, M6, y) 0 0 176 [some (qR 77), some (qI w), some (qI k), some (qI b), some (qI e), some (qI c), some (qI x), some (qI i)] [qI (M6 123 (((6 * c) + i).toNat))]
            refine qJ.run hκ 1 (pc' := 178) (ls' := [some (qR 77), some (qI w), some (qI k), some (qI b), some (qI e), some (qI c), some (qI x), some (qI i)]) (st' := [qI x, qI (M6 123 (((6 * c) + i).toNat))]) rfl ?_
            refine qJ.icmp_le hκ (tgt := 197) rfl rfl (by omega) (by omega) (fun c178 => ?_) (fun c178 => ?_)
            · show qJ YX12_next κ _ (qLy u, M6, y) 0 0 197 [some (qR 77), some (qI w), some (qI k), some (qI b), some (qI e), some (qI c), some (qI x), some (qI i)] []
              refine qJ.run hκ 4 (pc' := 156) (ls' := [some (qR 77), some (qI w), some (qI k), some (qI b), some (qI e), some (qI c), some (qI x), some (qI (i + 1))]) (st' := []) rfl ?_
              exact ih156  x (i + 1) (by omega) (by rw [show (i + 1).toNat = i.toNat + 1 by omega]; show _ = max (wFt (nS m) (RLm m) c i.toNat) (oFt (nS m) (RLm m) c ((i.toNat : Nat) : Int)); rw [q_tn v156_0.1, ← of1, ← v156_1]; omega) (v156_2) (by omega)
            · show qJ YX12_next κ _ (qLy u, M6, y) 0 0 181 [some (qR 77), some (qI w), some (qI k), some (qI b), some (qI e), some (qI c), some (qI x), some (qI i)] []
              refine qJ.run hκ 7 (pc' := 193) (ls' := [some (qR 77), some (qI w), some (qI k), some (qI b), some (qI e), some (qI c), some (qI x), some (qI i)]) (st' := [qI ((6 * c) + i), qR 123]) rfl ?_
              refine qJ.ald hκ rfl rfl rfl (by decide) (by omega) ?_
              show qJ YX12_next κ _ (qLy u, M6, y) 0 0 194 [some (qR 77), some (qI w), some (qI k), some (qI b), some (qI e), some (qI c), some (qI x), some (qI i)] [qI (M6 123 (((6 * c) + i).toNat))]
              refine qJ.run hκ 4 (pc' := 156) (ls' := [some (qR 77), some (qI w), some (qI k), some (qI b), some (qI e), some (qI c), some (qI (M6 123 (((6 * c) + i).toNat))), some (qI (i + 1))]) (st' := []) rfl ?_
              exact ih156  (M6 123 (((6 * c) + i).toNat)) (i + 1) (by omega) (by rw [show (i + 1).toNat = i.toNat + 1 by omega]; show _ = max (wFt (nS m) (RLm m) c i.toNat) (oFt (nS m) (RLm m) c ((i.toNat : Nat) : Int)); rw [q_tn v156_0.1, ← of1, ← v156_1]; omega) (v156_2) (by omega)
      have k56 : M6 77 56 = (nC m : Int) := v137_1.2.1.2
      have br := bst_r (L := RLm m) (n := nS m) (cw := cW m) ns v137_3.2 c.toNat (fun j hj => cwr j (by omega))
      refine qJ.run hκ 3 (pc' := 143) (ls' := [some (qR 77), some (qI w), some (qI k), some (qI b), some (qI e), some (qI c), none, none]) (st' := [qI (M6 77 56), qI c]) rfl ?_
      refine qJ.icmp_ge hκ (tgt := 237) rfl rfl (by omega) (by omega) (fun c143 => ?_) (fun c143 => ?_)
      · show qJ YX12_next κ _ (qLy u, M6, y) 0 0 237 [some (qR 77), some (qI w), some (qI k), some (qI b), some (qI e), some (qI c), none, none] []
        refine qJ.run hκ 2 (pc' := 239) (ls' := [some (qR 77), some (qI w), some (qI k), some (qI b), some (qI e), some (qI c), none, none]) (st' := [qI (-1), qI b]) rfl ?_
        refine qJ.icmp_ne hκ (tgt := 246) rfl rfl (by omega) (by omega) (fun c239 => ?_) (fun c239 => ?_)
        · show qJ YX12_next κ _ (qLy u, M6, y) 0 0 246 [some (qR 77), some (qI w), some (qI k), some (qI b), some (qI e), some (qI c), none, none] []
          refine qJ.run hκ 1 (pc' := 247) (ls' := [some (qR 77), some (qI w), some (qI k), some (qI b), some (qI e), some (qI c), none, none]) (st' := [qI w]) rfl ?_
          refine qJ.if_ne hκ (tgt := 254) rfl rfl (by omega) (fun c247 => ?_) (fun c247 => ?_)
          · show qJ YX12_next κ _ (qLy u, M6, y) 0 0 254 [some (qR 77), some (qI w), some (qI k), some (qI b), some (qI e), some (qI c), none, none] []
            refine qJ.run hκ 1 (pc' := 256) (ls' := [some (qR 77), some (qI w), some (qI k), some (qI b), some (qI e), some (qI c), none, none]) (st' := [qI e]) rfl ?_
            exact qJ.iret hκ rfl rfl (by decide) (by decide) (by
      refine ⟨M6, ?_, rfl, v137_1.1⟩
      have BE : bstA (RLm m) (nS m) (cW m) (nC m) = bst (RLm m) (nS m) (cW m) c.toNat := by
        unfold bstA
        by_cases lz : (RLm m).length = 0
        · rw [if_pos lz, show c.toNat = 0 by omega]; rfl
        · rw [if_neg lz, show c.toNat = nC m by omega]
      unfold ansNxt
      rw [if_pos v137_5, BE]
      rw [if_neg (by omega)]; exact congrArg (fun z => some (qI z)) (by omega))
          · show qJ YX12_next κ _ (qLy u, M6, y) 0 0 250 [some (qR 77), some (qI w), some (qI k), some (qI b), some (qI e), some (qI c), none, none] []
            refine qJ.run hκ 2 (pc' := 256) (ls' := [some (qR 77), some (qI w), some (qI k), some (qI b), some (qI e), some (qI c), none, none]) (st' := [qI b]) rfl ?_
            exact qJ.iret hκ rfl rfl (by decide) (by decide) (by
      refine ⟨M6, ?_, rfl, v137_1.1⟩
      have BE : bstA (RLm m) (nS m) (cW m) (nC m) = bst (RLm m) (nS m) (cW m) c.toNat := by
        unfold bstA
        by_cases lz : (RLm m).length = 0
        · rw [if_pos lz, show c.toNat = 0 by omega]; rfl
        · rw [if_neg lz, show c.toNat = nC m by omega]
      unfold ansNxt
      rw [if_pos v137_5, BE]
      rw [if_pos (by omega), ← v137_4.1])
        · show qJ YX12_next κ _ (qLy u, M6, y) 0 0 242 [some (qR 77), some (qI w), some (qI k), some (qI b), some (qI e), some (qI c), none, none] []
          refine qJ.run hκ 2 (pc' := 256) (ls' := [some (qR 77), some (qI w), some (qI k), some (qI b), some (qI e), some (qI c), none, none]) (st' := [qI (-1)]) rfl ?_
          exact qJ.iret hκ rfl rfl (by decide) (by decide) (by
      refine ⟨M6, ?_, rfl, v137_1.1⟩
      have BE : bstA (RLm m) (nS m) (cW m) (nC m) = bst (RLm m) (nS m) (cW m) c.toNat := by
        unfold bstA
        by_cases lz : (RLm m).length = 0
        · rw [if_pos lz, show c.toNat = 0 by omega]; rfl
        · rw [if_neg lz, show c.toNat = nC m by omega]
      unfold ansNxt
      rw [if_pos v137_5, BE]
      have z2 := bst_1 (L := RLm m) (n := nS m) (cw := cW m) c.toNat (fun j hj => (cwr j (by omega)).1) (by omega)
      by_cases w0 : w = 0
      · rw [if_pos w0, ← v137_4.1]; exact congrArg (fun z => some (qI z)) (by omega)
      · rw [if_neg w0, z2])
      · show qJ YX12_next κ _ (qLy u, M6, y) 0 0 146 [some (qR 77), some (qI w), some (qI k), some (qI b), some (qI e), some (qI c), none, none] []
        refine qJ.run hκ 1 (pc' := 147) (ls' := [some (qR 77), some (qI w), some (qI k), some (qI b), some (qI e), some (qI c), none, none]) (st' := [qI k]) rfl ?_
        refine qJ.if_le hκ (tgt := 237) rfl rfl (by omega) (fun c147 => ?_) (fun c147 => ?_)
        · show qJ YX12_next κ _ (qLy u, M6, y) 0 0 237 [some (qR 77), some (qI w), some (qI k), some (qI b), some (qI e), some (qI c), none, none] []
          refine qJ.run hκ 2 (pc' := 239) (ls' := [some (qR 77), some (qI w), some (qI k), some (qI b), some (qI e), some (qI c), none, none]) (st' := [qI (-1), qI b]) rfl ?_
          refine qJ.icmp_ne hκ (tgt := 246) rfl rfl (by omega) (by omega) (fun c239 => ?_) (fun c239 => ?_)
          · show qJ YX12_next κ _ (qLy u, M6, y) 0 0 246 [some (qR 77), some (qI w), some (qI k), some (qI b), some (qI e), some (qI c), none, none] []
            refine qJ.run hκ 1 (pc' := 247) (ls' := [some (qR 77), some (qI w), some (qI k), some (qI b), some (qI e), some (qI c), none, none]) (st' := [qI w]) rfl ?_
            refine qJ.if_ne hκ (tgt := 254) rfl rfl (by omega) (fun c247 => ?_) (fun c247 => ?_)
            · show qJ YX12_next κ _ (qLy u, M6, y) 0 0 254 [some (qR 77), some (qI w), some (qI k), some (qI b), some (qI e), some (qI c), none, none] []
              refine qJ.run hκ 1 (pc' := 256) (ls' := [some (qR 77), some (qI w), some (qI k), some (qI b), some (qI e), some (qI c), none, none]) (st' := [qI e]) rfl ?_
              exact qJ.iret hκ rfl rfl (by decide) (by decide) (by
      refine ⟨M6, ?_, rfl, v137_1.1⟩
      have BE : bstA (RLm m) (nS m) (cW m) (nC m) = bst (RLm m) (nS m) (cW m) c.toNat := by
        unfold bstA
        by_cases lz : (RLm m).length = 0
        · rw [if_pos lz, show c.toNat = 0 by omega]; rfl
        · rw [if_neg lz, show c.toNat = nC m by omega]
      unfold ansNxt
      rw [if_pos v137_5, BE]
      rw [if_neg (by omega)]; exact congrArg (fun z => some (qI z)) (by omega))
            · show qJ YX12_next κ _ (qLy u, M6, y) 0 0 250 [some (qR 77), some (qI w), some (qI k), some (qI b), some (qI e), some (qI c), none, none] []
              refine qJ.run hκ 2 (pc' := 256) (ls' := [some (qR 77), some (qI w), some (qI k), some (qI b), some (qI e), some (qI c), none, none]) (st' := [qI b]) rfl ?_
              exact qJ.iret hκ rfl rfl (by decide) (by decide) (by
      refine ⟨M6, ?_, rfl, v137_1.1⟩
      have BE : bstA (RLm m) (nS m) (cW m) (nC m) = bst (RLm m) (nS m) (cW m) c.toNat := by
        unfold bstA
        by_cases lz : (RLm m).length = 0
        · rw [if_pos lz, show c.toNat = 0 by omega]; rfl
        · rw [if_neg lz, show c.toNat = nC m by omega]
      unfold ansNxt
      rw [if_pos v137_5, BE]
      rw [if_pos (by omega), ← v137_4.1])
          · show qJ YX12_next κ _ (qLy u, M6, y) 0 0 242 [some (qR 77), some (qI w), some (qI k), some (qI b), some (qI e), some (qI c), none, none] []
            refine qJ.run hκ 2 (pc' := 256) (ls' := [some (qR 77), some (qI w), some (qI k), some (qI b), some (qI e), some (qI c), none, none]) (st' := [qI (-1)]) rfl ?_
            exact qJ.iret hκ rfl rfl (by decide) (by decide) (by
      refine ⟨M6, ?_, rfl, v137_1.1⟩
      have BE : bstA (RLm m) (nS m) (cW m) (nC m) = bst (RLm m) (nS m) (cW m) c.toNat := by
        unfold bstA
        by_cases lz : (RLm m).length = 0
        · rw [if_pos lz, show c.toNat = 0 by omega]; rfl
        · rw [if_neg lz, show c.toNat = nC m by omega]
      unfold ansNxt
      rw [if_pos v137_5, BE]
      have z2 := bst_1 (L := RLm m) (n := nS m) (cw := cW m) c.toNat (fun j hj => (cwr j (by omega)).1) (by omega)
      by_cases w0 : w = 0
      · rw [if_pos w0, ← v137_4.1]; exact congrArg (fun z => some (qI z)) (by omega)
      · rw [if_neg w0, z2])
        · show qJ YX12_next κ _ (qLy u, M6, y) 0 0 150 [some (qR 77), some (qI w), some (qI k), some (qI b), some (qI e), some (qI c), none, none] []
          refine qJ.run hκ 4 (pc' := 156) (ls' := [some (qR 77), some (qI w), some (qI k), some (qI b), some (qI e), some (qI c), some (qI 0), some (qI 0)]) (st' := []) rfl ?_
          exact L156 7 0 0 (by omega) (rfl) (⟨by omega, by omega⟩) (by omega)
  have L43 : ∀ (n : Nat) (k : Int) (M6 : qM) (L : List (Nat → Int)), (itS m M6 L) → (∃ A, RLm m = A ++ L ∧ k = ((A.length : Nat) : Int) ∧ ofS m M6 A 0 (fun _ => -1)) → (dOk (DD m)) → (0 ≤ w ∧ w ≤ 1) → (L.length) < n → qJ YX12_next κ (qFin (fun r h => ∃ m', r = some (qI (ansNxt m w)) ∧ h = (qLy u, m', y) ∧ keep kObs m' = keep kObs m) 0 0 κ) (qLy u, M6, y) 0 0 43 [some (qR 77), some (qI w), some (qI k), none, none, none, none, none] [] := by
    intro n
    induction n with
    | zero => intro k M6 L _ _ _ _ hz0; omega
    | succ n ih43 =>
      intro k M6 L v43_0 v43_1 v43_2 v43_3 v43_m
      have L55 : ∀ (n : Nat) (c : Int) (M5 : qM) (A : List (Nat → Int)) (R : Nat → Int) (L' : List (Nat → Int)), (0 ≤ c ∧ c ≤ (nC m : Int)) → (itS m M5 L') → (L = R :: L' ∧ RLm m = A ++ L ∧ k = ((A.length : Nat) : Int)) → (∀ e : Nat, e < 5 → M5 121 e = R e) → (ofS m M5 A c R) → (((nC m : Int) - c).toNat) < n → qJ YX12_next κ (qFin (fun r h => ∃ m', r = some (qI (ansNxt m w)) ∧ h = (qLy u, m', y) ∧ keep kObs m' = keep kObs m) 0 0 κ) (qLy u, M5, y) 0 0 55 [some (qR 77), some (qI w), some (qI (k + 1)), some (qI c), none, none, none, none] [] := by
        intro n
        induction n with
        | zero => intro c M5 A R L' _ _ _ _ _ hz0; omega
        | succ n ih55 =>
          intro c M5 A R L' v55_0 v55_1 v55_2 v55_3 v55_4 v55_m
          have L69 : ∀ (n : Nat) (o : Int) (i : Int), (0 ≤ i ∧ i ≤ (nS m : Int)) → (o = whoF R c i.toNat) → (c < (nC m : Int)) → (((nS m : Int) - i).toNat) < n → qJ YX12_next κ (qFin (fun r h => ∃ m', r = some (qI (ansNxt m w)) ∧ h = (qLy u, m', y) ∧ keep kObs m' = keep kObs m) 0 0 κ) (qLy u, M5, y) 0 0 69 [some (qR 77), some (qI w), some (qI (k + 1)), some (qI c), some (qI o), some (qI i), none, none] [] := by
            intro n
            induction n with
            | zero => intro o i _ _ _ hz0; omega
            | succ n ih69 =>
              intro o i v69_0 v69_1 v69_2 v69_m
              have k54 : M5 77 54 = (nS m : Int) := v55_1.1.2.1.1
              have wr0 := whoF_r (R := R) (c := c) i.toNat (by omega)
              refine qJ.run hκ 3 (pc' := 75) (ls' := [some (qR 77), some (qI w), some (qI (k + 1)), some (qI c), some (qI o), some (qI i), none, none]) (st' := [qI (M5 77 54), qI i]) rfl ?_
              refine qJ.icmp_ge hκ (tgt := 104) rfl rfl (by omega) (by omega) (fun c75 => ?_) (fun c75 => ?_)
              · show qJ YX12_next κ _ (qLy u, M5, y) 0 0 104 [some (qR 77), some (qI w), some (qI (k + 1)), some (qI c), some (qI o), some (qI i), none, none] []
                have o5 : 0 ≤ o ∧ o ≤ 5 := by omega
                refine qJ.run hκ 8 (pc' := 116) (ls' := [some (qR 77), some (qI w), some (qI (k + 1)), some (qI c), some (qI o), some (qI i), none, none]) (st' := [qI ((6 * c) + o), qR 123, qI ((6 * c) + o), qR 123]) rfl ?_
                refine qJ.ald hκ rfl rfl rfl (by decide) (by omega) ?_
                show qJ YX12_next κ _ (qLy u, M5, y) 0 0 117 [some (qR 77), some (qI w), some (qI (k + 1)), some (qI c), some (qI o), some (qI i), none, none] [qI (M5 123 (((6 * c) + o).toNat)), qI ((6 * c) + o), qR 123]
                refine qJ.run hκ 2 (pc' := 119) (ls' := [some (qR 77), some (qI w), some (qI (k + 1)), some (qI c), some (qI o), some (qI i), none, none]) (st' := [qI ((M5 123 (((6 * c) + o).toNat)) + 1), qI ((6 * c) + o), qR 123]) rfl ?_
                refine qJ.ast hκ rfl rfl rfl (by decide) (by omega) ?_
                show qJ YX12_next κ _ (qLy u, (q_up M5 123 (((6 * c) + o).toNat) ((M5 123 (((6 * c) + o).toNat)) + 1)), y) 0 0 120 [some (qR 77), some (qI w), some (qI (k + 1)), some (qI c), some (qI o), some (qI i), none, none] []
                refine qJ.run hκ 2 (pc' := 55) (ls' := [some (qR 77), some (qI w), some (qI (k + 1)), some (qI (c + 1)), some (qI o), some (qI i), none, none]) (st' := []) rfl ?_
                refine qJ.dl [true, true, true, true, false, false, false, false] ?_
                show qJ YX12_next κ _ (qLy u, (q_up M5 123 (((6 * c) + o).toNat) ((M5 123 (((6 * c) + o).toNat)) + 1)), y) 0 0 55 [some (qR 77), some (qI w), some (qI (k + 1)), some (qI (c + 1)), none, none, none, none] []
                exact ih55  (c + 1) (q_up M5 123 (((6 * c) + o).toNat) ((M5 123 (((6 * c) + o).toNat)) + 1)) A R L' (by omega) (⟨mR_k (keep_up (by rfl)) v55_1.1, v55_1.2⟩) (v55_2) (v55_3) (fun x hx j hj => by
          have h := v55_4 x hx j hj
          have wr := whoF_r (R := R) (c := c) (nS m) ns
          have ow : o = whoF R c (nS m) := by rw [v69_1, show i.toNat = nS m by omega]
          by_cases e : 6 * x + j = (6 * c + o).toNat
          · have e1 : (x : Int) = c := by omega
            have e2 : (j : Int) = o := by omega
            rw [e, q_up_eq, ← e, h, e1, e2, ow, if_neg (fun z => by have := z.1; omega), if_pos ⟨by omega, rfl⟩]
            omega
          · rw [up_o e, h]
            by_cases e1 : (x : Int) = c
            · rw [if_neg (fun z => by have := z.1; omega), if_neg (fun z => e (by have z2 := z.2; rw [e1] at z2; omega))]
            · by_cases e3 : (x : Int) < c
              · by_cases e4 : whoF R (x : Int) (nS m) = (j : Int)
                · rw [if_pos ⟨e3, e4⟩, if_pos ⟨by omega, e4⟩]
                · rw [if_neg (fun z => e4 z.2), if_neg (fun z => e4 z.2)]
              · rw [if_neg (fun z => e3 z.1), if_neg (fun z => by have := z.1; omega)]) (by omega)
              · show qJ YX12_next κ _ (qLy u, M5, y) 0 0 78 [some (qR 77), some (qI w), some (qI (k + 1)), some (qI c), some (qI o), some (qI i), none, none] []
                have r1 : M5 121 i.toNat = R i.toNat := v55_3 i.toNat (by omega)
                have rin : R ∈ RLm m := by rw [v55_2.2.1, v55_2.1]; exact List.mem_append_right _ List.mem_cons_self
                have rm := (LVr_mem rin).2 i.toNat (by omega)
                refine qJ.run hκ 3 (pc' := 84) (ls' := [some (qR 77), some (qI w), some (qI (k + 1)), some (qI c), some (qI o), some (qI i), none, none]) (st' := [qI i, qR 121]) rfl ?_
                refine qJ.ald hκ rfl rfl rfl (by decide) (by omega) ?_
                show qJ YX12_next κ _ (qLy u, M5, y) 0 0 85 [some (qR 77), some (qI w), some (qI (k + 1)), some (qI c), some (qI o), some (qI i), none, none] [qI (M5 121 i.toNat)]
                refine qJ.run hκ 1 (pc' := 86) (ls' := [some (qR 77), some (qI w), some (qI (k + 1)), some (qI c), some (qI o), some (qI i), none, none]) (st' := [qI c, qI (M5 121 i.toNat)]) rfl ?_
                refine qJ.icmp_ne hκ (tgt := 94) rfl rfl (by omega) (by omega) (fun c86 => ?_) (fun c86 => ?_)
                · show qJ YX12_next κ _ (qLy u, M5, y) 0 0 94 [some (qR 77), some (qI w), some (qI (k + 1)), some (qI c), some (qI o), some (qI i), none, none] []
                  refine qJ.run hκ 4 (pc' := 69) (ls' := [some (qR 77), some (qI w), some (qI (k + 1)), some (qI c), some (qI o), some (qI (i + 1)), none, none]) (st' := []) rfl ?_
                  exact ih69  o (i + 1) (by omega) (by rw [show (i + 1).toNat = i.toNat + 1 by omega]; unfold whoF; rw [if_neg (fun z => c86 (r1.trans z))]; exact v69_1) (v69_2) (by omega)
                · show qJ YX12_next κ _ (qLy u, M5, y) 0 0 89 [some (qR 77), some (qI w), some (qI (k + 1)), some (qI c), some (qI o), some (qI i), none, none] []
                  refine qJ.run hκ 5 (pc' := 69) (ls' := [some (qR 77), some (qI w), some (qI (k + 1)), some (qI c), some (qI i), some (qI (i + 1)), none, none]) (st' := []) rfl ?_
                  exact ih69  i (i + 1) (by omega) (by rw [show (i + 1).toNat = i.toNat + 1 by omega]; unfold whoF; rw [if_pos (r1.symm.trans c86)]; omega) (v69_2) (by omega)
          have k56 : M5 77 56 = (nC m : Int) := v55_1.1.2.1.2
          have kb : (0 : Int) ≤ k ∧ k ≤ 248832 := by
            have := v55_2.2.2
            have l1 := congrArg List.length v55_2.2.1
            rw [List.length_append] at l1
            have := RLm_b v43_2
            omega
          refine qJ.run hκ 3 (pc' := 60) (ls' := [some (qR 77), some (qI w), some (qI (k + 1)), some (qI c), none, none, none, none]) (st' := [qI (M5 77 56), qI c]) rfl ?_
          refine qJ.icmp_ge hκ (tgt := 126) rfl rfl (by omega) (by omega) (fun c60 => ?_) (fun c60 => ?_)
          · show qJ YX12_next κ _ (qLy u, M5, y) 0 0 126 [some (qR 77), some (qI w), some (qI (k + 1)), some (qI c), none, none, none, none] []
            refine qJ.run hκ 1 (pc' := 43) (ls' := [some (qR 77), some (qI w), some (qI (k + 1)), some (qI c), none, none, none, none]) (st' := []) rfl ?_
            refine qJ.dl [true, true, true, false, false, false, false, false] ?_
            show qJ YX12_next κ _ (qLy u, M5, y) 0 0 43 [some (qR 77), some (qI w), some (qI (k + 1)), none, none, none, none, none] []
            exact ih43  (k + 1) M5 L' (v55_1) (by
        refine ⟨A ++ [R], by rw [List.append_assoc]; show _ = A ++ (R :: L'); rw [← v55_2.1]; exact v55_2.2.1, by rw [List.length_append]; show _ = (((A.length + 1 : Nat)) : Int); have := v55_2.2.2; omega, fun x hx i hi => ?_⟩
        have h := v55_4 x hx i hi
        rw [oFt_app, oFt_one, if_neg (c := (x : Int) < 0 ∧ _) (fun z => by have := z.1; omega)]
        by_cases e : whoF R (x : Int) (nS m) = (i : Int)
        · rw [if_pos ⟨by omega, e⟩] at h
          rw [if_pos e]; omega
        · rw [if_neg (fun z => e z.2)] at h
          rw [if_neg e]; omega) (v43_2) (v43_3) (by have := v55_2.1; rw [this, List.length_cons] at v43_m; omega)
          · show qJ YX12_next κ _ (qLy u, M5, y) 0 0 63 [some (qR 77), some (qI w), some (qI (k + 1)), some (qI c), none, none, none, none] []
            refine qJ.run hκ 4 (pc' := 69) (ls' := [some (qR 77), some (qI w), some (qI (k + 1)), some (qI c), some (qI 5), some (qI 0), none, none]) (st' := []) rfl ?_
            exact L69 6 5 0 (by omega) (rfl) (by omega) (by omega)
      refine qJ.run hκ 1 (pc' := 44) (ls' := [some (qR 77), some (qI w), some (qI k), none, none, none, none, none]) (st' := [qR 77]) rfl ?_
      refine qJ.callV (As := []) (rest := []) hκ rfl kX12_380 (m_nextR u m M6 y L hR hX (rX_lxS hl) v43_2 v43_0) rfl rfl (by decide) rfl rfl (Nat.le_of_ble_eq_true rfl) (Nat.le_of_ble_eq_true rfl) (Nat.le_of_ble_eq_true rfl) (Or.inl (fun r h' e => by obtain ⟨z44, m7, rfl, rfl, K7, H7⟩ := e; rfl)) (fun r h' e => ?_)
      obtain ⟨z44, m7, rfl, rfl, K7, H7⟩ := e
      have zr : z44 = 0 ∨ z44 = 1 := by rcases H7 with q | q; (left; exact q.1); (right; exact q.1)
      show qJ YX12_next κ _ (qLy u, m7, y) 0 0 47 [some (qR 77), some (qI w), some (qI k), none, none, none, none, none] [qI z44]
      refine qJ.if_eq hκ (tgt := 129) rfl rfl (by omega) (fun c47 => ?_) (fun c47 => ?_)
      · show qJ YX12_next κ _ (qLy u, m7, y) 0 0 129 [some (qR 77), some (qI w), some (qI k), none, none, none, none, none] []
        have Z7 : L = [] ∧ itS m m7 [] := by rcases H7 with q | q; (exact q.2); (have := q.1; omega)
        clear H7
        have ZA : k = ((RLm m).length : Nat) ∧ ofS m m7 (RLm m) 0 (fun _ => -1) := by
          obtain ⟨A, b1, b2, b3⟩ := v43_1
          rw [Z7.1, List.append_nil] at b1
          rw [b1]
          exact ⟨b2, fun x hx i hi => by rw [show m7 123 = M6 123 from congrFun K7 123]; exact b3 x hx i hi⟩
        refine qJ.run hκ 6 (pc' := 137) (ls' := [some (qR 77), some (qI w), some (qI k), some (qI (-1)), some (qI 0), some (qI 0), none, none]) (st' := []) rfl ?_
        exact L137 13 0 (-1) 0 m7 k (by omega) (Z7.2.1) (ZA.2) (⟨ZA.1, RLm_b v43_2⟩) (⟨rfl, Or.inl rfl, by omega⟩) (v43_3) (Or.inr rfl) (by omega)
      · show qJ YX12_next κ _ (qLy u, m7, y) 0 0 50 [some (qR 77), some (qI w), some (qI k), none, none, none, none, none] []
        have Y7 : ∃ R L', L = R :: L' ∧ itS m m7 L' ∧ (∀ e : Nat, e < 5 → m7 121 e = R e) ∧ ∀ s : Nat, s < 20 → m7 122 s = VM (DD m) R (nS m) s := by rcases H7 with q | q; (have := q.1; omega); (exact q.2)
        clear H7
        obtain ⟨R, L', y1, y2, y3, y4⟩ := Y7
        obtain ⟨A, b1, b2, b3⟩ := v43_1
        refine qJ.run hκ 3 (pc' := 55) (ls' := [some (qR 77), some (qI w), some (qI (k + 1)), some (qI 0), none, none, none, none]) (st' := []) rfl ?_
        exact L55 13 0 m7 A R L' (⟨Int.le_refl 0, by omega⟩) (y2) (⟨y1, b1, b2⟩) (y3) (fun x hx i hi => by
        have h := b3 x hx i hi
        rw [if_neg (fun z => by have := z.1; omega)] at h ⊢
        rw [show m7 123 = M6 123 from congrFun K7 123]; exact h) (by omega)
  have L18 : ∀ (n : Nat) (x : Int) (f : Nat → Int), (0 ≤ x ∧ x ≤ 72) → (∀ j : Nat, (j : Int) < x → f j = 0) → (0 ≤ w ∧ w ≤ 1) → ((72 - x).toNat) < n → qJ YX12_next κ (qFin (fun r h => ∃ m', r = some (qI (ansNxt m w)) ∧ h = (qLy u, m', y) ∧ keep kObs m' = keep kObs m) 0 0 κ) (qLy u, (q_row (q_up m 77 0 0) 123 f), y) 0 0 18 [some (qR 77), some (qI w), some (qI x), none, none, none, none, none] [] := by
    intro n
    induction n with
    | zero => intro x f _ _ _ hz0; omega
    | succ n ih18 =>
      intro x f v18_0 v18_1 v18_2 v18_m
      refine qJ.run hκ 2 (pc' := 21) (ls' := [some (qR 77), some (qI w), some (qI x), none, none, none, none, none]) (st' := [qI 72, qI x]) rfl ?_
      refine qJ.icmp_ge hκ (tgt := 37) rfl rfl (by omega) (by omega) (fun c21 => ?_) (fun c21 => ?_)
      · show qJ YX12_next κ _ (qLy u, (q_row (q_up m 77 0 0) 123 f), y) 0 0 37 [some (qR 77), some (qI w), some (qI x), none, none, none, none, none] []
        refine qJ.run hκ 1 (pc' := 38) (ls' := [some (qR 77), some (qI w), some (qI x), none, none, none, none, none]) (st' := [qR 77]) rfl ?_
        refine qJ.callV (As := []) (rest := []) hκ rfl kX12_377 (m_startR u m (q_row (q_up m 77 0 0) 123 f) y hR hX hl (Eq.trans (keep_row (by intro j; rfl)) (keep_up (by rfl)))) rfl rfl (by decide) rfl rfl (Nat.le_of_ble_eq_true rfl) (Nat.le_of_ble_eq_true rfl) (Nat.le_of_ble_eq_true rfl) (Or.inl (fun r h' e => by obtain ⟨rfl, m5, rfl, K5, I5, hD⟩ := e; rfl)) (fun r h' e => ?_)
        obtain ⟨rfl, m5, rfl, K5, I5, hD⟩ := e
        show qJ YX12_next κ _ (qLy u, m5, y) 0 0 41 [some (qR 77), some (qI w), some (qI x), none, none, none, none, none] []
        refine qJ.run hκ 2 (pc' := 43) (ls' := [some (qR 77), some (qI w), some (qI 0), none, none, none, none, none]) (st' := []) rfl ?_
        exact L43 ((RLm m).length + 1) 0 m5 (RLm m) (I5) (by
        refine ⟨[], rfl, rfl, fun c hc i hi => ?_⟩
        rw [if_neg (fun z => by have := z.1; omega)]
        rw [show m5 123 = f from congrFun K5 123, v18_1 _ (by omega)]
        rfl) (hD) (v18_2) (by omega)
      · show qJ YX12_next κ _ (qLy u, (q_row (q_up m 77 0 0) 123 f), y) 0 0 24 [some (qR 77), some (qI w), some (qI x), none, none, none, none, none] []
        refine qJ.run hκ 4 (pc' := 30) (ls' := [some (qR 77), some (qI w), some (qI x), none, none, none, none, none]) (st' := [qI 0, qI x, qR 123]) rfl ?_
        refine qJ.ast hκ rfl rfl rfl (by decide) (by omega) ?_
        refine qJ.mc (m1 := (q_up (q_row (q_up m 77 0 0) 123 f) 123 x.toNat 0)) (m2 := (q_row (q_up m 77 0 0) 123 (q_fu f x.toNat 0))) (by rw [q_up_row_eq]) ?_
        show qJ YX12_next κ _ (qLy u, (q_row (q_up m 77 0 0) 123 (q_fu f x.toNat 0)), y) 0 0 31 [some (qR 77), some (qI w), some (qI x), none, none, none, none, none] []
        refine qJ.run hκ 2 (pc' := 18) (ls' := [some (qR 77), some (qI w), some (qI (x + 1)), none, none, none, none, none]) (st' := []) rfl ?_
        exact qJ.cast (ih18  (x + 1) (q_fu f x.toNat 0) (by omega) (fun j hj => by
        by_cases e : j = x.toNat
        · rw [e, q_fu_eq]
        · rw [q_fu_ne e]; exact v18_1 j (by omega)) (by omega) (by omega)) (rfl) rfl rfl
  show qJ YX12_next κ _ (qLy u, m, y) 0 0 0 [some (qR 77), some (qI w), none, none, none, none, none, none] []
  refine qJ.run hκ 2 (pc' := 2) (ls' := [some (qR 77), some (qI w), none, none, none, none, none, none]) (st' := [qI 0, qR 77]) rfl ?_
  refine qJ.putI hκ rfl rfl rfl rfl (Or.inl rfl) ?_
  show qJ YX12_next κ _ (qLy u, (q_up m 77 0 0), y) 0 0 5 [some (qR 77), some (qI w), none, none, none, none, none, none] []
  refine qJ.run hκ 3 (pc' := 8) (ls' := [some (qR 77), some (qI w), none, none, none, none, none, none]) (st' := [qI 1, qI 0, qI w]) rfl ?_
  refine qJ.callS (As := [qI w, qI 0, qI 1]) (rest := []) hκ rfl kX12_167 (c_in u (q_up m 77 0 0) y w 0 1 (by omega) (by omega) (by omega)) (by decide) rfl rfl (Nat.le_of_ble_eq_true rfl) (Nat.le_of_ble_eq_true rfl) (Nat.le_of_ble_eq_true rfl) (Or.inl (fun r h' e => by obtain ⟨z8, rfl, hz8, rfl⟩ := e; rfl)) (fun r h' e => ?_)
  obtain ⟨z8, rfl, hz8, rfl⟩ := e
  show qJ YX12_next κ _ (qLy u, (q_up m 77 0 0), y) 0 0 11 [some (qR 77), some (qI w), none, none, none, none, none, none] [qI z8]
  refine qJ.if_ne hκ (tgt := 16) rfl rfl (by omega) (fun c11 => ?_) (fun c11 => ?_)
  · show qJ YX12_next κ _ (qLy u, (q_up m 77 0 0), y) 0 0 16 [some (qR 77), some (qI w), none, none, none, none, none, none] []
    refine qJ.run hκ 2 (pc' := 18) (ls' := [some (qR 77), some (qI w), some (qI 0), none, none, none, none, none]) (st' := []) rfl ?_
    exact qJ.cast (L18 73 0 (m 123) (by omega) (fun j hj => by omega) (by omega) (by omega)) (by rw [show q_row (q_up m 77 0 0) 123 (m 123) = q_up m 77 0 0 from q_row_self]) rfl rfl
  · show qJ YX12_next κ _ (qLy u, (q_up m 77 0 0), y) 0 0 14 [some (qR 77), some (qI w), none, none, none, none, none, none] []
    refine qJ.run hκ 1 (pc' := 15) (ls' := [some (qR 77), some (qI w), none, none, none, none, none, none]) (st' := [qI (-1)]) rfl ?_
    exact qJ.iret hκ rfl rfl (by decide) (by decide) (⟨_, by unfold ansNxt; rw [if_neg (fun z => by omega)], rfl, keep_up (by rfl)⟩)

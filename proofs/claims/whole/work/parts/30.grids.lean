/-! printed by p30.py: what is kept; grids of class and model -/
/-- the cells of a mask; nothing else -/
def keep (K : Nat → Nat → Bool) (m : qM) : qM := fun i j => if K i j = true then m i j else 0
theorem keep_up {K : Nat → Nat → Bool} {m : qM} {a k : Nat} {v : Int} (h : K a k = false) : keep K (q_up m a k v) = keep K m := by
  funext i j
  unfold keep q_up
  by_cases e : i = a ∧ j = k
  · obtain ⟨rfl, rfl⟩ := e
    rw [h, if_neg (by decide), if_neg (by decide)]
  · rw [if_neg e]
theorem keep_row {K : Nat → Nat → Bool} {m : qM} {a : Nat} {f : Nat → Int} (h : ∀ j, K a j = false) : keep K (q_row m a f) = keep K m := by
  funext i j
  unfold keep q_row
  by_cases e : i = a
  · subst e
    rw [h, if_neg (by decide), if_neg (by decide)]
  · rw [if_neg e]
theorem keep_of {K K' : Nat → Nat → Bool} {m m' : qM} (hs : ∀ i j, K i j = true → K' i j = true) (h : keep K' m' = keep K' m) : keep K m' = keep K m := by
  funext i j
  have h2 := congrFun (congrFun h i) j
  unfold keep at h2 ⊢
  by_cases e : K i j = true
  · rw [if_pos (hs i j e), if_pos (hs i j e)] at h2
    rw [if_pos e, if_pos e, h2]
  · rw [if_neg e, if_neg e]
theorem keep_at {K : Nat → Nat → Bool} {m m' : qM} (h : keep K m' = keep K m) {i j : Nat} (hk : K i j = true) : m' i j = m i j := by
  have h2 := congrFun (congrFun h i) j
  unfold keep at h2
  rw [if_pos hk, if_pos hk] at h2
  exact h2
theorem keep_rw {K : Nat → Nat → Bool} {m m' : qM} (h : keep K m' = keep K m) {i : Nat} (hk : ∀ j, K i j = true) : m' i = m i := funext fun j => keep_at h (hk j)
/-- what is told, in class and model, and their images -/
def kCore : Nat → Nat → Bool := fun i _ => decide ((1 ≤ i ∧ i ≤ 21) ∨ (78 ≤ i ∧ i ≤ 106) ∨ 124 ≤ i)
/-- all but the model's scratch -/
def kObs : Nat → Nat → Bool := fun i _ => decide (¬ (i = 77 ∨ (107 ≤ i ∧ i ≤ 123)))
/-- what the class's answers are worked out of -/
def kKern : Nat → Nat → Bool := fun i _ => decide (2 ≤ i ∧ i ≤ 20 ∧ ¬ i = 12)
def kU : Nat → Nat → Bool := fun i j => decide ((25 ≤ i ∧ i ≤ 28) ∨ (i = 0 ∧ j = 10))
def kG : Nat → Nat → Bool := fun i j => decide ((29 ≤ i ∧ i ≤ 33) ∨ (i = 0 ∧ j = 11))
def kTr : Nat → Nat → Bool := fun i _ => decide (34 ≤ i ∧ i ≤ 38)
def kS : Nat → Nat → Bool := fun i j => decide ((39 ≤ i ∧ i ≤ 48) ∨ (i = 0 ∧ j = 12))
def kP : Nat → Nat → Bool := fun i j => decide ((53 ≤ i ∧ i ≤ 55) ∨ (i = 0 ∧ j = 13))
def kSr : Nat → Nat → Bool := fun i j => decide ((56 ≤ i ∧ i ≤ 76) ∨ (i = 0 ∧ j = 14))
def kN (K : Nat → Nat → Bool) : Nat → Nat → Bool := fun i j => !K i j
def kO (K L : Nat → Nat → Bool) : Nat → Nat → Bool := fun i j => K i j || L i j
theorem kN_t {K : Nat → Nat → Bool} {i j : Nat} : kN K i j = true ↔ ¬ K i j = true := by
  unfold kN
  cases K i j <;> simp
theorem kO_t {K L : Nat → Nat → Bool} {i j : Nat} : kO K L i j = true ↔ (K i j = true ∨ L i j = true) := by
  unfold kO
  cases K i j <;> simp
/-- two steps, each with its own cells -/
theorem keep_two {K L : Nat → Nat → Bool} {m m1 m2 : qM} (h1 : keep (kN K) m1 = keep (kN K) m) (h2 : keep (kN L) m2 = keep (kN L) m1) : keep (kN (kO K L)) m2 = keep (kN (kO K L)) m := by
  have s1 : ∀ i j, kN (kO K L) i j = true → kN K i j = true := fun i j h => kN_t.mpr fun z => kN_t.mp h (kO_t.mpr (Or.inl z))
  have s2 : ∀ i j, kN (kO K L) i j = true → kN L i j = true := fun i j h => kN_t.mpr fun z => kN_t.mp h (kO_t.mpr (Or.inr z))
  exact (keep_of s2 h2).trans (keep_of s1 h1)
theorem rC_core {m m' : qM} (h : keep kCore m' = keep kCore m) (hR : rC m) : rC m' := by
  have h2 : rC (keep kCore m) := hR
  rw [← h] at h2
  exact h2
theorem rC_o {m m' : qM} (h : keep kObs m' = keep kObs m) (hR : rC m) : rC m' := by
  have h2 : rC (keep kObs m) := hR
  rw [← h] at h2
  exact h2
theorem nT_o {m m' : qM} (h : keep kObs m' = keep kObs m) : nT m' = nT m := by
  show nT (keep kObs m') = nT (keep kObs m)
  rw [h]
theorem nW_o {m m' : qM} (h : keep kObs m' = keep kObs m) : nW m' = nW m := by
  show nW (keep kObs m') = nW (keep kObs m)
  rw [h]
theorem nT_core {m m' : qM} (h : keep kCore m' = keep kCore m) : nT m' = nT m := by
  show nT (keep kCore m') = nT (keep kCore m)
  rw [h]
theorem nW_core {m m' : qM} (h : keep kCore m' = keep kCore m) : nW m' = nW m := by
  show nW (keep kCore m') = nW (keep kCore m)
  rw [h]
theorem ro3 {m m' : qM} (h : keep kObs m' = keep kObs m) : m' 3 = m 3 := congrFun h 3
theorem rk3 {m m' : qM} (h : keep kCore m' = keep kCore m) : m' 3 = m 3 := congrFun h 3
theorem ro4 {m m' : qM} (h : keep kObs m' = keep kObs m) : m' 4 = m 4 := congrFun h 4
theorem rk4 {m m' : qM} (h : keep kCore m' = keep kCore m) : m' 4 = m 4 := congrFun h 4
theorem ro5 {m m' : qM} (h : keep kObs m' = keep kObs m) : m' 5 = m 5 := congrFun h 5
theorem rk5 {m m' : qM} (h : keep kCore m' = keep kCore m) : m' 5 = m 5 := congrFun h 5
theorem ro6 {m m' : qM} (h : keep kObs m' = keep kObs m) : m' 6 = m 6 := congrFun h 6
theorem rk6 {m m' : qM} (h : keep kCore m' = keep kCore m) : m' 6 = m 6 := congrFun h 6
theorem ro9 {m m' : qM} (h : keep kObs m' = keep kObs m) : m' 9 = m 9 := congrFun h 9
theorem rk9 {m m' : qM} (h : keep kCore m' = keep kCore m) : m' 9 = m 9 := congrFun h 9
theorem ro10 {m m' : qM} (h : keep kObs m' = keep kObs m) : m' 10 = m 10 := congrFun h 10
theorem rk10 {m m' : qM} (h : keep kCore m' = keep kCore m) : m' 10 = m 10 := congrFun h 10
/-! grids: what they are made of -/
theorem gs_c {m m' : qM} {g g' : Nat} (h6 : m g 6 = m' g' 6) (h7 : m g 7 = m' g' 7) : gs m g = gs m' g' := by
  funext x
  unfold gs
  rw [h6, h7]
theorem lst_c {m m' : qM} {g g' : Nat} (h3 : m 3 = m' 3) (h4 : m 4 = m' 4) (h6 : m g 6 = m' g' 6) (h7 : m g 7 = m' g' 7) (w : Int) : lst m g w = lst m' g' w := by
  unfold lst
  rw [gs_c h6 h7, h3, h4]
theorem jst_c {m m' : qM} {g g' : Nat} (h3 : m 3 = m' 3) (h4 : m 4 = m' 4) (h5 : m 5 = m' 5) (h6 : m g 6 = m' g' 6) (h7 : m g 7 = m' g' 7) (w v : Int) (f : Nat → Int) : jst m g w v f = jst m' g' w v f := by
  have e : stq m g w v ↔ stq m' g' w v := by
    have e2 : q_cnt (jsD m g w v) (m 4 w.toNat - 1).toNat = q_cnt (jsD m' g' w v) (m' 4 w.toNat - 1).toNat := by
      rw [h4]
      refine q_cnt_c _ fun k _ => ?_
      show (¬ gs m g _ = gs m g _) ↔ ¬ gs m' g' _ = gs m' g' _
      rw [gs_c h6 h7, h3]
    show (_ ∧ q_cnt (jsD m g w v) (m 4 w.toNat - 1).toNat = 0) ↔ (_ ∧ q_cnt (jsD m' g' w v) (m' 4 w.toNat - 1).toNat = 0)
    rw [e2, h4, h5]
  unfold jst
  rw [lst_c h3 h4 h6 h7, lst_c h3 h4 h6 h7]
  by_cases z : stq m g w v
  · rw [if_pos z, if_pos (e.mp z)]
  · rw [if_neg z, if_neg (fun q => z (e.mpr q))]
theorem stm_c2 {m m' : qM} {g g' : Nat} {w : Int} {f : Nat → Int} (h : ∀ (w v : Int) (f : Nat → Int), jst m g w v f = jst m' g' w v f) : ∀ n, stm m g w f n = stm m' g' w f n
  | 0 => rfl
  | n + 1 => by
    show jst m g w n (stm m g w f n) = jst m' g' w n (stm m' g' w f n)
    rw [stm_c2 h n, h]
theorem rst_c {m m' : qM} {g g' : Nat} {f : Nat → Int} (h : ∀ (w v : Int) (f : Nat → Int), jst m g w v f = jst m' g' w v f) : ∀ n, rst m g f n = rst m' g' f n
  | 0 => rfl
  | n + 1 => by
    show stm m g n (rst m g f n) n = stm m' g' n (rst m' g' f n) n
    rw [rst_c h n, stm_c2 h]
theorem jcS_c2 {m m' : qM} {g g' : Nat} {kk c0 p0 : Nat → Int} (h : ∀ w : Int, lst m g w = lst m' g' w) : ∀ n, jcS m g kk c0 p0 n = jcS m' g' kk c0 p0 n
  | 0 => rfl
  | n + 1 => by
    unfold jcS
    rw [jcS_c2 h n, h n]
theorem kst_c {m m' : qM} {k0 : Nat → Int} (h9 : m 9 = m' 9) (h10 : m 10 = m' 10) : ∀ n, kst m k0 n = kst m' k0 n
  | 0 => rfl
  | n + 1 => by
    show q_fu (kst m k0 n) _ _ = q_fu (kst m' k0 n) _ _
    rw [kst_c h9 h10 n, h9, h10]
theorem fN_c {m m' : qM} (h10 : m 10 = m' 10) (n : Nat) : fN m n = fN m' n := by
  unfold fN
  rw [h10]
theorem gF_c {m m' : qM} {l gr : Int} (h3 : m 3 = m' 3) (h4 : m 4 = m' 4) (h5 : m 5 = m' 5) (h10 : m 10 = m' 10) (n : Nat) : gF m l gr n = gF m' l gr n := by
  unfold gF
  rw [fN_c h10]
  exact rst_c (m := gM m l gr) (m' := gM m' l gr) (g := 34) (g' := 34) (jst_c (m := gM m l gr) (m' := gM m' l gr) h3 h4 h5 rfl rfl) _
theorem gK_c {m m' : qM} {l gr : Int} (h3 : m 3 = m' 3) (h4 : m 4 = m' 4) (h9 : m 9 = m' 9) (h10 : m 10 = m' 10) (n : Nat) : gK m l gr n = gK m' l gr n := by
  unfold gK
  rw [fN_c h10, kst_c h9 h10, jcS_c2 (m := gM m l gr) (m' := gM m' l gr) (g := 34) (g' := 34) (lst_c (m := gM m l gr) (m' := gM m' l gr) h3 h4 rfl rfl)]
theorem gdI_c {m m' : qM} {l gr : Int} {n : Nat} {f c : Nat → Int} (h3 : m 3 = m' 3) (h4 : m 4 = m' 4) (h5 : m 5 = m' 5) (h9 : m 9 = m' 9) (h10 : m 10 = m' 10) (h : gdI m l gr n f c) : gdI m' l gr n f c := by
  obtain ⟨a1, a2, a3, a4⟩ := h
  refine ⟨a1, a2, ?_, ?_⟩
  · rw [← gF_c h3 h4 h5 h10]; exact a3
  · rw [← gK_c h3 h4 h9 h10]; exact a4
theorem gdI_o {m m' : qM} {l gr : Int} {n : Nat} {f c : Nat → Int} (h : keep kObs m' = keep kObs m) (hd : gdI m' l gr n f c) : gdI m l gr n f c :=
  gdI_c (ro3 h) (ro4 h) (ro5 h) (ro9 h) (ro10 h) hd
theorem gdI_core {m m' : qM} {l gr : Int} {n : Nat} {f c : Nat → Int} (h : keep kCore m' = keep kCore m) (hd : gdI m' l gr n f c) : gdI m l gr n f c :=
  gdI_c (rk3 h) (rk4 h) (rk5 h) (rk9 h) (rk10 h) hd
/-- a grid that the class has built is the canon -/
theorem gB_can {m m1 : qM} {g : Nat} {l gr : Int} {n0 : Nat} {f0 k0 f k c : Nat → Int} {nw : Int} (hR : rC m) (hg : gOK (gM m l gr) 34) (hn : (n0 : Int) ≤ m 2 2) (hm : m1 = q_up (q_up m g 6 l) g 7 gr) (hgn : g = 29 ∨ g = 34)
    (he : (f, k, nw) = gst m1 g (sep f0) k0 n0) (hi : gIv m1 (n0 : Int) f k nw) (hlc : lb c) (ha : ag 20 c (gCol m1 g k nw)) : gdI m l gr n0 f c := by
  have h3 : m1 3 = (gM m l gr) 3 := by rcases hgn with e | e <;> subst e <;> subst hm <;> rfl
  have h4 : m1 4 = (gM m l gr) 4 := by rcases hgn with e | e <;> subst e <;> subst hm <;> rfl
  have h5 : m1 5 = (gM m l gr) 5 := by rcases hgn with e | e <;> subst e <;> subst hm <;> rfl
  have h9 : m1 9 = m 9 := by rcases hgn with e | e <;> subst e <;> subst hm <;> rfl
  have h10 : m1 10 = m 10 := by rcases hgn with e | e <;> subst e <;> subst hm <;> rfl
  have h6 : m1 g 6 = (gM m l gr) 34 6 := by rcases hgn with e | e <;> subst e <;> subst hm <;> rfl
  have h7 : m1 g 7 = (gM m l gr) 34 7 := by rcases hgn with e | e <;> subst e <;> subst hm <;> rfl
  have hT1 : gTl m1 := by rcases hgn with e | e <;> subst e <;> subst hm <;> exact hR.2.2.2.1
  have e22 : m1 2 2 = m 2 2 := by rcases hgn with e | e <;> subst e <;> subst hm <;> rfl
  have nl := fN_le hR hn
  have hWM : gW (gM m l gr) := hR.2.1
  have ef : f = rst m1 g (sep f0) (fN m1 n0) := by
    have := gst_f (m := m1) (g := g) (f0 := sep f0) (k0 := k0) hT1 n0 (by omega)
    rw [← he] at this
    exact this
  have ek : k = kst m1 k0 n0 := by
    have := gst_k (m := m1) (g := g) (f0 := sep f0) (k0 := k0) n0
    rw [← he] at this
    exact this
  have en : nw = (fN m1 n0 : Int) := by
    have := gst_n (m := m1) (g := g) (f0 := sep f0) (k0 := k0) hT1 n0 (by omega)
    rw [← he] at this
    exact this
  refine ⟨hi.1, hlc, ?_, ?_⟩
  · rw [ef, fN_c h10, rst_c (jst_c h3 h4 h5 h6 h7)]
    exact rst_ag hWM hg (ag_sep _ _) _ nl
  · have e2 : gCol m1 g k nw = gK m l gr n0 := by
      unfold gCol gK
      rw [en, show ((fN m1 n0 : Nat) : Int).toNat = fN m1 n0 by omega, fN_c h10, jcS_c2 (lst_c h3 h4 h6 h7), ek, kst_c h9 h10]
      rw [jcS_k (k1 := kst m (fun _ => -1) n0) _ (fun w hw => kst_ind hR.2.2.2.1 n0 hn w hw)]
    rw [← e2]
    exact ha
/-- broken behind the first n tellings -/
abbrev gB (m : qM) (n : Nat) : Prop := brk (gF m (-1) (-1) n) (gK m (-1) (-1) n)
theorem gB_i {m : qM} {n : Nat} {f c : Nat → Int} (h : gdI m (-1) (-1) n f c) : brk f c ↔ gB m n := brk_ag h.2.2.1 h.2.2.2
theorem gOK0 (m : qM) : gOK (gM m (-1) (-1)) 34 := Or.inl ⟨rfl, rfl⟩
/-- a fresh grid of the class -/
def fGr (m m' : qM) : Prop := keep (kN kG) m' = keep (kN kG) m ∧ m' 0 11 = 0 ∧ gdI m (-1) (-1) (nT m) (m' 30) (m' 31) ∧ m' 29 2 = if brk (m' 30) (m' 31) then 1 else 0
def cG (m : qM) : Prop := m 0 11 = 0 → gdI (keep kKern m) (-1) (-1) (nT m) (m 30) (m 31) ∧ m 29 2 = if brk (m 30) (m 31) then 1 else 0
theorem gdI_kern {m : qM} {l gr : Int} {n : Nat} {f c : Nat → Int} : gdI (keep kKern m) l gr n f c ↔ gdI m l gr n f c := ⟨gdI_c rfl rfl rfl rfl rfl, gdI_c rfl rfl rfl rfl rfl⟩
theorem fGr_0 {m : qM} (hc : cG m) (h : m 0 11 = 0) : fGr m m := ⟨rfl, h, gdI_kern.mp (hc h).1, (hc h).2⟩

set_option maxRecDepth 100000 in
theorem c_freshGrid (u : qU) (m y : qM) (hR : rC m) (hC : cG m) (hF : m 0 11 = 0 ∨ m 0 11 = 1) : qCt YX11_freshGrid 6 0 0 [qR 0] (qLy u, m, y) (fun r h => r = some (qR 29) ∧ ∃ m', h = (qLy u, m', y) ∧ fGr m m') := by
  refine qCt.intro okX11_freshGrid (Nat.le_of_ble_eq_true rfl) (fun κ hκ => ?_)
  have hR2 := hR
  obtain ⟨⟨⟨a0, a1, a2⟩, ⟨a3, a4, a5⟩, ⟨b0, b1, b2⟩, b3, b4, b5⟩, hW, hRW, hT, hRT, hS⟩ := hR2
  have hV : qr (m 1 9) := by omega
  have zr := gHz_r hR.1
  have nWl := nW_le hR.1
  have nTl := nT_le hR.1
  have hS7 : ∀ k : Int, 0 ≤ k → k < m 2 0 → qr (m 7 k.toNat) := fun k k0 k1 => by have := (hRW k k0 k1).2.1.2.1; omega
  have hS11 : ∀ k : Int, 0 ≤ k → k < m 2 2 → qr (m 11 k.toNat) := fun k k0 k1 => by have := (hRT k k0 k1).2.1; omega
  have hS9 : ∀ k : Int, 0 ≤ k → k < m 2 2 → qr (m 9 k.toNat) := fun k k0 k1 => by have := (hT k k0 k1).2.1; omega
  have hcn : (q_cnt (fun j => m 10 j = -1) (m 2 2).toNat : Nat) ≤ m 2 0 := Int.le_of_eq hS.2.2.1
  show qJ YX11_freshGrid κ _ (qLy u, m, y) 0 0 0 [some (qR 0)] []
  refine qJ.run hκ 2 (pc' := 4) (ls' := [some (qR 0)]) (st' := [qI (m 0 11)]) rfl ?_
  refine qJ.if_eq hκ (tgt := 35) rfl rfl (by omega) (fun c4 => ?_) (fun c4 => ?_)
  · show qJ YX11_freshGrid κ _ (qLy u, m, y) 0 0 35 [some (qR 0)] []
    refine qJ.run hκ 2 (pc' := 39) (ls' := [some (qR 0)]) (st' := [qR 29]) rfl ?_
    exact qJ.aret hκ rfl rfl (by decide) (by decide) (⟨rfl, m, rfl, fGr_0 hC c4⟩)
  · show qJ YX11_freshGrid κ _ (qLy u, m, y) 0 0 7 [some (qR 0)] []
    refine qJ.run hκ 7 (pc' := 22) (ls' := [some (qR 0)]) (st' := [qR 1, qR 2, qR 29]) rfl ?_
    refine qJ.callV (As := []) (rest := [qR 2, qR 29]) hκ rfl kX11_140 (c_horizon u m y hV) rfl rfl (by decide) rfl rfl (Nat.le_of_ble_eq_true rfl) (Nat.le_of_ble_eq_true rfl) (Nat.le_of_ble_eq_true rfl) (Or.inl (fun r h' e => by obtain ⟨rfl, rfl⟩ := e; rfl)) (fun r h' e => ?_)
    obtain ⟨rfl, rfl⟩ := e
    show qJ YX11_freshGrid κ _ (qLy u, m, y) 0 0 25 [some (qR 0)] [qI (gHz m), qR 2, qR 29]
    refine qJ.run hκ 2 (pc' := 27) (ls' := [some (qR 0)]) (st' := [qI (-1), qI (-1), qI (gHz m), qR 2, qR 29]) rfl ?_
    refine qJ.callV (As := [qR 2, qI (gHz m), qI (-1), qI (-1)]) (rest := []) hκ rfl kX11_214 (c_gBuild29 u m y (gHz m) (-1) (-1) (nT m) rfl a0 hW (by omega) hT a2 hS11 hcn (Or.inl ⟨rfl, rfl⟩)) rfl rfl (by decide) rfl rfl (Nat.le_of_ble_eq_true rfl) (Nat.le_of_ble_eq_true rfl) (Nat.le_of_ble_eq_true rfl) (Or.inl (fun r h' e => by obtain ⟨rfl, m1, f, k, nw, c, p, hm1, he, hi, hlc, hac, rfl⟩ := e; rfl)) (fun r h' e => ?_)
    obtain ⟨rfl, m1, f, k, nw, c, p, hm1, he, hi, hlc, hac, rfl⟩ := e
    show qJ YX11_freshGrid κ _ (qLy u, (q_up (q_row (q_row (q_up (q_row (q_row m1 30 f) 32 k) 29 5 nw) 31 c) 33 p) 29 2 (if brk f c then 1 else 0)), y) 0 0 30 [some (qR 0)] []
    refine qJ.run hκ 2 (pc' := 32) (ls' := [some (qR 0)]) (st' := [qI 0, qR 0]) rfl ?_
    refine qJ.putI hκ rfl rfl rfl rfl (Or.inr ⟨rfl, by omega⟩) ?_
    show qJ YX11_freshGrid κ _ (qLy u, (q_up (q_up (q_row (q_row (q_up (q_row (q_row m1 30 f) 32 k) 29 5 nw) 31 c) 33 p) 29 2 (if brk f c then 1 else 0)) 0 11 0), y) 0 0 35 [some (qR 0)] []
    refine qJ.run hκ 2 (pc' := 39) (ls' := [some (qR 0)]) (st' := [qR 29]) rfl ?_
    exact qJ.aret hκ rfl rfl (by decide) (by decide) (by refine ⟨rfl, _, rfl, ?_, rfl, gB_can hR (gOK0 m) nTl hm1 (Or.inl rfl) he hi hlc hac, rfl⟩; subst hm1; exact (Eq.trans (keep_up (by rfl)) (Eq.trans (keep_up (by rfl)) (Eq.trans (keep_row (by intro j; rfl)) (Eq.trans (keep_row (by intro j; rfl)) (Eq.trans (keep_up (by rfl)) (Eq.trans (keep_row (by intro j; rfl)) (Eq.trans (keep_row (by intro j; rfl)) (Eq.trans (keep_up (by rfl)) (Eq.trans (keep_up (by rfl)) rfl))))))))))

def ansRow (m : qM) (s : Int) : Int := if 0 ≤ s ∧ s ≤ 19 then gF m (-1) (-1) (nT m) s.toNat else -1
def ansCol (m : qM) (s : Int) : Int := if 0 ≤ s ∧ s ≤ 19 then gK m (-1) (-1) (nT m) s.toNat else -1
def ansBrk (m : qM) : Int := if gB m (nT m) then q_fst (fun t => gB m (t + 1)) (nT m) else -1

set_option maxRecDepth 100000 in
theorem x_row (u : qU) (m y : qM) (s : Int) (hR : rC m) (hC : cG m) (hF : m 0 11 = 0 ∨ m 0 11 = 1) (h1 : qr s) : qCt YX11_row 7 0 0 [qR 0, qI s] (qLy u, m, y) (fun r h => ∃ m', r = some (qI (ansRow m s)) ∧ h = (qLy u, m', y) ∧ (m' = m ∨ fGr m m')) := by
  refine qCt.intro okX11_row (Nat.le_of_ble_eq_true rfl) (fun κ hκ => ?_)
  have hR2 := hR
  obtain ⟨⟨⟨a0, a1, a2⟩, ⟨a3, a4, a5⟩, ⟨b0, b1, b2⟩, b3, b4, b5⟩, hW, hRW, hT, hRT, hS⟩ := hR2
  have hV : qr (m 1 9) := by omega
  have zr := gHz_r hR.1
  have nWl := nW_le hR.1
  have nTl := nT_le hR.1
  have hS7 : ∀ k : Int, 0 ≤ k → k < m 2 0 → qr (m 7 k.toNat) := fun k k0 k1 => by have := (hRW k k0 k1).2.1.2.1; omega
  have hS11 : ∀ k : Int, 0 ≤ k → k < m 2 2 → qr (m 11 k.toNat) := fun k k0 k1 => by have := (hRT k k0 k1).2.1; omega
  have hS9 : ∀ k : Int, 0 ≤ k → k < m 2 2 → qr (m 9 k.toNat) := fun k k0 k1 => by have := (hT k k0 k1).2.1; omega
  have hcn : (q_cnt (fun j => m 10 j = -1) (m 2 2).toNat : Nat) ≤ m 2 0 := Int.le_of_eq hS.2.2.1
  have is1 := q_ite01 (0 ≤ s ∧ s ≤ 19)
  show qJ YX11_row κ _ (qLy u, m, y) 0 0 0 [some (qR 0), some (qI s)] []
  refine qJ.run hκ 1 (pc' := 1) (ls' := [some (qR 0), some (qI s)]) (st' := [qI s]) rfl ?_
  refine qJ.callS (As := [qI s]) (rest := []) hκ rfl kX11_162 (c_isSign u m y s (by omega)) (by decide) rfl rfl (Nat.le_of_ble_eq_true rfl) (Nat.le_of_ble_eq_true rfl) (Nat.le_of_ble_eq_true rfl) (Or.inl (fun r h' e => by obtain ⟨rfl, rfl⟩ := e; rfl)) (fun r h' e => ?_)
  obtain ⟨rfl, rfl⟩ := e
  show qJ YX11_row κ _ (qLy u, m, y) 0 0 4 [some (qR 0), some (qI s)] [qI (if 0 ≤ s ∧ s ≤ 19 then 1 else 0)]
  refine qJ.if_eq hκ (tgt := 19) rfl rfl (by omega) (fun c4 => ?_) (fun c4 => ?_)
  · show qJ YX11_row κ _ (qLy u, m, y) 0 0 19 [some (qR 0), some (qI s)] []
    refine qJ.run hκ 1 (pc' := 20) (ls' := [some (qR 0), some (qI s)]) (st' := [qI (-1)]) rfl ?_
    exact qJ.iret hκ rfl rfl (by decide) (by decide) (⟨m, by unfold ansRow; rw [if_neg (fun z => by rw [if_pos z] at c4; exact absurd c4 (by decide))], rfl, Or.inl rfl⟩)
  · show qJ YX11_row κ _ (qLy u, m, y) 0 0 7 [some (qR 0), some (qI s)] []
    have sr : 0 ≤ s ∧ s ≤ 19 := by by_cases z : 0 ≤ s ∧ s ≤ 19; exact z; rw [if_neg z] at c4; exact absurd rfl c4
    refine qJ.run hκ 1 (pc' := 8) (ls' := [some (qR 0), some (qI s)]) (st' := [qR 0]) rfl ?_
    refine qJ.callV (As := []) (rest := []) hκ rfl kX11_165 (c_freshGrid u m y hR hC hF) rfl rfl (by decide) rfl rfl (Nat.le_of_ble_eq_true rfl) (Nat.le_of_ble_eq_true rfl) (Nat.le_of_ble_eq_true rfl) (Or.inl (fun r h' e => by obtain ⟨rfl, mG, rfl, hG⟩ := e; rfl)) (fun r h' e => ?_)
    obtain ⟨rfl, mG, rfl, hG⟩ := e
    show qJ YX11_row κ _ (qLy u, mG, y) 0 0 11 [some (qR 0), some (qI s)] [qR 29]
    refine qJ.run hκ 2 (pc' := 15) (ls' := [some (qR 0), some (qI s)]) (st' := [qI s, qR 30]) rfl ?_
    refine qJ.ald hκ rfl rfl rfl (by decide) (by omega) ?_
    show qJ YX11_row κ _ (qLy u, mG, y) 0 0 16 [some (qR 0), some (qI s)] [qI (mG 30 s.toNat)]
    refine qJ.run hκ 1 (pc' := 20) (ls' := [some (qR 0), some (qI s)]) (st' := [qI (mG 30 s.toNat)]) rfl ?_
    exact qJ.iret hκ rfl rfl (by decide) (by decide) (⟨mG, by unfold ansRow; rw [if_pos sr, hG.2.2.1.2.2.1 _ (by omega)], rfl, Or.inr hG⟩)

set_option maxRecDepth 100000 in
theorem x_column (u : qU) (m y : qM) (s : Int) (hR : rC m) (hC : cG m) (hF : m 0 11 = 0 ∨ m 0 11 = 1) (h1 : qr s) : qCt YX11_column 7 0 0 [qR 0, qI s] (qLy u, m, y) (fun r h => ∃ m', r = some (qI (ansCol m s)) ∧ h = (qLy u, m', y) ∧ (m' = m ∨ fGr m m')) := by
  refine qCt.intro okX11_column (Nat.le_of_ble_eq_true rfl) (fun κ hκ => ?_)
  have hR2 := hR
  obtain ⟨⟨⟨a0, a1, a2⟩, ⟨a3, a4, a5⟩, ⟨b0, b1, b2⟩, b3, b4, b5⟩, hW, hRW, hT, hRT, hS⟩ := hR2
  have hV : qr (m 1 9) := by omega
  have zr := gHz_r hR.1
  have nWl := nW_le hR.1
  have nTl := nT_le hR.1
  have hS7 : ∀ k : Int, 0 ≤ k → k < m 2 0 → qr (m 7 k.toNat) := fun k k0 k1 => by have := (hRW k k0 k1).2.1.2.1; omega
  have hS11 : ∀ k : Int, 0 ≤ k → k < m 2 2 → qr (m 11 k.toNat) := fun k k0 k1 => by have := (hRT k k0 k1).2.1; omega
  have hS9 : ∀ k : Int, 0 ≤ k → k < m 2 2 → qr (m 9 k.toNat) := fun k k0 k1 => by have := (hT k k0 k1).2.1; omega
  have hcn : (q_cnt (fun j => m 10 j = -1) (m 2 2).toNat : Nat) ≤ m 2 0 := Int.le_of_eq hS.2.2.1
  have is1 := q_ite01 (0 ≤ s ∧ s ≤ 19)
  show qJ YX11_column κ _ (qLy u, m, y) 0 0 0 [some (qR 0), some (qI s)] []
  refine qJ.run hκ 1 (pc' := 1) (ls' := [some (qR 0), some (qI s)]) (st' := [qI s]) rfl ?_
  refine qJ.callS (As := [qI s]) (rest := []) hκ rfl kX11_162 (c_isSign u m y s (by omega)) (by decide) rfl rfl (Nat.le_of_ble_eq_true rfl) (Nat.le_of_ble_eq_true rfl) (Nat.le_of_ble_eq_true rfl) (Or.inl (fun r h' e => by obtain ⟨rfl, rfl⟩ := e; rfl)) (fun r h' e => ?_)
  obtain ⟨rfl, rfl⟩ := e
  show qJ YX11_column κ _ (qLy u, m, y) 0 0 4 [some (qR 0), some (qI s)] [qI (if 0 ≤ s ∧ s ≤ 19 then 1 else 0)]
  refine qJ.if_eq hκ (tgt := 19) rfl rfl (by omega) (fun c4 => ?_) (fun c4 => ?_)
  · show qJ YX11_column κ _ (qLy u, m, y) 0 0 19 [some (qR 0), some (qI s)] []
    refine qJ.run hκ 1 (pc' := 20) (ls' := [some (qR 0), some (qI s)]) (st' := [qI (-1)]) rfl ?_
    exact qJ.iret hκ rfl rfl (by decide) (by decide) (⟨m, by unfold ansCol; rw [if_neg (fun z => by rw [if_pos z] at c4; exact absurd c4 (by decide))], rfl, Or.inl rfl⟩)
  · show qJ YX11_column κ _ (qLy u, m, y) 0 0 7 [some (qR 0), some (qI s)] []
    have sr : 0 ≤ s ∧ s ≤ 19 := by by_cases z : 0 ≤ s ∧ s ≤ 19; exact z; rw [if_neg z] at c4; exact absurd rfl c4
    refine qJ.run hκ 1 (pc' := 8) (ls' := [some (qR 0), some (qI s)]) (st' := [qR 0]) rfl ?_
    refine qJ.callV (As := []) (rest := []) hκ rfl kX11_165 (c_freshGrid u m y hR hC hF) rfl rfl (by decide) rfl rfl (Nat.le_of_ble_eq_true rfl) (Nat.le_of_ble_eq_true rfl) (Nat.le_of_ble_eq_true rfl) (Or.inl (fun r h' e => by obtain ⟨rfl, mG, rfl, hG⟩ := e; rfl)) (fun r h' e => ?_)
    obtain ⟨rfl, mG, rfl, hG⟩ := e
    show qJ YX11_column κ _ (qLy u, mG, y) 0 0 11 [some (qR 0), some (qI s)] [qR 29]
    refine qJ.run hκ 2 (pc' := 15) (ls' := [some (qR 0), some (qI s)]) (st' := [qI s, qR 31]) rfl ?_
    refine qJ.ald hκ rfl rfl rfl (by decide) (by omega) ?_
    show qJ YX11_column κ _ (qLy u, mG, y) 0 0 16 [some (qR 0), some (qI s)] [qI (mG 31 s.toNat)]
    refine qJ.run hκ 1 (pc' := 20) (ls' := [some (qR 0), some (qI s)]) (st' := [qI (mG 31 s.toNat)]) rfl ?_
    exact qJ.iret hκ rfl rfl (by decide) (by decide) (⟨mG, by unfold ansCol; rw [if_pos sr, hG.2.2.1.2.2.2 _ (by omega)], rfl, Or.inr hG⟩)

theorem kCG : ∀ i j, kCore i j = true → kN kG i j = true := by
  intro i j h
  refine kN_t.mpr fun z => ?_
  unfold kCore at h
  unfold kG at z
  rw [decide_eq_true_eq] at h z
  omega
theorem fGr_core {m m' : qM} (h : fGr m m') : keep kCore m' = keep kCore m := keep_of kCG h.1
/-- the class's breaks are the canon's -/
theorem gBk_can {m m1 : qM} {f0 k0 : Nat → Int} {n : Nat} (hR : rC m) (hn : (n : Int) ≤ m 2 2) (hm : m1 = q_up (q_up m 34 6 (-1)) 34 7 (-1)) : gBk m1 34 (sep f0) k0 n ↔ gB m n := by
  have hT1 : gTl m1 := by subst hm; exact hR.2.2.2.1
  have hW1 : gW m1 := by subst hm; exact hR.2.1
  have hg1 : gOK m1 34 := by subst hm; exact Or.inl ⟨rfl, rfl⟩
  have e22 : m1 2 2 = m 2 2 := by subst hm; rfl
  have e20 : m1 2 0 = m 2 0 := by subst hm; rfl
  have nl := fN_le hR hn
  have hf := gst_f (m := m1) (g := 34) (f0 := sep f0) (k0 := k0) hT1 n (by omega)
  have hk := gst_k (m := m1) (g := 34) (f0 := sep f0) (k0 := k0) n
  have hn2 := gst_n (m := m1) (g := 34) (f0 := sep f0) (k0 := k0) hT1 n (by omega)
  have e10 : fN m1 n = fN m n := by subst hm; rfl
  unfold gBk
  rw [hf, hk, hn2]
  refine brk_ag ?_ ?_
  · rw [e10]
    have := rst_ag (m := m1) (g := 34) (f := sep f0) (f' := sep (fun _ => 0)) hW1 hg1 (ag_sep _ _) (fN m n) (by omega)
    subst hm
    exact this
  · intro s hs
    unfold gCol gK
    rw [show ((fN m1 n : Nat) : Int).toNat = fN m1 n by omega, e10, jcS_k (k1 := kst m (fun _ => -1) n) _ (fun w hw => ?_)]
    · subst hm; rfl
    · rw [kst_c (m := m1) (m' := m) (by subst hm; rfl) (by subst hm; rfl)]
      exact kst_ind hR.2.2.2.1 n hn w hw
theorem q_fst_c {p q : Nat → Prop} [DecidablePred p] [DecidablePred q] : ∀ n, (∀ k, k < n → (p k ↔ q k)) → q_fst p n = q_fst q n
  | 0, _ => rfl
  | n + 1, h => by
    have ih := q_fst_c n (fun k hk => h k (by omega))
    have := h n (by omega)
    unfold q_fst
    rw [ih]
    by_cases hp : q_fst q n = -1 ∧ p n
    · rw [if_pos hp, if_pos ⟨hp.1, this.mp hp.2⟩]
    · rw [if_neg hp, if_neg (fun z => hp ⟨z.1, this.mpr z.2⟩)]

set_option maxRecDepth 100000 in
theorem x_breaker (u : qU) (m y : qM) (hR : rC m) (hC : cG m) (hF : m 0 11 = 0 ∨ m 0 11 = 1) : qCt YX11_breaker 7 0 0 [qR 0] (qLy u, m, y) (fun r h => ∃ m', r = some (qI (ansBrk m)) ∧ h = (qLy u, m', y) ∧ ∃ mG, keep (kN kTr) m' = keep (kN kTr) mG ∧ fGr m mG) := by
  refine qCt.intro okX11_breaker (Nat.le_of_ble_eq_true rfl) (fun κ hκ => ?_)
  have hR2 := hR
  obtain ⟨⟨⟨a0, a1, a2⟩, ⟨a3, a4, a5⟩, ⟨b0, b1, b2⟩, b3, b4, b5⟩, hW, hRW, hT, hRT, hS⟩ := hR2
  have hV : qr (m 1 9) := by omega
  have zr := gHz_r hR.1
  have nWl := nW_le hR.1
  have nTl := nT_le hR.1
  have hS7 : ∀ k : Int, 0 ≤ k → k < m 2 0 → qr (m 7 k.toNat) := fun k k0 k1 => by have := (hRW k k0 k1).2.1.2.1; omega
  have hS11 : ∀ k : Int, 0 ≤ k → k < m 2 2 → qr (m 11 k.toNat) := fun k k0 k1 => by have := (hRT k k0 k1).2.1; omega
  have hS9 : ∀ k : Int, 0 ≤ k → k < m 2 2 → qr (m 9 k.toNat) := fun k k0 k1 => by have := (hT k k0 k1).2.1; omega
  have hcn : (q_cnt (fun j => m 10 j = -1) (m 2 2).toNat : Nat) ≤ m 2 0 := Int.le_of_eq hS.2.2.1
  show qJ YX11_breaker κ _ (qLy u, m, y) 0 0 0 [some (qR 0)] []
  refine qJ.run hκ 1 (pc' := 1) (ls' := [some (qR 0)]) (st' := [qR 0]) rfl ?_
  refine qJ.callV (As := []) (rest := []) hκ rfl kX11_165 (c_freshGrid u m y hR hC hF) rfl rfl (by decide) rfl rfl (Nat.le_of_ble_eq_true rfl) (Nat.le_of_ble_eq_true rfl) (Nat.le_of_ble_eq_true rfl) (Or.inl (fun r h' e => by obtain ⟨rfl, mG, rfl, hG⟩ := e; rfl)) (fun r h' e => ?_)
  obtain ⟨rfl, mG, rfl, hG⟩ := e
  show qJ YX11_breaker κ _ (qLy u, mG, y) 0 0 4 [some (qR 0)] [qR 29]
  have hRG := rC_core (fGr_core hG) hR
  have eTG : nT mG = nT m := nT_core (fGr_core hG)
  have hGi : brk (mG 30) (mG 31) ↔ gB m (nT m) := gB_i hG.2.2.1
  have hGb := hG.2.2.2
  have bb := q_ite01 (brk (mG 30) (mG 31))
  have aG : (0 ≤ mG 2 0 ∧ mG 2 0 ≤ 60) ∧ (0 ≤ mG 2 2 ∧ mG 2 2 ≤ 150) := ⟨hRG.1.1.1, hRG.1.1.2.2⟩
  have zG := gHz_r hRG.1
  have hVG : qr (mG 1 9) := by have := hRG.1.2.1; omega
  have hSG : ∀ k : Int, 0 ≤ k → k < mG 2 2 → qr (mG 11 k.toNat) := fun k k0 k1 => by have := (hRG.2.2.2.2.1 k k0 k1).2.1; have := hRG.1.2.1.1; omega
  have hcnG : (q_cnt (fun j => mG 10 j = -1) (mG 2 2).toNat : Nat) ≤ mG 2 0 := Int.le_of_eq hRG.2.2.2.2.2.2.2.1
  refine qJ.run hκ 1 (pc' := 7) (ls' := [some (qR 0)]) (st' := [qI (mG 29 2)]) rfl ?_
  refine qJ.if_ne hκ (tgt := 12) rfl rfl (by omega) (fun c7 => ?_) (fun c7 => ?_)
  · show qJ YX11_breaker κ _ (qLy u, mG, y) 0 0 12 [some (qR 0)] []
    refine qJ.run hκ 7 (pc' := 27) (ls' := [some (qR 0)]) (st' := [qR 1, qR 2, qR 34]) rfl ?_
    refine qJ.callV (As := []) (rest := [qR 2, qR 34]) hκ rfl kX11_140 (c_horizon u mG y hVG) rfl rfl (by decide) rfl rfl (Nat.le_of_ble_eq_true rfl) (Nat.le_of_ble_eq_true rfl) (Nat.le_of_ble_eq_true rfl) (Or.inl (fun r h' e => by obtain ⟨rfl, rfl⟩ := e; rfl)) (fun r h' e => ?_)
    obtain ⟨rfl, rfl⟩ := e
    show qJ YX11_breaker κ _ (qLy u, mG, y) 0 0 30 [some (qR 0)] [qI (gHz mG), qR 2, qR 34]
    refine qJ.callV (As := [qR 2, qI (gHz mG)]) (rest := []) hκ rfl kX11_178 (c_firstBreak34 u mG y (gHz mG) (nT mG) rfl aG.1 hRG.2.1 (by omega) hRG.2.2.2.1 aG.2 hSG hcnG) rfl rfl (by decide) rfl rfl (Nat.le_of_ble_eq_true rfl) (Nat.le_of_ble_eq_true rfl) (Nat.le_of_ble_eq_true rfl) (Or.inl (fun r h' e => by obtain ⟨m1, f, k, nw, c, p, hm1, rfl, rfl⟩ := e; rfl)) (fun r h' e => ?_)
    obtain ⟨m1, f, k, nw, c, p, hm1, rfl, rfl⟩ := e
    show qJ YX11_breaker κ _ (qLy u, (q_up (q_row (q_row (q_row (q_row m1 36 c) 38 p) 35 f) 37 k) 34 5 nw), y) 0 0 33 [some (qR 0)] [qI (q_fst (fun t => gBk m1 34 (sep (mG 35)) (mG 37) (t + 1)) (nT mG))]
    exact qJ.iret hκ rfl rfl (by decide) (by decide) (by
      refine ⟨_, ?_, rfl, mG, ?_, hG⟩
      · unfold ansBrk
        rw [if_pos (hGi.mp (by by_cases z : brk (mG 30) (mG 31); exact z; rw [hGb, if_neg z] at c7; exact absurd rfl c7))]
        rw [q_fst_c (q := fun t => gB m (t + 1)) _ (fun t ht => (gBk_can hRG (by have := nT_le hRG.1; omega) hm1).trans (Iff.of_eq (by unfold gB; rw [gF_c (rk3 (fGr_core hG)) (rk4 (fGr_core hG)) (rk5 (fGr_core hG)) (rk10 (fGr_core hG)), gK_c (rk3 (fGr_core hG)) (rk4 (fGr_core hG)) (rk9 (fGr_core hG)) (rk10 (fGr_core hG))]))), eTG]
      · subst hm1
        exact (Eq.trans (keep_up (by rfl)) (Eq.trans (keep_row (by intro j; rfl)) (Eq.trans (keep_row (by intro j; rfl)) (Eq.trans (keep_row (by intro j; rfl)) (Eq.trans (keep_row (by intro j; rfl)) (Eq.trans (keep_up (by rfl)) (Eq.trans (keep_up (by rfl)) rfl))))))))
  · show qJ YX11_breaker κ _ (qLy u, mG, y) 0 0 10 [some (qR 0)] []
    refine qJ.run hκ 1 (pc' := 11) (ls' := [some (qR 0)]) (st' := [qI (-1)]) rfl ?_
    exact qJ.iret hκ rfl rfl (by decide) (by decide) (⟨mG, by unfold ansBrk; rw [if_neg (fun z => by rw [hGb, if_pos (hGi.mpr z)] at c7; exact absurd c7 (by decide))], rfl, mG, rfl, hG⟩)

set_option maxRecDepth 100000 in
theorem m_isBroken (u : qU) (m y : qM) (hr : lb (m 110)) (hc : lb (m 111)) : qCt YX12_isBroken 1 0 0 [qR 77] (qLy u, m, y) (fun r h => r = some (qI (if brk (m 110) (m 111) then 1 else 0)) ∧ h = (qLy u, m, y)) := by
  refine qCt.intro okX12_isBroken (Nat.le_of_ble_eq_true rfl) (fun κ hκ => ?_)
  have L2 : ∀ (n : Nat) (s : Int), (0 ≤ s) → (s ≤ 20) → (q_cnt (bro (m 110) (m 111)) s.toNat = 0) → ((20 - s).toNat) < n → qJ YX12_isBroken κ (qFin (fun r h => r = some (qI (if brk (m 110) (m 111) then 1 else 0)) ∧ h = (qLy u, m, y)) 0 0 κ) (qLy u, m, y) 0 0 2 [some (qR 77), some (qI s), none] [] := by
    intro n
    induction n with
    | zero => intro s _ _ _ hz0; omega
    | succ n ih2 =>
      intro s v2_0 v2_1 v2_2 v2_m
      have L10 : ∀ (n : Nat) (o : Int), (0 ≤ o) → (o ≤ s) → (q_cnt (bri (m 110) (m 111) s.toNat) o.toNat = 0) → (s < 20) → ((s - o).toNat) < n → qJ YX12_isBroken κ (qFin (fun r h => r = some (qI (if brk (m 110) (m 111) then 1 else 0)) ∧ h = (qLy u, m, y)) 0 0 κ) (qLy u, m, y) 0 0 10 [some (qR 77), some (qI s), some (qI o)] [] := by
        intro n
        induction n with
        | zero => intro o _ _ _ _ hz0; omega
        | succ n ih10 =>
          intro o v10_0 v10_1 v10_2 v10_3 v10_m
          refine qJ.run hκ 2 (pc' := 12) (ls' := [some (qR 77), some (qI s), some (qI o)]) (st' := [qI s, qI o]) rfl ?_
          refine qJ.icmp_ge hκ (tgt := 53) rfl rfl (by omega) (by omega) (fun c12 => ?_) (fun c12 => ?_)
          · show qJ YX12_isBroken κ _ (qLy u, m, y) 0 0 53 [some (qR 77), some (qI s), some (qI o)] []
            refine qJ.run hκ 2 (pc' := 2) (ls' := [some (qR 77), some (qI (s + 1)), some (qI o)]) (st' := []) rfl ?_
            refine qJ.dl [true, true, false] ?_
            show qJ YX12_isBroken κ _ (qLy u, m, y) 0 0 2 [some (qR 77), some (qI (s + 1)), none] []
            exact ih2  (s + 1) (by omega) (by omega) (by rw [q_cnt_s (by omega), if_neg (fun z => z (by rw [show s = o by omega]; rw [show s = o by omega] at v10_2; exact v10_2))]; omega) (by omega)
          · show qJ YX12_isBroken κ _ (qLy u, m, y) 0 0 15 [some (qR 77), some (qI s), some (qI o)] []
            have r1 := hr s.toNat (by omega)
            have r2 := hr o.toNat (by omega)
            have r3 := hc s.toNat (by omega)
            have r4 := hc o.toNat (by omega)
            refine qJ.run hκ 3 (pc' := 20) (ls' := [some (qR 77), some (qI s), some (qI o)]) (st' := [qI s, qR 110]) rfl ?_
            refine qJ.ald hκ rfl rfl rfl (by decide) (by omega) ?_
            show qJ YX12_isBroken κ _ (qLy u, m, y) 0 0 21 [some (qR 77), some (qI s), some (qI o)] [qI (m 110 s.toNat)]
            refine qJ.run hκ 3 (pc' := 26) (ls' := [some (qR 77), some (qI s), some (qI o)]) (st' := [qI o, qR 110, qI (m 110 s.toNat)]) rfl ?_
            refine qJ.ald hκ rfl rfl rfl (by decide) (by omega) ?_
            show qJ YX12_isBroken κ _ (qLy u, m, y) 0 0 27 [some (qR 77), some (qI s), some (qI o)] [qI (m 110 o.toNat), qI (m 110 s.toNat)]
            refine qJ.icmp_ne hκ (tgt := 47) rfl rfl (by omega) (by omega) (fun c27 => ?_) (fun c27 => ?_)
            · show qJ YX12_isBroken κ _ (qLy u, m, y) 0 0 47 [some (qR 77), some (qI s), some (qI o)] []
              refine qJ.run hκ 2 (pc' := 10) (ls' := [some (qR 77), some (qI s), some (qI (o + 1))]) (st' := []) rfl ?_
              exact ih10  (o + 1) (by omega) (by omega) (by rw [q_cnt_s v10_0, if_neg (fun z => c27 z.1)]; omega) (by omega) (by omega)
            · show qJ YX12_isBroken κ _ (qLy u, m, y) 0 0 30 [some (qR 77), some (qI s), some (qI o)] []
              refine qJ.run hκ 3 (pc' := 35) (ls' := [some (qR 77), some (qI s), some (qI o)]) (st' := [qI s, qR 111]) rfl ?_
              refine qJ.ald hκ rfl rfl rfl (by decide) (by omega) ?_
              show qJ YX12_isBroken κ _ (qLy u, m, y) 0 0 36 [some (qR 77), some (qI s), some (qI o)] [qI (m 111 s.toNat)]
              refine qJ.run hκ 3 (pc' := 41) (ls' := [some (qR 77), some (qI s), some (qI o)]) (st' := [qI o, qR 111, qI (m 111 s.toNat)]) rfl ?_
              refine qJ.ald hκ rfl rfl rfl (by decide) (by omega) ?_
              show qJ YX12_isBroken κ _ (qLy u, m, y) 0 0 42 [some (qR 77), some (qI s), some (qI o)] [qI (m 111 o.toNat), qI (m 111 s.toNat)]
              refine qJ.icmp_ne hκ (tgt := 47) rfl rfl (by omega) (by omega) (fun c42 => ?_) (fun c42 => ?_)
              · show qJ YX12_isBroken κ _ (qLy u, m, y) 0 0 47 [some (qR 77), some (qI s), some (qI o)] []
                refine qJ.run hκ 2 (pc' := 10) (ls' := [some (qR 77), some (qI s), some (qI (o + 1))]) (st' := []) rfl ?_
                exact ih10  (o + 1) (by omega) (by omega) (by rw [q_cnt_s v10_0, if_neg (fun z => c42 z.2)]; omega) (by omega) (by omega)
              · show qJ YX12_isBroken κ _ (qLy u, m, y) 0 0 45 [some (qR 77), some (qI s), some (qI o)] []
                refine qJ.run hκ 1 (pc' := 46) (ls' := [some (qR 77), some (qI s), some (qI o)]) (st' := [qI 1]) rfl ?_
                exact qJ.bret hκ rfl rfl (by omega) (by decide) (by decide) (by refine ⟨?_, rfl⟩; rw [if_pos (show brk (m 110) (m 111) from q_cnt_pos (i := s) (by omega) (by omega) (q_cnt_pos v10_0 (by omega) ⟨c27, c42⟩))])
      refine qJ.run hκ 2 (pc' := 5) (ls' := [some (qR 77), some (qI s), none]) (st' := [qI 20, qI s]) rfl ?_
      refine qJ.icmp_ge hκ (tgt := 59) rfl rfl (by omega) (by omega) (fun c5 => ?_) (fun c5 => ?_)
      · show qJ YX12_isBroken κ _ (qLy u, m, y) 0 0 59 [some (qR 77), some (qI s), none] []
        refine qJ.run hκ 1 (pc' := 60) (ls' := [some (qR 77), some (qI s), none]) (st' := [qI 0]) rfl ?_
        exact qJ.bret hκ rfl rfl (by omega) (by decide) (by decide) (by refine ⟨?_, rfl⟩; rw [if_neg (fun z => z (by rw [show s = 20 by omega] at v2_2; exact v2_2))])
      · show qJ YX12_isBroken κ _ (qLy u, m, y) 0 0 8 [some (qR 77), some (qI s), none] []
        refine qJ.run hκ 2 (pc' := 10) (ls' := [some (qR 77), some (qI s), some (qI 0)]) (st' := []) rfl ?_
        exact L10 21 0 (by omega) (by omega) (rfl) (by omega) (by omega)
  show qJ YX12_isBroken κ _ (qLy u, m, y) 0 0 0 [some (qR 77), none, none] []
  refine qJ.run hκ 2 (pc' := 2) (ls' := [some (qR 77), some (qI 0), none]) (st' := []) rfl ?_
  exact L2 21 0 (by omega) (by omega) (rfl) (by omega)

set_option maxRecDepth 100000 in
theorem m_findPlain (u : qU) (m y : qM) (n0 : Nat) (t0 : Int) (hR : rC m) (h1 : (n0 : Int) = t0 + 1 ∧ (n0 : Int) ≤ m 2 2) : qCt YX12_findPlainGrid 4 0 0 [qR 77, qI t0] (qLy u, m, y) (fun r h => r = none ∧ ∃ m', h = (qLy u, m', y) ∧ keep kObs m' = keep kObs m ∧ gdI m (-1) (-1) n0 (m' 110) (m' 111)) := by
  refine qCt.intro okX12_findPlainGrid (Nat.le_of_ble_eq_true rfl) (fun κ hκ => ?_)
  show qJ YX12_findPlainGrid κ _ (qLy u, m, y) 0 0 0 [some (qR 77), some (qI t0)] []
  refine qJ.run hκ 2 (pc' := 2) (ls' := [some (qR 77), some (qI t0)]) (st' := [qI (-1), qR 77]) rfl ?_
  refine qJ.putI hκ rfl rfl rfl rfl (Or.inl rfl) ?_
  show qJ YX12_findPlainGrid κ _ (qLy u, (q_up m 77 35 (-1)), y) 0 0 5 [some (qR 77), some (qI t0)] []
  refine qJ.run hκ 2 (pc' := 7) (ls' := [some (qR 77), some (qI t0)]) (st' := [qI (-1), qR 77]) rfl ?_
  refine qJ.putI hκ rfl rfl rfl rfl (Or.inl rfl) ?_
  show qJ YX12_findPlainGrid κ _ (qLy u, (q_up (q_up m 77 35 (-1)) 77 36 (-1)), y) 0 0 10 [some (qR 77), some (qI t0)] []
  refine qJ.run hκ 2 (pc' := 12) (ls' := [some (qR 77), some (qI t0)]) (st' := [qI t0, qR 77]) rfl ?_
  refine qJ.callV (As := [qI t0]) (rest := []) hκ rfl kX12_211 (c_findGrid u (q_up (q_up m 77 35 (-1)) 77 36 (-1)) y (-1) (-1) n0 t0 (show rC (q_up (q_up m 77 35 (-1)) 77 36 (-1)) from hR) ⟨rfl, rfl⟩ (Or.inl ⟨rfl, rfl⟩) h1) rfl rfl (by decide) rfl rfl (Nat.le_of_ble_eq_true rfl) (Nat.le_of_ble_eq_true rfl) (Nat.le_of_ble_eq_true rfl) (Or.inl (fun r h' e => by obtain ⟨rfl, a, b, f, c, rfl, hgd⟩ := e; rfl)) (fun r h' e => ?_)
  obtain ⟨rfl, a, b, f, c, rfl, hgd⟩ := e
  show qJ YX12_findPlainGrid κ _ (qLy u, (q_row (q_row (q_row (q_row (q_up (q_up m 77 35 (-1)) 77 36 (-1)) 108 a) 109 b) 110 f) 111 c), y) 0 0 15 [some (qR 77), some (qI t0)] []
  exact qJ.vret hκ rfl rfl (by decide) (by decide) (⟨rfl, _, rfl, (Eq.trans (keep_row (by intro j; rfl)) (Eq.trans (keep_row (by intro j; rfl)) (Eq.trans (keep_row (by intro j; rfl)) (Eq.trans (keep_row (by intro j; rfl)) (Eq.trans (keep_up (by rfl)) (Eq.trans (keep_up (by rfl)) rfl)))))), gdI_c (m := (q_up (q_up m 77 35 (-1)) 77 36 (-1))) rfl rfl rfl rfl rfl hgd⟩)

theorem ansRow_o {m m' : qM} (h : keep kObs m' = keep kObs m) (s : Int) : ansRow m' s = ansRow m s := by
  unfold ansRow
  rw [nT_o h, gF_c (ro3 h) (ro4 h) (ro5 h) (ro10 h)]
theorem ansCol_o {m m' : qM} (h : keep kObs m' = keep kObs m) (s : Int) : ansCol m' s = ansCol m s := by
  unfold ansCol
  rw [nT_o h, gK_c (ro3 h) (ro4 h) (ro9 h) (ro10 h)]
theorem ansBrk_o {m m' : qM} (h : keep kObs m' = keep kObs m) : ansBrk m' = ansBrk m := by
  have e : ∀ n, gB m' n ↔ gB m n := fun n => Iff.of_eq (by unfold gB; rw [gF_c (ro3 h) (ro4 h) (ro5 h) (ro10 h), gK_c (ro3 h) (ro4 h) (ro9 h) (ro10 h)])
  unfold ansBrk
  rw [nT_o h, q_fst_c (q := fun t => gB m (t + 1)) _ (fun t _ => e (t + 1))]
  by_cases z : gB m (nT m)
  · rw [if_pos z, if_pos ((e _).mpr z)]
  · rw [if_neg z, if_neg (fun q => z ((e _).mp q))]

set_option maxRecDepth 100000 in
theorem b_row (u : qU) (m y : qM) (s : Int) (hR : rC m) (h1 : qr s) {κ : qK} (hκ : qCx YX12_row 5 0 0 κ) : qJ YX12_row κ (qFin (fun r h => ∃ m', r = some (qI (ansRow m s)) ∧ h = (qLy u, m', y) ∧ keep kObs m' = keep kObs m) 0 0 κ) (qLy u, m, y) 0 0 5 [some (qR 77), some (qI s)] [] := by
  have hR2 := hR
  obtain ⟨⟨⟨a0, a1, a2⟩, ⟨a3, a4, a5⟩, ⟨b0, b1, b2⟩, b3, b4, b5⟩, hW, hRW, hT, hRT, hS⟩ := hR2
  have hV : qr (m 83 0) := by omega
  have zr := gHz_r hR.1
  have ze := hz_eq hR.1
  have nWl := nW_le hR.1
  have nTl := nT_le hR.1
  refine qJ.run hκ 1 (pc' := 6) (ls' := [some (qR 77), some (qI s)]) (st' := [qI s]) rfl ?_
  refine qJ.callS (As := [qI s]) (rest := []) hκ rfl kX12_171 (c_mIsSign u m y s (by omega)) (by decide) rfl rfl (Nat.le_of_ble_eq_true rfl) (Nat.le_of_ble_eq_true rfl) (Nat.le_of_ble_eq_true rfl) (Or.inl (fun r h' e => by obtain ⟨z6, rfl, hz6, rfl⟩ := e; rfl)) (fun r h' e => ?_)
  obtain ⟨z6, rfl, hz6, rfl⟩ := e
  show qJ YX12_row κ _ (qLy u, m, y) 0 0 9 [some (qR 77), some (qI s)] [qI z6]
  refine qJ.if_ne hκ (tgt := 14) rfl rfl (by omega) (fun c9 => ?_) (fun c9 => ?_)
  · show qJ YX12_row κ _ (qLy u, m, y) 0 0 14 [some (qR 77), some (qI s)] []
    refine qJ.run hκ 2 (pc' := 16) (ls' := [some (qR 77), some (qI s)]) (st' := [qR 77, qR 77]) rfl ?_
    refine qJ.callV (As := []) (rest := [qR 77]) hκ rfl kX12_183 (c_latest u m y hR) rfl rfl (by decide) rfl rfl (Nat.le_of_ble_eq_true rfl) (Nat.le_of_ble_eq_true rfl) (Nat.le_of_ble_eq_true rfl) (Or.inl (fun r h' e => by obtain ⟨rfl, rfl⟩ := e; rfl)) (fun r h' e => ?_)
    obtain ⟨rfl, rfl⟩ := e
    show qJ YX12_row κ _ (qLy u, m, y) 0 0 19 [some (qR 77), some (qI s)] [qI ((nT m : Int) - 1), qR 77]
    refine qJ.callV (As := [qI ((nT m : Int) - 1)]) (rest := []) hκ rfl kX12_214 (m_findPlain u m y (nT m) ((nT m : Int) - 1) hR (by omega)) rfl rfl (by decide) rfl rfl (Nat.le_of_ble_eq_true rfl) (Nat.le_of_ble_eq_true rfl) (Nat.le_of_ble_eq_true rfl) (Or.inl (fun r h' e => by obtain ⟨rfl, mF, rfl, hO, hD⟩ := e; rfl)) (fun r h' e => ?_)
    obtain ⟨rfl, mF, rfl, hO, hD⟩ := e
    show qJ YX12_row κ _ (qLy u, mF, y) 0 0 22 [some (qR 77), some (qI s)] []
    refine qJ.run hκ 3 (pc' := 27) (ls' := [some (qR 77), some (qI s)]) (st' := [qI s, qR 110]) rfl ?_
    refine qJ.ald hκ rfl rfl rfl (by decide) (by omega) ?_
    show qJ YX12_row κ _ (qLy u, mF, y) 0 0 28 [some (qR 77), some (qI s)] [qI (mF 110 s.toNat)]
    exact qJ.iret hκ rfl rfl (by decide) (by decide) (⟨mF, by unfold ansRow; rw [if_pos (by omega), hD.2.2.1 _ (by omega)], rfl, hO⟩)
  · show qJ YX12_row κ _ (qLy u, m, y) 0 0 12 [some (qR 77), some (qI s)] []
    refine qJ.run hκ 1 (pc' := 13) (ls' := [some (qR 77), some (qI s)]) (st' := [qI (-1)]) rfl ?_
    exact qJ.iret hκ rfl rfl (by decide) (by decide) (⟨m, by unfold ansRow; rw [if_neg (fun z => by omega)], rfl, rfl⟩)
set_option maxRecDepth 100000 in
theorem w_row (u : qU) (m y : qM) (s : Int) (hR : rC m) (h1 : qr s) : qCt YX12_row 5 0 0 [qR 77, qI s] (qLy u, m, y) (fun r h => ∃ m', r = some (qI (ansRow (q_up m 77 0 0) s)) ∧ h = (qLy u, m', y) ∧ keep kObs m' = keep kObs (q_up m 77 0 0)) := by
  refine qCt.intro okX12_row (Nat.le_of_ble_eq_true rfl) (fun κ hκ => ?_)
  show qJ YX12_row κ _ (qLy u, m, y) 0 0 0 [some (qR 77), some (qI s)] []
  refine qJ.run hκ 2 (pc' := 2) (ls' := [some (qR 77), some (qI s)]) (st' := [qI 0, qR 77]) rfl ?_
  refine qJ.putI hκ rfl rfl rfl rfl (Or.inl rfl) ?_
  show qJ YX12_row κ _ (qLy u, (q_up m 77 0 0), y) 0 0 5 [some (qR 77), some (qI s)] []
  exact b_row u (q_up m 77 0 0) y s (show rC (q_up m 77 0 0) from hR) h1 hκ
theorem m_row (u : qU) (m y : qM) (s : Int) (hR : rC m) (h1 : qr s) : qCt YX12_row 5 0 0 [qR 77, qI s] (qLy u, m, y) (fun r h => ∃ m', r = some (qI (ansRow m s)) ∧ h = (qLy u, m', y) ∧ keep kObs m' = keep kObs m) := by
  refine (w_row u m y s hR h1).weak ?_
  rintro r h ⟨m', e1, e2, e3⟩
  exact ⟨m', by rw [e1, ansRow_o (keep_up (by rfl))], e2, e3.trans (keep_up (by rfl))⟩

set_option maxRecDepth 100000 in
theorem b_column (u : qU) (m y : qM) (s : Int) (hR : rC m) (h1 : qr s) {κ : qK} (hκ : qCx YX12_column 5 0 0 κ) : qJ YX12_column κ (qFin (fun r h => ∃ m', r = some (qI (ansCol m s)) ∧ h = (qLy u, m', y) ∧ keep kObs m' = keep kObs m) 0 0 κ) (qLy u, m, y) 0 0 5 [some (qR 77), some (qI s)] [] := by
  have hR2 := hR
  obtain ⟨⟨⟨a0, a1, a2⟩, ⟨a3, a4, a5⟩, ⟨b0, b1, b2⟩, b3, b4, b5⟩, hW, hRW, hT, hRT, hS⟩ := hR2
  have hV : qr (m 83 0) := by omega
  have zr := gHz_r hR.1
  have ze := hz_eq hR.1
  have nWl := nW_le hR.1
  have nTl := nT_le hR.1
  refine qJ.run hκ 1 (pc' := 6) (ls' := [some (qR 77), some (qI s)]) (st' := [qI s]) rfl ?_
  refine qJ.callS (As := [qI s]) (rest := []) hκ rfl kX12_171 (c_mIsSign u m y s (by omega)) (by decide) rfl rfl (Nat.le_of_ble_eq_true rfl) (Nat.le_of_ble_eq_true rfl) (Nat.le_of_ble_eq_true rfl) (Or.inl (fun r h' e => by obtain ⟨z6, rfl, hz6, rfl⟩ := e; rfl)) (fun r h' e => ?_)
  obtain ⟨z6, rfl, hz6, rfl⟩ := e
  show qJ YX12_column κ _ (qLy u, m, y) 0 0 9 [some (qR 77), some (qI s)] [qI z6]
  refine qJ.if_ne hκ (tgt := 14) rfl rfl (by omega) (fun c9 => ?_) (fun c9 => ?_)
  · show qJ YX12_column κ _ (qLy u, m, y) 0 0 14 [some (qR 77), some (qI s)] []
    refine qJ.run hκ 2 (pc' := 16) (ls' := [some (qR 77), some (qI s)]) (st' := [qR 77, qR 77]) rfl ?_
    refine qJ.callV (As := []) (rest := [qR 77]) hκ rfl kX12_183 (c_latest u m y hR) rfl rfl (by decide) rfl rfl (Nat.le_of_ble_eq_true rfl) (Nat.le_of_ble_eq_true rfl) (Nat.le_of_ble_eq_true rfl) (Or.inl (fun r h' e => by obtain ⟨rfl, rfl⟩ := e; rfl)) (fun r h' e => ?_)
    obtain ⟨rfl, rfl⟩ := e
    show qJ YX12_column κ _ (qLy u, m, y) 0 0 19 [some (qR 77), some (qI s)] [qI ((nT m : Int) - 1), qR 77]
    refine qJ.callV (As := [qI ((nT m : Int) - 1)]) (rest := []) hκ rfl kX12_214 (m_findPlain u m y (nT m) ((nT m : Int) - 1) hR (by omega)) rfl rfl (by decide) rfl rfl (Nat.le_of_ble_eq_true rfl) (Nat.le_of_ble_eq_true rfl) (Nat.le_of_ble_eq_true rfl) (Or.inl (fun r h' e => by obtain ⟨rfl, mF, rfl, hO, hD⟩ := e; rfl)) (fun r h' e => ?_)
    obtain ⟨rfl, mF, rfl, hO, hD⟩ := e
    show qJ YX12_column κ _ (qLy u, mF, y) 0 0 22 [some (qR 77), some (qI s)] []
    refine qJ.run hκ 3 (pc' := 27) (ls' := [some (qR 77), some (qI s)]) (st' := [qI s, qR 111]) rfl ?_
    refine qJ.ald hκ rfl rfl rfl (by decide) (by omega) ?_
    show qJ YX12_column κ _ (qLy u, mF, y) 0 0 28 [some (qR 77), some (qI s)] [qI (mF 111 s.toNat)]
    exact qJ.iret hκ rfl rfl (by decide) (by decide) (⟨mF, by unfold ansCol; rw [if_pos (by omega), hD.2.2.2 _ (by omega)], rfl, hO⟩)
  · show qJ YX12_column κ _ (qLy u, m, y) 0 0 12 [some (qR 77), some (qI s)] []
    refine qJ.run hκ 1 (pc' := 13) (ls' := [some (qR 77), some (qI s)]) (st' := [qI (-1)]) rfl ?_
    exact qJ.iret hκ rfl rfl (by decide) (by decide) (⟨m, by unfold ansCol; rw [if_neg (fun z => by omega)], rfl, rfl⟩)
set_option maxRecDepth 100000 in
theorem w_column (u : qU) (m y : qM) (s : Int) (hR : rC m) (h1 : qr s) : qCt YX12_column 5 0 0 [qR 77, qI s] (qLy u, m, y) (fun r h => ∃ m', r = some (qI (ansCol (q_up m 77 0 0) s)) ∧ h = (qLy u, m', y) ∧ keep kObs m' = keep kObs (q_up m 77 0 0)) := by
  refine qCt.intro okX12_column (Nat.le_of_ble_eq_true rfl) (fun κ hκ => ?_)
  show qJ YX12_column κ _ (qLy u, m, y) 0 0 0 [some (qR 77), some (qI s)] []
  refine qJ.run hκ 2 (pc' := 2) (ls' := [some (qR 77), some (qI s)]) (st' := [qI 0, qR 77]) rfl ?_
  refine qJ.putI hκ rfl rfl rfl rfl (Or.inl rfl) ?_
  show qJ YX12_column κ _ (qLy u, (q_up m 77 0 0), y) 0 0 5 [some (qR 77), some (qI s)] []
  exact b_column u (q_up m 77 0 0) y s (show rC (q_up m 77 0 0) from hR) h1 hκ
theorem m_column (u : qU) (m y : qM) (s : Int) (hR : rC m) (h1 : qr s) : qCt YX12_column 5 0 0 [qR 77, qI s] (qLy u, m, y) (fun r h => ∃ m', r = some (qI (ansCol m s)) ∧ h = (qLy u, m', y) ∧ keep kObs m' = keep kObs m) := by
  refine (w_column u m y s hR h1).weak ?_
  rintro r h ⟨m', e1, e2, e3⟩
  exact ⟨m', by rw [e1, ansCol_o (keep_up (by rfl))], e2, e3.trans (keep_up (by rfl))⟩

theorem q_fst_end {p : Nat → Prop} [DecidablePred p] {n : Nat} (h : q_fst p n = -1) (hp : p n) : q_fst p (n + 1) = (n : Int) := by
  unfold q_fst; rw [if_pos ⟨h, hp⟩]
/-- broken behind all, behind no fewer: the last telling did it -/
theorem gB_0 (m : qM) : ¬ gB m 0 := by
  intro z
  exact z rfl
theorem brk_last {m : qM} {t : Int} (h1 : t ≤ (nT m : Int) - 1 ∨ t = 0) (h4 : q_fst (fun t => gB m (t + 1)) t.toNat = -1) (h2 : gB m (nT m)) (h0 : (nT m : Int) - 1 ≤ t := by omega) (hp : 0 ≤ t := by omega) : some (qI ((nT m : Int) - 1)) = some (qI (q_fst (fun t => gB m (t + 1)) (nT m))) := by
  by_cases e : nT m = 0
  · rw [e] at h2; exact absurd h2 (gB_0 m)
  · obtain ⟨n, hn⟩ : ∃ n, nT m = n + 1 := ⟨nT m - 1, by omega⟩
    have ht : t.toNat = n := by omega
    rw [hn] at h2 ⊢
    rw [ht] at h4
    rw [q_fst_end h4 h2]
    congr 2
    omega

set_option maxRecDepth 100000 in
theorem b_breaker (u : qU) (m y : qM) (hR : rC m) {κ : qK} (hκ : qCx YX12_breaker 5 0 0 κ) : qJ YX12_breaker κ (qFin (fun r h => ∃ m', r = some (qI (ansBrk m )) ∧ h = (qLy u, m', y) ∧ keep kObs m' = keep kObs m) 0 0 κ) (qLy u, m, y) 0 0 5 [some (qR 77), none, none] [] := by
  have hR2 := hR
  obtain ⟨⟨⟨a0, a1, a2⟩, ⟨a3, a4, a5⟩, ⟨b0, b1, b2⟩, b3, b4, b5⟩, hW, hRW, hT, hRT, hS⟩ := hR2
  have hV : qr (m 83 0) := by omega
  have zr := gHz_r hR.1
  have ze := hz_eq hR.1
  have nWl := nW_le hR.1
  have nTl := nT_le hR.1
  have L26 : ∀ (n : Nat) (mF : qM) (t : Int), (0 ≤ t) → (t ≤ (nT m : Int) - 1 ∨ t = 0) → (gB m (nT m)) → (keep kObs mF = keep kObs m) → (q_fst (fun t => gB m (t + 1)) t.toNat = -1) → (((nT m : Int) - t).toNat) < n → qJ YX12_breaker κ (qFin (fun r h => ∃ m', r = some (qI (ansBrk m )) ∧ h = (qLy u, m', y) ∧ keep kObs m' = keep kObs m) 0 0 κ) (qLy u, mF, y) 0 0 26 [some (qR 77), some (qI ((nT m : Int) - 1)), some (qI t)] [] := by
    intro n
    induction n with
    | zero => intro mF t _ _ _ _ _ hz0; omega
    | succ n ih26 =>
      intro mF t v26_0 v26_1 v26_2 v26_3 v26_4 v26_m
      refine qJ.run hκ 2 (pc' := 28) (ls' := [some (qR 77), some (qI ((nT m : Int) - 1)), some (qI t)]) (st' := [qI ((nT m : Int) - 1), qI t]) rfl ?_
      refine qJ.icmp_ge hκ (tgt := 51) rfl rfl (by omega) (by omega) (fun c28 => ?_) (fun c28 => ?_)
      · show qJ YX12_breaker κ _ (qLy u, mF, y) 0 0 51 [some (qR 77), some (qI ((nT m : Int) - 1)), some (qI t)] []
        refine qJ.run hκ 1 (pc' := 52) (ls' := [some (qR 77), some (qI ((nT m : Int) - 1)), some (qI t)]) (st' := [qI ((nT m : Int) - 1)]) rfl ?_
        exact qJ.iret hκ rfl rfl (by decide) (by decide) (by refine ⟨mF, ?_, rfl, v26_3⟩; unfold ansBrk; rw [if_pos v26_2]; exact brk_last v26_1 v26_4 v26_2)
      · show qJ YX12_breaker κ _ (qLy u, mF, y) 0 0 31 [some (qR 77), some (qI ((nT m : Int) - 1)), some (qI t)] []
        refine qJ.run hκ 2 (pc' := 33) (ls' := [some (qR 77), some (qI ((nT m : Int) - 1)), some (qI t)]) (st' := [qI t, qR 77]) rfl ?_
        refine qJ.callV (As := [qI t]) (rest := []) hκ rfl kX12_214 (m_findPlain u mF y (t + 1).toNat t (rC_o v26_3 hR) ⟨by omega, by rw [show mF 2 2 = m 2 2 from congrFun (congrFun v26_3 2) 2]; omega⟩) rfl rfl (by decide) rfl rfl (Nat.le_of_ble_eq_true rfl) (Nat.le_of_ble_eq_true rfl) (Nat.le_of_ble_eq_true rfl) (Or.inl (fun r h' e => by obtain ⟨rfl, mH, rfl, hO2, hD2⟩ := e; rfl)) (fun r h' e => ?_)
        obtain ⟨rfl, mH, rfl, hO2, hD2⟩ := e
        show qJ YX12_breaker κ _ (qLy u, mH, y) 0 0 36 [some (qR 77), some (qI ((nT m : Int) - 1)), some (qI t)] []
        refine qJ.run hκ 1 (pc' := 37) (ls' := [some (qR 77), some (qI ((nT m : Int) - 1)), some (qI t)]) (st' := [qR 77]) rfl ?_
        refine qJ.callV (As := []) (rest := []) hκ rfl kX12_217 (m_isBroken u mH y hD2.1 hD2.2.1) rfl rfl (by decide) rfl rfl (Nat.le_of_ble_eq_true rfl) (Nat.le_of_ble_eq_true rfl) (Nat.le_of_ble_eq_true rfl) (Or.inl (fun r h' e => by obtain ⟨rfl, rfl⟩ := e; rfl)) (fun r h' e => ?_)
        obtain ⟨rfl, rfl⟩ := e
        show qJ YX12_breaker κ _ (qLy u, mH, y) 0 0 40 [some (qR 77), some (qI ((nT m : Int) - 1)), some (qI t)] [qI (if brk (mH 110) (mH 111) then 1 else 0)]
        have hDj : brk (mH 110) (mH 111) ↔ gB m (t.toNat + 1) := by rw [show t.toNat + 1 = (t + 1).toNat by omega]; exact gB_i (gdI_o v26_3 hD2)
        have bb := q_ite01 (brk (mH 110) (mH 111))
        refine qJ.if_eq hκ (tgt := 45) rfl rfl (by omega) (fun c40 => ?_) (fun c40 => ?_)
        · show qJ YX12_breaker κ _ (qLy u, mH, y) 0 0 45 [some (qR 77), some (qI ((nT m : Int) - 1)), some (qI t)] []
          refine qJ.run hκ 2 (pc' := 26) (ls' := [some (qR 77), some (qI ((nT m : Int) - 1)), some (qI (t + 1))]) (st' := []) rfl ?_
          exact ih26  mH (t + 1) (by omega) (by omega) (v26_2) (hO2.trans v26_3) (q_fst_no v26_0 v26_4 (fun z => by rw [if_pos (hDj.mpr z)] at c40; exact absurd c40 (by decide))) (by omega)
        · show qJ YX12_breaker κ _ (qLy u, mH, y) 0 0 43 [some (qR 77), some (qI ((nT m : Int) - 1)), some (qI t)] []
          refine qJ.run hκ 1 (pc' := 44) (ls' := [some (qR 77), some (qI ((nT m : Int) - 1)), some (qI t)]) (st' := [qI t]) rfl ?_
          exact qJ.iret hκ rfl rfl (by decide) (by decide) (⟨mH, by unfold ansBrk; rw [if_pos v26_2, q_fst_hit (p := fun t => gB m (t + 1)) v26_0 v26_4 (hDj.mp (by by_cases z : brk (mH 110) (mH 111); exact z; rw [if_neg z] at c40; exact absurd rfl c40)) _ (by omega)], rfl, hO2.trans v26_3⟩)
  refine qJ.run hκ 1 (pc' := 6) (ls' := [some (qR 77), none, none]) (st' := [qR 77]) rfl ?_
  refine qJ.callV (As := []) (rest := []) hκ rfl kX12_183 (c_latest u m y hR) rfl rfl (by decide) rfl rfl (Nat.le_of_ble_eq_true rfl) (Nat.le_of_ble_eq_true rfl) (Nat.le_of_ble_eq_true rfl) (Or.inl (fun r h' e => by obtain ⟨rfl, rfl⟩ := e; rfl)) (fun r h' e => ?_)
  obtain ⟨rfl, rfl⟩ := e
  show qJ YX12_breaker κ _ (qLy u, m, y) 0 0 9 [some (qR 77), none, none] [qI ((nT m : Int) - 1)]
  refine qJ.run hκ 3 (pc' := 12) (ls' := [some (qR 77), some (qI ((nT m : Int) - 1)), none]) (st' := [qI ((nT m : Int) - 1), qR 77]) rfl ?_
  refine qJ.callV (As := [qI ((nT m : Int) - 1)]) (rest := []) hκ rfl kX12_214 (m_findPlain u m y (nT m) ((nT m : Int) - 1) hR (by omega)) rfl rfl (by decide) rfl rfl (Nat.le_of_ble_eq_true rfl) (Nat.le_of_ble_eq_true rfl) (Nat.le_of_ble_eq_true rfl) (Or.inl (fun r h' e => by obtain ⟨rfl, mF, rfl, hO, hD⟩ := e; rfl)) (fun r h' e => ?_)
  obtain ⟨rfl, mF, rfl, hO, hD⟩ := e
  show qJ YX12_breaker κ _ (qLy u, mF, y) 0 0 15 [some (qR 77), some (qI ((nT m : Int) - 1)), none] []
  refine qJ.run hκ 1 (pc' := 16) (ls' := [some (qR 77), some (qI ((nT m : Int) - 1)), none]) (st' := [qR 77]) rfl ?_
  refine qJ.callV (As := []) (rest := []) hκ rfl kX12_217 (m_isBroken u mF y hD.1 hD.2.1) rfl rfl (by decide) rfl rfl (Nat.le_of_ble_eq_true rfl) (Nat.le_of_ble_eq_true rfl) (Nat.le_of_ble_eq_true rfl) (Or.inl (fun r h' e => by obtain ⟨rfl, rfl⟩ := e; rfl)) (fun r h' e => ?_)
  obtain ⟨rfl, rfl⟩ := e
  show qJ YX12_breaker κ _ (qLy u, mF, y) 0 0 19 [some (qR 77), some (qI ((nT m : Int) - 1)), none] [qI (if brk (mF 110) (mF 111) then 1 else 0)]
  have hDi : brk (mF 110) (mF 111) ↔ gB m (nT m) := gB_i hD
  have bb := q_ite01 (brk (mF 110) (mF 111))
  refine qJ.if_ne hκ (tgt := 24) rfl rfl (by omega) (fun c19 => ?_) (fun c19 => ?_)
  · show qJ YX12_breaker κ _ (qLy u, mF, y) 0 0 24 [some (qR 77), some (qI ((nT m : Int) - 1)), none] []
    refine qJ.run hκ 2 (pc' := 26) (ls' := [some (qR 77), some (qI ((nT m : Int) - 1)), some (qI 0)]) (st' := []) rfl ?_
    exact L26 152 mF 0 (by omega) (by omega) (hDi.mp (by by_cases z : brk (mF 110) (mF 111); exact z; rw [if_neg z] at c19; exact absurd rfl c19)) (hO) (rfl) (by omega)
  · show qJ YX12_breaker κ _ (qLy u, mF, y) 0 0 22 [some (qR 77), some (qI ((nT m : Int) - 1)), none] []
    refine qJ.run hκ 1 (pc' := 23) (ls' := [some (qR 77), some (qI ((nT m : Int) - 1)), none]) (st' := [qI (-1)]) rfl ?_
    exact qJ.iret hκ rfl rfl (by decide) (by decide) (⟨mF, by unfold ansBrk; rw [if_neg (fun z => by rw [if_pos (hDi.mpr z)] at c19; exact absurd c19 (by decide))], rfl, hO⟩)
set_option maxRecDepth 100000 in
theorem w_breaker (u : qU) (m y : qM) (hR : rC m) : qCt YX12_breaker 5 0 0 [qR 77] (qLy u, m, y) (fun r h => ∃ m', r = some (qI (ansBrk (q_up m 77 0 0) )) ∧ h = (qLy u, m', y) ∧ keep kObs m' = keep kObs (q_up m 77 0 0)) := by
  refine qCt.intro okX12_breaker (Nat.le_of_ble_eq_true rfl) (fun κ hκ => ?_)
  show qJ YX12_breaker κ _ (qLy u, m, y) 0 0 0 [some (qR 77), none, none] []
  refine qJ.run hκ 2 (pc' := 2) (ls' := [some (qR 77), none, none]) (st' := [qI 0, qR 77]) rfl ?_
  refine qJ.putI hκ rfl rfl rfl rfl (Or.inl rfl) ?_
  show qJ YX12_breaker κ _ (qLy u, (q_up m 77 0 0), y) 0 0 5 [some (qR 77), none, none] []
  exact b_breaker u (q_up m 77 0 0) y  (show rC (q_up m 77 0 0) from hR) hκ
theorem m_breaker (u : qU) (m y : qM) (hR : rC m) : qCt YX12_breaker 5 0 0 [qR 77] (qLy u, m, y) (fun r h => ∃ m', r = some (qI (ansBrk m )) ∧ h = (qLy u, m', y) ∧ keep kObs m' = keep kObs m) := by
  refine (w_breaker u m y  hR).weak ?_
  rintro r h ⟨m', e1, e2, e3⟩
  exact ⟨m', by rw [e1, ansBrk_o (keep_up (by rfl))], e2, e3.trans (keep_up (by rfl))⟩

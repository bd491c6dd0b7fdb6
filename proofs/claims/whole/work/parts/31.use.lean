/-! printed by p31.py: use of signs, class and model -/
theorem q_sum_c {f g : Nat → Int} : ∀ n, (∀ k, k < n → f k = g k) → q_sum f n = q_sum g n
  | 0, _ => rfl
  | n + 1, h => by
    show q_sum f n + f n = q_sum g n + g n
    rw [q_sum_c n (fun k hk => h k (by omega)), h n (by omega)]
theorem q_cnt_one {p : Nat → Prop} [DecidablePred p] {c : Nat} : ∀ n, c < n → (∀ k, k < n → p k → k = c) → q_cnt p n = if p c then 1 else 0
  | 0, h, _ => by omega
  | n + 1, h, hu => by
    show q_cnt p n + (if p n then 1 else 0) = _
    by_cases e : c = n
    · subst e
      have : q_cnt p c = 0 := by
        have : ∀ j, j ≤ c → q_cnt p j = 0 := by
          intro j
          induction j with
          | zero => intro _; rfl
          | succ j ih =>
            intro hj
            show q_cnt p j + (if p j then 1 else 0) = 0
            rw [ih (by omega), if_neg (fun z => by have := hu j (by omega) z; omega)]
        exact this c (Nat.le_refl _)
      rw [this]; omega
    · rw [q_cnt_one n (by omega) (fun k hk hp => hu k (by omega) hp), if_neg (fun z => e (hu n (by omega) z).symm)]; omega
/-! the class -/
theorem uSit_c {m m' : qM} (h3 : m 3 = m' 3) (h4 : m 4 = m' 4) (h6 : m 6 = m' 6) (s : Nat) : ∀ n, uSit m s n = uSit m' s n
  | 0 => rfl
  | n + 1 => by
    have e : uC m n s (m 4 n).toNat = uC m' n s (m' 4 n).toNat := by unfold uC; rw [h3, h4]
    unfold uSit
    rw [uSit_c h3 h4 h6 s n, e, h6]
theorem uAll_c {m m' : qM} (h3 : m 3 = m' 3) (h4 : m 4 = m' 4) (n s : Nat) : uAll m n s = uAll m' n s := by
  unfold uAll uC
  rw [h3, h4]
theorem uFst_c {m m' : qM} (h3 : m 3 = m' 3) (n s : Nat) : uFst m n s = uFst m' n s := by
  unfold uFst
  rw [h3]
theorem uLst_c {m m' : qM} (h3 : m 3 = m' 3) (h4 : m 4 = m' 4) (n s : Nat) : uLst m n s = uLst m' n s := by
  unfold uLst
  rw [h3, h4]
theorem uRep_c {m m' : qM} {n : Nat} {a b c d : Nat → Int} (h3 : m 3 = m' 3) (h4 : m 4 = m' 4) (h6 : m 6 = m' 6) (h : uRep m n a b c d) : uRep m' n a b c d := by
  intro s hs
  obtain ⟨g1, g2, g3, g4⟩ := h s hs
  exact ⟨by rw [g1, uAll_c h3 h4], by rw [g2, uFst_c h3], by rw [g3, uLst_c h3 h4], by rw [g4, uSit_c h3 h4 h6]⟩
theorem uRep_kern {m : qM} {n : Nat} {a b c d : Nat → Int} : uRep (keep kKern m) n a b c d ↔ uRep m n a b c d := ⟨uRep_c rfl rfl rfl, uRep_c rfl rfl rfl⟩
def fUs (m m' : qM) : Prop := keep (kN kU) m' = keep (kN kU) m ∧ m' 0 10 = 0 ∧ uRep m (nW m) (m' 25) (m' 26) (m' 27) (m' 28)
def cU (m : qM) : Prop := m 0 10 = 0 → uRep (keep kKern m) (nW m) (m 25) (m 26) (m 27) (m 28)
theorem fUs_0 {m : qM} (hc : cU m) (h : m 0 10 = 0) : fUs m m := ⟨rfl, h, uRep_kern.mp (hc h)⟩
theorem kCU : ∀ i j, kCore i j = true → kN kU i j = true := by
  intro i j h
  refine kN_t.mpr fun z => ?_
  unfold kCore at h
  unfold kU at z
  rw [decide_eq_true_eq] at h z
  omega
theorem fUs_core {m m' : qM} (h : fUs m m') : keep kCore m' = keep kCore m := keep_of kCU h.1
theorem uAll_r {m : qM} {s : Nat} (hR : rC m) : ∀ n : Nat, (n : Int) ≤ m 2 0 → 0 ≤ uAll m n s ∧ uAll m n s ≤ 5 * n
  | 0, _ => by rw [show uAll m 0 s = 0 from rfl]; omega
  | n + 1, h => by
    have ih := uAll_r (s := s) hR n (by omega)
    have w := hR.2.1 (n : Int) (by omega) (by omega)
    have e : uAll m (n + 1) s = uAll m n s + (uC m n s (m 4 n).toNat : Int) := rfl
    have c := q_cnt_le (fun k => m 3 ((n : Int) * 5 + (k : Int)).toNat = (s : Int)) (m 4 n).toNat
    rw [show ((n : Int)).toNat = n by omega] at w
    unfold uC at e
    omega
theorem uFst_r {m : qM} {s : Nat} : ∀ n : Nat, 0 ≤ uFst m n s ∧ uFst m n s ≤ n
  | 0 => by rw [show uFst m 0 s = 0 from rfl]; omega
  | n + 1 => by
    have ih := uFst_r (m := m) (s := s) n
    have e : uFst m (n + 1) s = uFst m n s + (if m 3 ((n : Int) * 5).toNat = (s : Int) then 1 else 0) := rfl
    rw [e]
    split <;> omega
theorem uRep_r {m : qM} {n : Nat} {a b c d : Nat → Int} (hR : rC m) (hn : (n : Int) ≤ m 2 0) (h : uRep m n a b c d) : ∀ s : Nat, s < 20 → (0 ≤ a s ∧ a s ≤ 300) ∧ 0 ≤ b s ∧ b s ≤ 300 := by
  intro s hs
  obtain ⟨g1, g2, -, -⟩ := h s hs
  have a1 := uAll_r (s := s) hR n hn
  have a2 := uFst_r (m := m) (s := s) n
  have := hR.1.1.1
  rw [g1, g2]
  omega
/-- site masks are of four bits -/
theorem q_or16 : ∀ x : Fin 16, ∀ k : Fin 4, 1 ≤ q_or (x.val : Int) (q_shl 1 (k.val : Int)) ∧ q_or (x.val : Int) (q_shl 1 (k.val : Int)) ≤ 15 := by decide +kernel
theorem q_or16i {x k : Int} (h : 0 ≤ x ∧ x ≤ 15) (hk : 0 ≤ k ∧ k ≤ 3) : 1 ≤ q_or x (q_shl 1 k) ∧ q_or x (q_shl 1 k) ≤ 15 := by
  have := q_or16 ⟨x.toNat, by omega⟩ ⟨k.toNat, by omega⟩
  simp only [] at this
  rw [q_tn h.1, q_tn hk.1] at this
  exact this
theorem uSit_r {m : qM} {s : Nat} (hR : rC m) : ∀ n : Nat, (n : Int) ≤ m 2 0 → (0 ≤ uSit m s n ∧ uSit m s n ≤ 15) ∧ (uSit m s n = 0 ↔ uAll m n s = 0)
  | 0, _ => ⟨by constructor <;> (unfold uSit; decide), ⟨fun _ => rfl, fun _ => rfl⟩⟩
  | n + 1, h => by
    have ih := uSit_r (s := s) hR n (by omega)
    have w := (hR.2.2.1 (n : Int) (by omega) (by omega)).2.1.1
    rw [show ((n : Int)).toNat = n by omega] at w
    have e : uAll m (n + 1) s = uAll m n s + (uC m n s (m 4 n).toNat : Int) := rfl
    have p := uAll_r (s := s) hR n (by omega)
    have o := q_or16i ih.1 w
    unfold uSit
    by_cases z : uC m n s (m 4 n).toNat = 0
    · rw [if_pos z, e, z]
      exact ⟨ih.1, ih.2.trans (by constructor <;> intro q <;> omega)⟩
    · rw [if_neg z, e]
      refine ⟨by omega, ?_⟩
      constructor <;> intro q <;> omega
abbrev uAq (al fi : Nat → Int) (a b : Nat) : Prop := if ¬ fi a * al b = fi b * al a then fi b * al a < fi a * al b else if ¬ al a = al b then al b < al a else a < b
abbrev uAhq (al fi : Nat → Int) (s o : Nat) : Prop := 0 < al o ∧ uAq al fi o s
abbrev uRq (al fi : Nat → Int) (k : Int) (s : Nat) : Prop := 0 < al s ∧ (q_cnt (uAhq al fi s) 20 : Nat) = k
theorem uAq_c {al fi al' fi' : Nat → Int} {a b : Nat} (ha : al a = al' a ∧ fi a = fi' a) (hb : al b = al' b ∧ fi b = fi' b) : uAq al fi a b ↔ uAq al' fi' a b := by
  unfold uAq
  rw [ha.1, ha.2, hb.1, hb.2]
theorem uRq_c {al fi al' fi' : Nat → Int} (h : ∀ s, s < 20 → al s = al' s ∧ fi s = fi' s) (k : Int) {s : Nat} (hs : s < 20) : uRq al fi k s ↔ uRq al' fi' k s := by
  have e : q_cnt (uAhq al fi s) 20 = q_cnt (uAhq al' fi' s) 20 := by
    refine q_cnt_c 20 fun x hx => ?_
    show (0 < al x ∧ uAq al fi x s) ↔ (0 < al' x ∧ uAq al' fi' x s)
    rw [uAq_c (h x hx) (h s hs), (h x hx).1]
  show (0 < al s ∧ (q_cnt (uAhq al fi s) 20 : Nat) = k) ↔ (0 < al' s ∧ (q_cnt (uAhq al' fi' s) 20 : Nat) = k)
  rw [e, (h s hs).1]
theorem uAq_1 {al fi : Nat → Int} {a b : Nat} (h : ¬ fi a * al b = fi b * al a) : uAq al fi a b ↔ fi b * al a < fi a * al b := by unfold uAq; rw [if_pos h]
theorem uAq_2 {al fi : Nat → Int} {a b : Nat} (h : fi a * al b = fi b * al a) (h2 : ¬ al a = al b) : uAq al fi a b ↔ al b < al a := by unfold uAq; rw [if_neg (fun z => z h), if_pos h2]
theorem uAq_3 {al fi : Nat → Int} {a b : Nat} (h : fi a * al b = fi b * al a) (h2 : al a = al b) : uAq al fi a b ↔ a < b := by unfold uAq; rw [if_neg (fun z => z h), if_neg (fun z => z h2)]
theorem uAq_s {al fi : Nat → Int} {a : Nat} : ¬ uAq al fi a a := by
  rw [uAq_3 rfl rfl]; omega
def ansUse (m : qM) (s w : Int) : Int := if (0 ≤ s ∧ s ≤ 19) ∧ 0 ≤ w ∧ w ≤ 2 then (if w = 0 then uAll m (nW m) s.toNat else if w = 1 then uFst m (nW m) s.toNat else uLst m (nW m) s.toNat) else -1
def ansIni (m : qM) (k : Int) : Int := q_fst (uRq (uAll m (nW m)) (uFst m (nW m)) k) 20
theorem ansUse_o {m m' : qM} (h : keep kObs m' = keep kObs m) (s w : Int) : ansUse m' s w = ansUse m s w := by
  unfold ansUse
  rw [nW_o h, uAll_c (ro3 h) (ro4 h), uFst_c (ro3 h), uLst_c (ro3 h) (ro4 h)]
theorem ansIni_o {m m' : qM} (h : keep kObs m' = keep kObs m) (k : Int) : ansIni m' k = ansIni m k := by
  unfold ansIni
  rw [nW_o h, show uAll m' (nW m) = uAll m (nW m) from funext fun s => uAll_c (ro3 h) (ro4 h) _ s, show uFst m' (nW m) = uFst m (nW m) from funext fun s => uFst_c (ro3 h) _ s]
def ansOne (m : qM) (a b : Int) : Int := if ((0 ≤ a ∧ a ≤ 19) ∧ (0 ≤ b ∧ b ≤ 19) ∧ ¬ a = b) ∧ (0 < uAll m (nW m) a.toNat ∧ 0 < uAll m (nW m) b.toNat ∧ q_and (uSit m a.toNat (nW m)) (uSit m b.toNat (nW m)) = 0) ∧ ¬ brk (gF m (min a b) (max a b) (nT m)) (gK m (min a b) (max a b) (nT m)) then 1 else 0
theorem ansOne_o {m m' : qM} (h : keep kObs m' = keep kObs m) (a b : Int) : ansOne m' a b = ansOne m a b := by
  unfold ansOne
  rw [nW_o h, nT_o h, uAll_c (ro3 h) (ro4 h), uAll_c (ro3 h) (ro4 h), uSit_c (ro3 h) (ro4 h) (ro6 h), uSit_c (ro3 h) (ro4 h) (ro6 h), gF_c (ro3 h) (ro4 h) (ro5 h) (ro10 h), gK_c (ro3 h) (ro4 h) (ro9 h) (ro10 h)]

set_option maxRecDepth 100000 in
theorem c_freshUsage (u : qU) (m y : qM) (hR : rC m) (hC : cU m) (hF : m 0 10 = 0 ∨ m 0 10 = 1) : qCt YX11_freshUsage 4 0 0 [qR 0] (qLy u, m, y) (fun r h => r = some (qR 24) ∧ ∃ m', h = (qLy u, m', y) ∧ fUs m m') := by
  refine qCt.intro okX11_freshUsage (Nat.le_of_ble_eq_true rfl) (fun κ hκ => ?_)
  have hR2 := hR
  obtain ⟨⟨⟨a0, a1, a2⟩, ⟨a3, a4, a5⟩, ⟨b0, b1, b2⟩, b3, b4, b5⟩, hW, hRW, hT, hRT, hS⟩ := hR2
  have hV : qr (m 1 9) := by omega
  have zr := gHz_r hR.1
  have nWl := nW_le hR.1
  have nTl := nT_le hR.1
  have hS7 : ∀ k : Int, 0 ≤ k → k < m 2 0 → qr (m 7 k.toNat) := fun k k0 k1 => by have := (hRW k k0 k1).2.1.2.1; omega
  have hS11 : ∀ k : Int, 0 ≤ k → k < m 2 2 → qr (m 11 k.toNat) := fun k k0 k1 => by have := (hRT k k0 k1).2.1; omega
  have hS9 : ∀ k : Int, 0 ≤ k → k < m 2 2 → qr (m 9 k.toNat) := fun k k0 k1 => by have := (hT k k0 k1).2.1; omega
  have hcn : (q_cnt (fun j => m 10 j = -1) (m 2 2).toNat : Nat) ≤ m 2 0 := Int.le_of_eq hS.2.2.1
  have h6 : ∀ k : Int, 0 ≤ k → k < m 2 0 → 0 ≤ m 6 k.toNat ∧ m 6 k.toNat ≤ 3 := fun k k0 k1 => (hRW k k0 k1).2.1.1
  show qJ YX11_freshUsage κ _ (qLy u, m, y) 0 0 0 [some (qR 0)] []
  refine qJ.run hκ 2 (pc' := 4) (ls' := [some (qR 0)]) (st' := [qI (m 0 10)]) rfl ?_
  refine qJ.if_eq hκ (tgt := 33) rfl rfl (by omega) (fun c4 => ?_) (fun c4 => ?_)
  · show qJ YX11_freshUsage κ _ (qLy u, m, y) 0 0 33 [some (qR 0)] []
    refine qJ.run hκ 2 (pc' := 37) (ls' := [some (qR 0)]) (st' := [qR 24]) rfl ?_
    exact qJ.aret hκ rfl rfl (by decide) (by decide) (⟨rfl, m, rfl, fUs_0 hC c4⟩)
  · show qJ YX11_freshUsage κ _ (qLy u, m, y) 0 0 7 [some (qR 0)] []
    refine qJ.run hκ 7 (pc' := 22) (ls' := [some (qR 0)]) (st' := [qR 1, qR 2, qR 24]) rfl ?_
    refine qJ.callV (As := []) (rest := [qR 2, qR 24]) hκ rfl kX11_140 (c_horizon u m y hV) rfl rfl (by decide) rfl rfl (Nat.le_of_ble_eq_true rfl) (Nat.le_of_ble_eq_true rfl) (Nat.le_of_ble_eq_true rfl) (Or.inl (fun r h' e => by obtain ⟨rfl, rfl⟩ := e; rfl)) (fun r h' e => ?_)
    obtain ⟨rfl, rfl⟩ := e
    show qJ YX11_freshUsage κ _ (qLy u, m, y) 0 0 25 [some (qR 0)] [qI (gHz m), qR 2, qR 24]
    refine qJ.callV (As := [qR 2, qI (gHz m)]) (rest := []) hκ rfl kX11_393 (c_uBuild u m y (gHz m) (nW m) rfl a0 (by omega) hW hS7 h6) rfl rfl (by decide) rfl rfl (Nat.le_of_ble_eq_true rfl) (Nat.le_of_ble_eq_true rfl) (Nat.le_of_ble_eq_true rfl) (Or.inl (fun r h' e => by obtain ⟨rfl, a, b, c, d, rfl, hU⟩ := e; rfl)) (fun r h' e => ?_)
    obtain ⟨rfl, a, b, c, d, rfl, hU⟩ := e
    show qJ YX11_freshUsage κ _ (qLy u, (q_row (q_row (q_row (q_row m 25 a) 26 b) 27 c) 28 d), y) 0 0 28 [some (qR 0)] []
    refine qJ.run hκ 2 (pc' := 30) (ls' := [some (qR 0)]) (st' := [qI 0, qR 0]) rfl ?_
    refine qJ.putI hκ rfl rfl rfl rfl (Or.inr ⟨rfl, by omega⟩) ?_
    show qJ YX11_freshUsage κ _ (qLy u, (q_up (q_row (q_row (q_row (q_row m 25 a) 26 b) 27 c) 28 d) 0 10 0), y) 0 0 33 [some (qR 0)] []
    refine qJ.run hκ 2 (pc' := 37) (ls' := [some (qR 0)]) (st' := [qR 24]) rfl ?_
    exact qJ.aret hκ rfl rfl (by decide) (by decide) (⟨rfl, _, rfl, (Eq.trans (keep_up (by rfl)) (Eq.trans (keep_row (by intro j; rfl)) (Eq.trans (keep_row (by intro j; rfl)) (Eq.trans (keep_row (by intro j; rfl)) (Eq.trans (keep_row (by intro j; rfl)) rfl))))), rfl, hU⟩)

set_option maxRecDepth 100000 in
theorem x_use (u : qU) (m y : qM) (s w : Int) (hR : rC m) (hC : cU m) (hF : m 0 10 = 0 ∨ m 0 10 = 1) (h1 : qr s) (h2 : qr w) : qCt YX11_use 5 0 0 [qR 0, qI s, qI w] (qLy u, m, y) (fun r h => ∃ m', r = some (qI (ansUse m s w)) ∧ h = (qLy u, m', y) ∧ (m' = m ∨ fUs m m')) := by
  refine qCt.intro okX11_use (Nat.le_of_ble_eq_true rfl) (fun κ hκ => ?_)
  have hR2 := hR
  obtain ⟨⟨⟨a0, a1, a2⟩, ⟨a3, a4, a5⟩, ⟨b0, b1, b2⟩, b3, b4, b5⟩, hW, hRW, hT, hRT, hS⟩ := hR2
  have hV : qr (m 1 9) := by omega
  have zr := gHz_r hR.1
  have nWl := nW_le hR.1
  have nTl := nT_le hR.1
  have hS7 : ∀ k : Int, 0 ≤ k → k < m 2 0 → qr (m 7 k.toNat) := fun k k0 k1 => by have := (hRW k k0 k1).2.1.2.1; omega
  have hS11 : ∀ k : Int, 0 ≤ k → k < m 2 2 → qr (m 11 k.toNat) := fun k k0 k1 => by have := (hRT k k0 k1).2.1; omega
  have hS9 : ∀ k : Int, 0 ≤ k → k < m 2 2 → qr (m 9 k.toNat) := fun k k0 k1 => by have := (hT k k0 k1).2.1; omega
  have hcn : (q_cnt (fun j => m 10 j = -1) (m 2 2).toNat : Nat) ≤ m 2 0 := Int.le_of_eq hS.2.2.1
  have h6 : ∀ k : Int, 0 ≤ k → k < m 2 0 → 0 ≤ m 6 k.toNat ∧ m 6 k.toNat ≤ 3 := fun k k0 k1 => (hRW k k0 k1).2.1.1
  have is1 := q_ite01 (0 ≤ s ∧ s ≤ 19)
  show qJ YX11_use κ _ (qLy u, m, y) 0 0 0 [some (qR 0), some (qI s), some (qI w)] []
  refine qJ.run hκ 1 (pc' := 1) (ls' := [some (qR 0), some (qI s), some (qI w)]) (st' := [qI s]) rfl ?_
  refine qJ.callS (As := [qI s]) (rest := []) hκ rfl kX11_162 (c_isSign u m y s (by omega)) (by decide) rfl rfl (Nat.le_of_ble_eq_true rfl) (Nat.le_of_ble_eq_true rfl) (Nat.le_of_ble_eq_true rfl) (Or.inl (fun r h' e => by obtain ⟨rfl, rfl⟩ := e; rfl)) (fun r h' e => ?_)
  obtain ⟨rfl, rfl⟩ := e
  show qJ YX11_use κ _ (qLy u, m, y) 0 0 4 [some (qR 0), some (qI s), some (qI w)] [qI (if 0 ≤ s ∧ s ≤ 19 then 1 else 0)]
  refine qJ.if_ne hκ (tgt := 9) rfl rfl (by omega) (fun c4 => ?_) (fun c4 => ?_)
  · show qJ YX11_use κ _ (qLy u, m, y) 0 0 9 [some (qR 0), some (qI s), some (qI w)] []
    have sr : 0 ≤ s ∧ s ≤ 19 := by by_cases z : 0 ≤ s ∧ s ≤ 19; exact z; rw [if_neg z] at c4; exact absurd rfl c4
    refine qJ.run hκ 1 (pc' := 10) (ls' := [some (qR 0), some (qI s), some (qI w)]) (st' := [qI w]) rfl ?_
    by_cases e10_0 : w = 0
    · refine qJ.tswIn hκ (tgt := 36) rfl (by omega) (by omega) (by omega) (by rw [e10_0]; rfl) rfl ?_
      refine qJ.run hκ 1 (pc' := 37) (ls' := [some (qR 0), some (qI s), some (qI w)]) (st' := [qR 0]) rfl ?_
      refine qJ.callV (As := []) (rest := []) hκ rfl kX11_182 (c_freshUsage u m y hR hC hF) rfl rfl (by decide) rfl rfl (Nat.le_of_ble_eq_true rfl) (Nat.le_of_ble_eq_true rfl) (Nat.le_of_ble_eq_true rfl) (Or.inl (fun r h' e => by obtain ⟨rfl, mU, rfl, hU⟩ := e; rfl)) (fun r h' e => ?_)
      obtain ⟨rfl, mU, rfl, hU⟩ := e
      show qJ YX11_use κ _ (qLy u, mU, y) 0 0 40 [some (qR 0), some (qI s), some (qI w)] [qR 24]
      refine qJ.run hκ 2 (pc' := 44) (ls' := [some (qR 0), some (qI s), some (qI w)]) (st' := [qI s, qR 25]) rfl ?_
      refine qJ.ald hκ rfl rfl rfl (by decide) (by omega) ?_
      show qJ YX11_use κ _ (qLy u, mU, y) 0 0 45 [some (qR 0), some (qI s), some (qI w)] [qI (mU 25 s.toNat)]
      exact qJ.iret hκ rfl rfl (by decide) (by decide) (⟨mU, by unfold ansUse; rw [if_pos ⟨sr, by omega⟩]; rw [if_pos e10_0]; rw [(hU.2.2 s.toNat (by omega)).1], rfl, Or.inr hU⟩)
    by_cases e10_1 : w = 1
    · refine qJ.tswIn hκ (tgt := 46) rfl (by omega) (by omega) (by omega) (by rw [e10_1]; rfl) rfl ?_
      refine qJ.run hκ 1 (pc' := 47) (ls' := [some (qR 0), some (qI s), some (qI w)]) (st' := [qR 0]) rfl ?_
      refine qJ.callV (As := []) (rest := []) hκ rfl kX11_182 (c_freshUsage u m y hR hC hF) rfl rfl (by decide) rfl rfl (Nat.le_of_ble_eq_true rfl) (Nat.le_of_ble_eq_true rfl) (Nat.le_of_ble_eq_true rfl) (Or.inl (fun r h' e => by obtain ⟨rfl, mU, rfl, hU⟩ := e; rfl)) (fun r h' e => ?_)
      obtain ⟨rfl, mU, rfl, hU⟩ := e
      show qJ YX11_use κ _ (qLy u, mU, y) 0 0 50 [some (qR 0), some (qI s), some (qI w)] [qR 24]
      refine qJ.run hκ 2 (pc' := 54) (ls' := [some (qR 0), some (qI s), some (qI w)]) (st' := [qI s, qR 26]) rfl ?_
      refine qJ.ald hκ rfl rfl rfl (by decide) (by omega) ?_
      show qJ YX11_use κ _ (qLy u, mU, y) 0 0 55 [some (qR 0), some (qI s), some (qI w)] [qI (mU 26 s.toNat)]
      exact qJ.iret hκ rfl rfl (by decide) (by decide) (⟨mU, by unfold ansUse; rw [if_pos ⟨sr, by omega⟩]; rw [if_neg e10_0, if_pos e10_1]; rw [(hU.2.2 s.toNat (by omega)).2.1], rfl, Or.inr hU⟩)
    by_cases e10_2 : w = 2
    · refine qJ.tswIn hκ (tgt := 56) rfl (by omega) (by omega) (by omega) (by rw [e10_2]; rfl) rfl ?_
      refine qJ.run hκ 1 (pc' := 57) (ls' := [some (qR 0), some (qI s), some (qI w)]) (st' := [qR 0]) rfl ?_
      refine qJ.callV (As := []) (rest := []) hκ rfl kX11_182 (c_freshUsage u m y hR hC hF) rfl rfl (by decide) rfl rfl (Nat.le_of_ble_eq_true rfl) (Nat.le_of_ble_eq_true rfl) (Nat.le_of_ble_eq_true rfl) (Or.inl (fun r h' e => by obtain ⟨rfl, mU, rfl, hU⟩ := e; rfl)) (fun r h' e => ?_)
      obtain ⟨rfl, mU, rfl, hU⟩ := e
      show qJ YX11_use κ _ (qLy u, mU, y) 0 0 60 [some (qR 0), some (qI s), some (qI w)] [qR 24]
      refine qJ.run hκ 2 (pc' := 64) (ls' := [some (qR 0), some (qI s), some (qI w)]) (st' := [qI s, qR 27]) rfl ?_
      refine qJ.ald hκ rfl rfl rfl (by decide) (by omega) ?_
      show qJ YX11_use κ _ (qLy u, mU, y) 0 0 65 [some (qR 0), some (qI s), some (qI w)] [qI (mU 27 s.toNat)]
      exact qJ.iret hκ rfl rfl (by decide) (by decide) (⟨mU, by unfold ansUse; rw [if_pos ⟨sr, by omega⟩]; rw [if_neg e10_0, if_neg e10_1]; rw [(hU.2.2 s.toNat (by omega)).2.2.1], rfl, Or.inr hU⟩)
    refine qJ.tswOut hκ (tgt := 66) rfl (by omega) (by omega) rfl ?_
    refine qJ.run hκ 1 (pc' := 67) (ls' := [some (qR 0), some (qI s), some (qI w)]) (st' := [qI (-1)]) rfl ?_
    exact qJ.iret hκ rfl rfl (by decide) (by decide) (⟨m, by unfold ansUse; rw [if_neg (fun z => by omega)], rfl, Or.inl rfl⟩)
  · show qJ YX11_use κ _ (qLy u, m, y) 0 0 7 [some (qR 0), some (qI s), some (qI w)] []
    refine qJ.run hκ 1 (pc' := 8) (ls' := [some (qR 0), some (qI s), some (qI w)]) (st' := [qI (-1)]) rfl ?_
    exact qJ.iret hκ rfl rfl (by decide) (by decide) (⟨m, by unfold ansUse; rw [if_neg (fun z => by rw [if_pos z.1] at c4; exact absurd c4 (by decide))], rfl, Or.inl rfl⟩)

set_option maxRecDepth 100000 in
theorem x_initial (u : qU) (m y : qM) (k : Int) (hR : rC m) (hC : cU m) (hF : m 0 10 = 0 ∨ m 0 10 = 1) (h1 : qr k) : qCt YX11_initial 5 0 0 [qR 0, qI k] (qLy u, m, y) (fun r h => ∃ m', r = some (qI (ansIni m k)) ∧ h = (qLy u, m', y) ∧ fUs m m') := by
  refine qCt.intro okX11_initial (Nat.le_of_ble_eq_true rfl) (fun κ hκ => ?_)
  have hR2 := hR
  obtain ⟨⟨⟨a0, a1, a2⟩, ⟨a3, a4, a5⟩, ⟨b0, b1, b2⟩, b3, b4, b5⟩, hW, hRW, hT, hRT, hS⟩ := hR2
  have hV : qr (m 1 9) := by omega
  have zr := gHz_r hR.1
  have nWl := nW_le hR.1
  have nTl := nT_le hR.1
  have hS7 : ∀ k : Int, 0 ≤ k → k < m 2 0 → qr (m 7 k.toNat) := fun k k0 k1 => by have := (hRW k k0 k1).2.1.2.1; omega
  have hS11 : ∀ k : Int, 0 ≤ k → k < m 2 2 → qr (m 11 k.toNat) := fun k k0 k1 => by have := (hRT k k0 k1).2.1; omega
  have hS9 : ∀ k : Int, 0 ≤ k → k < m 2 2 → qr (m 9 k.toNat) := fun k k0 k1 => by have := (hT k k0 k1).2.1; omega
  have hcn : (q_cnt (fun j => m 10 j = -1) (m 2 2).toNat : Nat) ≤ m 2 0 := Int.le_of_eq hS.2.2.1
  have h6 : ∀ k : Int, 0 ≤ k → k < m 2 0 → 0 ≤ m 6 k.toNat ∧ m 6 k.toNat ≤ 3 := fun k k0 k1 => (hRW k k0 k1).2.1.1
  show qJ YX11_initial κ _ (qLy u, m, y) 0 0 0 [some (qR 0), some (qI k)] []
  refine qJ.run hκ 1 (pc' := 1) (ls' := [some (qR 0), some (qI k)]) (st' := [qR 0]) rfl ?_
  refine qJ.callV (As := []) (rest := []) hκ rfl kX11_182 (c_freshUsage u m y hR hC hF) rfl rfl (by decide) rfl rfl (Nat.le_of_ble_eq_true rfl) (Nat.le_of_ble_eq_true rfl) (Nat.le_of_ble_eq_true rfl) (Or.inl (fun r h' e => by obtain ⟨rfl, mU, rfl, hU⟩ := e; rfl)) (fun r h' e => ?_)
  obtain ⟨rfl, mU, rfl, hU⟩ := e
  show qJ YX11_initial κ _ (qLy u, mU, y) 0 0 4 [some (qR 0), some (qI k)] [qR 24]
  refine qJ.run hκ 1 (pc' := 5) (ls' := [some (qR 0), some (qI k)]) (st' := [qI k, qR 24]) rfl ?_
  refine qJ.callV (As := [qI k]) (rest := []) hκ rfl kX11_195 (c_ranked u mU y k h1 (uRep_r hR nWl hU.2.2)) rfl rfl (by decide) rfl rfl (Nat.le_of_ble_eq_true rfl) (Nat.le_of_ble_eq_true rfl) (Nat.le_of_ble_eq_true rfl) (Or.inl (fun r h' e => by obtain ⟨rfl, rfl⟩ := e; rfl)) (fun r h' e => ?_)
  obtain ⟨rfl, rfl⟩ := e
  show qJ YX11_initial κ _ (qLy u, mU, y) 0 0 8 [some (qR 0), some (qI k)] [qI (q_fst (uRk mU k) 20)]
  exact qJ.iret hκ rfl rfl (by decide) (by decide) (⟨mU, by unfold ansIni; rw [q_fst_c (p := uRk mU k) (q := uRq (uAll m (nW m)) (uFst m (nW m)) k) 20 (fun s hs => uRq_c (al := mU 25) (fi := mU 26) (fun s hs => ⟨(hU.2.2 s hs).1, (hU.2.2 s hs).2.1⟩) k hs)], rfl, hU⟩)

set_option maxRecDepth 100000 in
theorem x_one (u : qU) (m y : qM) (a b : Int) (hR : rC m) (hC : cU m) (hF : m 0 10 = 0 ∨ m 0 10 = 1) (h1 : qr a) (h2 : qr b) : qCt YX11_one 6 0 0 [qR 0, qI a, qI b] (qLy u, m, y) (fun r h => ∃ m', r = some (qI (ansOne m a b)) ∧ h = (qLy u, m', y) ∧ (m' = m ∨ ∃ mU, keep (kN kTr) m' = keep (kN kTr) mU ∧ fUs m mU)) := by
  refine qCt.intro okX11_one (Nat.le_of_ble_eq_true rfl) (fun κ hκ => ?_)
  have hR2 := hR
  obtain ⟨⟨⟨a0, a1, a2⟩, ⟨a3, a4, a5⟩, ⟨b0, b1, b2⟩, b3, b4, b5⟩, hW, hRW, hT, hRT, hS⟩ := hR2
  have hV : qr (m 1 9) := by omega
  have zr := gHz_r hR.1
  have nWl := nW_le hR.1
  have nTl := nT_le hR.1
  have hS7 : ∀ k : Int, 0 ≤ k → k < m 2 0 → qr (m 7 k.toNat) := fun k k0 k1 => by have := (hRW k k0 k1).2.1.2.1; omega
  have hS11 : ∀ k : Int, 0 ≤ k → k < m 2 2 → qr (m 11 k.toNat) := fun k k0 k1 => by have := (hRT k k0 k1).2.1; omega
  have hS9 : ∀ k : Int, 0 ≤ k → k < m 2 2 → qr (m 9 k.toNat) := fun k k0 k1 => by have := (hT k k0 k1).2.1; omega
  have hcn : (q_cnt (fun j => m 10 j = -1) (m 2 2).toNat : Nat) ≤ m 2 0 := Int.le_of_eq hS.2.2.1
  have h6 : ∀ k : Int, 0 ≤ k → k < m 2 0 → 0 ≤ m 6 k.toNat ∧ m 6 k.toNat ≤ 3 := fun k k0 k1 => (hRW k k0 k1).2.1.1
  have is1 := q_ite01 (0 ≤ a ∧ a ≤ 19)
  have is2 := q_ite01 (0 ≤ b ∧ b ≤ 19)
  show qJ YX11_one κ _ (qLy u, m, y) 0 0 0 [some (qR 0), some (qI a), some (qI b)] []
  refine qJ.run hκ 1 (pc' := 1) (ls' := [some (qR 0), some (qI a), some (qI b)]) (st' := [qI a]) rfl ?_
  refine qJ.callS (As := [qI a]) (rest := []) hκ rfl kX11_162 (c_isSign u m y a (by omega)) (by decide) rfl rfl (Nat.le_of_ble_eq_true rfl) (Nat.le_of_ble_eq_true rfl) (Nat.le_of_ble_eq_true rfl) (Or.inl (fun r h' e => by obtain ⟨rfl, rfl⟩ := e; rfl)) (fun r h' e => ?_)
  obtain ⟨rfl, rfl⟩ := e
  show qJ YX11_one κ _ (qLy u, m, y) 0 0 4 [some (qR 0), some (qI a), some (qI b)] [qI (if 0 ≤ a ∧ a ≤ 19 then 1 else 0)]
  refine qJ.if_eq hκ (tgt := 31) rfl rfl (by omega) (fun c4 => ?_) (fun c4 => ?_)
  · show qJ YX11_one κ _ (qLy u, m, y) 0 0 31 [some (qR 0), some (qI a), some (qI b)] []
    refine qJ.run hκ 1 (pc' := 32) (ls' := [some (qR 0), some (qI a), some (qI b)]) (st' := [qI 0]) rfl ?_
    exact qJ.bret hκ rfl rfl (by omega) (by decide) (by decide) (by
      first
      | exact ⟨m, by unfold ansOne; rw [if_neg (fun z => by rw [if_pos z.1.1] at c4; exact absurd c4 (by decide))], rfl, Or.inl rfl⟩
      | exact ⟨m, by unfold ansOne; rw [if_neg (fun z => by rw [if_pos z.1.2.1] at c11; exact absurd c11 (by decide))], rfl, Or.inl rfl⟩
      | exact ⟨m, by unfold ansOne; rw [if_neg (fun z => z.1.2.2 c16)], rfl, Or.inl rfl⟩
      | exact ⟨mU, by unfold ansOne; rw [if_neg (fun z => by rw [if_pos (by rw [ua.1, ub.1, ua.2.2.2, ub.2.2.2]; exact z.2.1)] at c28; exact absurd c28 (by decide))], rfl, Or.inr ⟨mU, rfl, hU⟩⟩)
  · show qJ YX11_one κ _ (qLy u, m, y) 0 0 7 [some (qR 0), some (qI a), some (qI b)] []
    have s4 : 0 ≤ a ∧ a ≤ 19 := by by_cases z : 0 ≤ a ∧ a ≤ 19; exact z; rw [if_neg z] at c4; exact absurd rfl c4
    refine qJ.run hκ 1 (pc' := 8) (ls' := [some (qR 0), some (qI a), some (qI b)]) (st' := [qI b]) rfl ?_
    refine qJ.callS (As := [qI b]) (rest := []) hκ rfl kX11_162 (c_isSign u m y b (by omega)) (by decide) rfl rfl (Nat.le_of_ble_eq_true rfl) (Nat.le_of_ble_eq_true rfl) (Nat.le_of_ble_eq_true rfl) (Or.inl (fun r h' e => by obtain ⟨rfl, rfl⟩ := e; rfl)) (fun r h' e => ?_)
    obtain ⟨rfl, rfl⟩ := e
    show qJ YX11_one κ _ (qLy u, m, y) 0 0 11 [some (qR 0), some (qI a), some (qI b)] [qI (if 0 ≤ b ∧ b ≤ 19 then 1 else 0)]
    refine qJ.if_eq hκ (tgt := 31) rfl rfl (by omega) (fun c11 => ?_) (fun c11 => ?_)
    · show qJ YX11_one κ _ (qLy u, m, y) 0 0 31 [some (qR 0), some (qI a), some (qI b)] []
      refine qJ.run hκ 1 (pc' := 32) (ls' := [some (qR 0), some (qI a), some (qI b)]) (st' := [qI 0]) rfl ?_
      exact qJ.bret hκ rfl rfl (by omega) (by decide) (by decide) (by
      first
      | exact ⟨m, by unfold ansOne; rw [if_neg (fun z => by rw [if_pos z.1.1] at c4; exact absurd c4 (by decide))], rfl, Or.inl rfl⟩
      | exact ⟨m, by unfold ansOne; rw [if_neg (fun z => by rw [if_pos z.1.2.1] at c11; exact absurd c11 (by decide))], rfl, Or.inl rfl⟩
      | exact ⟨m, by unfold ansOne; rw [if_neg (fun z => z.1.2.2 c16)], rfl, Or.inl rfl⟩
      | exact ⟨mU, by unfold ansOne; rw [if_neg (fun z => by rw [if_pos (by rw [ua.1, ub.1, ua.2.2.2, ub.2.2.2]; exact z.2.1)] at c28; exact absurd c28 (by decide))], rfl, Or.inr ⟨mU, rfl, hU⟩⟩)
    · show qJ YX11_one κ _ (qLy u, m, y) 0 0 14 [some (qR 0), some (qI a), some (qI b)] []
      have s11 : 0 ≤ b ∧ b ≤ 19 := by by_cases z : 0 ≤ b ∧ b ≤ 19; exact z; rw [if_neg z] at c11; exact absurd rfl c11
      refine qJ.run hκ 2 (pc' := 16) (ls' := [some (qR 0), some (qI a), some (qI b)]) (st' := [qI b, qI a]) rfl ?_
      refine qJ.icmp_eq hκ (tgt := 31) rfl rfl (by omega) (by omega) (fun c16 => ?_) (fun c16 => ?_)
      · show qJ YX11_one κ _ (qLy u, m, y) 0 0 31 [some (qR 0), some (qI a), some (qI b)] []
        refine qJ.run hκ 1 (pc' := 32) (ls' := [some (qR 0), some (qI a), some (qI b)]) (st' := [qI 0]) rfl ?_
        exact qJ.bret hκ rfl rfl (by omega) (by decide) (by decide) (by
      first
      | exact ⟨m, by unfold ansOne; rw [if_neg (fun z => by rw [if_pos z.1.1] at c4; exact absurd c4 (by decide))], rfl, Or.inl rfl⟩
      | exact ⟨m, by unfold ansOne; rw [if_neg (fun z => by rw [if_pos z.1.2.1] at c11; exact absurd c11 (by decide))], rfl, Or.inl rfl⟩
      | exact ⟨m, by unfold ansOne; rw [if_neg (fun z => z.1.2.2 c16)], rfl, Or.inl rfl⟩
      | exact ⟨mU, by unfold ansOne; rw [if_neg (fun z => by rw [if_pos (by rw [ua.1, ub.1, ua.2.2.2, ub.2.2.2]; exact z.2.1)] at c28; exact absurd c28 (by decide))], rfl, Or.inr ⟨mU, rfl, hU⟩⟩)
      · show qJ YX11_one κ _ (qLy u, m, y) 0 0 19 [some (qR 0), some (qI a), some (qI b)] []
        refine qJ.run hκ 1 (pc' := 20) (ls' := [some (qR 0), some (qI a), some (qI b)]) (st' := [qR 0]) rfl ?_
        refine qJ.callV (As := []) (rest := []) hκ rfl kX11_182 (c_freshUsage u m y hR hC hF) rfl rfl (by decide) rfl rfl (Nat.le_of_ble_eq_true rfl) (Nat.le_of_ble_eq_true rfl) (Nat.le_of_ble_eq_true rfl) (Or.inl (fun r h' e => by obtain ⟨rfl, mU, rfl, hU⟩ := e; rfl)) (fun r h' e => ?_)
        obtain ⟨rfl, mU, rfl, hU⟩ := e
        show qJ YX11_one κ _ (qLy u, mU, y) 0 0 23 [some (qR 0), some (qI a), some (qI b)] [qR 24]
        have hRU := rC_core (fUs_core hU) hR
        have eTU : nT mU = nT m := nT_core (fUs_core hU)
        have aU : (0 ≤ mU 2 0 ∧ mU 2 0 ≤ 60) ∧ (0 ≤ mU 2 2 ∧ mU 2 2 ≤ 150) := ⟨hRU.1.1.1, hRU.1.1.2.2⟩
        have zU := gHz_r hRU.1
        have hVU : qr (mU 1 9) := by have := hRU.1.2.1; omega
        have hSU : ∀ k : Int, 0 ≤ k → k < mU 2 2 → qr (mU 11 k.toNat) := fun k k0 k1 => by have := (hRU.2.2.2.2.1 k k0 k1).2.1; have := hRU.1.2.1.1; omega
        have hcnU : (q_cnt (fun j => mU 10 j = -1) (mU 2 2).toNat : Nat) ≤ mU 2 0 := Int.le_of_eq hRU.2.2.2.2.2.2.2.1
        have ua := hU.2.2 a.toNat (by omega)
        have ub := hU.2.2 b.toNat (by omega)
        have ap1 := q_ite01 (0 < mU 25 a.toNat ∧ 0 < mU 25 b.toNat ∧ q_and (mU 28 a.toNat) (mU 28 b.toNat) = 0)
        refine qJ.run hκ 2 (pc' := 25) (ls' := [some (qR 0), some (qI a), some (qI b)]) (st' := [qI b, qI a, qR 24]) rfl ?_
        refine qJ.callV (As := [qI a, qI b]) (rest := []) hκ rfl kX11_202 (c_apart u mU y a b (by omega) (by omega) (uRep_r hR nWl hU.2.2)) rfl rfl (by decide) rfl rfl (Nat.le_of_ble_eq_true rfl) (Nat.le_of_ble_eq_true rfl) (Nat.le_of_ble_eq_true rfl) (Or.inl (fun r h' e => by obtain ⟨rfl, rfl⟩ := e; rfl)) (fun r h' e => ?_)
        obtain ⟨rfl, rfl⟩ := e
        show qJ YX11_one κ _ (qLy u, mU, y) 0 0 28 [some (qR 0), some (qI a), some (qI b)] [qI (if 0 < mU 25 a.toNat ∧ 0 < mU 25 b.toNat ∧ q_and (mU 28 a.toNat) (mU 28 b.toNat) = 0 then 1 else 0)]
        refine qJ.if_ne hκ (tgt := 33) rfl rfl (by omega) (fun c28 => ?_) (fun c28 => ?_)
        · show qJ YX11_one κ _ (qLy u, mU, y) 0 0 33 [some (qR 0), some (qI a), some (qI b)] []
          have ap : 0 < uAll m (nW m) a.toNat ∧ 0 < uAll m (nW m) b.toNat ∧ q_and (uSit m a.toNat (nW m)) (uSit m b.toNat (nW m)) = 0 := by rw [← ua.1, ← ub.1, ← ua.2.2.2, ← ub.2.2.2]; by_cases z : (0 < mU 25 a.toNat ∧ 0 < mU 25 b.toNat ∧ q_and (mU 28 a.toNat) (mU 28 b.toNat) = 0); exact z; rw [if_neg z] at c28; exact absurd rfl c28
          refine qJ.run hκ 7 (pc' := 48) (ls' := [some (qR 0), some (qI a), some (qI b)]) (st' := [qR 1, qR 2, qR 34]) rfl ?_
          refine qJ.callV (As := []) (rest := [qR 2, qR 34]) hκ rfl kX11_140 (c_horizon u mU y hVU) rfl rfl (by decide) rfl rfl (Nat.le_of_ble_eq_true rfl) (Nat.le_of_ble_eq_true rfl) (Nat.le_of_ble_eq_true rfl) (Or.inl (fun r h' e => by obtain ⟨rfl, rfl⟩ := e; rfl)) (fun r h' e => ?_)
          obtain ⟨rfl, rfl⟩ := e
          show qJ YX11_one κ _ (qLy u, mU, y) 0 0 51 [some (qR 0), some (qI a), some (qI b)] [qI (gHz mU), qR 2, qR 34]
          refine qJ.run hκ 2 (pc' := 53) (ls' := [some (qR 0), some (qI a), some (qI b)]) (st' := [qI b, qI a, qI (gHz mU), qR 2, qR 34]) rfl ?_
          refine qJ.min hκ rfl kX11_206 (Nat.le_of_ble_eq_true rfl) (Nat.le_of_ble_eq_true rfl) (Nat.le_of_ble_eq_true rfl) (Nat.le_of_ble_eq_true rfl) (by omega) (by omega) ?_
          show qJ YX11_one κ _ (qLy u, mU, y) 0 0 56 [some (qR 0), some (qI a), some (qI b)] [qI (min a b), qI (gHz mU), qR 2, qR 34]
          refine qJ.run hκ 2 (pc' := 58) (ls' := [some (qR 0), some (qI a), some (qI b)]) (st' := [qI b, qI a, qI (min a b), qI (gHz mU), qR 2, qR 34]) rfl ?_
          refine qJ.max hκ rfl kX11_211 (Nat.le_of_ble_eq_true rfl) (Nat.le_of_ble_eq_true rfl) (Nat.le_of_ble_eq_true rfl) (Nat.le_of_ble_eq_true rfl) (by omega) (by omega) ?_
          show qJ YX11_one κ _ (qLy u, mU, y) 0 0 61 [some (qR 0), some (qI a), some (qI b)] [qI (max a b), qI (min a b), qI (gHz mU), qR 2, qR 34]
          refine qJ.callV (As := [qR 2, qI (gHz mU), qI (min a b), qI (max a b)]) (rest := []) hκ rfl kX11_214 (c_gBuild34 u mU y (gHz mU) (min a b) (max a b) (nT mU) rfl aU.1 hRU.2.1 (by omega) hRU.2.2.2.1 aU.2 hSU hcnU (Or.inr ⟨by show 0 ≤ min a b ∧ min a b < 20; omega, by show 0 ≤ max a b ∧ max a b < 20; omega⟩)) rfl rfl (by decide) rfl rfl (Nat.le_of_ble_eq_true rfl) (Nat.le_of_ble_eq_true rfl) (Nat.le_of_ble_eq_true rfl) (Or.inl (fun r h' e => by obtain ⟨rfl, m1, f, k, nw, c, p, hm1, he, hi, hlc, hac, rfl⟩ := e; rfl)) (fun r h' e => ?_)
          obtain ⟨rfl, m1, f, k, nw, c, p, hm1, he, hi, hlc, hac, rfl⟩ := e
          show qJ YX11_one κ _ (qLy u, (q_up (q_row (q_row (q_up (q_row (q_row m1 35 f) 37 k) 34 5 nw) 36 c) 38 p) 34 2 (if brk f c then 1 else 0)), y) 0 0 64 [some (qR 0), some (qI a), some (qI b)] []
          have hcan := gB_can hRU (Or.inr ⟨by show 0 ≤ min a b ∧ min a b < 20; omega, by show 0 ≤ max a b ∧ max a b < 20; omega⟩) (nT_le hRU.1) hm1 (Or.inr rfl) he hi hlc hac
          have hbk : brk f c ↔ brk (gF m (min a b) (max a b) (nT m)) (gK m (min a b) (max a b) (nT m)) := by rw [← eTU]; have hcan2 := gdI_core (fUs_core hU) hcan; exact brk_ag hcan2.2.2.1 hcan2.2.2.2
          have bb := q_ite01 (brk f c)
          refine qJ.run hκ 3 (pc' := 71) (ls' := [some (qR 0), some (qI a), some (qI b)]) (st' := [qI (if brk f c then 1 else 0)]) rfl ?_
          refine qJ.if_ne hκ (tgt := 78) rfl rfl (by omega) (fun c71 => ?_) (fun c71 => ?_)
          · show qJ YX11_one κ _ (qLy u, (q_up (q_row (q_row (q_up (q_row (q_row m1 35 f) 37 k) 34 5 nw) 36 c) 38 p) 34 2 (if brk f c then 1 else 0)), y) 0 0 78 [some (qR 0), some (qI a), some (qI b)] []
            refine qJ.run hκ 1 (pc' := 79) (ls' := [some (qR 0), some (qI a), some (qI b)]) (st' := [qI 0]) rfl ?_
            exact qJ.bret hκ rfl rfl (by omega) (by decide) (by decide) (by refine ⟨_, by unfold ansOne; rw [if_neg (fun z => c71 (by rw [if_neg (fun q => z.2.2 (hbk.mp q))]))], rfl, Or.inr ⟨mU, ?_, hU⟩⟩; subst hm1; exact (Eq.trans (keep_up (by rfl)) (Eq.trans (keep_row (by intro j; rfl)) (Eq.trans (keep_row (by intro j; rfl)) (Eq.trans (keep_up (by rfl)) (Eq.trans (keep_row (by intro j; rfl)) (Eq.trans (keep_row (by intro j; rfl)) (Eq.trans (keep_up (by rfl)) (Eq.trans (keep_up (by rfl)) rfl)))))))))
          · show qJ YX11_one κ _ (qLy u, (q_up (q_row (q_row (q_up (q_row (q_row m1 35 f) 37 k) 34 5 nw) 36 c) 38 p) 34 2 (if brk f c then 1 else 0)), y) 0 0 74 [some (qR 0), some (qI a), some (qI b)] []
            refine qJ.run hκ 2 (pc' := 79) (ls' := [some (qR 0), some (qI a), some (qI b)]) (st' := [qI 1]) rfl ?_
            exact qJ.bret hκ rfl rfl (by omega) (by decide) (by decide) (by refine ⟨_, by unfold ansOne; rw [if_pos ⟨⟨by omega, by omega, by omega⟩, ap, fun z => by rw [if_pos (hbk.mpr z)] at c71; exact absurd c71 (by decide)⟩], rfl, Or.inr ⟨mU, ?_, hU⟩⟩; subst hm1; exact (Eq.trans (keep_up (by rfl)) (Eq.trans (keep_row (by intro j; rfl)) (Eq.trans (keep_row (by intro j; rfl)) (Eq.trans (keep_up (by rfl)) (Eq.trans (keep_row (by intro j; rfl)) (Eq.trans (keep_row (by intro j; rfl)) (Eq.trans (keep_up (by rfl)) (Eq.trans (keep_up (by rfl)) rfl)))))))))
        · show qJ YX11_one κ _ (qLy u, mU, y) 0 0 31 [some (qR 0), some (qI a), some (qI b)] []
          refine qJ.run hκ 1 (pc' := 32) (ls' := [some (qR 0), some (qI a), some (qI b)]) (st' := [qI 0]) rfl ?_
          exact qJ.bret hκ rfl rfl (by omega) (by decide) (by decide) (by
      first
      | exact ⟨m, by unfold ansOne; rw [if_neg (fun z => by rw [if_pos z.1.1] at c4; exact absurd c4 (by decide))], rfl, Or.inl rfl⟩
      | exact ⟨m, by unfold ansOne; rw [if_neg (fun z => by rw [if_pos z.1.2.1] at c11; exact absurd c11 (by decide))], rfl, Or.inl rfl⟩
      | exact ⟨m, by unfold ansOne; rw [if_neg (fun z => z.1.2.2 c16)], rfl, Or.inl rfl⟩
      | exact ⟨mU, by unfold ansOne; rw [if_neg (fun z => by rw [if_pos (by rw [ua.1, ub.1, ua.2.2.2, ub.2.2.2]; exact z.2.1)] at c28; exact absurd c28 (by decide))], rfl, Or.inr ⟨mU, rfl, hU⟩⟩)

theorem m_there (u : qU) (m y : qM) (w : Int) (hR : rC m) (hw : qr w) : qCt YX12_isThere 2 0 0 [qR 77, qI w] (qLy u, m, y) (fun r h => ∃ z : Int, r = some (qI z) ∧ (z = 1 ∧ (0 ≤ w ∧ w < (nW m : Int)) ∨ z = 0 ∧ ¬ (0 ≤ w ∧ w < (nW m : Int))) ∧ h = (qLy u, m, y)) := by
  obtain ⟨⟨a0, a1, a2⟩, ⟨a3, a4, a5⟩, ⟨b0, b1, b2⟩, b3, b4, b5⟩ := hR.1
  have nl := nW_le hR.1
  refine (c_isThere u m y w (by omega) (by omega) hw (by omega) (fun k k0 k1 => ?_)).weak ?_
  · have e := (hR.2.2.1 k k0 (by omega))
    rw [e.1.2.2.1]
    have := e.2.1.2.1
    omega
  · rintro r h ⟨z, h1, h2, h3⟩
    refine ⟨z, h1, ?_, h3⟩
    by_cases q : 0 ≤ w ∧ w < m 2 0
    · have := w_seen hR q.1 q.2
      rcases h2 with ⟨e, h2⟩ | ⟨e, h2⟩
      · exact Or.inl ⟨e, q.1, this.mp h2.2⟩
      · exact Or.inr ⟨e, fun z => h2 ⟨by omega, this.mpr z.2⟩⟩
    · rcases h2 with ⟨e, h2⟩ | ⟨e, h2⟩
      · exact absurd (show 0 ≤ w ∧ w < m 2 0 by omega) q
      · exact Or.inr ⟨e, by omega⟩
abbrev uHit (m : qM) (s wh w : Int) (k : Nat) : Prop := (wh = 0 ∨ (wh = 1 ∧ (k : Int) = 0) ∨ (wh = 2 ∧ (k : Int) = m 4 w.toNat - 1)) ∧ m 3 (w * 5 + (k : Int)).toNat = s
theorem uHit_i {m : qM} {s wh w i : Int} (h : 0 ≤ i) : uHit m s wh w i.toNat ↔ (wh = 0 ∨ (wh = 1 ∧ i = 0) ∨ (wh = 2 ∧ i = m 4 w.toNat - 1)) ∧ m 3 (w * 5 + i).toNat = s := by
  unfold uHit
  rw [q_tn h]
def uN (m : qM) (s wh : Int) (n : Nat) : Int := q_sum (fun w => (q_cnt (uHit m s wh (w : Int)) (m 4 w).toNat : Int)) n
theorem uN_s {m : qM} {s wh w : Int} (h : 0 ≤ w) : uN m s wh (w + 1).toNat = uN m s wh w.toNat + (q_cnt (uHit m s wh w) (m 4 w.toNat).toNat : Int) := by
  unfold uN
  rw [q_sum_s h, q_tn h]
theorem uN_all {m : qM} {s : Int} (h : 0 ≤ s) (n : Nat) : uN m s 0 n = uAll m n s.toNat := by
  unfold uN uAll uC
  refine q_sum_c n fun w _ => ?_
  congr 1
  refine q_cnt_c _ fun k _ => ?_
  show ((_ ∨ _) ∧ _) ↔ _
  rw [q_tn h]
  exact ⟨fun z => z.2, fun z => ⟨Or.inl rfl, z⟩⟩
theorem uN_fst {m : qM} {s : Int} (hR : rC m) (h : 0 ≤ s) (n : Nat) (hn : (n : Int) ≤ m 2 0) : uN m s 1 n = uFst m n s.toNat := by
  unfold uN uFst
  refine q_sum_c n fun w hw => ?_
  have w1 := hR.2.1 (w : Int) (by omega) (by omega)
  rw [show ((w : Int)).toNat = w by omega] at w1
  rw [q_cnt_one (c := 0) _ (by omega) (fun k _ hk => by have := hk.1; omega), q_tn h]
  have e : uHit m s 1 w 0 ↔ m 3 ((w : Int) * 5).toNat = s := by
    unfold uHit
    rw [show (w : Int) * 5 + ((0 : Nat) : Int) = (w : Int) * 5 by omega]
    exact ⟨fun z => z.2, fun z => ⟨Or.inr (Or.inl ⟨rfl, rfl⟩), z⟩⟩
  by_cases z : m 3 ((w : Int) * 5).toNat = s
  · rw [if_pos z, if_pos (e.mpr z)]; rfl
  · rw [if_neg z, if_neg (fun q => z (e.mp q))]; rfl
theorem uN_lst {m : qM} {s : Int} (hR : rC m) (h : 0 ≤ s) (n : Nat) (hn : (n : Int) ≤ m 2 0) : uN m s 2 n = uLst m n s.toNat := by
  unfold uN uLst
  refine q_sum_c n fun w hw => ?_
  have w1 := hR.2.1 (w : Int) (by omega) (by omega)
  rw [show ((w : Int)).toNat = w by omega] at w1
  rw [q_cnt_one (c := (m 4 w - 1).toNat) _ (by omega) (fun k _ hk => by have := hk.1; rw [show ((w : Int)).toNat = w by omega] at this; omega), q_tn h]
  have e : uHit m s 2 w (m 4 w - 1).toNat ↔ m 3 ((w : Int) * 5 + (m 4 w - 1)).toNat = s := by
    rw [uHit_i (by omega), show ((w : Int)).toNat = w by omega]
    exact ⟨fun z => z.2, fun z => ⟨Or.inr (Or.inr ⟨rfl, rfl⟩), z⟩⟩
  by_cases z : m 3 ((w : Int) * 5 + (m 4 w - 1)).toNat = s
  · rw [if_pos z, if_pos (e.mpr z)]; rfl
  · rw [if_neg z, if_neg (fun q => z (e.mp q))]; rfl

set_option maxRecDepth 100000 in
theorem m_useOf (u : qU) (m y : qM) (s wh : Int) (hR : rC m) (h1 : qr s) (h2 : qr wh) : qCt YX12_useOf 3 0 0 [qR 77, qI s, qI wh] (qLy u, m, y) (fun r h => r = some (qI (uN m s wh (nW m))) ∧ h = (qLy u, m, y)) := by
  refine qCt.intro okX12_useOf (Nat.le_of_ble_eq_true rfl) (fun κ hκ => ?_)
  have hR2 := hR
  obtain ⟨⟨⟨a0, a1, a2⟩, ⟨a3, a4, a5⟩, ⟨b0, b1, b2⟩, b3, b4, b5⟩, hW, hRW, hT, hRT, hS⟩ := hR2
  have hV : qr (m 83 0) := by omega
  have zr := gHz_r hR.1
  have ze := hz_eq hR.1
  have nWl := nW_le hR.1
  have nTl := nT_le hR.1
  have L5 : ∀ (n : Nat) (c : Int) (w : Int), (0 ≤ w) → (w ≤ m 2 0) → ((w ≤ (nW m : Int) ∧ c = uN m s wh w.toNat) ∨ ((nW m : Int) ≤ w ∧ c = uN m s wh (nW m))) → ((m 2 0 - w).toNat) < n → qJ YX12_useOf κ (qFin (fun r h => r = some (qI (uN m s wh (nW m))) ∧ h = (qLy u, m, y)) 0 0 κ) (qLy u, m, y) 0 0 5 [some (qR 77), some (qI s), some (qI wh), some (qI c), some (qI w), none, none] [] := by
    intro n
    induction n with
    | zero => intro c w _ _ _ hz0; omega
    | succ n ih5 =>
      intro c w v5_0 v5_1 v5_2 v5_m
      have L19 : ∀ (n : Nat) (c : Int) (k : Int), (0 ≤ k) → (k ≤ m 4 w.toNat) → ((w < (nW m : Int) ∧ c = uN m s wh w.toNat + (q_cnt (uHit m s wh w) k.toNat : Int)) ∨ ((nW m : Int) ≤ w ∧ k = 0 ∧ c = uN m s wh (nW m))) → (0 ≤ w) → (w < m 2 0) → ((m 4 w.toNat - k).toNat) < n → qJ YX12_useOf κ (qFin (fun r h => r = some (qI (uN m s wh (nW m))) ∧ h = (qLy u, m, y)) 0 0 κ) (qLy u, m, y) 0 0 19 [some (qR 77), some (qI s), some (qI wh), some (qI c), some (qI w), some (qI k), none] [] := by
        intro n
        induction n with
        | zero => intro c k _ _ _ _ _ hz0; omega
        | succ n ih19 =>
          intro c k v19_0 v19_1 v19_2 v19_3 v19_4 v19_m
          have w1 := hW w (by omega) (by omega)
          have w2 := (hRW w (by omega) (by omega)).1.1
          refine qJ.run hκ 4 (pc' := 27) (ls' := [some (qR 77), some (qI s), some (qI wh), some (qI c), some (qI w), some (qI k), none]) (st' := [qI w, qR 88, qI k]) rfl ?_
          refine qJ.ald hκ rfl rfl rfl (by decide) (by omega) ?_
          show qJ YX12_useOf κ _ (qLy u, m, y) 0 0 28 [some (qR 77), some (qI s), some (qI wh), some (qI c), some (qI w), some (qI k), none] [qI (m 88 w.toNat), qI k]
          refine qJ.icmp_ge hκ (tgt := 115) rfl rfl (by omega) (by omega) (fun c28 => ?_) (fun c28 => ?_)
          · show qJ YX12_useOf κ _ (qLy u, m, y) 0 0 115 [some (qR 77), some (qI s), some (qI wh), some (qI c), some (qI w), some (qI k), none] []
            refine qJ.run hκ 2 (pc' := 5) (ls' := [some (qR 77), some (qI s), some (qI wh), some (qI c), some (qI (w + 1)), some (qI k), none]) (st' := []) rfl ?_
            refine qJ.dl [true, true, true, true, true, false, false] ?_
            show qJ YX12_useOf κ _ (qLy u, m, y) 0 0 5 [some (qR 77), some (qI s), some (qI wh), some (qI c), some (qI (w + 1)), none, none] []
            exact ih5  c (w + 1) (by omega) (by omega) (by rcases v19_2 with z | z; (refine Or.inl ⟨by omega, ?_⟩; rw [uN_s v19_3, ← show k.toNat = (m 4 w.toNat).toNat by omega]; exact z.2); (exfalso; omega)) (by omega)
          · show qJ YX12_useOf κ _ (qLy u, m, y) 0 0 31 [some (qR 77), some (qI s), some (qI wh), some (qI c), some (qI w), some (qI k), none] []
            refine qJ.run hκ 2 (pc' := 34) (ls' := [some (qR 77), some (qI s), some (qI wh), some (qI c), some (qI w), some (qI k), none]) (st' := [qI w, qR 77]) rfl ?_
            refine qJ.callV (As := [qI w]) (rest := []) hκ rfl kX12_221 (m_there u m y w hR (by omega)) rfl rfl (by decide) rfl rfl (Nat.le_of_ble_eq_true rfl) (Nat.le_of_ble_eq_true rfl) (Nat.le_of_ble_eq_true rfl) (Or.inl (fun r h' e => by obtain ⟨z34, rfl, hz34, rfl⟩ := e; rfl)) (fun r h' e => ?_)
            obtain ⟨z34, rfl, hz34, rfl⟩ := e
            show qJ YX12_useOf κ _ (qLy u, m, y) 0 0 37 [some (qR 77), some (qI s), some (qI wh), some (qI c), some (qI w), some (qI k), none] [qI z34]
            refine qJ.if_eq hκ (tgt := 115) rfl rfl (by omega) (fun c37 => ?_) (fun c37 => ?_)
            · show qJ YX12_useOf κ _ (qLy u, m, y) 0 0 115 [some (qR 77), some (qI s), some (qI wh), some (qI c), some (qI w), some (qI k), none] []
              refine qJ.run hκ 2 (pc' := 5) (ls' := [some (qR 77), some (qI s), some (qI wh), some (qI c), some (qI (w + 1)), some (qI k), none]) (st' := []) rfl ?_
              refine qJ.dl [true, true, true, true, true, false, false] ?_
              show qJ YX12_useOf κ _ (qLy u, m, y) 0 0 5 [some (qR 77), some (qI s), some (qI wh), some (qI c), some (qI (w + 1)), none, none] []
              exact ih5  c (w + 1) (by omega) (by omega) (by rcases v19_2 with z | z; (exfalso; omega); exact Or.inr ⟨by omega, z.2.2⟩) (by omega)
            · show qJ YX12_useOf κ _ (qLy u, m, y) 0 0 40 [some (qR 77), some (qI s), some (qI wh), some (qI c), some (qI w), some (qI k), none] []
              refine qJ.run hκ 1 (pc' := 41) (ls' := [some (qR 77), some (qI s), some (qI wh), some (qI c), some (qI w), some (qI k), none]) (st' := [qI wh]) rfl ?_
              refine qJ.if_eq hκ (tgt := 73) rfl rfl (by omega) (fun c41 => ?_) (fun c41 => ?_)
              · show qJ YX12_useOf κ _ (qLy u, m, y) 0 0 73 [some (qR 77), some (qI s), some (qI wh), some (qI c), some (qI w), some (qI k), none] []
                refine qJ.run hκ 5 (pc' := 83) (ls' := [some (qR 77), some (qI s), some (qI wh), some (qI c), some (qI w), some (qI k), some (qI 1)]) (st' := [qI 1, qI c]) rfl ?_
                refine qJ.if_eq hκ (tgt := 106) rfl rfl (by omega) (fun c83 => ?_) (fun c83 => ?_)
                · exact absurd c83 (by decide)
                · show qJ YX12_useOf κ _ (qLy u, m, y) 0 0 86 [some (qR 77), some (qI s), some (qI wh), some (qI c), some (qI w), some (qI k), some (qI 1)] [qI c]
                  have w3 := (hRW w (by omega) (by omega)).2.2 k (by omega) (by omega)
                  have w4 := (w1.2.2 k (by omega) (by omega)).1
                  refine qJ.run hκ 7 (pc' := 97) (ls' := [some (qR 77), some (qI s), some (qI wh), some (qI c), some (qI w), some (qI k), some (qI 1)]) (st' := [qI ((5 * w) + k), qR 87, qI c]) rfl ?_
                  refine qJ.ald hκ rfl rfl rfl (by decide) (by omega) ?_
                  show qJ YX12_useOf κ _ (qLy u, m, y) 0 0 98 [some (qR 77), some (qI s), some (qI wh), some (qI c), some (qI w), some (qI k), some (qI 1)] [qI (m 87 (((5 * w) + k).toNat)), qI c]
                  refine qJ.run hκ 1 (pc' := 99) (ls' := [some (qR 77), some (qI s), some (qI wh), some (qI c), some (qI w), some (qI k), some (qI 1)]) (st' := [qI s, qI (m 87 (((5 * w) + k).toNat)), qI c]) rfl ?_
                  refine qJ.icmp_ne hκ (tgt := 106) rfl rfl (by omega) (by omega) (fun c99 => ?_) (fun c99 => ?_)
                  · show qJ YX12_useOf κ _ (qLy u, m, y) 0 0 106 [some (qR 77), some (qI s), some (qI wh), some (qI c), some (qI w), some (qI k), some (qI 1)] [qI c]
                    refine qJ.run hκ 5 (pc' := 19) (ls' := [some (qR 77), some (qI s), some (qI wh), some (qI (c + 0)), some (qI w), some (qI (k + 1)), some (qI 1)]) (st' := []) rfl ?_
                    refine qJ.dl [true, true, true, true, true, true, false] ?_
                    show qJ YX12_useOf κ _ (qLy u, m, y) 0 0 19 [some (qR 77), some (qI s), some (qI wh), some (qI (c + 0)), some (qI w), some (qI (k + 1)), none] []
                    exact ih19  (c + 0) (k + 1) (by omega) (by omega) (Or.inl ⟨by omega, by rw [q_cnt_s v19_0, if_neg (fun z => c99 (by rw [w3]; exact ((uHit_i v19_0).mp z).2))]; omega⟩) (by omega) (by omega) (by omega)
                  · show qJ YX12_useOf κ _ (qLy u, m, y) 0 0 102 [some (qR 77), some (qI s), some (qI wh), some (qI c), some (qI w), some (qI k), some (qI 1)] [qI c]
                    refine qJ.run hκ 6 (pc' := 19) (ls' := [some (qR 77), some (qI s), some (qI wh), some (qI (c + 1)), some (qI w), some (qI (k + 1)), some (qI 1)]) (st' := []) rfl ?_
                    refine qJ.dl [true, true, true, true, true, true, false] ?_
                    show qJ YX12_useOf κ _ (qLy u, m, y) 0 0 19 [some (qR 77), some (qI s), some (qI wh), some (qI (c + 1)), some (qI w), some (qI (k + 1)), none] []
                    exact ih19  (c + 1) (k + 1) (by omega) (by omega) (Or.inl ⟨by omega, by rw [q_cnt_s v19_0, if_pos ((uHit_i v19_0).mpr ⟨by omega, by rw [← w3]; exact c99⟩)]; omega⟩) (by omega) (by omega) (by omega)
              · show qJ YX12_useOf κ _ (qLy u, m, y) 0 0 44 [some (qR 77), some (qI s), some (qI wh), some (qI c), some (qI w), some (qI k), none] []
                refine qJ.run hκ 2 (pc' := 46) (ls' := [some (qR 77), some (qI s), some (qI wh), some (qI c), some (qI w), some (qI k), none]) (st' := [qI 1, qI wh]) rfl ?_
                refine qJ.icmp_ne hκ (tgt := 54) rfl rfl (by omega) (by omega) (fun c46 => ?_) (fun c46 => ?_)
                · show qJ YX12_useOf κ _ (qLy u, m, y) 0 0 54 [some (qR 77), some (qI s), some (qI wh), some (qI c), some (qI w), some (qI k), none] []
                  refine qJ.run hκ 2 (pc' := 56) (ls' := [some (qR 77), some (qI s), some (qI wh), some (qI c), some (qI w), some (qI k), none]) (st' := [qI 2, qI wh]) rfl ?_
                  refine qJ.icmp_ne hκ (tgt := 77) rfl rfl (by omega) (by omega) (fun c56 => ?_) (fun c56 => ?_)
                  · show qJ YX12_useOf κ _ (qLy u, m, y) 0 0 77 [some (qR 77), some (qI s), some (qI wh), some (qI c), some (qI w), some (qI k), none] []
                    refine qJ.run hκ 4 (pc' := 83) (ls' := [some (qR 77), some (qI s), some (qI wh), some (qI c), some (qI w), some (qI k), some (qI 0)]) (st' := [qI 0, qI c]) rfl ?_
                    refine qJ.if_eq hκ (tgt := 106) rfl rfl (by omega) (fun c83 => ?_) (fun c83 => ?_)
                    · show qJ YX12_useOf κ _ (qLy u, m, y) 0 0 106 [some (qR 77), some (qI s), some (qI wh), some (qI c), some (qI w), some (qI k), some (qI 0)] [qI c]
                      refine qJ.run hκ 5 (pc' := 19) (ls' := [some (qR 77), some (qI s), some (qI wh), some (qI (c + 0)), some (qI w), some (qI (k + 1)), some (qI 0)]) (st' := []) rfl ?_
                      refine qJ.dl [true, true, true, true, true, true, false] ?_
                      show qJ YX12_useOf κ _ (qLy u, m, y) 0 0 19 [some (qR 77), some (qI s), some (qI wh), some (qI (c + 0)), some (qI w), some (qI (k + 1)), none] []
                      exact ih19  (c + 0) (k + 1) (by omega) (by omega) (Or.inl ⟨by omega, by rw [q_cnt_s v19_0, if_neg (fun z => by have := ((uHit_i v19_0).mp z).1; omega)]; omega⟩) (by omega) (by omega) (by omega)
                    · exact absurd c83 (by decide)
                  · show qJ YX12_useOf κ _ (qLy u, m, y) 0 0 59 [some (qR 77), some (qI s), some (qI wh), some (qI c), some (qI w), some (qI k), none] []
                    refine qJ.run hκ 4 (pc' := 67) (ls' := [some (qR 77), some (qI s), some (qI wh), some (qI c), some (qI w), some (qI k), none]) (st' := [qI w, qR 88, qI k]) rfl ?_
                    refine qJ.ald hκ rfl rfl rfl (by decide) (by omega) ?_
                    show qJ YX12_useOf κ _ (qLy u, m, y) 0 0 68 [some (qR 77), some (qI s), some (qI wh), some (qI c), some (qI w), some (qI k), none] [qI (m 88 w.toNat), qI k]
                    refine qJ.run hκ 2 (pc' := 70) (ls' := [some (qR 77), some (qI s), some (qI wh), some (qI c), some (qI w), some (qI k), none]) (st' := [qI ((m 88 w.toNat) - 1), qI k]) rfl ?_
                    refine qJ.icmp_ne hκ (tgt := 77) rfl rfl (by omega) (by omega) (fun c70 => ?_) (fun c70 => ?_)
                    · show qJ YX12_useOf κ _ (qLy u, m, y) 0 0 77 [some (qR 77), some (qI s), some (qI wh), some (qI c), some (qI w), some (qI k), none] []
                      refine qJ.run hκ 4 (pc' := 83) (ls' := [some (qR 77), some (qI s), some (qI wh), some (qI c), some (qI w), some (qI k), some (qI 0)]) (st' := [qI 0, qI c]) rfl ?_
                      refine qJ.if_eq hκ (tgt := 106) rfl rfl (by omega) (fun c83 => ?_) (fun c83 => ?_)
                      · show qJ YX12_useOf κ _ (qLy u, m, y) 0 0 106 [some (qR 77), some (qI s), some (qI wh), some (qI c), some (qI w), some (qI k), some (qI 0)] [qI c]
                        refine qJ.run hκ 5 (pc' := 19) (ls' := [some (qR 77), some (qI s), some (qI wh), some (qI (c + 0)), some (qI w), some (qI (k + 1)), some (qI 0)]) (st' := []) rfl ?_
                        refine qJ.dl [true, true, true, true, true, true, false] ?_
                        show qJ YX12_useOf κ _ (qLy u, m, y) 0 0 19 [some (qR 77), some (qI s), some (qI wh), some (qI (c + 0)), some (qI w), some (qI (k + 1)), none] []
                        exact ih19  (c + 0) (k + 1) (by omega) (by omega) (Or.inl ⟨by omega, by rw [q_cnt_s v19_0, if_neg (fun z => by have := ((uHit_i v19_0).mp z).1; omega)]; omega⟩) (by omega) (by omega) (by omega)
                      · exact absurd c83 (by decide)
                    · show qJ YX12_useOf κ _ (qLy u, m, y) 0 0 73 [some (qR 77), some (qI s), some (qI wh), some (qI c), some (qI w), some (qI k), none] []
                      refine qJ.run hκ 5 (pc' := 83) (ls' := [some (qR 77), some (qI s), some (qI wh), some (qI c), some (qI w), some (qI k), some (qI 1)]) (st' := [qI 1, qI c]) rfl ?_
                      refine qJ.if_eq hκ (tgt := 106) rfl rfl (by omega) (fun c83 => ?_) (fun c83 => ?_)
                      · exact absurd c83 (by decide)
                      · show qJ YX12_useOf κ _ (qLy u, m, y) 0 0 86 [some (qR 77), some (qI s), some (qI wh), some (qI c), some (qI w), some (qI k), some (qI 1)] [qI c]
                        have w3 := (hRW w (by omega) (by omega)).2.2 k (by omega) (by omega)
                        have w4 := (w1.2.2 k (by omega) (by omega)).1
                        refine qJ.run hκ 7 (pc' := 97) (ls' := [some (qR 77), some (qI s), some (qI wh), some (qI c), some (qI w), some (qI k), some (qI 1)]) (st' := [qI ((5 * w) + k), qR 87, qI c]) rfl ?_
                        refine qJ.ald hκ rfl rfl rfl (by decide) (by omega) ?_
                        show qJ YX12_useOf κ _ (qLy u, m, y) 0 0 98 [some (qR 77), some (qI s), some (qI wh), some (qI c), some (qI w), some (qI k), some (qI 1)] [qI (m 87 (((5 * w) + k).toNat)), qI c]
                        refine qJ.run hκ 1 (pc' := 99) (ls' := [some (qR 77), some (qI s), some (qI wh), some (qI c), some (qI w), some (qI k), some (qI 1)]) (st' := [qI s, qI (m 87 (((5 * w) + k).toNat)), qI c]) rfl ?_
                        refine qJ.icmp_ne hκ (tgt := 106) rfl rfl (by omega) (by omega) (fun c99 => ?_) (fun c99 => ?_)
                        · show qJ YX12_useOf κ _ (qLy u, m, y) 0 0 106 [some (qR 77), some (qI s), some (qI wh), some (qI c), some (qI w), some (qI k), some (qI 1)] [qI c]
                          refine qJ.run hκ 5 (pc' := 19) (ls' := [some (qR 77), some (qI s), some (qI wh), some (qI (c + 0)), some (qI w), some (qI (k + 1)), some (qI 1)]) (st' := []) rfl ?_
                          refine qJ.dl [true, true, true, true, true, true, false] ?_
                          show qJ YX12_useOf κ _ (qLy u, m, y) 0 0 19 [some (qR 77), some (qI s), some (qI wh), some (qI (c + 0)), some (qI w), some (qI (k + 1)), none] []
                          exact ih19  (c + 0) (k + 1) (by omega) (by omega) (Or.inl ⟨by omega, by rw [q_cnt_s v19_0, if_neg (fun z => c99 (by rw [w3]; exact ((uHit_i v19_0).mp z).2))]; omega⟩) (by omega) (by omega) (by omega)
                        · show qJ YX12_useOf κ _ (qLy u, m, y) 0 0 102 [some (qR 77), some (qI s), some (qI wh), some (qI c), some (qI w), some (qI k), some (qI 1)] [qI c]
                          refine qJ.run hκ 6 (pc' := 19) (ls' := [some (qR 77), some (qI s), some (qI wh), some (qI (c + 1)), some (qI w), some (qI (k + 1)), some (qI 1)]) (st' := []) rfl ?_
                          refine qJ.dl [true, true, true, true, true, true, false] ?_
                          show qJ YX12_useOf κ _ (qLy u, m, y) 0 0 19 [some (qR 77), some (qI s), some (qI wh), some (qI (c + 1)), some (qI w), some (qI (k + 1)), none] []
                          exact ih19  (c + 1) (k + 1) (by omega) (by omega) (Or.inl ⟨by omega, by rw [q_cnt_s v19_0, if_pos ((uHit_i v19_0).mpr ⟨by omega, by rw [← w3]; exact c99⟩)]; omega⟩) (by omega) (by omega) (by omega)
                · show qJ YX12_useOf κ _ (qLy u, m, y) 0 0 49 [some (qR 77), some (qI s), some (qI wh), some (qI c), some (qI w), some (qI k), none] []
                  refine qJ.run hκ 1 (pc' := 51) (ls' := [some (qR 77), some (qI s), some (qI wh), some (qI c), some (qI w), some (qI k), none]) (st' := [qI k]) rfl ?_
                  refine qJ.if_eq hκ (tgt := 73) rfl rfl (by omega) (fun c51 => ?_) (fun c51 => ?_)
                  · show qJ YX12_useOf κ _ (qLy u, m, y) 0 0 73 [some (qR 77), some (qI s), some (qI wh), some (qI c), some (qI w), some (qI k), none] []
                    refine qJ.run hκ 5 (pc' := 83) (ls' := [some (qR 77), some (qI s), some (qI wh), some (qI c), some (qI w), some (qI k), some (qI 1)]) (st' := [qI 1, qI c]) rfl ?_
                    refine qJ.if_eq hκ (tgt := 106) rfl rfl (by omega) (fun c83 => ?_) (fun c83 => ?_)
                    · exact absurd c83 (by decide)
                    · show qJ YX12_useOf κ _ (qLy u, m, y) 0 0 86 [some (qR 77), some (qI s), some (qI wh), some (qI c), some (qI w), some (qI k), some (qI 1)] [qI c]
                      have w3 := (hRW w (by omega) (by omega)).2.2 k (by omega) (by omega)
                      have w4 := (w1.2.2 k (by omega) (by omega)).1
                      refine qJ.run hκ 7 (pc' := 97) (ls' := [some (qR 77), some (qI s), some (qI wh), some (qI c), some (qI w), some (qI k), some (qI 1)]) (st' := [qI ((5 * w) + k), qR 87, qI c]) rfl ?_
                      refine qJ.ald hκ rfl rfl rfl (by decide) (by omega) ?_
                      show qJ YX12_useOf κ _ (qLy u, m, y) 0 0 98 [some (qR 77), some (qI s), some (qI wh), some (qI c), some (qI w), some (qI k), some (qI 1)] [qI (m 87 (((5 * w) + k).toNat)), qI c]
                      refine qJ.run hκ 1 (pc' := 99) (ls' := [some (qR 77), some (qI s), some (qI wh), some (qI c), some (qI w), some (qI k), some (qI 1)]) (st' := [qI s, qI (m 87 (((5 * w) + k).toNat)), qI c]) rfl ?_
                      refine qJ.icmp_ne hκ (tgt := 106) rfl rfl (by omega) (by omega) (fun c99 => ?_) (fun c99 => ?_)
                      · show qJ YX12_useOf κ _ (qLy u, m, y) 0 0 106 [some (qR 77), some (qI s), some (qI wh), some (qI c), some (qI w), some (qI k), some (qI 1)] [qI c]
                        refine qJ.run hκ 5 (pc' := 19) (ls' := [some (qR 77), some (qI s), some (qI wh), some (qI (c + 0)), some (qI w), some (qI (k + 1)), some (qI 1)]) (st' := []) rfl ?_
                        refine qJ.dl [true, true, true, true, true, true, false] ?_
                        show qJ YX12_useOf κ _ (qLy u, m, y) 0 0 19 [some (qR 77), some (qI s), some (qI wh), some (qI (c + 0)), some (qI w), some (qI (k + 1)), none] []
                        exact ih19  (c + 0) (k + 1) (by omega) (by omega) (Or.inl ⟨by omega, by rw [q_cnt_s v19_0, if_neg (fun z => c99 (by rw [w3]; exact ((uHit_i v19_0).mp z).2))]; omega⟩) (by omega) (by omega) (by omega)
                      · show qJ YX12_useOf κ _ (qLy u, m, y) 0 0 102 [some (qR 77), some (qI s), some (qI wh), some (qI c), some (qI w), some (qI k), some (qI 1)] [qI c]
                        refine qJ.run hκ 6 (pc' := 19) (ls' := [some (qR 77), some (qI s), some (qI wh), some (qI (c + 1)), some (qI w), some (qI (k + 1)), some (qI 1)]) (st' := []) rfl ?_
                        refine qJ.dl [true, true, true, true, true, true, false] ?_
                        show qJ YX12_useOf κ _ (qLy u, m, y) 0 0 19 [some (qR 77), some (qI s), some (qI wh), some (qI (c + 1)), some (qI w), some (qI (k + 1)), none] []
                        exact ih19  (c + 1) (k + 1) (by omega) (by omega) (Or.inl ⟨by omega, by rw [q_cnt_s v19_0, if_pos ((uHit_i v19_0).mpr ⟨by omega, by rw [← w3]; exact c99⟩)]; omega⟩) (by omega) (by omega) (by omega)
                  · show qJ YX12_useOf κ _ (qLy u, m, y) 0 0 54 [some (qR 77), some (qI s), some (qI wh), some (qI c), some (qI w), some (qI k), none] []
                    refine qJ.run hκ 2 (pc' := 56) (ls' := [some (qR 77), some (qI s), some (qI wh), some (qI c), some (qI w), some (qI k), none]) (st' := [qI 2, qI wh]) rfl ?_
                    refine qJ.icmp_ne hκ (tgt := 77) rfl rfl (by omega) (by omega) (fun c56 => ?_) (fun c56 => ?_)
                    · show qJ YX12_useOf κ _ (qLy u, m, y) 0 0 77 [some (qR 77), some (qI s), some (qI wh), some (qI c), some (qI w), some (qI k), none] []
                      refine qJ.run hκ 4 (pc' := 83) (ls' := [some (qR 77), some (qI s), some (qI wh), some (qI c), some (qI w), some (qI k), some (qI 0)]) (st' := [qI 0, qI c]) rfl ?_
                      refine qJ.if_eq hκ (tgt := 106) rfl rfl (by omega) (fun c83 => ?_) (fun c83 => ?_)
                      · show qJ YX12_useOf κ _ (qLy u, m, y) 0 0 106 [some (qR 77), some (qI s), some (qI wh), some (qI c), some (qI w), some (qI k), some (qI 0)] [qI c]
                        refine qJ.run hκ 5 (pc' := 19) (ls' := [some (qR 77), some (qI s), some (qI wh), some (qI (c + 0)), some (qI w), some (qI (k + 1)), some (qI 0)]) (st' := []) rfl ?_
                        refine qJ.dl [true, true, true, true, true, true, false] ?_
                        show qJ YX12_useOf κ _ (qLy u, m, y) 0 0 19 [some (qR 77), some (qI s), some (qI wh), some (qI (c + 0)), some (qI w), some (qI (k + 1)), none] []
                        exact ih19  (c + 0) (k + 1) (by omega) (by omega) (Or.inl ⟨by omega, by rw [q_cnt_s v19_0, if_neg (fun z => by have := ((uHit_i v19_0).mp z).1; omega)]; omega⟩) (by omega) (by omega) (by omega)
                      · exact absurd c83 (by decide)
                    · show qJ YX12_useOf κ _ (qLy u, m, y) 0 0 59 [some (qR 77), some (qI s), some (qI wh), some (qI c), some (qI w), some (qI k), none] []
                      refine qJ.run hκ 4 (pc' := 67) (ls' := [some (qR 77), some (qI s), some (qI wh), some (qI c), some (qI w), some (qI k), none]) (st' := [qI w, qR 88, qI k]) rfl ?_
                      refine qJ.ald hκ rfl rfl rfl (by decide) (by omega) ?_
                      show qJ YX12_useOf κ _ (qLy u, m, y) 0 0 68 [some (qR 77), some (qI s), some (qI wh), some (qI c), some (qI w), some (qI k), none] [qI (m 88 w.toNat), qI k]
                      refine qJ.run hκ 2 (pc' := 70) (ls' := [some (qR 77), some (qI s), some (qI wh), some (qI c), some (qI w), some (qI k), none]) (st' := [qI ((m 88 w.toNat) - 1), qI k]) rfl ?_
                      refine qJ.icmp_ne hκ (tgt := 77) rfl rfl (by omega) (by omega) (fun c70 => ?_) (fun c70 => ?_)
                      · show qJ YX12_useOf κ _ (qLy u, m, y) 0 0 77 [some (qR 77), some (qI s), some (qI wh), some (qI c), some (qI w), some (qI k), none] []
                        refine qJ.run hκ 4 (pc' := 83) (ls' := [some (qR 77), some (qI s), some (qI wh), some (qI c), some (qI w), some (qI k), some (qI 0)]) (st' := [qI 0, qI c]) rfl ?_
                        refine qJ.if_eq hκ (tgt := 106) rfl rfl (by omega) (fun c83 => ?_) (fun c83 => ?_)
                        · show qJ YX12_useOf κ _ (qLy u, m, y) 0 0 106 [some (qR 77), some (qI s), some (qI wh), some (qI c), some (qI w), some (qI k), some (qI 0)] [qI c]
                          refine qJ.run hκ 5 (pc' := 19) (ls' := [some (qR 77), some (qI s), some (qI wh), some (qI (c + 0)), some (qI w), some (qI (k + 1)), some (qI 0)]) (st' := []) rfl ?_
                          refine qJ.dl [true, true, true, true, true, true, false] ?_
                          show qJ YX12_useOf κ _ (qLy u, m, y) 0 0 19 [some (qR 77), some (qI s), some (qI wh), some (qI (c + 0)), some (qI w), some (qI (k + 1)), none] []
                          exact ih19  (c + 0) (k + 1) (by omega) (by omega) (Or.inl ⟨by omega, by rw [q_cnt_s v19_0, if_neg (fun z => by have := ((uHit_i v19_0).mp z).1; omega)]; omega⟩) (by omega) (by omega) (by omega)
                        · exact absurd c83 (by decide)
                      · show qJ YX12_useOf κ _ (qLy u, m, y) 0 0 73 [some (qR 77), some (qI s), some (qI wh), some (qI c), some (qI w), some (qI k), none] []
                        refine qJ.run hκ 5 (pc' := 83) (ls' := [some (qR 77), some (qI s), some (qI wh), some (qI c), some (qI w), some (qI k), some (qI 1)]) (st' := [qI 1, qI c]) rfl ?_
                        refine qJ.if_eq hκ (tgt := 106) rfl rfl (by omega) (fun c83 => ?_) (fun c83 => ?_)
                        · exact absurd c83 (by decide)
                        · show qJ YX12_useOf κ _ (qLy u, m, y) 0 0 86 [some (qR 77), some (qI s), some (qI wh), some (qI c), some (qI w), some (qI k), some (qI 1)] [qI c]
                          have w3 := (hRW w (by omega) (by omega)).2.2 k (by omega) (by omega)
                          have w4 := (w1.2.2 k (by omega) (by omega)).1
                          refine qJ.run hκ 7 (pc' := 97) (ls' := [some (qR 77), some (qI s), some (qI wh), some (qI c), some (qI w), some (qI k), some (qI 1)]) (st' := [qI ((5 * w) + k), qR 87, qI c]) rfl ?_
                          refine qJ.ald hκ rfl rfl rfl (by decide) (by omega) ?_
                          show qJ YX12_useOf κ _ (qLy u, m, y) 0 0 98 [some (qR 77), some (qI s), some (qI wh), some (qI c), some (qI w), some (qI k), some (qI 1)] [qI (m 87 (((5 * w) + k).toNat)), qI c]
                          refine qJ.run hκ 1 (pc' := 99) (ls' := [some (qR 77), some (qI s), some (qI wh), some (qI c), some (qI w), some (qI k), some (qI 1)]) (st' := [qI s, qI (m 87 (((5 * w) + k).toNat)), qI c]) rfl ?_
                          refine qJ.icmp_ne hκ (tgt := 106) rfl rfl (by omega) (by omega) (fun c99 => ?_) (fun c99 => ?_)
                          · show qJ YX12_useOf κ _ (qLy u, m, y) 0 0 106 [some (qR 77), some (qI s), some (qI wh), some (qI c), some (qI w), some (qI k), some (qI 1)] [qI c]
                            refine qJ.run hκ 5 (pc' := 19) (ls' := [some (qR 77), some (qI s), some (qI wh), some (qI (c + 0)), some (qI w), some (qI (k + 1)), some (qI 1)]) (st' := []) rfl ?_
                            refine qJ.dl [true, true, true, true, true, true, false] ?_
                            show qJ YX12_useOf κ _ (qLy u, m, y) 0 0 19 [some (qR 77), some (qI s), some (qI wh), some (qI (c + 0)), some (qI w), some (qI (k + 1)), none] []
                            exact ih19  (c + 0) (k + 1) (by omega) (by omega) (Or.inl ⟨by omega, by rw [q_cnt_s v19_0, if_neg (fun z => c99 (by rw [w3]; exact ((uHit_i v19_0).mp z).2))]; omega⟩) (by omega) (by omega) (by omega)
                          · show qJ YX12_useOf κ _ (qLy u, m, y) 0 0 102 [some (qR 77), some (qI s), some (qI wh), some (qI c), some (qI w), some (qI k), some (qI 1)] [qI c]
                            refine qJ.run hκ 6 (pc' := 19) (ls' := [some (qR 77), some (qI s), some (qI wh), some (qI (c + 1)), some (qI w), some (qI (k + 1)), some (qI 1)]) (st' := []) rfl ?_
                            refine qJ.dl [true, true, true, true, true, true, false] ?_
                            show qJ YX12_useOf κ _ (qLy u, m, y) 0 0 19 [some (qR 77), some (qI s), some (qI wh), some (qI (c + 1)), some (qI w), some (qI (k + 1)), none] []
                            exact ih19  (c + 1) (k + 1) (by omega) (by omega) (Or.inl ⟨by omega, by rw [q_cnt_s v19_0, if_pos ((uHit_i v19_0).mpr ⟨by omega, by rw [← w3]; exact c99⟩)]; omega⟩) (by omega) (by omega) (by omega)
      refine qJ.run hκ 4 (pc' := 12) (ls' := [some (qR 77), some (qI s), some (qI wh), some (qI c), some (qI w), none, none]) (st' := [qI 0, qR 85, qI w]) rfl ?_
      refine qJ.ald hκ rfl rfl rfl (by decide) (by omega) ?_
      show qJ YX12_useOf κ _ (qLy u, m, y) 0 0 13 [some (qR 77), some (qI s), some (qI wh), some (qI c), some (qI w), none, none] [qI (m 85 0), qI w]
      refine qJ.icmp_ge hκ (tgt := 121) rfl rfl (by omega) (by omega) (fun c13 => ?_) (fun c13 => ?_)
      · show qJ YX12_useOf κ _ (qLy u, m, y) 0 0 121 [some (qR 77), some (qI s), some (qI wh), some (qI c), some (qI w), none, none] []
        refine qJ.run hκ 1 (pc' := 122) (ls' := [some (qR 77), some (qI s), some (qI wh), some (qI c), some (qI w), none, none]) (st' := [qI c]) rfl ?_
        exact qJ.iret hκ rfl rfl (by decide) (by decide) (⟨by congr 2; rcases v5_2 with z | z; (rw [z.2, show w.toNat = nW m by omega]); exact z.2, rfl⟩)
      · show qJ YX12_useOf κ _ (qLy u, m, y) 0 0 16 [some (qR 77), some (qI s), some (qI wh), some (qI c), some (qI w), none, none] []
        have w1 := hW w (by omega) (by omega)
        have w2 := (hRW w (by omega) (by omega)).1.1
        refine qJ.run hκ 2 (pc' := 19) (ls' := [some (qR 77), some (qI s), some (qI wh), some (qI c), some (qI w), some (qI 0), none]) (st' := []) rfl ?_
        exact L19 7 c 0 (by omega) (by omega) (by rcases v5_2 with z | z; (by_cases q : w < (nW m : Int); exact Or.inl ⟨q, by rw [z.2]; show _ = _ + ((0 : Nat) : Int); omega⟩; exact Or.inr ⟨by omega, rfl, by rw [z.2, show w.toNat = nW m by omega]⟩); exact Or.inr ⟨z.1, rfl, z.2⟩) (by omega) (by omega) (by omega)
  show qJ YX12_useOf κ _ (qLy u, m, y) 0 0 0 [some (qR 77), some (qI s), some (qI wh), none, none, none, none] []
  refine qJ.run hκ 4 (pc' := 5) (ls' := [some (qR 77), some (qI s), some (qI wh), some (qI 0), some (qI 0), none, none]) (st' := []) rfl ?_
  exact L5 62 0 0 (by omega) (by omega) (Or.inl ⟨by omega, rfl⟩) (by omega)

theorem uN_o {m m' : qM} (h : keep kObs m' = keep kObs m) (s wh : Int) (n : Nat) : uN m' s wh n = uN m s wh n := by
  unfold uN
  have h3 : m' 3 = m 3 := congrFun h 3
  have h4 : m' 4 = m 4 := congrFun h 4
  refine q_sum_c n fun w _ => ?_
  have e : q_cnt (uHit m' s wh w) (m' 4 w).toNat = q_cnt (uHit m s wh w) (m' 4 w).toNat := by
    refine q_cnt_c _ fun k _ => ?_
    unfold uHit
    rw [h3, h4]
  rw [e]
  rw [show m' 4 w = m 4 w from congrFun h4 w]
theorem m_useOf_o (u : qU) (m M y : qM) (s wh : Int) (hO : keep kObs M = keep kObs m) (hR : rC m) (h1 : qr s) (h2 : qr wh) : qCt YX12_useOf 3 0 0 [qR 77, qI s, qI wh] (qLy u, M, y) (fun r h => r = some (qI (uN m s wh (nW m))) ∧ h = (qLy u, M, y)) := by
  have := m_useOf u M y s wh (rC_o hO hR) h1 h2
  rw [uN_o hO, nW_o hO] at this
  exact this

set_option maxRecDepth 100000 in
theorem b_use (u : qU) (m y : qM) (s w : Int) (hR : rC m) (h1 : qr s) (h2 : qr w) {κ : qK} (hκ : qCx YX12_use 4 0 0 κ) : qJ YX12_use κ (qFin (fun r h => ∃ m', r = some (qI (ansUse m s w)) ∧ h = (qLy u, m', y) ∧ keep kObs m' = keep kObs m) 0 0 κ) (qLy u, m, y) 0 0 5 [some (qR 77), some (qI s), some (qI w)] [] := by
  have hR2 := hR
  obtain ⟨⟨⟨a0, a1, a2⟩, ⟨a3, a4, a5⟩, ⟨b0, b1, b2⟩, b3, b4, b5⟩, hW, hRW, hT, hRT, hS⟩ := hR2
  have hV : qr (m 83 0) := by omega
  have zr := gHz_r hR.1
  have ze := hz_eq hR.1
  have nWl := nW_le hR.1
  have nTl := nT_le hR.1
  refine qJ.run hκ 1 (pc' := 6) (ls' := [some (qR 77), some (qI s), some (qI w)]) (st' := [qI s]) rfl ?_
  refine qJ.callS (As := [qI s]) (rest := []) hκ rfl kX12_171 (c_mIsSign u m y s (by omega)) (by decide) rfl rfl (Nat.le_of_ble_eq_true rfl) (Nat.le_of_ble_eq_true rfl) (Nat.le_of_ble_eq_true rfl) (Or.inl (fun r h' e => by obtain ⟨z6, rfl, hz6, rfl⟩ := e; rfl)) (fun r h' e => ?_)
  obtain ⟨z6, rfl, hz6, rfl⟩ := e
  show qJ YX12_use κ _ (qLy u, m, y) 0 0 9 [some (qR 77), some (qI s), some (qI w)] [qI z6]
  refine qJ.if_eq hκ (tgt := 30) rfl rfl (by omega) (fun c9 => ?_) (fun c9 => ?_)
  · show qJ YX12_use κ _ (qLy u, m, y) 0 0 30 [some (qR 77), some (qI s), some (qI w)] []
    refine qJ.run hκ 1 (pc' := 31) (ls' := [some (qR 77), some (qI s), some (qI w)]) (st' := [qI (-1)]) rfl ?_
    exact qJ.iret hκ rfl rfl (by decide) (by decide) (⟨m, by unfold ansUse; rw [if_neg (fun z => by omega)], rfl, rfl⟩)
  · show qJ YX12_use κ _ (qLy u, m, y) 0 0 12 [some (qR 77), some (qI s), some (qI w)] []
    refine qJ.run hκ 3 (pc' := 15) (ls' := [some (qR 77), some (qI s), some (qI w)]) (st' := [qI 2, qI 0, qI w]) rfl ?_
    refine qJ.callS (As := [qI w, qI 0, qI 2]) (rest := []) hκ rfl kX12_167 (c_in u m y w 0 2 (by omega) (by omega) (by omega)) (by decide) rfl rfl (Nat.le_of_ble_eq_true rfl) (Nat.le_of_ble_eq_true rfl) (Nat.le_of_ble_eq_true rfl) (Or.inl (fun r h' e => by obtain ⟨z15, rfl, hz15, rfl⟩ := e; rfl)) (fun r h' e => ?_)
    obtain ⟨z15, rfl, hz15, rfl⟩ := e
    show qJ YX12_use κ _ (qLy u, m, y) 0 0 18 [some (qR 77), some (qI s), some (qI w)] [qI z15]
    refine qJ.if_eq hκ (tgt := 30) rfl rfl (by omega) (fun c18 => ?_) (fun c18 => ?_)
    · show qJ YX12_use κ _ (qLy u, m, y) 0 0 30 [some (qR 77), some (qI s), some (qI w)] []
      refine qJ.run hκ 1 (pc' := 31) (ls' := [some (qR 77), some (qI s), some (qI w)]) (st' := [qI (-1)]) rfl ?_
      exact qJ.iret hκ rfl rfl (by decide) (by decide) (⟨m, by unfold ansUse; rw [if_neg (fun z => by omega)], rfl, rfl⟩)
    · show qJ YX12_use κ _ (qLy u, m, y) 0 0 21 [some (qR 77), some (qI s), some (qI w)] []
      refine qJ.run hκ 3 (pc' := 24) (ls' := [some (qR 77), some (qI s), some (qI w)]) (st' := [qI w, qI s, qR 77]) rfl ?_
      refine qJ.callV (As := [qI s, qI w]) (rest := []) hκ rfl kX12_224 (m_useOf_o u m m y s w rfl hR (by omega) (by omega)) rfl rfl (by decide) rfl rfl (Nat.le_of_ble_eq_true rfl) (Nat.le_of_ble_eq_true rfl) (Nat.le_of_ble_eq_true rfl) (Or.inl (fun r h' e => by obtain ⟨rfl, rfl⟩ := e; rfl)) (fun r h' e => ?_)
      obtain ⟨rfl, rfl⟩ := e
      show qJ YX12_use κ _ (qLy u, m, y) 0 0 27 [some (qR 77), some (qI s), some (qI w)] [qI (uN m s w (nW m))]
      refine qJ.run hκ 1 (pc' := 31) (ls' := [some (qR 77), some (qI s), some (qI w)]) (st' := [qI (uN m s w (nW m))]) rfl ?_
      exact qJ.iret hκ rfl rfl (by decide) (by decide) (by
      refine ⟨m, ?_, rfl, rfl⟩
      unfold ansUse
      rw [if_pos ⟨by omega, by omega⟩]
      by_cases z0 : w = 0
      · rw [if_pos z0, z0, uN_all (by omega)]
      · by_cases z1 : w = 1
        · rw [if_neg z0, if_pos z1, z1, uN_fst hR (by omega) _ nWl]
        · rw [if_neg z0, if_neg z1, show w = 2 by omega, uN_lst hR (by omega) _ nWl])
set_option maxRecDepth 100000 in
theorem w_use (u : qU) (m y : qM) (s w : Int) (hR : rC m) (h1 : qr s) (h2 : qr w) : qCt YX12_use 4 0 0 [qR 77, qI s, qI w] (qLy u, m, y) (fun r h => ∃ m', r = some (qI (ansUse (q_up m 77 0 0) s w)) ∧ h = (qLy u, m', y) ∧ keep kObs m' = keep kObs (q_up m 77 0 0)) := by
  refine qCt.intro okX12_use (Nat.le_of_ble_eq_true rfl) (fun κ hκ => ?_)
  show qJ YX12_use κ _ (qLy u, m, y) 0 0 0 [some (qR 77), some (qI s), some (qI w)] []
  refine qJ.run hκ 2 (pc' := 2) (ls' := [some (qR 77), some (qI s), some (qI w)]) (st' := [qI 0, qR 77]) rfl ?_
  refine qJ.putI hκ rfl rfl rfl rfl (Or.inl rfl) ?_
  show qJ YX12_use κ _ (qLy u, (q_up m 77 0 0), y) 0 0 5 [some (qR 77), some (qI s), some (qI w)] []
  exact b_use u (q_up m 77 0 0) y s w (show rC (q_up m 77 0 0) from hR) h1 h2 hκ
theorem m_use (u : qU) (m y : qM) (s w : Int) (hR : rC m) (h1 : qr s) (h2 : qr w) : qCt YX12_use 4 0 0 [qR 77, qI s, qI w] (qLy u, m, y) (fun r h => ∃ m', r = some (qI (ansUse m s w)) ∧ h = (qLy u, m', y) ∧ keep kObs m' = keep kObs m) := by
  refine (w_use u m y s w hR h1 h2).weak ?_
  rintro r h ⟨m', e1, e2, e3⟩
  exact ⟨m', by rw [e1, ansUse_o (keep_up (by rfl))], e2, e3.trans (keep_up (by rfl))⟩

set_option maxRecDepth 100000 in
theorem m_isAhead (u : qU) (m y : qM) (a b : Int) (ha : 0 ≤ a ∧ a < 20) (hb : 0 ≤ b ∧ b < 20) (hr : ∀ s : Nat, s < 20 → (0 ≤ m 112 s ∧ m 112 s ≤ 300) ∧ 0 ≤ m 113 s ∧ m 113 s ≤ 300) : qCt YX12_isAhead 1 0 0 [qR 77, qI a, qI b] (qLy u, m, y) (fun r h => ∃ z : Int, r = some (qI z) ∧ (z = 1 ∧ (uAq (m 112) (m 113) a.toNat b.toNat) ∨ z = 0 ∧ ¬ (uAq (m 112) (m 113) a.toNat b.toNat)) ∧ h = (qLy u, m, y)) := by
  refine qCt.intro okX12_isAhead (Nat.le_of_ble_eq_true rfl) (fun κ hκ => ?_)
  have r1 := hr a.toNat (by omega)
  have r2 := hr b.toNat (by omega)
  have q1 := q_mulr r1.2 r2.1
  have q2 := q_mulr r2.2 r1.1
  show qJ YX12_isAhead κ _ (qLy u, m, y) 0 0 0 [some (qR 77), some (qI a), some (qI b), none, none] []
  refine qJ.run hκ 3 (pc' := 5) (ls' := [some (qR 77), some (qI a), some (qI b), none, none]) (st' := [qI a, qR 113]) rfl ?_
  refine qJ.ald hκ rfl rfl rfl (by decide) (by omega) ?_
  show qJ YX12_isAhead κ _ (qLy u, m, y) 0 0 6 [some (qR 77), some (qI a), some (qI b), none, none] [qI (m 113 a.toNat)]
  refine qJ.run hκ 3 (pc' := 11) (ls' := [some (qR 77), some (qI a), some (qI b), none, none]) (st' := [qI b, qR 112, qI (m 113 a.toNat)]) rfl ?_
  refine qJ.ald hκ rfl rfl rfl (by decide) (by omega) ?_
  show qJ YX12_isAhead κ _ (qLy u, m, y) 0 0 12 [some (qR 77), some (qI a), some (qI b), none, none] [qI (m 112 b.toNat), qI (m 113 a.toNat)]
  refine qJ.run hκ 5 (pc' := 19) (ls' := [some (qR 77), some (qI a), some (qI b), some (qI ((m 113 a.toNat) * (m 112 b.toNat))), none]) (st' := [qI b, qR 113]) rfl ?_
  refine qJ.ald hκ rfl rfl rfl (by decide) (by omega) ?_
  show qJ YX12_isAhead κ _ (qLy u, m, y) 0 0 20 [some (qR 77), some (qI a), some (qI b), some (qI ((m 113 a.toNat) * (m 112 b.toNat))), none] [qI (m 113 b.toNat)]
  refine qJ.run hκ 3 (pc' := 25) (ls' := [some (qR 77), some (qI a), some (qI b), some (qI ((m 113 a.toNat) * (m 112 b.toNat))), none]) (st' := [qI a, qR 112, qI (m 113 b.toNat)]) rfl ?_
  refine qJ.ald hκ rfl rfl rfl (by decide) (by omega) ?_
  show qJ YX12_isAhead κ _ (qLy u, m, y) 0 0 26 [some (qR 77), some (qI a), some (qI b), some (qI ((m 113 a.toNat) * (m 112 b.toNat))), none] [qI (m 112 a.toNat), qI (m 113 b.toNat)]
  refine qJ.run hκ 4 (pc' := 32) (ls' := [some (qR 77), some (qI a), some (qI b), some (qI ((m 113 a.toNat) * (m 112 b.toNat))), some (qI ((m 113 b.toNat) * (m 112 a.toNat)))]) (st' := [qI ((m 113 b.toNat) * (m 112 a.toNat)), qI ((m 113 a.toNat) * (m 112 b.toNat))]) rfl ?_
  refine qJ.icmp_eq hκ (tgt := 49) rfl rfl (by omega) (by omega) (fun c32 => ?_) (fun c32 => ?_)
  · show qJ YX12_isAhead κ _ (qLy u, m, y) 0 0 49 [some (qR 77), some (qI a), some (qI b), some (qI ((m 113 a.toNat) * (m 112 b.toNat))), some (qI ((m 113 b.toNat) * (m 112 a.toNat)))] []
    refine qJ.run hκ 3 (pc' := 54) (ls' := [some (qR 77), some (qI a), some (qI b), some (qI ((m 113 a.toNat) * (m 112 b.toNat))), some (qI ((m 113 b.toNat) * (m 112 a.toNat)))]) (st' := [qI a, qR 112]) rfl ?_
    refine qJ.ald hκ rfl rfl rfl (by decide) (by omega) ?_
    show qJ YX12_isAhead κ _ (qLy u, m, y) 0 0 55 [some (qR 77), some (qI a), some (qI b), some (qI ((m 113 a.toNat) * (m 112 b.toNat))), some (qI ((m 113 b.toNat) * (m 112 a.toNat)))] [qI (m 112 a.toNat)]
    refine qJ.run hκ 3 (pc' := 60) (ls' := [some (qR 77), some (qI a), some (qI b), some (qI ((m 113 a.toNat) * (m 112 b.toNat))), some (qI ((m 113 b.toNat) * (m 112 a.toNat)))]) (st' := [qI b, qR 112, qI (m 112 a.toNat)]) rfl ?_
    refine qJ.ald hκ rfl rfl rfl (by decide) (by omega) ?_
    show qJ YX12_isAhead κ _ (qLy u, m, y) 0 0 61 [some (qR 77), some (qI a), some (qI b), some (qI ((m 113 a.toNat) * (m 112 b.toNat))), some (qI ((m 113 b.toNat) * (m 112 a.toNat)))] [qI (m 112 b.toNat), qI (m 112 a.toNat)]
    refine qJ.icmp_eq hκ (tgt := 87) rfl rfl (by omega) (by omega) (fun c61 => ?_) (fun c61 => ?_)
    · show qJ YX12_isAhead κ _ (qLy u, m, y) 0 0 87 [some (qR 77), some (qI a), some (qI b), some (qI ((m 113 a.toNat) * (m 112 b.toNat))), some (qI ((m 113 b.toNat) * (m 112 a.toNat)))] []
      refine qJ.run hκ 2 (pc' := 89) (ls' := [some (qR 77), some (qI a), some (qI b), some (qI ((m 113 a.toNat) * (m 112 b.toNat))), some (qI ((m 113 b.toNat) * (m 112 a.toNat)))]) (st' := [qI b, qI a]) rfl ?_
      refine qJ.icmp_ge hκ (tgt := 96) rfl rfl (by omega) (by omega) (fun c89 => ?_) (fun c89 => ?_)
      · show qJ YX12_isAhead κ _ (qLy u, m, y) 0 0 96 [some (qR 77), some (qI a), some (qI b), some (qI ((m 113 a.toNat) * (m 112 b.toNat))), some (qI ((m 113 b.toNat) * (m 112 a.toNat)))] []
        refine qJ.run hκ 1 (pc' := 97) (ls' := [some (qR 77), some (qI a), some (qI b), some (qI ((m 113 a.toNat) * (m 112 b.toNat))), some (qI ((m 113 b.toNat) * (m 112 a.toNat)))]) (st' := [qI 0]) rfl ?_
        exact qJ.bret hκ rfl rfl (by omega) (by decide) (by decide) (by first | exact ⟨0, rfl, Or.inr ⟨rfl, fun z => by have := (uAq_1 c32).mp z; omega⟩, rfl⟩ | exact ⟨0, rfl, Or.inr ⟨rfl, fun z => by have := (uAq_2 c32 c61).mp z; omega⟩, rfl⟩ | exact ⟨0, rfl, Or.inr ⟨rfl, fun z => by have := (uAq_3 c32 c61).mp z; omega⟩, rfl⟩)
      · show qJ YX12_isAhead κ _ (qLy u, m, y) 0 0 92 [some (qR 77), some (qI a), some (qI b), some (qI ((m 113 a.toNat) * (m 112 b.toNat))), some (qI ((m 113 b.toNat) * (m 112 a.toNat)))] []
        refine qJ.run hκ 2 (pc' := 97) (ls' := [some (qR 77), some (qI a), some (qI b), some (qI ((m 113 a.toNat) * (m 112 b.toNat))), some (qI ((m 113 b.toNat) * (m 112 a.toNat)))]) (st' := [qI 1]) rfl ?_
        exact qJ.bret hκ rfl rfl (by omega) (by decide) (by decide) (by first | exact ⟨1, rfl, Or.inl ⟨rfl, (uAq_1 c32).mpr (by omega)⟩, rfl⟩ | exact ⟨1, rfl, Or.inl ⟨rfl, (uAq_2 c32 c61).mpr (by omega)⟩, rfl⟩ | exact ⟨1, rfl, Or.inl ⟨rfl, (uAq_3 c32 c61).mpr (by omega)⟩, rfl⟩)
    · show qJ YX12_isAhead κ _ (qLy u, m, y) 0 0 64 [some (qR 77), some (qI a), some (qI b), some (qI ((m 113 a.toNat) * (m 112 b.toNat))), some (qI ((m 113 b.toNat) * (m 112 a.toNat)))] []
      refine qJ.run hκ 3 (pc' := 69) (ls' := [some (qR 77), some (qI a), some (qI b), some (qI ((m 113 a.toNat) * (m 112 b.toNat))), some (qI ((m 113 b.toNat) * (m 112 a.toNat)))]) (st' := [qI a, qR 112]) rfl ?_
      refine qJ.ald hκ rfl rfl rfl (by decide) (by omega) ?_
      show qJ YX12_isAhead κ _ (qLy u, m, y) 0 0 70 [some (qR 77), some (qI a), some (qI b), some (qI ((m 113 a.toNat) * (m 112 b.toNat))), some (qI ((m 113 b.toNat) * (m 112 a.toNat)))] [qI (m 112 a.toNat)]
      refine qJ.run hκ 3 (pc' := 75) (ls' := [some (qR 77), some (qI a), some (qI b), some (qI ((m 113 a.toNat) * (m 112 b.toNat))), some (qI ((m 113 b.toNat) * (m 112 a.toNat)))]) (st' := [qI b, qR 112, qI (m 112 a.toNat)]) rfl ?_
      refine qJ.ald hκ rfl rfl rfl (by decide) (by omega) ?_
      show qJ YX12_isAhead κ _ (qLy u, m, y) 0 0 76 [some (qR 77), some (qI a), some (qI b), some (qI ((m 113 a.toNat) * (m 112 b.toNat))), some (qI ((m 113 b.toNat) * (m 112 a.toNat)))] [qI (m 112 b.toNat), qI (m 112 a.toNat)]
      refine qJ.icmp_le hκ (tgt := 83) rfl rfl (by omega) (by omega) (fun c76 => ?_) (fun c76 => ?_)
      · show qJ YX12_isAhead κ _ (qLy u, m, y) 0 0 83 [some (qR 77), some (qI a), some (qI b), some (qI ((m 113 a.toNat) * (m 112 b.toNat))), some (qI ((m 113 b.toNat) * (m 112 a.toNat)))] []
        refine qJ.run hκ 2 (pc' := 97) (ls' := [some (qR 77), some (qI a), some (qI b), some (qI ((m 113 a.toNat) * (m 112 b.toNat))), some (qI ((m 113 b.toNat) * (m 112 a.toNat)))]) (st' := [qI 0]) rfl ?_
        exact qJ.bret hκ rfl rfl (by omega) (by decide) (by decide) (by first | exact ⟨0, rfl, Or.inr ⟨rfl, fun z => by have := (uAq_1 c32).mp z; omega⟩, rfl⟩ | exact ⟨0, rfl, Or.inr ⟨rfl, fun z => by have := (uAq_2 c32 c61).mp z; omega⟩, rfl⟩ | exact ⟨0, rfl, Or.inr ⟨rfl, fun z => by have := (uAq_3 c32 c61).mp z; omega⟩, rfl⟩)
      · show qJ YX12_isAhead κ _ (qLy u, m, y) 0 0 79 [some (qR 77), some (qI a), some (qI b), some (qI ((m 113 a.toNat) * (m 112 b.toNat))), some (qI ((m 113 b.toNat) * (m 112 a.toNat)))] []
        refine qJ.run hκ 2 (pc' := 97) (ls' := [some (qR 77), some (qI a), some (qI b), some (qI ((m 113 a.toNat) * (m 112 b.toNat))), some (qI ((m 113 b.toNat) * (m 112 a.toNat)))]) (st' := [qI 1]) rfl ?_
        exact qJ.bret hκ rfl rfl (by omega) (by decide) (by decide) (by first | exact ⟨1, rfl, Or.inl ⟨rfl, (uAq_1 c32).mpr (by omega)⟩, rfl⟩ | exact ⟨1, rfl, Or.inl ⟨rfl, (uAq_2 c32 c61).mpr (by omega)⟩, rfl⟩ | exact ⟨1, rfl, Or.inl ⟨rfl, (uAq_3 c32 c61).mpr (by omega)⟩, rfl⟩)
  · show qJ YX12_isAhead κ _ (qLy u, m, y) 0 0 35 [some (qR 77), some (qI a), some (qI b), some (qI ((m 113 a.toNat) * (m 112 b.toNat))), some (qI ((m 113 b.toNat) * (m 112 a.toNat)))] []
    refine qJ.run hκ 2 (pc' := 38) (ls' := [some (qR 77), some (qI a), some (qI b), some (qI ((m 113 a.toNat) * (m 112 b.toNat))), some (qI ((m 113 b.toNat) * (m 112 a.toNat)))]) (st' := [qI ((m 113 b.toNat) * (m 112 a.toNat)), qI ((m 113 a.toNat) * (m 112 b.toNat))]) rfl ?_
    refine qJ.icmp_le hκ (tgt := 45) rfl rfl (by omega) (by omega) (fun c38 => ?_) (fun c38 => ?_)
    · show qJ YX12_isAhead κ _ (qLy u, m, y) 0 0 45 [some (qR 77), some (qI a), some (qI b), some (qI ((m 113 a.toNat) * (m 112 b.toNat))), some (qI ((m 113 b.toNat) * (m 112 a.toNat)))] []
      refine qJ.run hκ 2 (pc' := 97) (ls' := [some (qR 77), some (qI a), some (qI b), some (qI ((m 113 a.toNat) * (m 112 b.toNat))), some (qI ((m 113 b.toNat) * (m 112 a.toNat)))]) (st' := [qI 0]) rfl ?_
      exact qJ.bret hκ rfl rfl (by omega) (by decide) (by decide) (by first | exact ⟨0, rfl, Or.inr ⟨rfl, fun z => by have := (uAq_1 c32).mp z; omega⟩, rfl⟩ | exact ⟨0, rfl, Or.inr ⟨rfl, fun z => by have := (uAq_2 c32 c61).mp z; omega⟩, rfl⟩ | exact ⟨0, rfl, Or.inr ⟨rfl, fun z => by have := (uAq_3 c32 c61).mp z; omega⟩, rfl⟩)
    · show qJ YX12_isAhead κ _ (qLy u, m, y) 0 0 41 [some (qR 77), some (qI a), some (qI b), some (qI ((m 113 a.toNat) * (m 112 b.toNat))), some (qI ((m 113 b.toNat) * (m 112 a.toNat)))] []
      refine qJ.run hκ 2 (pc' := 97) (ls' := [some (qR 77), some (qI a), some (qI b), some (qI ((m 113 a.toNat) * (m 112 b.toNat))), some (qI ((m 113 b.toNat) * (m 112 a.toNat)))]) (st' := [qI 1]) rfl ?_
      exact qJ.bret hκ rfl rfl (by omega) (by decide) (by decide) (by first | exact ⟨1, rfl, Or.inl ⟨rfl, (uAq_1 c32).mpr (by omega)⟩, rfl⟩ | exact ⟨1, rfl, Or.inl ⟨rfl, (uAq_2 c32 c61).mpr (by omega)⟩, rfl⟩ | exact ⟨1, rfl, Or.inl ⟨rfl, (uAq_3 c32 c61).mpr (by omega)⟩, rfl⟩)

theorem uRk_m {m : qM} {f g : Nat → Int} {k : Int} {s : Nat} (hs : s < 20) (h : ∀ k : Nat, k < 20 → f k = uAll m (nW m) k ∧ g k = uFst m (nW m) k) : (0 < f s ∧ ((q_cnt (fun x => ¬ x = s ∧ 0 < f x ∧ uAq f g x s) 20 : Nat) : Int) = k) ↔ uRq (uAll m (nW m)) (uFst m (nW m)) k s := by
  have e : q_cnt (fun x => ¬ x = s ∧ 0 < f x ∧ uAq f g x s) 20 = q_cnt (uAhq f g s) 20 := by
    refine q_cnt_c 20 fun x _ => ?_
    show (¬ x = s ∧ 0 < f x ∧ uAq f g x s) ↔ (0 < f x ∧ uAq f g x s)
    exact ⟨fun z => z.2, fun z => ⟨fun q => by subst q; exact uAq_s z.2, z⟩⟩
  rw [e]
  exact uRq_c h k hs
theorem uRf_r {m : qM} {f g : Nat → Int} (hR : rC m) (h : ∀ k : Nat, k < 20 → f k = uAll m (nW m) k ∧ g k = uFst m (nW m) k) : ∀ s : Nat, s < 20 → (0 ≤ f s ∧ f s ≤ 300) ∧ 0 ≤ g s ∧ g s ≤ 300 := by
  intro s hs
  have a1 := uAll_r (s := s) hR (nW m) (nW_le hR.1)
  have a2 := uFst_r (m := m) (s := s) (nW m)
  have := hR.1.1.1
  have := nW_le hR.1
  rw [(h s hs).1, (h s hs).2]
  omega

set_option maxRecDepth 100000 in
theorem b_initial (u : qU) (m y : qM) (k : Int) (hR : rC m) (h1 : qr k) {κ : qK} (hκ : qCx YX12_initial 4 0 0 κ) : qJ YX12_initial κ (qFin (fun r h => ∃ m', r = some (qI (ansIni m k)) ∧ h = (qLy u, m', y) ∧ keep kObs m' = keep kObs m) 0 0 κ) (qLy u, m, y) 0 0 5 [some (qR 77), some (qI k), none, none, none] [] := by
  have hR2 := hR
  obtain ⟨⟨⟨a0, a1, a2⟩, ⟨a3, a4, a5⟩, ⟨b0, b1, b2⟩, b3, b4, b5⟩, hW, hRW, hT, hRT, hS⟩ := hR2
  have hV : qr (m 83 0) := by omega
  have zr := gHz_r hR.1
  have ze := hz_eq hR.1
  have nWl := nW_le hR.1
  have nTl := nT_le hR.1
  have L45 : ∀ (n : Nat) (f : Nat → Int) (g : Nat → Int) (s : Int), (0 ≤ s) → (s ≤ 20) → (∀ k : Nat, k < 20 → f k = uAll m (nW m) k ∧ g k = uFst m (nW m) k) → (q_fst (uRq (uAll m (nW m)) (uFst m (nW m)) k) s.toNat = -1) → ((20 - s).toNat) < n → qJ YX12_initial κ (qFin (fun r h => ∃ m', r = some (qI (ansIni m k)) ∧ h = (qLy u, m', y) ∧ keep kObs m' = keep kObs m) 0 0 κ) (qLy u, (q_row (q_row m 112 f) 113 g), y) 0 0 45 [some (qR 77), some (qI k), some (qI s), none, none] [] := by
    intro n
    induction n with
    | zero => intro f g s _ _ _ _ hz0; omega
    | succ n ih45 =>
      intro f g s v45_0 v45_1 v45_2 v45_3 v45_m
      have L56 : ∀ (n : Nat) (c : Int) (x : Int), (0 ≤ x) → (x ≤ 20) → (c = (q_cnt (fun x => ¬ x = s.toNat ∧ 0 < f x ∧ uAq f g x s.toNat) x.toNat : Nat)) → (0 ≤ s ∧ s < 20) → ((20 - x).toNat) < n → qJ YX12_initial κ (qFin (fun r h => ∃ m', r = some (qI (ansIni m k)) ∧ h = (qLy u, m', y) ∧ keep kObs m' = keep kObs m) 0 0 κ) (qLy u, (q_row (q_row m 112 f) 113 g), y) 0 0 56 [some (qR 77), some (qI k), some (qI s), some (qI c), some (qI x)] [] := by
        intro n
        induction n with
        | zero => intro c x _ _ _ _ hz0; omega
        | succ n ih56 =>
          intro c x v56_0 v56_1 v56_2 v56_3 v56_m
          refine qJ.run hκ 2 (pc' := 60) (ls' := [some (qR 77), some (qI k), some (qI s), some (qI c), some (qI x)]) (st' := [qI 20, qI x]) rfl ?_
          refine qJ.icmp_ge hκ (tgt := 103) rfl rfl (by omega) (by omega) (fun c60 => ?_) (fun c60 => ?_)
          · show qJ YX12_initial κ _ (qLy u, (q_row (q_row m 112 f) 113 g), y) 0 0 103 [some (qR 77), some (qI k), some (qI s), some (qI c), some (qI x)] []
            have r2 := uRf_r hR v45_2 s.toNat (by omega)
            have cl := q_cnt_le (fun x => ¬ x = s.toNat ∧ 0 < f x ∧ uAq f g x s.toNat) 20
            have v2 : c = ((q_cnt (fun x => ¬ x = s.toNat ∧ 0 < f x ∧ uAq f g x s.toNat) 20 : Nat) : Int) := by rw [v56_2, show x.toNat = 20 by omega]
            have fgr := uRk_m (k := k) (show s.toNat < 20 by omega) v45_2
            refine qJ.run hκ 3 (pc' := 108) (ls' := [some (qR 77), some (qI k), some (qI s), some (qI c), some (qI x)]) (st' := [qI s, qR 112]) rfl ?_
            refine qJ.ald hκ rfl rfl rfl (by decide) (by omega) ?_
            show qJ YX12_initial κ _ (qLy u, (q_row (q_row m 112 f) 113 g), y) 0 0 109 [some (qR 77), some (qI k), some (qI s), some (qI c), some (qI x)] [qI (f s.toNat)]
            refine qJ.if_le hκ (tgt := 119) rfl rfl (by omega) (fun c109 => ?_) (fun c109 => ?_)
            · show qJ YX12_initial κ _ (qLy u, (q_row (q_row m 112 f) 113 g), y) 0 0 119 [some (qR 77), some (qI k), some (qI s), some (qI c), some (qI x)] []
              refine qJ.run hκ 2 (pc' := 45) (ls' := [some (qR 77), some (qI k), some (qI (s + 1)), some (qI c), some (qI x)]) (st' := []) rfl ?_
              refine qJ.dl [true, true, true, false, false] ?_
              show qJ YX12_initial κ _ (qLy u, (q_row (q_row m 112 f) 113 g), y) 0 0 45 [some (qR 77), some (qI k), some (qI (s + 1)), none, none] []
              exact ih45  f g (s + 1) (by omega) (by omega) (v45_2) (q_fst_no v45_0 v45_3 (fun z => by have := (fgr.mpr z).1; omega)) (by omega)
            · show qJ YX12_initial κ _ (qLy u, (q_row (q_row m 112 f) 113 g), y) 0 0 112 [some (qR 77), some (qI k), some (qI s), some (qI c), some (qI x)] []
              refine qJ.run hκ 2 (pc' := 114) (ls' := [some (qR 77), some (qI k), some (qI s), some (qI c), some (qI x)]) (st' := [qI k, qI c]) rfl ?_
              refine qJ.icmp_ne hκ (tgt := 119) rfl rfl (by omega) (by omega) (fun c114 => ?_) (fun c114 => ?_)
              · show qJ YX12_initial κ _ (qLy u, (q_row (q_row m 112 f) 113 g), y) 0 0 119 [some (qR 77), some (qI k), some (qI s), some (qI c), some (qI x)] []
                refine qJ.run hκ 2 (pc' := 45) (ls' := [some (qR 77), some (qI k), some (qI (s + 1)), some (qI c), some (qI x)]) (st' := []) rfl ?_
                refine qJ.dl [true, true, true, false, false] ?_
                show qJ YX12_initial κ _ (qLy u, (q_row (q_row m 112 f) 113 g), y) 0 0 45 [some (qR 77), some (qI k), some (qI (s + 1)), none, none] []
                exact ih45  f g (s + 1) (by omega) (by omega) (v45_2) (q_fst_no v45_0 v45_3 (fun z => by have := (fgr.mpr z).2; omega)) (by omega)
              · show qJ YX12_initial κ _ (qLy u, (q_row (q_row m 112 f) 113 g), y) 0 0 117 [some (qR 77), some (qI k), some (qI s), some (qI c), some (qI x)] []
                refine qJ.run hκ 1 (pc' := 118) (ls' := [some (qR 77), some (qI k), some (qI s), some (qI c), some (qI x)]) (st' := [qI s]) rfl ?_
                exact qJ.iret hκ rfl rfl (by decide) (by decide) (⟨_, by unfold ansIni; rw [q_fst_hit v45_0 v45_3 (fgr.mp ⟨by omega, by omega⟩) 20 (by omega)], rfl, (Eq.trans (keep_row (by intro j; rfl)) (Eq.trans (keep_row (by intro j; rfl)) rfl))⟩)
          · show qJ YX12_initial κ _ (qLy u, (q_row (q_row m 112 f) 113 g), y) 0 0 63 [some (qR 77), some (qI k), some (qI s), some (qI c), some (qI x)] []
            have r1 := uRf_r hR v45_2 x.toNat (by omega)
            have r2 := uRf_r hR v45_2 s.toNat (by omega)
            refine qJ.run hκ 3 (pc' := 67) (ls' := [some (qR 77), some (qI k), some (qI s), some (qI c), some (qI x)]) (st' := [qI s, qI x, qI c]) rfl ?_
            refine qJ.icmp_eq hκ (tgt := 94) rfl rfl (by omega) (by omega) (fun c67 => ?_) (fun c67 => ?_)
            · show qJ YX12_initial κ _ (qLy u, (q_row (q_row m 112 f) 113 g), y) 0 0 94 [some (qR 77), some (qI k), some (qI s), some (qI c), some (qI x)] [qI c]
              refine qJ.run hκ 5 (pc' := 56) (ls' := [some (qR 77), some (qI k), some (qI s), some (qI (c + 0)), some (qI (x + 1))]) (st' := []) rfl ?_
              exact ih56  (c + 0) (x + 1) (by omega) (by omega) (by rw [q_cnt_s v56_0, if_neg (fun z => z.1 (by omega))]; omega) (by omega) (by omega)
            · show qJ YX12_initial κ _ (qLy u, (q_row (q_row m 112 f) 113 g), y) 0 0 70 [some (qR 77), some (qI k), some (qI s), some (qI c), some (qI x)] [qI c]
              refine qJ.run hκ 3 (pc' := 76) (ls' := [some (qR 77), some (qI k), some (qI s), some (qI c), some (qI x)]) (st' := [qI x, qR 112, qI c]) rfl ?_
              refine qJ.ald hκ rfl rfl rfl (by decide) (by omega) ?_
              show qJ YX12_initial κ _ (qLy u, (q_row (q_row m 112 f) 113 g), y) 0 0 77 [some (qR 77), some (qI k), some (qI s), some (qI c), some (qI x)] [qI (f x.toNat), qI c]
              refine qJ.if_le hκ (tgt := 94) rfl rfl (by omega) (fun c77 => ?_) (fun c77 => ?_)
              · show qJ YX12_initial κ _ (qLy u, (q_row (q_row m 112 f) 113 g), y) 0 0 94 [some (qR 77), some (qI k), some (qI s), some (qI c), some (qI x)] [qI c]
                refine qJ.run hκ 5 (pc' := 56) (ls' := [some (qR 77), some (qI k), some (qI s), some (qI (c + 0)), some (qI (x + 1))]) (st' := []) rfl ?_
                exact ih56  (c + 0) (x + 1) (by omega) (by omega) (by rw [q_cnt_s v56_0, if_neg (fun z => by have := z.2.1; omega)]; omega) (by omega) (by omega)
              · show qJ YX12_initial κ _ (qLy u, (q_row (q_row m 112 f) 113 g), y) 0 0 80 [some (qR 77), some (qI k), some (qI s), some (qI c), some (qI x)] [qI c]
                refine qJ.run hκ 3 (pc' := 84) (ls' := [some (qR 77), some (qI k), some (qI s), some (qI c), some (qI x)]) (st' := [qI s, qI x, qR 77, qI c]) rfl ?_
                refine qJ.callV (As := [qI x, qI s]) (rest := [qI c]) hκ rfl kX12_227 (m_isAhead u (q_row (q_row m 112 f) 113 g) y x s (by omega) (by omega) (uRf_r hR v45_2)) rfl rfl (by decide) rfl rfl (Nat.le_of_ble_eq_true rfl) (Nat.le_of_ble_eq_true rfl) (Nat.le_of_ble_eq_true rfl) (Or.inl (fun r h' e => by obtain ⟨z84, rfl, hz0, rfl⟩ := e; rfl)) (fun r h' e => ?_)
                obtain ⟨z84, rfl, hz0, rfl⟩ := e
                show qJ YX12_initial κ _ (qLy u, (q_row (q_row m 112 f) 113 g), y) 0 0 87 [some (qR 77), some (qI k), some (qI s), some (qI c), some (qI x)] [qI z84, qI c]
                have hz : (z84 = 1 ∧ uAq f g x.toNat s.toNat) ∨ (z84 = 0 ∧ ¬ uAq f g x.toNat s.toNat) := hz0
                have zr1 : 0 ≤ z84 ∧ z84 ≤ 1 := by rcases hz with q | q <;> omega
                refine qJ.if_eq hκ (tgt := 94) rfl rfl (by omega) (fun c87 => ?_) (fun c87 => ?_)
                · show qJ YX12_initial κ _ (qLy u, (q_row (q_row m 112 f) 113 g), y) 0 0 94 [some (qR 77), some (qI k), some (qI s), some (qI c), some (qI x)] [qI c]
                  refine qJ.run hκ 5 (pc' := 56) (ls' := [some (qR 77), some (qI k), some (qI s), some (qI (c + 0)), some (qI (x + 1))]) (st' := []) rfl ?_
                  exact ih56  (c + 0) (x + 1) (by omega) (by omega) (by rw [q_cnt_s v56_0, if_neg (fun z => by rcases hz with q | q; omega; exact q.2 z.2.2)]; omega) (by omega) (by omega)
                · show qJ YX12_initial κ _ (qLy u, (q_row (q_row m 112 f) 113 g), y) 0 0 90 [some (qR 77), some (qI k), some (qI s), some (qI c), some (qI x)] [qI c]
                  refine qJ.run hκ 6 (pc' := 56) (ls' := [some (qR 77), some (qI k), some (qI s), some (qI (c + 1)), some (qI (x + 1))]) (st' := []) rfl ?_
                  exact ih56  (c + 1) (x + 1) (by omega) (by omega) (by rw [q_cnt_s v56_0, if_pos ⟨by omega, by omega, by rcases hz with q | q; exact q.2; omega⟩]; omega) (by omega) (by omega)
      refine qJ.run hκ 2 (pc' := 48) (ls' := [some (qR 77), some (qI k), some (qI s), none, none]) (st' := [qI 20, qI s]) rfl ?_
      refine qJ.icmp_ge hκ (tgt := 125) rfl rfl (by omega) (by omega) (fun c48 => ?_) (fun c48 => ?_)
      · show qJ YX12_initial κ _ (qLy u, (q_row (q_row m 112 f) 113 g), y) 0 0 125 [some (qR 77), some (qI k), some (qI s), none, none] []
        refine qJ.run hκ 1 (pc' := 126) (ls' := [some (qR 77), some (qI k), some (qI s), none, none]) (st' := [qI (-1)]) rfl ?_
        exact qJ.iret hκ rfl rfl (by decide) (by decide) (⟨_, by unfold ansIni; rw [show s = 20 by omega] at v45_3; rw [← v45_3]; rfl, rfl, (Eq.trans (keep_row (by intro j; rfl)) (Eq.trans (keep_row (by intro j; rfl)) rfl))⟩)
      · show qJ YX12_initial κ _ (qLy u, (q_row (q_row m 112 f) 113 g), y) 0 0 51 [some (qR 77), some (qI k), some (qI s), none, none] []
        refine qJ.run hκ 4 (pc' := 56) (ls' := [some (qR 77), some (qI k), some (qI s), some (qI 0), some (qI 0)]) (st' := []) rfl ?_
        exact L56 21 0 0 (by omega) (by omega) (rfl) (by omega) (by omega)
  have L7 : ∀ (n : Nat) (f : Nat → Int) (g : Nat → Int) (i : Int), (0 ≤ i) → (i ≤ 20) → (∀ k : Nat, (k : Int) < i → f k = uAll m (nW m) k ∧ g k = uFst m (nW m) k) → ((20 - i).toNat) < n → qJ YX12_initial κ (qFin (fun r h => ∃ m', r = some (qI (ansIni m k)) ∧ h = (qLy u, m', y) ∧ keep kObs m' = keep kObs m) 0 0 κ) (qLy u, (q_row (q_row m 112 f) 113 g), y) 0 0 7 [some (qR 77), some (qI k), some (qI i), none, none] [] := by
    intro n
    induction n with
    | zero => intro f g i _ _ _ hz0; omega
    | succ n ih7 =>
      intro f g i v7_0 v7_1 v7_2 v7_m
      refine qJ.run hκ 2 (pc' := 10) (ls' := [some (qR 77), some (qI k), some (qI i), none, none]) (st' := [qI 20, qI i]) rfl ?_
      refine qJ.icmp_ge hκ (tgt := 43) rfl rfl (by omega) (by omega) (fun c10 => ?_) (fun c10 => ?_)
      · show qJ YX12_initial κ _ (qLy u, (q_row (q_row m 112 f) 113 g), y) 0 0 43 [some (qR 77), some (qI k), some (qI i), none, none] []
        refine qJ.run hκ 2 (pc' := 45) (ls' := [some (qR 77), some (qI k), some (qI 0), none, none]) (st' := []) rfl ?_
        exact L45 21 f g 0 (by omega) (by omega) (fun k hk => v7_2 k (by omega)) (rfl) (by omega)
      · show qJ YX12_initial κ _ (qLy u, (q_row (q_row m 112 f) 113 g), y) 0 0 13 [some (qR 77), some (qI k), some (qI i), none, none] []
        refine qJ.run hκ 6 (pc' := 21) (ls' := [some (qR 77), some (qI k), some (qI i), none, none]) (st' := [qI 0, qI i, qR 77, qI i, qR 112]) rfl ?_
        refine qJ.callV (As := [qI i, qI 0]) (rest := [qI i, qR 112]) hκ rfl kX12_224 (m_useOf_o u m (q_row (q_row m 112 f) 113 g) y i 0 (Eq.trans (keep_row (by intro j; rfl)) (Eq.trans (keep_row (by intro j; rfl)) rfl)) hR (by omega) (by omega)) rfl rfl (by decide) rfl rfl (Nat.le_of_ble_eq_true rfl) (Nat.le_of_ble_eq_true rfl) (Nat.le_of_ble_eq_true rfl) (Or.inl (fun r h' e => by obtain ⟨rfl, rfl⟩ := e; rfl)) (fun r h' e => ?_)
        obtain ⟨rfl, rfl⟩ := e
        show qJ YX12_initial κ _ (qLy u, (q_row (q_row m 112 f) 113 g), y) 0 0 24 [some (qR 77), some (qI k), some (qI i), none, none] [qI (uN m i 0 (nW m)), qI i, qR 112]
        refine qJ.ast hκ rfl rfl rfl (by decide) (by omega) ?_
        refine qJ.mc (m1 := (q_up (q_row (q_row m 112 f) 113 g) 112 i.toNat (uN m i 0 (nW m)))) (m2 := (q_row (q_row m 112 (q_fu f i.toNat (uN m i 0 (nW m)))) 113 g)) (by rw [q_up_row_ne (a := 112) (b := 113) (by decide), q_up_row_eq]) ?_
        show qJ YX12_initial κ _ (qLy u, (q_row (q_row m 112 (q_fu f i.toNat (uN m i 0 (nW m)))) 113 g), y) 0 0 25 [some (qR 77), some (qI k), some (qI i), none, none] []
        refine qJ.run hκ 6 (pc' := 33) (ls' := [some (qR 77), some (qI k), some (qI i), none, none]) (st' := [qI 1, qI i, qR 77, qI i, qR 113]) rfl ?_
        refine qJ.callV (As := [qI i, qI 1]) (rest := [qI i, qR 113]) hκ rfl kX12_224 (m_useOf_o u m (q_row (q_row m 112 (q_fu f i.toNat (uN m i 0 (nW m)))) 113 g) y i 1 (Eq.trans (keep_row (by intro j; rfl)) (Eq.trans (keep_row (by intro j; rfl)) rfl)) hR (by omega) (by omega)) rfl rfl (by decide) rfl rfl (Nat.le_of_ble_eq_true rfl) (Nat.le_of_ble_eq_true rfl) (Nat.le_of_ble_eq_true rfl) (Or.inl (fun r h' e => by obtain ⟨rfl, rfl⟩ := e; rfl)) (fun r h' e => ?_)
        obtain ⟨rfl, rfl⟩ := e
        show qJ YX12_initial κ _ (qLy u, (q_row (q_row m 112 (q_fu f i.toNat (uN m i 0 (nW m)))) 113 g), y) 0 0 36 [some (qR 77), some (qI k), some (qI i), none, none] [qI (uN m i 1 (nW m)), qI i, qR 113]
        refine qJ.ast hκ rfl rfl rfl (by decide) (by omega) ?_
        refine qJ.mc (m1 := (q_up (q_row (q_row m 112 (q_fu f i.toNat (uN m i 0 (nW m)))) 113 g) 113 i.toNat (uN m i 1 (nW m)))) (m2 := (q_row (q_row m 112 (q_fu f i.toNat (uN m i 0 (nW m)))) 113 (q_fu g i.toNat (uN m i 1 (nW m))))) (by rw [q_up_row_eq]) ?_
        show qJ YX12_initial κ _ (qLy u, (q_row (q_row m 112 (q_fu f i.toNat (uN m i 0 (nW m)))) 113 (q_fu g i.toNat (uN m i 1 (nW m)))), y) 0 0 37 [some (qR 77), some (qI k), some (qI i), none, none] []
        refine qJ.run hκ 2 (pc' := 7) (ls' := [some (qR 77), some (qI k), some (qI (i + 1)), none, none]) (st' := []) rfl ?_
        exact qJ.cast (ih7  (q_fu f i.toNat (uN m i 0 (nW m))) (q_fu g i.toNat (uN m i 1 (nW m))) (i + 1) (by omega) (by omega) (fun k hk => by by_cases e : k = i.toNat; subst e; rw [q_fu_eq, q_fu_eq, uN_all (by omega), uN_fst hR (by omega) _ nWl]; exact ⟨rfl, rfl⟩; rw [q_fu_ne e, q_fu_ne e]; exact v7_2 k (by omega)) (by omega)) (rfl) rfl rfl
  refine qJ.run hκ 2 (pc' := 7) (ls' := [some (qR 77), some (qI k), some (qI 0), none, none]) (st' := []) rfl ?_
  exact qJ.cast (L7 21 (m 112) (m 113) 0 (by omega) (by omega) (fun k hk => by omega) (by omega)) (by rw [q_row_self, q_row_self]) rfl rfl
set_option maxRecDepth 100000 in
theorem w_initial (u : qU) (m y : qM) (k : Int) (hR : rC m) (h1 : qr k) : qCt YX12_initial 4 0 0 [qR 77, qI k] (qLy u, m, y) (fun r h => ∃ m', r = some (qI (ansIni (q_up m 77 0 0) k)) ∧ h = (qLy u, m', y) ∧ keep kObs m' = keep kObs (q_up m 77 0 0)) := by
  refine qCt.intro okX12_initial (Nat.le_of_ble_eq_true rfl) (fun κ hκ => ?_)
  show qJ YX12_initial κ _ (qLy u, m, y) 0 0 0 [some (qR 77), some (qI k), none, none, none] []
  refine qJ.run hκ 2 (pc' := 2) (ls' := [some (qR 77), some (qI k), none, none, none]) (st' := [qI 0, qR 77]) rfl ?_
  refine qJ.putI hκ rfl rfl rfl rfl (Or.inl rfl) ?_
  show qJ YX12_initial κ _ (qLy u, (q_up m 77 0 0), y) 0 0 5 [some (qR 77), some (qI k), none, none, none] []
  exact b_initial u (q_up m 77 0 0) y k (show rC (q_up m 77 0 0) from hR) h1 hκ
theorem m_initial (u : qU) (m y : qM) (k : Int) (hR : rC m) (h1 : qr k) : qCt YX12_initial 4 0 0 [qR 77, qI k] (qLy u, m, y) (fun r h => ∃ m', r = some (qI (ansIni m k)) ∧ h = (qLy u, m', y) ∧ keep kObs m' = keep kObs m) := by
  refine (w_initial u m y k hR h1).weak ?_
  rintro r h ⟨m', e1, e2, e3⟩
  exact ⟨m', by rw [e1, ansIni_o (keep_up (by rfl))], e2, e3.trans (keep_up (by rfl))⟩

theorem q_or_0 {x : Int} (h : qr x) : q_or x 0 = x := by
  unfold q_or
  rw [show Int32.ofInt 0 = 0 from rfl, Int32.or_zero]
  exact q_toInt h.1 h.2

set_option maxRecDepth 100000 in
theorem m_sitesOf (u : qU) (m y : qM) (s : Int) (hR : rC m) (h1 : 0 ≤ s ∧ s ≤ 19) : qCt YX12_sitesOf 3 0 0 [qR 77, qI s] (qLy u, m, y) (fun r h => r = some (qI (uSit m s.toNat (nW m))) ∧ h = (qLy u, m, y)) := by
  refine qCt.intro okX12_sitesOf (Nat.le_of_ble_eq_true rfl) (fun κ hκ => ?_)
  have hR2 := hR
  obtain ⟨⟨⟨a0, a1, a2⟩, ⟨a3, a4, a5⟩, ⟨b0, b1, b2⟩, b3, b4, b5⟩, hW, hRW, hT, hRT, hS⟩ := hR2
  have hV : qr (m 83 0) := by omega
  have zr := gHz_r hR.1
  have ze := hz_eq hR.1
  have nWl := nW_le hR.1
  have nTl := nT_le hR.1
  have sc : ((s.toNat : Nat) : Int) = s := by omega
  have L4 : ∀ (n : Nat) (c : Int) (w : Int), (0 ≤ w) → (w ≤ m 2 0) → ((w ≤ (nW m : Int) ∧ c = uSit m s.toNat w.toNat) ∨ ((nW m : Int) ≤ w ∧ c = uSit m s.toNat (nW m))) → ((m 2 0 - w).toNat) < n → qJ YX12_sitesOf κ (qFin (fun r h => r = some (qI (uSit m s.toNat (nW m))) ∧ h = (qLy u, m, y)) 0 0 κ) (qLy u, m, y) 0 0 4 [some (qR 77), some (qI s), some (qI c), some (qI w), none] [] := by
    intro n
    induction n with
    | zero => intro c w _ _ _ hz0; omega
    | succ n ih4 =>
      intro c w v4_0 v4_1 v4_2 v4_m
      have L17 : ∀ (n : Nat) (c : Int) (k : Int), (0 ≤ k) → (k ≤ m 4 w.toNat) → ((w < (nW m : Int) ∧ c = if uC m w s.toNat k.toNat = 0 then uSit m s.toNat w.toNat else q_or (uSit m s.toNat w.toNat) (q_shl 1 (m 6 w.toNat))) ∨ ((nW m : Int) ≤ w ∧ k = 0 ∧ c = uSit m s.toNat (nW m))) → (0 ≤ w) → (w < m 2 0) → ((m 4 w.toNat - k).toNat) < n → qJ YX12_sitesOf κ (qFin (fun r h => r = some (qI (uSit m s.toNat (nW m))) ∧ h = (qLy u, m, y)) 0 0 κ) (qLy u, m, y) 0 0 17 [some (qR 77), some (qI s), some (qI c), some (qI w), some (qI k)] [] := by
        intro n
        induction n with
        | zero => intro c k _ _ _ _ _ hz0; omega
        | succ n ih17 =>
          intro c k v17_0 v17_1 v17_2 v17_3 v17_4 v17_m
          have w1 := hW w (by omega) (by omega)
          have w2 := (hRW w (by omega) (by omega)).1.1
          refine qJ.run hκ 4 (pc' := 24) (ls' := [some (qR 77), some (qI s), some (qI c), some (qI w), some (qI k)]) (st' := [qI w, qR 88, qI k]) rfl ?_
          refine qJ.ald hκ rfl rfl rfl (by decide) (by omega) ?_
          show qJ YX12_sitesOf κ _ (qLy u, m, y) 0 0 25 [some (qR 77), some (qI s), some (qI c), some (qI w), some (qI k)] [qI (m 88 w.toNat), qI k]
          refine qJ.icmp_ge hκ (tgt := 72) rfl rfl (by omega) (by omega) (fun c25 => ?_) (fun c25 => ?_)
          · show qJ YX12_sitesOf κ _ (qLy u, m, y) 0 0 72 [some (qR 77), some (qI s), some (qI c), some (qI w), some (qI k)] []
            refine qJ.run hκ 2 (pc' := 4) (ls' := [some (qR 77), some (qI s), some (qI c), some (qI (w + 1)), some (qI k)]) (st' := []) rfl ?_
            refine qJ.dl [true, true, true, true, false] ?_
            show qJ YX12_sitesOf κ _ (qLy u, m, y) 0 0 4 [some (qR 77), some (qI s), some (qI c), some (qI (w + 1)), none] []
            exact ih4  c (w + 1) (by omega) (by omega) (by rcases v17_2 with z | z; (refine Or.inl ⟨by omega, ?_⟩; rw [show (w + 1).toNat = w.toNat + 1 by omega]; unfold uSit; rw [q_tn v17_3, ← show k.toNat = (m 4 w.toNat).toNat by omega]; exact z.2); (exfalso; omega)) (by omega)
          · show qJ YX12_sitesOf κ _ (qLy u, m, y) 0 0 28 [some (qR 77), some (qI s), some (qI c), some (qI w), some (qI k)] []
            refine qJ.run hκ 2 (pc' := 30) (ls' := [some (qR 77), some (qI s), some (qI c), some (qI w), some (qI k)]) (st' := [qI w, qR 77]) rfl ?_
            refine qJ.callV (As := [qI w]) (rest := []) hκ rfl kX12_221 (m_there u m y w hR (by omega)) rfl rfl (by decide) rfl rfl (Nat.le_of_ble_eq_true rfl) (Nat.le_of_ble_eq_true rfl) (Nat.le_of_ble_eq_true rfl) (Or.inl (fun r h' e => by obtain ⟨z30, rfl, hz30, rfl⟩ := e; rfl)) (fun r h' e => ?_)
            obtain ⟨z30, rfl, hz30, rfl⟩ := e
            show qJ YX12_sitesOf κ _ (qLy u, m, y) 0 0 33 [some (qR 77), some (qI s), some (qI c), some (qI w), some (qI k)] [qI z30]
            refine qJ.if_eq hκ (tgt := 72) rfl rfl (by omega) (fun c33 => ?_) (fun c33 => ?_)
            · show qJ YX12_sitesOf κ _ (qLy u, m, y) 0 0 72 [some (qR 77), some (qI s), some (qI c), some (qI w), some (qI k)] []
              refine qJ.run hκ 2 (pc' := 4) (ls' := [some (qR 77), some (qI s), some (qI c), some (qI (w + 1)), some (qI k)]) (st' := []) rfl ?_
              refine qJ.dl [true, true, true, true, false] ?_
              show qJ YX12_sitesOf κ _ (qLy u, m, y) 0 0 4 [some (qR 77), some (qI s), some (qI c), some (qI (w + 1)), none] []
              exact ih4  c (w + 1) (by omega) (by omega) (by rcases v17_2 with z | z; (exfalso; omega); exact Or.inr ⟨by omega, z.2.2⟩) (by omega)
            · show qJ YX12_sitesOf κ _ (qLy u, m, y) 0 0 36 [some (qR 77), some (qI s), some (qI c), some (qI w), some (qI k)] []
              have w3 := (hRW w (by omega) (by omega)).2.2 k (by omega) (by omega)
              have w4 := (w1.2.2 k (by omega) (by omega)).1
              have w5 := (hRW w (by omega) (by omega)).1.2.1
              have w6 := (hRW w (by omega) (by omega)).2.1.1
              have w7 := (uSit_r (s := s.toNat) hR w.toNat (by omega)).1
              have w8 := q_or16i w7 w6
              refine qJ.run hκ 8 (pc' := 47) (ls' := [some (qR 77), some (qI s), some (qI c), some (qI w), some (qI k)]) (st' := [qI ((5 * w) + k), qR 87, qI c]) rfl ?_
              refine qJ.ald hκ rfl rfl rfl (by decide) (by omega) ?_
              show qJ YX12_sitesOf κ _ (qLy u, m, y) 0 0 48 [some (qR 77), some (qI s), some (qI c), some (qI w), some (qI k)] [qI (m 87 (((5 * w) + k).toNat)), qI c]
              refine qJ.run hκ 1 (pc' := 49) (ls' := [some (qR 77), some (qI s), some (qI c), some (qI w), some (qI k)]) (st' := [qI s, qI (m 87 (((5 * w) + k).toNat)), qI c]) rfl ?_
              refine qJ.icmp_ne hκ (tgt := 63) rfl rfl (by omega) (by omega) (fun c49 => ?_) (fun c49 => ?_)
              · show qJ YX12_sitesOf κ _ (qLy u, m, y) 0 0 63 [some (qR 77), some (qI s), some (qI c), some (qI w), some (qI k)] [qI c]
                refine qJ.run hκ 5 (pc' := 17) (ls' := [some (qR 77), some (qI s), some (qI (q_or c 0)), some (qI w), some (qI (k + 1))]) (st' := []) rfl ?_
                exact ih17  (q_or c 0) (k + 1) (by omega) (by omega) (by rcases v17_2 with z | z; (refine Or.inl ⟨z.1, ?_⟩; rw [q_or_0 (by rw [z.2]; split <;> omega), show uC m w s.toNat (k + 1).toNat = uC m w s.toNat k.toNat by rw [uC_s v17_0, if_neg (by rw [sc, ← w3]; exact c49)]; rfl]; exact z.2); (exfalso; omega)) (by omega) (by omega) (by omega)
              · show qJ YX12_sitesOf κ _ (qLy u, m, y) 0 0 52 [some (qR 77), some (qI s), some (qI c), some (qI w), some (qI k)] [qI c]
                refine qJ.run hκ 4 (pc' := 58) (ls' := [some (qR 77), some (qI s), some (qI c), some (qI w), some (qI k)]) (st' := [qI w, qR 89, qI 1, qI c]) rfl ?_
                refine qJ.ald hκ rfl rfl rfl (by decide) (by omega) ?_
                show qJ YX12_sitesOf κ _ (qLy u, m, y) 0 0 59 [some (qR 77), some (qI s), some (qI c), some (qI w), some (qI k)] [qI (m 89 w.toNat), qI 1, qI c]
                refine qJ.run hκ 6 (pc' := 17) (ls' := [some (qR 77), some (qI s), some (qI (q_or c (q_shl 1 (m 89 w.toNat)))), some (qI w), some (qI (k + 1))]) (st' := []) rfl ?_
                exact ih17  (q_or c (q_shl 1 (m 89 w.toNat))) (k + 1) (by omega) (by omega) (by rcases v17_2 with z | z; (refine Or.inl ⟨z.1, ?_⟩; rw [show uC m w s.toNat (k + 1).toNat = uC m w s.toNat k.toNat + 1 by rw [uC_s v17_0, if_pos (by rw [sc, ← w3]; exact c49)], if_neg (by omega), z.2, w5]; by_cases q : uC m w s.toNat k.toNat = 0; rw [if_pos q]; rw [if_neg q, q_or_idem]); (exfalso; omega)) (by omega) (by omega) (by omega)
      refine qJ.run hκ 4 (pc' := 10) (ls' := [some (qR 77), some (qI s), some (qI c), some (qI w), none]) (st' := [qI 0, qR 85, qI w]) rfl ?_
      refine qJ.ald hκ rfl rfl rfl (by decide) (by omega) ?_
      show qJ YX12_sitesOf κ _ (qLy u, m, y) 0 0 11 [some (qR 77), some (qI s), some (qI c), some (qI w), none] [qI (m 85 0), qI w]
      refine qJ.icmp_ge hκ (tgt := 78) rfl rfl (by omega) (by omega) (fun c11 => ?_) (fun c11 => ?_)
      · show qJ YX12_sitesOf κ _ (qLy u, m, y) 0 0 78 [some (qR 77), some (qI s), some (qI c), some (qI w), none] []
        refine qJ.run hκ 1 (pc' := 79) (ls' := [some (qR 77), some (qI s), some (qI c), some (qI w), none]) (st' := [qI c]) rfl ?_
        exact qJ.iret hκ rfl rfl (by decide) (by decide) (⟨by congr 2; rcases v4_2 with z | z; (rw [z.2, show w.toNat = nW m by omega]); exact z.2, rfl⟩)
      · show qJ YX12_sitesOf κ _ (qLy u, m, y) 0 0 14 [some (qR 77), some (qI s), some (qI c), some (qI w), none] []
        have w1 := hW w (by omega) (by omega)
        have w2 := (hRW w (by omega) (by omega)).1.1
        refine qJ.run hκ 2 (pc' := 17) (ls' := [some (qR 77), some (qI s), some (qI c), some (qI w), some (qI 0)]) (st' := []) rfl ?_
        exact L17 7 c 0 (by omega) (by omega) (by rcases v4_2 with z | z; (by_cases q : w < (nW m : Int); exact Or.inl ⟨q, by rw [if_pos (show uC m w s.toNat (Int.toNat 0) = 0 from rfl)]; exact z.2⟩; exact Or.inr ⟨by omega, rfl, by rw [z.2, show w.toNat = nW m by omega]⟩); exact Or.inr ⟨z.1, rfl, z.2⟩) (by omega) (by omega) (by omega)
  show qJ YX12_sitesOf κ _ (qLy u, m, y) 0 0 0 [some (qR 77), some (qI s), none, none, none] []
  refine qJ.run hκ 4 (pc' := 4) (ls' := [some (qR 77), some (qI s), some (qI 0), some (qI 0), none]) (st' := []) rfl ?_
  exact L4 62 0 0 (by omega) (by omega) (Or.inl ⟨by omega, rfl⟩) (by omega)

set_option maxRecDepth 100000 in
theorem b_one (u : qU) (m y : qM) (a b : Int) (hR : rC m) (h1 : qr a) (h2 : qr b) {κ : qK} (hκ : qCx YX12_one 4 0 0 κ) : qJ YX12_one κ (qFin (fun r h => ∃ m', r = some (qI (ansOne m a b)) ∧ h = (qLy u, m', y) ∧ keep kObs m' = keep kObs m) 0 0 κ) (qLy u, m, y) 0 0 5 [some (qR 77), some (qI a), some (qI b)] [] := by
  have hR2 := hR
  obtain ⟨⟨⟨a0, a1, a2⟩, ⟨a3, a4, a5⟩, ⟨b0, b1, b2⟩, b3, b4, b5⟩, hW, hRW, hT, hRT, hS⟩ := hR2
  have hV : qr (m 83 0) := by omega
  have zr := gHz_r hR.1
  have ze := hz_eq hR.1
  have nWl := nW_le hR.1
  have nTl := nT_le hR.1
  have ua := uSit_r (s := a.toNat) hR (nW m) nWl
  have ub := uSit_r (s := b.toNat) hR (nW m) nWl
  have va := uAll_r (s := a.toNat) hR (nW m) nWl
  have vb := uAll_r (s := b.toNat) hR (nW m) nWl
  have aq := q_and_r (uSit m a.toNat (nW m)) (uSit m b.toNat (nW m))
  refine qJ.run hκ 3 (pc' := 8) (ls' := [some (qR 77), some (qI a), some (qI b)]) (st' := [qI b, qI a, qR 77]) rfl ?_
  refine qJ.callV (As := [qI a, qI b]) (rest := []) hκ rfl kX12_230 (c_mAreTwo u m y a b (by omega) (by omega)) rfl rfl (by decide) rfl rfl (Nat.le_of_ble_eq_true rfl) (Nat.le_of_ble_eq_true rfl) (Nat.le_of_ble_eq_true rfl) (Or.inl (fun r h' e => by obtain ⟨z8, rfl, hz8, rfl⟩ := e; rfl)) (fun r h' e => ?_)
  obtain ⟨z8, rfl, hz8, rfl⟩ := e
  show qJ YX12_one κ _ (qLy u, m, y) 0 0 11 [some (qR 77), some (qI a), some (qI b)] [qI z8]
  refine qJ.if_eq hκ (tgt := 44) rfl rfl (by omega) (fun c11 => ?_) (fun c11 => ?_)
  · show qJ YX12_one κ _ (qLy u, m, y) 0 0 44 [some (qR 77), some (qI a), some (qI b)] []
    refine qJ.run hκ 1 (pc' := 45) (ls' := [some (qR 77), some (qI a), some (qI b)]) (st' := [qI 0]) rfl ?_
    exact qJ.bret hκ rfl rfl (by omega) (by decide) (by decide) (⟨m, by unfold ansOne; rw [if_neg (fun z => by obtain ⟨z1, z2, z3⟩ := z; omega)], rfl, rfl⟩)
  · show qJ YX12_one κ _ (qLy u, m, y) 0 0 14 [some (qR 77), some (qI a), some (qI b)] []
    refine qJ.run hκ 2 (pc' := 16) (ls' := [some (qR 77), some (qI a), some (qI b)]) (st' := [qI a, qR 77]) rfl ?_
    refine qJ.callV (As := [qI a]) (rest := []) hκ rfl kX12_233 (m_sitesOf u m y a hR (by omega)) rfl rfl (by decide) rfl rfl (Nat.le_of_ble_eq_true rfl) (Nat.le_of_ble_eq_true rfl) (Nat.le_of_ble_eq_true rfl) (Or.inl (fun r h' e => by obtain ⟨rfl, rfl⟩ := e; rfl)) (fun r h' e => ?_)
    obtain ⟨rfl, rfl⟩ := e
    show qJ YX12_one κ _ (qLy u, m, y) 0 0 19 [some (qR 77), some (qI a), some (qI b)] [qI (uSit m a.toNat (nW m))]
    refine qJ.if_eq hκ (tgt := 44) rfl rfl (by omega) (fun c19 => ?_) (fun c19 => ?_)
    · show qJ YX12_one κ _ (qLy u, m, y) 0 0 44 [some (qR 77), some (qI a), some (qI b)] []
      refine qJ.run hκ 1 (pc' := 45) (ls' := [some (qR 77), some (qI a), some (qI b)]) (st' := [qI 0]) rfl ?_
      exact qJ.bret hκ rfl rfl (by omega) (by decide) (by decide) (⟨m, by unfold ansOne; rw [if_neg (fun z => by obtain ⟨z1, z2, z3⟩ := z; omega)], rfl, rfl⟩)
    · show qJ YX12_one κ _ (qLy u, m, y) 0 0 22 [some (qR 77), some (qI a), some (qI b)] []
      refine qJ.run hκ 2 (pc' := 24) (ls' := [some (qR 77), some (qI a), some (qI b)]) (st' := [qI b, qR 77]) rfl ?_
      refine qJ.callV (As := [qI b]) (rest := []) hκ rfl kX12_233 (m_sitesOf u m y b hR (by omega)) rfl rfl (by decide) rfl rfl (Nat.le_of_ble_eq_true rfl) (Nat.le_of_ble_eq_true rfl) (Nat.le_of_ble_eq_true rfl) (Or.inl (fun r h' e => by obtain ⟨rfl, rfl⟩ := e; rfl)) (fun r h' e => ?_)
      obtain ⟨rfl, rfl⟩ := e
      show qJ YX12_one κ _ (qLy u, m, y) 0 0 27 [some (qR 77), some (qI a), some (qI b)] [qI (uSit m b.toNat (nW m))]
      refine qJ.if_eq hκ (tgt := 44) rfl rfl (by omega) (fun c27 => ?_) (fun c27 => ?_)
      · show qJ YX12_one κ _ (qLy u, m, y) 0 0 44 [some (qR 77), some (qI a), some (qI b)] []
        refine qJ.run hκ 1 (pc' := 45) (ls' := [some (qR 77), some (qI a), some (qI b)]) (st' := [qI 0]) rfl ?_
        exact qJ.bret hκ rfl rfl (by omega) (by decide) (by decide) (⟨m, by unfold ansOne; rw [if_neg (fun z => by obtain ⟨z1, z2, z3⟩ := z; omega)], rfl, rfl⟩)
      · show qJ YX12_one κ _ (qLy u, m, y) 0 0 30 [some (qR 77), some (qI a), some (qI b)] []
        refine qJ.run hκ 2 (pc' := 32) (ls' := [some (qR 77), some (qI a), some (qI b)]) (st' := [qI a, qR 77]) rfl ?_
        refine qJ.callV (As := [qI a]) (rest := []) hκ rfl kX12_233 (m_sitesOf u m y a hR (by omega)) rfl rfl (by decide) rfl rfl (Nat.le_of_ble_eq_true rfl) (Nat.le_of_ble_eq_true rfl) (Nat.le_of_ble_eq_true rfl) (Or.inl (fun r h' e => by obtain ⟨rfl, rfl⟩ := e; rfl)) (fun r h' e => ?_)
        obtain ⟨rfl, rfl⟩ := e
        show qJ YX12_one κ _ (qLy u, m, y) 0 0 35 [some (qR 77), some (qI a), some (qI b)] [qI (uSit m a.toNat (nW m))]
        refine qJ.run hκ 2 (pc' := 37) (ls' := [some (qR 77), some (qI a), some (qI b)]) (st' := [qI b, qR 77, qI (uSit m a.toNat (nW m))]) rfl ?_
        refine qJ.callV (As := [qI b]) (rest := [qI (uSit m a.toNat (nW m))]) hκ rfl kX12_233 (m_sitesOf u m y b hR (by omega)) rfl rfl (by decide) rfl rfl (Nat.le_of_ble_eq_true rfl) (Nat.le_of_ble_eq_true rfl) (Nat.le_of_ble_eq_true rfl) (Or.inl (fun r h' e => by obtain ⟨rfl, rfl⟩ := e; rfl)) (fun r h' e => ?_)
        obtain ⟨rfl, rfl⟩ := e
        show qJ YX12_one κ _ (qLy u, m, y) 0 0 40 [some (qR 77), some (qI a), some (qI b)] [qI (uSit m b.toNat (nW m)), qI (uSit m a.toNat (nW m))]
        refine qJ.run hκ 1 (pc' := 41) (ls' := [some (qR 77), some (qI a), some (qI b)]) (st' := [qI (q_and (uSit m a.toNat (nW m)) (uSit m b.toNat (nW m)))]) rfl ?_
        refine qJ.if_eq hκ (tgt := 46) rfl rfl (by omega) (fun c41 => ?_) (fun c41 => ?_)
        · show qJ YX12_one κ _ (qLy u, m, y) 0 0 46 [some (qR 77), some (qI a), some (qI b)] []
          refine qJ.run hκ 3 (pc' := 49) (ls' := [some (qR 77), some (qI a), some (qI b)]) (st' := [qI b, qI a, qR 77]) rfl ?_
          refine qJ.icmp_ge hκ (tgt := 56) rfl rfl (by omega) (by omega) (fun c49 => ?_) (fun c49 => ?_)
          · show qJ YX12_one κ _ (qLy u, m, y) 0 0 56 [some (qR 77), some (qI a), some (qI b)] [qR 77]
            have mxa : max a b = a := by omega
            have mna : min a b = b := by omega
            refine qJ.run hκ 1 (pc' := 57) (ls' := [some (qR 77), some (qI a), some (qI b)]) (st' := [qI a, qR 77]) rfl ?_
            refine qJ.putI hκ rfl rfl rfl rfl (Or.inl rfl) ?_
            show qJ YX12_one κ _ (qLy u, (q_up m 77 35 a), y) 0 0 60 [some (qR 77), some (qI a), some (qI b)] []
            refine qJ.run hκ 3 (pc' := 63) (ls' := [some (qR 77), some (qI a), some (qI b)]) (st' := [qI b, qI a, qR 77]) rfl ?_
            refine qJ.icmp_ge hκ (tgt := 70) rfl rfl (by omega) (by omega) (fun c63 => ?_) (fun c63 => ?_)
            · show qJ YX12_one κ _ (qLy u, (q_up m 77 35 a), y) 0 0 70 [some (qR 77), some (qI a), some (qI b)] [qR 77]
              refine qJ.run hκ 1 (pc' := 71) (ls' := [some (qR 77), some (qI a), some (qI b)]) (st' := [qI b, qR 77]) rfl ?_
              refine qJ.putI hκ rfl rfl rfl rfl (Or.inl rfl) ?_
              show qJ YX12_one κ _ (qLy u, (q_up (q_up m 77 35 a) 77 36 b), y) 0 0 74 [some (qR 77), some (qI a), some (qI b)] []
              refine qJ.run hκ 2 (pc' := 76) (ls' := [some (qR 77), some (qI a), some (qI b)]) (st' := [qR 77, qR 77]) rfl ?_
              refine qJ.callV (As := []) (rest := [qR 77]) hκ rfl kX12_183 (c_latest u (q_up (q_up m 77 35 a) 77 36 b) y (show rC (q_up (q_up m 77 35 a) 77 36 b) from hR)) rfl rfl (by decide) rfl rfl (Nat.le_of_ble_eq_true rfl) (Nat.le_of_ble_eq_true rfl) (Nat.le_of_ble_eq_true rfl) (Or.inl (fun r h' e => by obtain ⟨rfl, rfl⟩ := e; rfl)) (fun r h' e => ?_)
              obtain ⟨rfl, rfl⟩ := e
              show qJ YX12_one κ _ (qLy u, (q_up (q_up m 77 35 a) 77 36 b), y) 0 0 79 [some (qR 77), some (qI a), some (qI b)] [qI ((nT m : Int) - 1), qR 77]
              refine qJ.callV (As := [qI ((nT m : Int) - 1)]) (rest := []) hκ rfl kX12_211 (c_findGrid u (q_up (q_up m 77 35 a) 77 36 b) y (min a b) (max a b) (nT m) ((nT m : Int) - 1) (show rC (q_up (q_up m 77 35 a) 77 36 b) from hR) ⟨by show _ = _; rw [mxa]; rfl, by show _ = _; rw [mna]; rfl⟩ (Or.inr ⟨by show 0 ≤ min a b ∧ min a b < 20; omega, by show 0 ≤ max a b ∧ max a b < 20; omega⟩) ⟨by omega, nTl⟩) rfl rfl (by decide) rfl rfl (Nat.le_of_ble_eq_true rfl) (Nat.le_of_ble_eq_true rfl) (Nat.le_of_ble_eq_true rfl) (Or.inl (fun r h' e => by obtain ⟨rfl, a1, b1, f, c, rfl, hgd⟩ := e; rfl)) (fun r h' e => ?_)
              obtain ⟨rfl, a1, b1, f, c, rfl, hgd⟩ := e
              show qJ YX12_one κ _ (qLy u, (q_row (q_row (q_row (q_row (q_up (q_up m 77 35 a) 77 36 b) 108 a1) 109 b1) 110 f) 111 c), y) 0 0 82 [some (qR 77), some (qI a), some (qI b)] []
              have hbk : brk f c ↔ brk (gF m (min a b) (max a b) (nT m)) (gK m (min a b) (max a b) (nT m)) := by have hcan2 := gdI_o (m := m) (by exact Eq.trans (keep_up (by rfl)) (Eq.trans (keep_up (by rfl)) rfl)) hgd; exact brk_ag hcan2.2.2.1 hcan2.2.2.2
              have bb := q_ite01 (brk f c)
              refine qJ.run hκ 1 (pc' := 83) (ls' := [some (qR 77), some (qI a), some (qI b)]) (st' := [qR 77]) rfl ?_
              refine qJ.callV (As := []) (rest := []) hκ rfl kX12_217 (m_isBroken u (q_row (q_row (q_row (q_row (q_up (q_up m 77 35 a) 77 36 b) 108 a1) 109 b1) 110 f) 111 c) y hgd.1 hgd.2.1) rfl rfl (by decide) rfl rfl (Nat.le_of_ble_eq_true rfl) (Nat.le_of_ble_eq_true rfl) (Nat.le_of_ble_eq_true rfl) (Or.inl (fun r h' e => by obtain ⟨rfl, rfl⟩ := e; rfl)) (fun r h' e => ?_)
              obtain ⟨rfl, rfl⟩ := e
              show qJ YX12_one κ _ (qLy u, (q_row (q_row (q_row (q_row (q_up (q_up m 77 35 a) 77 36 b) 108 a1) 109 b1) 110 f) 111 c), y) 0 0 86 [some (qR 77), some (qI a), some (qI b)] [qI (if brk f c then 1 else 0)]
              refine qJ.if_ne hκ (tgt := 93) rfl rfl (by omega) (fun c86 => ?_) (fun c86 => ?_)
              · show qJ YX12_one κ _ (qLy u, (q_row (q_row (q_row (q_row (q_up (q_up m 77 35 a) 77 36 b) 108 a1) 109 b1) 110 f) 111 c), y) 0 0 93 [some (qR 77), some (qI a), some (qI b)] []
                refine qJ.run hκ 1 (pc' := 94) (ls' := [some (qR 77), some (qI a), some (qI b)]) (st' := [qI 0]) rfl ?_
                exact qJ.bret hκ rfl rfl (by omega) (by decide) (by decide) (⟨_, by unfold ansOne; rw [if_neg (fun z => c86 (by rw [if_neg (fun q => z.2.2 (hbk.mp q))]))], rfl, (Eq.trans (keep_row (by intro j; rfl)) (Eq.trans (keep_row (by intro j; rfl)) (Eq.trans (keep_row (by intro j; rfl)) (Eq.trans (keep_row (by intro j; rfl)) (Eq.trans (keep_up (by rfl)) (Eq.trans (keep_up (by rfl)) rfl))))))⟩)
              · show qJ YX12_one κ _ (qLy u, (q_row (q_row (q_row (q_row (q_up (q_up m 77 35 a) 77 36 b) 108 a1) 109 b1) 110 f) 111 c), y) 0 0 89 [some (qR 77), some (qI a), some (qI b)] []
                refine qJ.run hκ 2 (pc' := 94) (ls' := [some (qR 77), some (qI a), some (qI b)]) (st' := [qI 1]) rfl ?_
                exact qJ.bret hκ rfl rfl (by omega) (by decide) (by decide) (⟨_, by unfold ansOne; rw [if_pos ⟨⟨by omega, by omega, by omega⟩, ⟨by omega, by omega, by omega⟩, fun z => by rw [if_pos (hbk.mpr z)] at c86; exact absurd c86 (by decide)⟩], rfl, (Eq.trans (keep_row (by intro j; rfl)) (Eq.trans (keep_row (by intro j; rfl)) (Eq.trans (keep_row (by intro j; rfl)) (Eq.trans (keep_row (by intro j; rfl)) (Eq.trans (keep_up (by rfl)) (Eq.trans (keep_up (by rfl)) rfl))))))⟩)
            · show qJ YX12_one κ _ (qLy u, (q_up m 77 35 a), y) 0 0 66 [some (qR 77), some (qI a), some (qI b)] [qR 77]
              exfalso; omega
          · show qJ YX12_one κ _ (qLy u, m, y) 0 0 52 [some (qR 77), some (qI a), some (qI b)] [qR 77]
            have mxa : max a b = b := by omega
            have mna : min a b = a := by omega
            refine qJ.run hκ 2 (pc' := 57) (ls' := [some (qR 77), some (qI a), some (qI b)]) (st' := [qI b, qR 77]) rfl ?_
            refine qJ.putI hκ rfl rfl rfl rfl (Or.inl rfl) ?_
            show qJ YX12_one κ _ (qLy u, (q_up m 77 35 b), y) 0 0 60 [some (qR 77), some (qI a), some (qI b)] []
            refine qJ.run hκ 3 (pc' := 63) (ls' := [some (qR 77), some (qI a), some (qI b)]) (st' := [qI b, qI a, qR 77]) rfl ?_
            refine qJ.icmp_ge hκ (tgt := 70) rfl rfl (by omega) (by omega) (fun c63 => ?_) (fun c63 => ?_)
            · show qJ YX12_one κ _ (qLy u, (q_up m 77 35 b), y) 0 0 70 [some (qR 77), some (qI a), some (qI b)] [qR 77]
              exfalso; omega
            · show qJ YX12_one κ _ (qLy u, (q_up m 77 35 b), y) 0 0 66 [some (qR 77), some (qI a), some (qI b)] [qR 77]
              refine qJ.run hκ 2 (pc' := 71) (ls' := [some (qR 77), some (qI a), some (qI b)]) (st' := [qI a, qR 77]) rfl ?_
              refine qJ.putI hκ rfl rfl rfl rfl (Or.inl rfl) ?_
              show qJ YX12_one κ _ (qLy u, (q_up (q_up m 77 35 b) 77 36 a), y) 0 0 74 [some (qR 77), some (qI a), some (qI b)] []
              refine qJ.run hκ 2 (pc' := 76) (ls' := [some (qR 77), some (qI a), some (qI b)]) (st' := [qR 77, qR 77]) rfl ?_
              refine qJ.callV (As := []) (rest := [qR 77]) hκ rfl kX12_183 (c_latest u (q_up (q_up m 77 35 b) 77 36 a) y (show rC (q_up (q_up m 77 35 b) 77 36 a) from hR)) rfl rfl (by decide) rfl rfl (Nat.le_of_ble_eq_true rfl) (Nat.le_of_ble_eq_true rfl) (Nat.le_of_ble_eq_true rfl) (Or.inl (fun r h' e => by obtain ⟨rfl, rfl⟩ := e; rfl)) (fun r h' e => ?_)
              obtain ⟨rfl, rfl⟩ := e
              show qJ YX12_one κ _ (qLy u, (q_up (q_up m 77 35 b) 77 36 a), y) 0 0 79 [some (qR 77), some (qI a), some (qI b)] [qI ((nT m : Int) - 1), qR 77]
              refine qJ.callV (As := [qI ((nT m : Int) - 1)]) (rest := []) hκ rfl kX12_211 (c_findGrid u (q_up (q_up m 77 35 b) 77 36 a) y (min a b) (max a b) (nT m) ((nT m : Int) - 1) (show rC (q_up (q_up m 77 35 b) 77 36 a) from hR) ⟨by show _ = _; rw [mxa]; rfl, by show _ = _; rw [mna]; rfl⟩ (Or.inr ⟨by show 0 ≤ min a b ∧ min a b < 20; omega, by show 0 ≤ max a b ∧ max a b < 20; omega⟩) ⟨by omega, nTl⟩) rfl rfl (by decide) rfl rfl (Nat.le_of_ble_eq_true rfl) (Nat.le_of_ble_eq_true rfl) (Nat.le_of_ble_eq_true rfl) (Or.inl (fun r h' e => by obtain ⟨rfl, a1, b1, f, c, rfl, hgd⟩ := e; rfl)) (fun r h' e => ?_)
              obtain ⟨rfl, a1, b1, f, c, rfl, hgd⟩ := e
              show qJ YX12_one κ _ (qLy u, (q_row (q_row (q_row (q_row (q_up (q_up m 77 35 b) 77 36 a) 108 a1) 109 b1) 110 f) 111 c), y) 0 0 82 [some (qR 77), some (qI a), some (qI b)] []
              have hbk : brk f c ↔ brk (gF m (min a b) (max a b) (nT m)) (gK m (min a b) (max a b) (nT m)) := by have hcan2 := gdI_o (m := m) (by exact Eq.trans (keep_up (by rfl)) (Eq.trans (keep_up (by rfl)) rfl)) hgd; exact brk_ag hcan2.2.2.1 hcan2.2.2.2
              have bb := q_ite01 (brk f c)
              refine qJ.run hκ 1 (pc' := 83) (ls' := [some (qR 77), some (qI a), some (qI b)]) (st' := [qR 77]) rfl ?_
              refine qJ.callV (As := []) (rest := []) hκ rfl kX12_217 (m_isBroken u (q_row (q_row (q_row (q_row (q_up (q_up m 77 35 b) 77 36 a) 108 a1) 109 b1) 110 f) 111 c) y hgd.1 hgd.2.1) rfl rfl (by decide) rfl rfl (Nat.le_of_ble_eq_true rfl) (Nat.le_of_ble_eq_true rfl) (Nat.le_of_ble_eq_true rfl) (Or.inl (fun r h' e => by obtain ⟨rfl, rfl⟩ := e; rfl)) (fun r h' e => ?_)
              obtain ⟨rfl, rfl⟩ := e
              show qJ YX12_one κ _ (qLy u, (q_row (q_row (q_row (q_row (q_up (q_up m 77 35 b) 77 36 a) 108 a1) 109 b1) 110 f) 111 c), y) 0 0 86 [some (qR 77), some (qI a), some (qI b)] [qI (if brk f c then 1 else 0)]
              refine qJ.if_ne hκ (tgt := 93) rfl rfl (by omega) (fun c86 => ?_) (fun c86 => ?_)
              · show qJ YX12_one κ _ (qLy u, (q_row (q_row (q_row (q_row (q_up (q_up m 77 35 b) 77 36 a) 108 a1) 109 b1) 110 f) 111 c), y) 0 0 93 [some (qR 77), some (qI a), some (qI b)] []
                refine qJ.run hκ 1 (pc' := 94) (ls' := [some (qR 77), some (qI a), some (qI b)]) (st' := [qI 0]) rfl ?_
                exact qJ.bret hκ rfl rfl (by omega) (by decide) (by decide) (⟨_, by unfold ansOne; rw [if_neg (fun z => c86 (by rw [if_neg (fun q => z.2.2 (hbk.mp q))]))], rfl, (Eq.trans (keep_row (by intro j; rfl)) (Eq.trans (keep_row (by intro j; rfl)) (Eq.trans (keep_row (by intro j; rfl)) (Eq.trans (keep_row (by intro j; rfl)) (Eq.trans (keep_up (by rfl)) (Eq.trans (keep_up (by rfl)) rfl))))))⟩)
              · show qJ YX12_one κ _ (qLy u, (q_row (q_row (q_row (q_row (q_up (q_up m 77 35 b) 77 36 a) 108 a1) 109 b1) 110 f) 111 c), y) 0 0 89 [some (qR 77), some (qI a), some (qI b)] []
                refine qJ.run hκ 2 (pc' := 94) (ls' := [some (qR 77), some (qI a), some (qI b)]) (st' := [qI 1]) rfl ?_
                exact qJ.bret hκ rfl rfl (by omega) (by decide) (by decide) (⟨_, by unfold ansOne; rw [if_pos ⟨⟨by omega, by omega, by omega⟩, ⟨by omega, by omega, by omega⟩, fun z => by rw [if_pos (hbk.mpr z)] at c86; exact absurd c86 (by decide)⟩], rfl, (Eq.trans (keep_row (by intro j; rfl)) (Eq.trans (keep_row (by intro j; rfl)) (Eq.trans (keep_row (by intro j; rfl)) (Eq.trans (keep_row (by intro j; rfl)) (Eq.trans (keep_up (by rfl)) (Eq.trans (keep_up (by rfl)) rfl))))))⟩)
        · show qJ YX12_one κ _ (qLy u, m, y) 0 0 44 [some (qR 77), some (qI a), some (qI b)] []
          refine qJ.run hκ 1 (pc' := 45) (ls' := [some (qR 77), some (qI a), some (qI b)]) (st' := [qI 0]) rfl ?_
          exact qJ.bret hκ rfl rfl (by omega) (by decide) (by decide) (⟨m, by unfold ansOne; rw [if_neg (fun z => by obtain ⟨z1, z2, z3⟩ := z; omega)], rfl, rfl⟩)
set_option maxRecDepth 100000 in
theorem w_one (u : qU) (m y : qM) (a b : Int) (hR : rC m) (h1 : qr a) (h2 : qr b) : qCt YX12_one 4 0 0 [qR 77, qI a, qI b] (qLy u, m, y) (fun r h => ∃ m', r = some (qI (ansOne (q_up m 77 0 0) a b)) ∧ h = (qLy u, m', y) ∧ keep kObs m' = keep kObs (q_up m 77 0 0)) := by
  refine qCt.intro okX12_one (Nat.le_of_ble_eq_true rfl) (fun κ hκ => ?_)
  show qJ YX12_one κ _ (qLy u, m, y) 0 0 0 [some (qR 77), some (qI a), some (qI b)] []
  refine qJ.run hκ 2 (pc' := 2) (ls' := [some (qR 77), some (qI a), some (qI b)]) (st' := [qI 0, qR 77]) rfl ?_
  refine qJ.putI hκ rfl rfl rfl rfl (Or.inl rfl) ?_
  show qJ YX12_one κ _ (qLy u, (q_up m 77 0 0), y) 0 0 5 [some (qR 77), some (qI a), some (qI b)] []
  exact b_one u (q_up m 77 0 0) y a b (show rC (q_up m 77 0 0) from hR) h1 h2 hκ
theorem m_one (u : qU) (m y : qM) (a b : Int) (hR : rC m) (h1 : qr a) (h2 : qr b) : qCt YX12_one 4 0 0 [qR 77, qI a, qI b] (qLy u, m, y) (fun r h => ∃ m', r = some (qI (ansOne m a b)) ∧ h = (qLy u, m', y) ∧ keep kObs m' = keep kObs m) := by
  refine (w_one u m y a b hR h1 h2).weak ?_
  rintro r h ⟨m', e1, e2, e3⟩
  exact ⟨m', by rw [e1, ansOne_o (keep_up (by rfl))], e2, e3.trans (keep_up (by rfl))⟩

/-! printed by p83.py: the class places a word for a name, and lifts it -/
theorem c_inM (u : qU) (m y : qM) (a b : Int) (x : Nat) (ha : a = (x : Int)) (hx : x < 2147483648) (hb : 0 ≤ b ∧ b < 32) : qCt YX11_inMask 1 0 0 [qI a, qI b] (qLy u, m, y) (fun r h => ∃ z : Int, r = some (qI z) ∧ (z = 1 ∧ pb x b.toNat ∨ z = 0 ∧ ¬ pb x b.toNat) ∧ h = (qLy u, m, y)) := by
  refine (c_inMask u m y a b).weak ?_
  rintro r h ⟨e1, e2⟩
  have q := q_bit (x := x) (s := b.toNat) hx (by omega)
  rw [q_tn hb.1, ← ha] at q
  refine ⟨_, e1, ?_, e2⟩
  by_cases z : pb x b.toNat
  · rw [if_pos z] at q
    rw [q]
    exact Or.inl ⟨by decide, z⟩
  · rw [if_neg z] at q
    rw [q]
    exact Or.inr ⟨by decide, z⟩
def nV (v0 v be : Int) : Int := if be = 0 then v0 else if v0 = -1 then v else if v0 = v then v0 else -2
def kSu : Nat → Nat → Bool := fun i _ => decide (i = 75 ∨ i = 76)
def kLf : Nat → Nat → Bool := fun i j => decide ((60 ≤ i ∧ i ≤ 65) ∨ i = 75 ∨ i = 76 ∨ (i = 56 ∧ j = 15))
def kPl : Nat → Nat → Bool := fun i j => decide ((60 ≤ i ∧ i ≤ 65) ∨ (i = 56 ∧ j = 15))
theorem kLfA : ∀ i j, kN kLf i j = true → kN kAs i j = true := by
  intro i j h
  refine kN_t.mpr fun z => kN_t.mp h ?_
  unfold kAs at z
  unfold kLf
  rw [decide_eq_true_eq] at z ⊢
  omega
theorem kLfS : ∀ i j, kN kLf i j = true → kN kSu i j = true := by
  intro i j h
  refine kN_t.mpr fun z => kN_t.mp h ?_
  unfold kSu at z
  unfold kLf
  rw [decide_eq_true_eq] at z ⊢
  omega
theorem kPlA : ∀ i j, kN kPl i j = true → kN kAs i j = true := by
  intro i j h
  refine kN_t.mpr fun z => kN_t.mp h ?_
  unfold kAs at z
  unfold kPl
  rw [decide_eq_true_eq] at z ⊢
  omega
/-- the class's search holds D -/
def dM (D : qD) (M : qM) : Prop := (M 56 10 = dK D ∧ M 56 14 = dN D) ∧ (∀ j : Int, 0 ≤ j → j < dK D → M 70 j.toNat = dL D j.toNat ∧ ∀ k : Int, 0 ≤ k → k < dL D j.toNat → M 69 (j * 5 + k).toNat = dS D j.toNat k.toNat) ∧ ∀ i : Int, 0 ≤ i → i < dN D → M 73 i.toNat = dW D i.toNat ∧ ∀ k : Int, 0 ≤ k → k < dW D i.toNat → M 72 (i * 5 + k).toNat = dV D i.toNat k.toNat
def kDm : Nat → Nat → Bool := fun i j => decide ((i = 56 ∧ (j = 10 ∨ j = 14)) ∨ i = 69 ∨ i = 70 ∨ i = 72 ∨ i = 73)
theorem dM_k {D : qD} {M M' : qM} (h : keep kDm M' = keep kDm M) (hd : dM D M) : dM D M' := by
  have h2 : dM D (keep kDm M) := hd
  rw [← h] at h2
  exact h2
theorem kDL : ∀ i j, kDm i j = true → kN kLf i j = true := by
  intro i j h
  refine kN_t.mpr fun z => ?_
  unfold kDm at h
  unfold kLf at z
  rw [decide_eq_true_eq] at h z
  omega
theorem kDP : ∀ i j, kDm i j = true → kN kPl i j = true := by
  intro i j h
  refine kN_t.mpr fun z => ?_
  unfold kDm at h
  unfold kPl at z
  rw [decide_eq_true_eq] at h z
  omega
/-- words of the pool that are used -/
def uM (M : qM) (Q : Nat → Prop) : Prop := ∃ w : Nat, M 56 15 = (w : Int) ∧ w < 4096 ∧ ∀ t, t < 12 → (pb w t ↔ Q t)
theorem uM_c {M M' : qM} {P Q : Nat → Prop} (h : uM M P) (he : M' 56 15 = M 56 15) (hq : ∀ t, t < 12 → (P t ↔ Q t)) : uM M' Q := by
  obtain ⟨w, a, b, c⟩ := h
  exact ⟨w, he.trans a, b, fun t ht => (c t ht).trans (hq t ht)⟩
theorem uM_clr {M M' : qM} {Q : Nat → Prop} {i : Int} (h : uM M Q) (hi : 0 ≤ i ∧ i < 12) (he : M' 56 15 = q_and (M 56 15) (q_xor (q_shl 1 i) (-1))) : uM M' (fun t => Q t ∧ ¬ t = i.toNat) := by
  obtain ⟨w, a, b, c⟩ := h
  obtain ⟨z, e1, e2, e3⟩ := q_clrb (x := w) (c := i.toNat) b (by omega)
  rw [q_tn hi.1, ← a] at e1
  exact ⟨z, he.trans e1, e2, fun t ht => (e3 t ht).trans ⟨fun q => ⟨(c t ht).mp q.1, q.2⟩, fun q => ⟨(c t ht).mpr q.1, q.2⟩⟩⟩
theorem uM_set {M M' : qM} {Q : Nat → Prop} {i : Int} (h : uM M Q) (hi : 0 ≤ i ∧ i < 12) (he : M' 56 15 = q_or (M 56 15) (q_shl 1 i)) : uM M' (fun t => Q t ∨ t = i.toNat) := by
  obtain ⟨w, a, b, c⟩ := h
  obtain ⟨z, e1, e2, e3⟩ := q_setb (x := w) (c := i.toNat) (n := 12) (by omega) (by decide) b
  rw [q_tn hi.1, ← a] at e1
  exact ⟨z, he.trans e1, e2, fun t ht => (e3 t).trans ⟨fun q => q.imp (fun x => (c t ht).mp x) id, fun q => q.imp (fun x => (c t ht).mpr x) id⟩⟩
def hitW (D : qD) (i : Nat) (k : Int) (t : Nat) : Prop := ∃ j : Nat, (j : Int) < k ∧ dS D i j = (t : Int)
theorem hitW_s {D : qD} {i : Nat} {k : Int} {t : Nat} (h0 : 0 ≤ k) : hitW D i (k + 1) t ↔ hitW D i k t ∨ dS D i k.toNat = (t : Int) := by
  constructor
  · rintro ⟨j, a, b⟩
    by_cases e : (j : Int) = k
    · right; rw [← e]; exact b
    · left; exact ⟨j, by omega, b⟩
  · rintro (⟨j, a, b⟩ | a)
    · exact ⟨j, by omega, b⟩
    · exact ⟨k.toNat, by omega, a⟩
/-- behind the first k places of a word that is lifted -/
def lfS (D : qD) (i b : Nat) (be : Int) (g : Nat → Int) (m : qM) (k : Int) (G : Nat → Int) (M : qM) : Prop := ∀ t : Nat, t < 20 → ((pb b t ∧ hitW D i k t) → G t = -1 ∧ M 75 t = nV (m 75 t) (g t) be ∧ M 76 t = m 76 t + be) ∧ (¬ (pb b t ∧ hitW D i k t) → G t = g t ∧ M 75 t = m 75 t ∧ M 76 t = m 76 t)
theorem lfS_no {D : qD} {i b : Nat} {be : Int} {g : Nat → Int} {m : qM} {k : Int} {G : Nat → Int} {M : qM} (h : lfS D i b be g m k G M) (h0 : 0 ≤ k) (hn : ∀ t : Nat, t < 20 → dS D i k.toNat = (t : Int) → pb b t → hitW D i k t) : lfS D i b be g m (k + 1) G M := by
  intro t ht
  have a := h t ht
  have e : (pb b t ∧ hitW D i (k + 1) t) ↔ (pb b t ∧ hitW D i k t) := ⟨fun z => ⟨z.1, ((hitW_s h0).mp z.2).elim id (fun q => hn t ht q z.1)⟩, fun z => ⟨z.1, (hitW_s h0).mpr (Or.inl z.2)⟩⟩
  exact ⟨fun z => a.1 (e.mp z), fun z => a.2 (fun q => z (e.mpr q))⟩
theorem lfS_yes {D : qD} {i b : Nat} {be : Int} {g : Nat → Int} {m : qM} {k : Int} {G : Nat → Int} {M M' : qM} (h : lfS D i b be g m k G M) (h0 : 0 ≤ k) {s : Int} (hs : 0 ≤ s ∧ s < 20) (es : dS D i k.toNat = s) (hb : pb b s.toNat) (hG : ¬ G s.toNat = -1) (h75 : M' 75 = q_fu (M 75) s.toNat (nV (M 75 s.toNat) (G s.toNat) be)) (h76 : M' 76 = q_fu (M 76) s.toNat (M 76 s.toNat + be)) : lfS D i b be g m (k + 1) (q_fu G s.toNat (-1)) M' := by
  intro t ht
  have a := h t ht
  rw [h75, h76]
  by_cases e : t = s.toNat
  · rw [e] at a ⊢
    have nh : ¬ (pb b s.toNat ∧ hitW D i k s.toNat) := fun z => hG (a.1 z).1
    have a2 := a.2 nh
    rw [q_fu_eq, q_fu_eq, q_fu_eq]
    refine ⟨fun _ => ⟨rfl, by rw [a2.1, a2.2.1], by rw [a2.2.2]⟩, fun z => absurd ⟨hb, (hitW_s h0).mpr (Or.inr (by rw [es]; omega))⟩ z⟩
  · rw [q_fu_ne e, q_fu_ne e, q_fu_ne e]
    have ee : (pb b t ∧ hitW D i (k + 1) t) ↔ (pb b t ∧ hitW D i k t) := ⟨fun z => ⟨z.1, ((hitW_s h0).mp z.2).elim id (fun q => absurd (by omega) e)⟩, fun z => ⟨z.1, (hitW_s h0).mpr (Or.inl z.2)⟩⟩
    exact ⟨fun z => a.1 (ee.mp z), fun z => a.2 (fun q => z (ee.mpr q))⟩
theorem nV_r {v0 v be : Int} (h0 : -2 ≤ v0 ∧ v0 ≤ 27) (h : 0 ≤ v ∧ v ≤ 27) : -2 ≤ nV v0 v be ∧ nV v0 v be ≤ 27 := by
  unfold nV
  split
  · exact h0
  · split
    · omega
    · split <;> omega
theorem aS_k {D : qD} {f : Nat → Int} {M M' : qM} (h : ∀ i, 60 ≤ i → i ≤ 67 → M' i = M i) (ha : aS D f M) : aS D f M' := by
  unfold aS at ha ⊢
  rw [h 60 (by decide) (by decide), h 61 (by decide) (by decide), h 62 (by decide) (by decide), h 63 (by decide) (by decide), h 64 (by decide) (by decide), h 65 (by decide) (by decide), h 66 (by decide) (by decide), h 67 (by decide) (by decide)]
  exact ha
theorem row_k {K : Nat → Nat → Bool} {M M' : qM} (h : keep K M' = keep K M) {i : Nat} (hk : ∀ j, K i j = true) : M' i = M i := keep_rw h hk

set_option maxRecDepth 100000 in
theorem c_note2 (u : qU) (m y : qM) (s v be : Int) (hs : 0 ≤ s ∧ s < 20) (hv : 0 ≤ v ∧ v ≤ 27) (hb : 0 ≤ be ∧ be ≤ 2147483647) (h7 : -2 ≤ m 75 s.toNat ∧ m 75 s.toNat ≤ 27) : qCt YX6_noteValue 1 0 0 [qR 56, qI s, qI v, qI be] (qLy u, m, y) (fun r h => r = none ∧ ∃ m', h = (qLy u, m', y) ∧ keep (kN kSu) m' = keep (kN kSu) m ∧ m' 75 = q_fu (m 75) s.toNat (nV (m 75 s.toNat) v be) ∧ m' 76 = q_fu (m 76) s.toNat (m 76 s.toNat + be)) := by
  refine qCt.intro okX6_noteValue (Nat.le_of_ble_eq_true rfl) (fun κ hκ => ?_)
  show qJ YX6_noteValue κ _ (qLy u, m, y) 0 0 0 [some (qR 56), some (qI s), some (qI v), some (qI be)] []
  refine qJ.run hκ 1 (pc' := 1) (ls' := [some (qR 56), some (qI s), some (qI v), some (qI be)]) (st' := [qI be]) rfl ?_
  refine qJ.if_ne hκ (tgt := 5) rfl rfl (by omega) (fun c1 => ?_) (fun c1 => ?_)
  · show qJ YX6_noteValue κ _ (qLy u, m, y) 0 0 5 [some (qR 56), some (qI s), some (qI v), some (qI be)] []
    refine qJ.run hκ 3 (pc' := 10) (ls' := [some (qR 56), some (qI s), some (qI v), some (qI be)]) (st' := [qI s, qR 75]) rfl ?_
    refine qJ.ald hκ rfl rfl rfl (by decide) (by omega) ?_
    show qJ YX6_noteValue κ _ (qLy u, m, y) 0 0 11 [some (qR 56), some (qI s), some (qI v), some (qI be)] [qI (m 75 s.toNat)]
    refine qJ.run hκ 1 (pc' := 12) (ls' := [some (qR 56), some (qI s), some (qI v), some (qI be)]) (st' := [qI (-1), qI (m 75 s.toNat)]) rfl ?_
    refine qJ.icmp_ne hκ (tgt := 25) rfl rfl (by omega) (by omega) (fun c12 => ?_) (fun c12 => ?_)
    · show qJ YX6_noteValue κ _ (qLy u, m, y) 0 0 25 [some (qR 56), some (qI s), some (qI v), some (qI be)] []
      refine qJ.run hκ 3 (pc' := 30) (ls' := [some (qR 56), some (qI s), some (qI v), some (qI be)]) (st' := [qI s, qR 75]) rfl ?_
      refine qJ.ald hκ rfl rfl rfl (by decide) (by omega) ?_
      show qJ YX6_noteValue κ _ (qLy u, m, y) 0 0 31 [some (qR 56), some (qI s), some (qI v), some (qI be)] [qI (m 75 s.toNat)]
      refine qJ.run hκ 1 (pc' := 32) (ls' := [some (qR 56), some (qI s), some (qI v), some (qI be)]) (st' := [qI v, qI (m 75 s.toNat)]) rfl ?_
      refine qJ.icmp_eq hκ (tgt := 43) rfl rfl (by omega) (by omega) (fun c32 => ?_) (fun c32 => ?_)
      · show qJ YX6_noteValue κ _ (qLy u, m, y) 0 0 43 [some (qR 56), some (qI s), some (qI v), some (qI be)] []
        refine qJ.run hκ 4 (pc' := 49) (ls' := [some (qR 56), some (qI s), some (qI v), some (qI be)]) (st' := [qI s, qR 76, qI s, qR 76]) rfl ?_
        refine qJ.ald hκ rfl rfl rfl (by decide) (by omega) ?_
        show qJ YX6_noteValue κ _ (qLy u, m, y) 0 0 50 [some (qR 56), some (qI s), some (qI v), some (qI be)] [qI (m 76 s.toNat), qI s, qR 76]
        refine qJ.run hκ 2 (pc' := 52) (ls' := [some (qR 56), some (qI s), some (qI v), some (qI be)]) (st' := [qI ((m 76 s.toNat) + be), qI s, qR 76]) rfl ?_
        refine qJ.ast hκ rfl rfl rfl (by decide) (by omega) ?_
        show qJ YX6_noteValue κ _ (qLy u, (q_up m 76 s.toNat ((m 76 s.toNat) + be)), y) 0 0 53 [some (qR 56), some (qI s), some (qI v), some (qI be)] []
        exact qJ.vret hκ rfl rfl (by decide) (by decide) (⟨rfl, (q_up m 76 s.toNat ((m 76 s.toNat) + be)), rfl, (Eq.trans (keep_up (by rfl)) rfl), by rw [q_up_rw (by decide)]; unfold nV; rw [if_neg c1, if_neg c12, if_pos c32, fu_self rfl], by rw [q_up_fu]⟩)
      · show qJ YX6_noteValue κ _ (qLy u, m, y) 0 0 35 [some (qR 56), some (qI s), some (qI v), some (qI be)] []
        refine qJ.run hκ 4 (pc' := 42) (ls' := [some (qR 56), some (qI s), some (qI v), some (qI be)]) (st' := [qI (-2), qI s, qR 75]) rfl ?_
        refine qJ.ast hκ rfl rfl rfl (by decide) (by omega) ?_
        show qJ YX6_noteValue κ _ (qLy u, (q_up m 75 s.toNat (-2)), y) 0 0 43 [some (qR 56), some (qI s), some (qI v), some (qI be)] []
        refine qJ.run hκ 4 (pc' := 49) (ls' := [some (qR 56), some (qI s), some (qI v), some (qI be)]) (st' := [qI s, qR 76, qI s, qR 76]) rfl ?_
        refine qJ.ald hκ rfl rfl rfl (by decide) (by omega) ?_
        show qJ YX6_noteValue κ _ (qLy u, (q_up m 75 s.toNat (-2)), y) 0 0 50 [some (qR 56), some (qI s), some (qI v), some (qI be)] [qI (m 76 s.toNat), qI s, qR 76]
        refine qJ.run hκ 2 (pc' := 52) (ls' := [some (qR 56), some (qI s), some (qI v), some (qI be)]) (st' := [qI ((m 76 s.toNat) + be), qI s, qR 76]) rfl ?_
        refine qJ.ast hκ rfl rfl rfl (by decide) (by omega) ?_
        show qJ YX6_noteValue κ _ (qLy u, (q_up (q_up m 75 s.toNat (-2)) 76 s.toNat ((m 76 s.toNat) + be)), y) 0 0 53 [some (qR 56), some (qI s), some (qI v), some (qI be)] []
        exact qJ.vret hκ rfl rfl (by decide) (by decide) (⟨rfl, (q_up (q_up m 75 s.toNat (-2)) 76 s.toNat ((m 76 s.toNat) + be)), rfl, (Eq.trans (keep_up (by rfl)) (Eq.trans (keep_up (by rfl)) rfl)), by rw [q_up_rw (by decide), q_up_fu]; unfold nV; rw [if_neg c1, if_neg c12, if_neg c32], by rw [q_up_fu, q_up_rw (by decide)]⟩)
    · show qJ YX6_noteValue κ _ (qLy u, m, y) 0 0 15 [some (qR 56), some (qI s), some (qI v), some (qI be)] []
      refine qJ.run hκ 4 (pc' := 21) (ls' := [some (qR 56), some (qI s), some (qI v), some (qI be)]) (st' := [qI v, qI s, qR 75]) rfl ?_
      refine qJ.ast hκ rfl rfl rfl (by decide) (by omega) ?_
      show qJ YX6_noteValue κ _ (qLy u, (q_up m 75 s.toNat v), y) 0 0 22 [some (qR 56), some (qI s), some (qI v), some (qI be)] []
      refine qJ.run hκ 5 (pc' := 49) (ls' := [some (qR 56), some (qI s), some (qI v), some (qI be)]) (st' := [qI s, qR 76, qI s, qR 76]) rfl ?_
      refine qJ.ald hκ rfl rfl rfl (by decide) (by omega) ?_
      show qJ YX6_noteValue κ _ (qLy u, (q_up m 75 s.toNat v), y) 0 0 50 [some (qR 56), some (qI s), some (qI v), some (qI be)] [qI (m 76 s.toNat), qI s, qR 76]
      refine qJ.run hκ 2 (pc' := 52) (ls' := [some (qR 56), some (qI s), some (qI v), some (qI be)]) (st' := [qI ((m 76 s.toNat) + be), qI s, qR 76]) rfl ?_
      refine qJ.ast hκ rfl rfl rfl (by decide) (by omega) ?_
      show qJ YX6_noteValue κ _ (qLy u, (q_up (q_up m 75 s.toNat v) 76 s.toNat ((m 76 s.toNat) + be)), y) 0 0 53 [some (qR 56), some (qI s), some (qI v), some (qI be)] []
      exact qJ.vret hκ rfl rfl (by decide) (by decide) (⟨rfl, (q_up (q_up m 75 s.toNat v) 76 s.toNat ((m 76 s.toNat) + be)), rfl, (Eq.trans (keep_up (by rfl)) (Eq.trans (keep_up (by rfl)) rfl)), by rw [q_up_rw (by decide), q_up_fu]; unfold nV; rw [if_neg c1, if_pos c12], by rw [q_up_fu, q_up_rw (by decide)]⟩)
  · show qJ YX6_noteValue κ _ (qLy u, m, y) 0 0 4 [some (qR 56), some (qI s), some (qI v), some (qI be)] []
    exact qJ.vret hκ rfl rfl (by decide) (by decide) (⟨rfl, m, rfl, rfl, by unfold nV; rw [if_pos c1, fu_self rfl], by rw [c1, Int.add_zero, fu_self rfl]⟩)

def kLfs2 : Nat → Nat → Bool := fun i _ => decide (60 ≤ i ∧ i ≤ 67)
theorem kLfS2 : ∀ i j, kLfs2 i j = true → kN kSu i j = true := by
  intro i j h
  refine kN_t.mpr fun z => ?_
  unfold kLfs2 at h
  unfold kSu at z
  rw [decide_eq_true_eq] at h z
  omega
theorem aS_su {D : qD} {f : Nat → Int} {M M' : qM} (h : keep (kN kSu) M' = keep (kN kSu) M) (ha : aS D f M) : aS D f M' := by
  refine aS_k (fun i a b => funext fun j => keep_at (keep_of kLfS2 h) ?_) ha
  unfold kLfs2
  exact decide_eq_true ⟨a, b⟩

set_option maxRecDepth 100000 in
theorem c_lift (u : qU) (m y : qM) (D : qD) (g : Nat → Int) (Q : Nat → Prop) (b : Nat) (i bd be : Int) (hD : dOk D) (hM : dM D m) (hA : aS D g m) (hU : uM m Q) (hi : 0 ≤ i ∧ i < dK D) (hbd : bd = (b : Int)) (hb : b < 1048576) (hbe : 0 ≤ be ∧ be ≤ 2147483647) (h7 : ∀ t : Nat, t < 20 → -2 ≤ m 75 t ∧ m 75 t ≤ 27) (hg : ∀ t : Nat, t < 20 → pb b t → ¬ g t = -1) : qCt YX6_lift 2 0 0 [qR 56, qI i, qI bd, qI be] (qLy u, m, y) (fun r h => r = none ∧ ∃ m' G, h = (qLy u, m', y) ∧ keep (kN kLf) m' = keep (kN kLf) m ∧ aS D G m' ∧ uM m' (fun t => Q t ∧ ¬ t = i.toNat) ∧ lfS D i.toNat b be g m (dL D i.toNat) G m') := by
  refine qCt.intro okX6_lift (Nat.le_of_ble_eq_true rfl) (fun κ hκ => ?_)
  obtain ⟨K0, hDm2, hDm3⟩ := hM
  have ki := hDm2 i hi.1 hi.2
  have dl := hD.2.1 i.toNat (by omega)
  have kb := hD.1.1
  have L17 : ∀ (n : Nat) (k : Int) (G : Nat → Int) (M6 : qM), (0 ≤ k ∧ k ≤ dL D i.toNat) → (keep (kN kLf) M6 = keep (kN kLf) m) → (aS D G M6) → (uM M6 (fun t => Q t ∧ ¬ t = i.toNat)) → (lfS D i.toNat b be g m k G M6) → (∀ t : Nat, t < 20 → -2 ≤ M6 75 t ∧ M6 75 t ≤ 27) → ((dL D i.toNat - k).toNat) < n → qJ YX6_lift κ (qFin (fun r h => r = none ∧ ∃ m' G, h = (qLy u, m', y) ∧ keep (kN kLf) m' = keep (kN kLf) m ∧ aS D G m' ∧ uM m' (fun t => Q t ∧ ¬ t = i.toNat) ∧ lfS D i.toNat b be g m (dL D i.toNat) G m') 0 0 κ) (qLy u, M6, y) 0 0 17 [some (qR 56), some (qI i), some (qI bd), some (qI be), some (qI k), none] [] := by
    intro n
    induction n with
    | zero => intro k G M6 _ _ _ _ _ _ hz0; omega
    | succ n ih17 =>
      intro k G M6 v17_0 v17_1 v17_2 v17_3 v17_4 v17_5 v17_m
      have m70 : M6 70 = m 70 := congrFun v17_1 70
      have k70 : M6 70 i.toNat = dL D i.toNat := by rw [m70]; exact ki.1
      refine qJ.run hκ 4 (pc' := 24) (ls' := [some (qR 56), some (qI i), some (qI bd), some (qI be), some (qI k), none]) (st' := [qI i, qR 70, qI k]) rfl ?_
      refine qJ.ald hκ rfl rfl rfl (by decide) (by omega) ?_
      show qJ YX6_lift κ _ (qLy u, M6, y) 0 0 25 [some (qR 56), some (qI i), some (qI bd), some (qI be), some (qI k), none] [qI (M6 70 i.toNat), qI k]
      refine qJ.icmp_ge hκ (tgt := 96) rfl rfl (by omega) (by omega) (fun c25 => ?_) (fun c25 => ?_)
      · show qJ YX6_lift κ _ (qLy u, M6, y) 0 0 96 [some (qR 56), some (qI i), some (qI bd), some (qI be), some (qI k), none] []
        exact qJ.vret hκ rfl rfl (by decide) (by decide) (⟨rfl, M6, G, rfl, v17_1, v17_2, v17_3, by rw [show dL D i.toNat = k by omega]; exact v17_4⟩)
      · show qJ YX6_lift κ _ (qLy u, M6, y) 0 0 28 [some (qR 56), some (qI i), some (qI bd), some (qI be), some (qI k), none] []
        refine qJ.run hκ 7 (pc' := 38) (ls' := [some (qR 56), some (qI i), some (qI bd), some (qI be), some (qI k), none]) (st' := [qI ((i * 5) + k), qR 69]) rfl ?_
        refine qJ.ald hκ rfl rfl rfl (by decide) (by omega) ?_
        show qJ YX6_lift κ _ (qLy u, M6, y) 0 0 39 [some (qR 56), some (qI i), some (qI bd), some (qI be), some (qI k), none] [qI (M6 69 (((i * 5) + k).toNat))]
        refine qJ.run hκ 1 (pc' := 41) (ls' := [some (qR 56), some (qI i), some (qI bd), some (qI be), some (qI k), some (qI (M6 69 (((i * 5) + k).toNat)))]) (st' := []) rfl ?_
        have m69 : M6 69 = m 69 := congrFun v17_1 69
        have sg : M6 69 (i * 5 + k).toNat = dS D i.toNat k.toNat := by rw [m69]; exact ki.2 k v17_0.1 (by omega)
        have sr := dl.2 k.toNat (by omega)
        have b75 : ∀ t : Nat, t < 20 → -2 ≤ M6 75 t ∧ M6 75 t ≤ 27 := v17_5
        refine qJ.run hκ 2 (pc' := 44) (ls' := [some (qR 56), some (qI i), some (qI bd), some (qI be), some (qI k), some (qI (M6 69 (((i * 5) + k).toNat)))]) (st' := [qI (M6 69 (((i * 5) + k).toNat)), qI bd]) rfl ?_
        refine qJ.callSN (As := [qI bd, qI (M6 69 (((i * 5) + k).toNat))]) (rest := []) hκ rfl kX6_155 (c_inM u M6 y bd (M6 69 (((i * 5) + k).toNat)) b hbd (by omega) (by omega)) (by decide) rfl rfl (Nat.le_of_ble_eq_true rfl) (Nat.le_of_ble_eq_true rfl) (Nat.le_of_ble_eq_true rfl) (Or.inl (fun r h' e => by obtain ⟨z44, rfl, B44, rfl⟩ := e; rfl)) (fun r h' e => ?_)
        obtain ⟨z44, rfl, B44, rfl⟩ := e
        show qJ YX6_lift κ _ (qLy u, M6, y) 0 0 47 [some (qR 56), some (qI i), some (qI bd), some (qI be), some (qI k), some (qI (M6 69 (((i * 5) + k).toNat)))] [qI z44]
        have zr : z44 = 0 ∨ z44 = 1 := by omega
        refine qJ.if_eq hκ (tgt := 90) rfl rfl (by omega) (fun c47 => ?_) (fun c47 => ?_)
        · show qJ YX6_lift κ _ (qLy u, M6, y) 0 0 90 [some (qR 56), some (qI i), some (qI bd), some (qI be), some (qI k), some (qI (M6 69 (((i * 5) + k).toNat)))] []
          have nb : ¬ pb b (M6 69 (i * 5 + k).toNat).toNat := by rcases B44 with q | q; (omega); (exact q.2)
          refine qJ.run hκ 2 (pc' := 17) (ls' := [some (qR 56), some (qI i), some (qI bd), some (qI be), some (qI (k + 1)), some (qI (M6 69 (((i * 5) + k).toNat)))]) (st' := []) rfl ?_
          refine qJ.dl [true, true, true, true, true, false] ?_
          show qJ YX6_lift κ _ (qLy u, M6, y) 0 0 17 [some (qR 56), some (qI i), some (qI bd), some (qI be), some (qI (k + 1)), none] []
          exact ih17  (k + 1) G M6 (by omega) (v17_1) (v17_2) (v17_3) (lfS_no v17_4 v17_0.1 (fun t ht e p => absurd (by rw [show (M6 69 (i * 5 + k).toNat).toNat = t by omega]; exact p) nb)) (v17_5) (by omega)
        · show qJ YX6_lift κ _ (qLy u, M6, y) 0 0 50 [some (qR 56), some (qI i), some (qI bd), some (qI be), some (qI k), some (qI (M6 69 (((i * 5) + k).toNat)))] []
          have yb : pb b (M6 69 (i * 5 + k).toNat).toNat := by rcases B44 with q | q; (exact q.2); (omega)
          have s20 : M6 69 (i * 5 + k).toNat < 20 := by
            by_cases z : M6 69 (i * 5 + k).toNat = 20
            · exfalso
              have y2 := yb
              rw [z] at y2
              have y3 : b / 1048576 % 2 = 1 := y2
              omega
            · omega
          have b60 := (v17_2.1.1 (M6 69 (i * 5 + k).toNat).toNat (by omega)).1
          have b61 := (v17_2.1.1 (M6 69 (i * 5 + k).toNat).toNat (by omega)).2
          refine qJ.run hκ 4 (pc' := 59) (ls' := [some (qR 56), some (qI i), some (qI bd), some (qI be), some (qI k), some (qI (M6 69 (((i * 5) + k).toNat)))]) (st' := [qI (M6 69 (((i * 5) + k).toNat)), qR 60]) rfl ?_
          refine qJ.ald hκ rfl rfl rfl (by decide) (by omega) ?_
          show qJ YX6_lift κ _ (qLy u, M6, y) 0 0 60 [some (qR 56), some (qI i), some (qI bd), some (qI be), some (qI k), some (qI (M6 69 (((i * 5) + k).toNat)))] [qI (M6 60 ((M6 69 (((i * 5) + k).toNat)).toNat))]
          refine qJ.run hκ 1 (pc' := 61) (ls' := [some (qR 56), some (qI i), some (qI bd), some (qI be), some (qI k), some (qI (M6 69 (((i * 5) + k).toNat)))]) (st' := [qI (-1), qI (M6 60 ((M6 69 (((i * 5) + k).toNat)).toNat))]) rfl ?_
          refine qJ.icmp_eq hκ (tgt := 90) rfl rfl (by omega) (by omega) (fun c61 => ?_) (fun c61 => ?_)
          · show qJ YX6_lift κ _ (qLy u, M6, y) 0 0 90 [some (qR 56), some (qI i), some (qI bd), some (qI be), some (qI k), some (qI (M6 69 (((i * 5) + k).toNat)))] []
            refine qJ.run hκ 2 (pc' := 17) (ls' := [some (qR 56), some (qI i), some (qI bd), some (qI be), some (qI (k + 1)), some (qI (M6 69 (((i * 5) + k).toNat)))]) (st' := []) rfl ?_
            refine qJ.dl [true, true, true, true, true, false] ?_
            show qJ YX6_lift κ _ (qLy u, M6, y) 0 0 17 [some (qR 56), some (qI i), some (qI bd), some (qI be), some (qI (k + 1)), none] []
            exact ih17  (k + 1) G M6 (by omega) (v17_1) (v17_2) (v17_3) (lfS_no v17_4 v17_0.1 (fun t ht e p => by
          have te : (M6 69 (i * 5 + k).toNat).toNat = t := by omega
          have g1 : G t = -1 := by rw [← te]; omega
          by_cases h : hitW D i.toNat k t
          · exact h
          · exact absurd (((v17_4 t ht).2 (fun z => h z.2)).1.symm.trans g1) (hg t ht p))) (v17_5) (by omega)
          · show qJ YX6_lift κ _ (qLy u, M6, y) 0 0 64 [some (qR 56), some (qI i), some (qI bd), some (qI be), some (qI k), some (qI (M6 69 (((i * 5) + k).toNat)))] []
            have nG : ¬ G (M6 69 (i * 5 + k).toNat).toNat = -1 := by omega
            refine qJ.run hκ 6 (pc' := 76) (ls' := [some (qR 56), some (qI i), some (qI bd), some (qI be), some (qI k), some (qI (M6 69 (((i * 5) + k).toNat)))]) (st' := [qI (M6 69 (((i * 5) + k).toNat)), qR 60, qI (M6 69 (((i * 5) + k).toNat)), qR 56]) rfl ?_
            refine qJ.ald hκ rfl rfl rfl (by decide) (by omega) ?_
            show qJ YX6_lift κ _ (qLy u, M6, y) 0 0 77 [some (qR 56), some (qI i), some (qI bd), some (qI be), some (qI k), some (qI (M6 69 (((i * 5) + k).toNat)))] [qI (M6 60 ((M6 69 (((i * 5) + k).toNat)).toNat)), qI (M6 69 (((i * 5) + k).toNat)), qR 56]
            refine qJ.run hκ 1 (pc' := 78) (ls' := [some (qR 56), some (qI i), some (qI bd), some (qI be), some (qI k), some (qI (M6 69 (((i * 5) + k).toNat)))]) (st' := [qI be, qI (M6 60 ((M6 69 (((i * 5) + k).toNat)).toNat)), qI (M6 69 (((i * 5) + k).toNat)), qR 56]) rfl ?_
            refine qJ.callV (As := [qI (M6 69 (((i * 5) + k).toNat)), qI (M6 60 ((M6 69 (((i * 5) + k).toNat)).toNat)), qI be]) (rest := []) hκ rfl kX6_165 (c_note2 u M6 y (M6 69 (((i * 5) + k).toNat)) (M6 60 ((M6 69 (((i * 5) + k).toNat)).toNat)) be (by omega) (by omega) hbe (b75 _ (by omega))) rfl rfl (by decide) rfl rfl (Nat.le_of_ble_eq_true rfl) (Nat.le_of_ble_eq_true rfl) (Nat.le_of_ble_eq_true rfl) (Or.inl (fun r h' e => by obtain ⟨rfl, m1, rfl, N1, N2, N3⟩ := e; rfl)) (fun r h' e => ?_)
            obtain ⟨rfl, m1, rfl, N1, N2, N3⟩ := e
            show qJ YX6_lift κ _ (qLy u, m1, y) 0 0 81 [some (qR 56), some (qI i), some (qI bd), some (qI be), some (qI k), some (qI (M6 69 (((i * 5) + k).toNat)))] []
            refine qJ.run hκ 3 (pc' := 87) (ls' := [some (qR 56), some (qI i), some (qI bd), some (qI be), some (qI k), some (qI (M6 69 (((i * 5) + k).toNat)))]) (st' := [qI (M6 69 (((i * 5) + k).toNat)), qR 59]) rfl ?_
            refine qJ.callV (As := [qI (M6 69 (((i * 5) + k).toNat))]) (rest := []) hκ rfl kX6_168 (c_unbind u m1 y D G (M6 69 (((i * 5) + k).toNat)) hD (aS_su N1 v17_2) (by omega) nG) rfl rfl (by decide) rfl rfl (Nat.le_of_ble_eq_true rfl) (Nat.le_of_ble_eq_true rfl) (Nat.le_of_ble_eq_true rfl) (Or.inl (fun r h' e => by obtain ⟨rfl, m2, rfl, N4, N5⟩ := e; rfl)) (fun r h' e => ?_)
            obtain ⟨rfl, m2, rfl, N4, N5⟩ := e
            show qJ YX6_lift κ _ (qLy u, m2, y) 0 0 90 [some (qR 56), some (qI i), some (qI bd), some (qI be), some (qI k), some (qI (M6 69 (((i * 5) + k).toNat)))] []
            refine qJ.run hκ 2 (pc' := 17) (ls' := [some (qR 56), some (qI i), some (qI bd), some (qI be), some (qI (k + 1)), some (qI (M6 69 (((i * 5) + k).toNat)))]) (st' := []) rfl ?_
            refine qJ.dl [true, true, true, true, true, false] ?_
            show qJ YX6_lift κ _ (qLy u, m2, y) 0 0 17 [some (qR 56), some (qI i), some (qI bd), some (qI be), some (qI (k + 1)), none] []
            exact ih17  (k + 1) (q_fu G (M6 69 (i * 5 + k).toNat).toNat (-1)) m2 (by omega) ((keep_of kLfA N4).trans ((keep_of kLfS N1).trans v17_1)) (N5) (uM_c v17_3 ((congrFun (congrFun N4 56) 15).trans (congrFun (congrFun N1 56) 15)) (fun t _ => Iff.rfl)) (lfS_yes v17_4 v17_0.1 (s := M6 69 (i * 5 + k).toNat) (by omega) sg.symm yb nG ((show m2 75 = m1 75 from congrFun N4 75).trans (by rw [N2, b60])) ((congrFun N4 76).trans N3)) (fun t ht => by
          rw [show m2 75 = m1 75 from congrFun N4 75, N2]
          by_cases e : t = (M6 69 (i * 5 + k).toNat).toNat
          · rw [e, q_fu_eq]; exact nV_r (b75 _ (by omega)) (by omega)
          · rw [q_fu_ne e]; exact b75 t ht) (by omega)
  show qJ YX6_lift κ _ (qLy u, m, y) 0 0 0 [some (qR 56), some (qI i), some (qI bd), some (qI be), none, none] []
  refine qJ.run hκ 9 (pc' := 11) (ls' := [some (qR 56), some (qI i), some (qI bd), some (qI be), none, none]) (st' := [qI (q_and (m 56 15) (q_xor (q_shl 1 i) (-1))), qR 56]) rfl ?_
  refine qJ.putI hκ rfl rfl rfl rfl (Or.inl rfl) ?_
  show qJ YX6_lift κ _ (qLy u, (q_up m 56 15 (q_and (m 56 15) (q_xor (q_shl 1 i) (-1)))), y) 0 0 14 [some (qR 56), some (qI i), some (qI bd), some (qI be), none, none] []
  refine qJ.run hκ 2 (pc' := 17) (ls' := [some (qR 56), some (qI i), some (qI bd), some (qI be), some (qI 0), none]) (st' := []) rfl ?_
  exact L17 6 0 g (q_up m 56 15 (q_and (m 56 15) (q_xor (q_shl 1 i) (-1)))) (⟨Int.le_refl 0, by omega⟩) (keep_up (by rfl)) (hA) (uM_clr hU (by omega) rfl) (fun t ht => ⟨fun z => by obtain ⟨j, a, -⟩ := z.2; omega, fun _ => ⟨rfl, rfl, rfl⟩⟩) (h7) (by omega)

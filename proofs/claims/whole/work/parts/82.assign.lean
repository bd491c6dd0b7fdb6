/-! printed by p82.py: the class binds signs to values -/
theorem q_div_r (x y : Int) : qr (q_div x y) := q_r32 _
theorem q_rem_r (x y : Int) : qr (q_rem x y) := q_r32 _
theorem q_up_rw {m : qM} {a k i : Nat} {v : Int} (h : i ≠ a) : q_up m a k v i = m i := by
  funext j
  exact q_up_ne h
abbrev uR (f g : Nat → Int) (r : Int) (s : Nat) : Prop := ¬ f s = -1 ∧ g s = r
/-- the class's assignment holds f -/
def aS (D : qD) (f : Nat → Int) (M : qM) : Prop := ((∀ s : Nat, s < 20 → M 60 s = f s ∧ -1 ≤ f s ∧ f s ≤ 27) ∧ okV D f) ∧ (∀ v : Nat, v < 28 → (M 61 v = -1 ↔ ∀ s : Nat, s < 20 → ¬ f s = (v : Int)) ∧ -1 ≤ M 61 v ∧ M 61 v ≤ 19) ∧ (∀ r : Nat, r < 20 → M 62 r = (q_cnt (uR f (dR D) (r : Int)) 20 : Nat) ∧ ∀ s : Nat, s < 20 → ¬ f s = -1 → dR D s = (r : Int) → M 63 r = q_div (f s) 4) ∧ (∀ r : Nat, r < 20 → M 64 r = (q_cnt (uR f (dC D) (r : Int)) 20 : Nat) ∧ ∀ s : Nat, s < 20 → ¬ f s = -1 → dC D s = (r : Int) → M 65 r = q_rem (f s) 4) ∧ ∀ s : Nat, s < 20 → M 66 s = dR D s ∧ M 67 s = dC D s
def kAs : Nat → Nat → Bool := fun i _ => decide (60 ≤ i ∧ i ≤ 65)
theorem uR_c {f f' g : Nat → Int} {r : Int} (h : ∀ s, s < 20 → f s = f' s) : q_cnt (uR f g r) 20 = q_cnt (uR f' g r) 20 := q_cnt_c 20 fun k hk => by
  unfold uR; rw [h k hk]
theorem aS_c {D : qD} {f g : Nat → Int} {M : qM} (h : ∀ s, s < 20 → f s = g s) (ha : aS D f M) : aS D g M := by
  obtain ⟨⟨a1, a2⟩, a3, a4, a5, a6⟩ := ha
  refine ⟨⟨fun s hs => by rw [← h s hs]; exact a1 s hs, fun a b la lb ab fa fb => ?_⟩, fun v hv => ?_, fun r hr => ?_, fun r hr => ?_, a6⟩
  · unfold okP
    rw [← h a la] at fa ⊢
    rw [← h b lb] at fb ⊢
    exact a2 a b la lb ab fa fb
  · have b := a3 v hv
    refine ⟨?_, b.2⟩
    rw [b.1]
    exact ⟨fun z s hs => by rw [← h s hs]; exact z s hs, fun z s hs => by rw [h s hs]; exact z s hs⟩
  · have b := a4 r hr
    exact ⟨by rw [b.1, uR_c h], fun s hs z e => by rw [← h s hs] at z ⊢; exact b.2 s hs z e⟩
  · have b := a5 r hr
    exact ⟨by rw [b.1, uR_c h], fun s hs z e => by rw [← h s hs] at z ⊢; exact b.2 s hs z e⟩

theorem uR_n {f g : Nat → Int} {r : Int} {s : Nat} {v : Int} (hs : f s = -1) (hv : ¬ v = -1) : ∀ n, q_cnt (uR (q_fu f s v) g r) n = q_cnt (uR f g r) n + if s < n ∧ g s = r then 1 else 0
  | 0 => by rw [if_neg (fun z => absurd z.1 (Nat.not_lt_zero s))]; rfl
  | n + 1 => by
    have ih := uR_n (g := g) (r := r) hs hv n
    show q_cnt (uR (q_fu f s v) g r) n + (if uR (q_fu f s v) g r n then 1 else 0) = q_cnt (uR f g r) n + (if uR f g r n then 1 else 0) + _
    rw [ih]
    by_cases e : n = s
    · subst e
      rw [if_neg (fun z => absurd z.1 (Nat.lt_irrefl n)), if_neg (c := uR f g r n) (fun z => z.1 hs)]
      by_cases q : g n = r
      · rw [if_pos ⟨by rw [q_fu_eq]; exact hv, q⟩, if_pos ⟨Nat.lt_succ_self n, q⟩]
      · rw [if_neg (fun z => q z.2), if_neg (fun z => q z.2)]
    · have k : uR (q_fu f s v) g r n ↔ uR f g r n := by unfold uR; rw [q_fu_ne e]
      have k2 : (s < n ∧ g s = r) ↔ (s < n + 1 ∧ g s = r) := ⟨fun z => ⟨by omega, z.2⟩, fun z => ⟨by omega, z.2⟩⟩
      by_cases c : uR f g r n
      · rw [if_pos c, if_pos (k.mpr c)]
        by_cases d : s < n ∧ g s = r
        · rw [if_pos d, if_pos (k2.mp d)]
        · rw [if_neg d, if_neg (fun z => d (k2.mpr z))]
      · rw [if_neg c, if_neg (fun z => c (k.mp z))]
        by_cases d : s < n ∧ g s = r
        · rw [if_pos d, if_pos (k2.mp d)]
        · rw [if_neg d, if_neg (fun z => d (k2.mpr z))]
theorem q_cnt_w {p : Nat → Prop} [DecidablePred p] {n : Nat} (h : ¬ q_cnt p n = 0) : ∃ k, k < n ∧ p k := by
  obtain ⟨t, a, b, -⟩ := q_cnt_find (p := p) n 0 (by omega)
  exact ⟨t, a, b⟩
theorem q_cnt_y {p : Nat → Prop} [DecidablePred p] {n k : Nat} (hk : k < n) (h : p k) : ¬ q_cnt p n = 0 := fun z => (q_cnt_no n).mp z k hk h
/-- what allows looks at -/
theorem al_ok {D : qD} {f : Nat → Int} {m : qM} {s v : Int} (hA : aS D f m) (hD : dOk D) (hs : 0 ≤ s ∧ s < 20) (hv : 0 ≤ v ∧ v < 28) :
    ((f s.toNat = -1 ∧ okV D (q_fu f s.toNat v)) ↔ (m 60 s.toNat = -1 ∧ m 61 v.toNat = -1 ∧ (m 62 (m 66 s.toNat).toNat = 0 ∨ m 63 (m 66 s.toNat).toNat = q_div v 4) ∧ (m 64 (m 67 s.toNat).toNat = 0 ∨ m 65 (m 67 s.toNat).toNat = q_rem v 4))) ∧ (¬ m 62 (m 66 s.toNat).toNat = 0 → qr (m 63 (m 66 s.toNat).toNat)) ∧ (¬ m 64 (m 67 s.toNat).toNat = 0 → qr (m 65 (m 67 s.toNat).toNat)) ∧ (0 ≤ m 62 (m 66 s.toNat).toNat ∧ m 62 (m 66 s.toNat).toNat ≤ 20) ∧ (0 ≤ m 64 (m 67 s.toNat).toNat ∧ m 64 (m 67 s.toNat).toNat ≤ 20) := by
  obtain ⟨⟨a1, a2⟩, a3, a4, a5, a6⟩ := hA
  have l : s.toNat < 20 := by omega
  have e6 := a6 s.toNat l
  have rc := hD.2.2.2 s.toNat l
  have b4 := a4 (m 66 s.toNat).toNat (by omega)
  have b5 := a5 (m 67 s.toNat).toNat (by omega)
  have tr : (((m 66 s.toNat).toNat : Nat) : Int) = dR D s.toNat := by omega
  have tc : (((m 67 s.toNat).toNat : Nat) : Int) = dC D s.toNat := by omega
  rw [tr] at b4
  rw [tc] at b5
  have c4 := q_cnt_le (uR f (dR D) (dR D s.toNat)) 20
  have c5 := q_cnt_le (uR f (dC D) (dC D s.toNat)) 20
  have b3 := a3 v.toNat (by omega)
  rw [q_tn hv.1] at b3
  have b1 := a1 s.toNat l
  refine ⟨?_, fun z => ?_, fun z => ?_, by omega, by omega⟩
  · constructor
    · rintro ⟨h1, h2⟩
      have k := (okV_fu a2 h1 (by omega) l).mp h2
      refine ⟨b1.1.trans h1, b3.1.mpr (fun t ht z => ?_), ?_, ?_⟩
      · exact (k t ht (by omega)).1 z.symm
      · by_cases z : m 62 (m 66 s.toNat).toNat = 0
        · exact Or.inl z
        · obtain ⟨t, h3, h4, h5⟩ := q_cnt_w (p := uR f (dR D) (dR D s.toNat)) (n := 20) (by omega)
          exact Or.inr ((b4.2 t h3 h4 h5).trans ((k t h3 h4).2.1 h5.symm).symm)
      · by_cases z : m 64 (m 67 s.toNat).toNat = 0
        · exact Or.inl z
        · obtain ⟨t, h3, h4, h5⟩ := q_cnt_w (p := uR f (dC D) (dC D s.toNat)) (n := 20) (by omega)
          exact Or.inr ((b5.2 t h3 h4 h5).trans ((k t h3 h4).2.2 h5.symm).symm)
    · rintro ⟨h1, h2, h3, h4⟩
      have h0 : f s.toNat = -1 := b1.1.symm.trans h1
      refine ⟨h0, (okV_fu a2 h0 (by omega) l).mpr fun b hb fb => ⟨fun z => b3.1.mp h2 b hb z.symm, fun z => ?_, fun z => ?_⟩⟩
      · have w := q_cnt_y (p := uR f (dR D) (dR D s.toNat)) hb ⟨fb, z.symm⟩
        rcases h3 with h3 | h3
        · exfalso; omega
        · exact h3.symm.trans (b4.2 b hb fb z.symm)
      · have w := q_cnt_y (p := uR f (dC D) (dC D s.toNat)) hb ⟨fb, z.symm⟩
        rcases h4 with h4 | h4
        · exfalso; omega
        · exact h4.symm.trans (b5.2 b hb fb z.symm)
  · obtain ⟨t, h3, h4, h5⟩ := q_cnt_w (p := uR f (dR D) (dR D s.toNat)) (n := 20) (by omega)
    rw [b4.2 t h3 h4 h5]; exact q_div_r _ _
  · obtain ⟨t, h3, h4, h5⟩ := q_cnt_w (p := uR f (dC D) (dC D s.toNat)) (n := 20) (by omega)
    rw [b5.2 t h3 h4 h5]; exact q_rem_r _ _

theorem aS_bind {D : qD} {f : Nat → Int} {m : qM} {s v : Int} (hA : aS D f m) (hD : dOk D) (hs : 0 ≤ s ∧ s < 20) (hv : 0 ≤ v ∧ v < 28) (h0 : f s.toNat = -1) (hk : okV D (q_fu f s.toNat v)) {M' : qM} (r0 : M' 60 = q_fu (m 60) s.toNat v) (r1 : M' 61 = q_fu (m 61) v.toNat s) (r2 : M' 62 = q_fu (m 62) (m 66 s.toNat).toNat (m 62 (m 66 s.toNat).toNat + 1)) (r3 : M' 63 = q_fu (m 63) (m 66 s.toNat).toNat (q_div v 4)) (r4 : M' 64 = q_fu (m 64) (m 67 s.toNat).toNat (m 64 (m 67 s.toNat).toNat + 1)) (r5 : M' 65 = q_fu (m 65) (m 67 s.toNat).toNat (q_rem v 4)) (r6 : M' 66 = m 66 ∧ M' 67 = m 67) : aS D (q_fu f s.toNat v) M' := by
  have l : s.toNat < 20 := by omega
  have al := al_ok hA hD hs hv
  have al2 := al.1.mp ⟨h0, hk⟩
  obtain ⟨⟨a1, a2⟩, a3, a4, a5, a6⟩ := hA
  have e6 := a6 s.toNat l
  have rc := hD.2.2.2 s.toNat l
  have tr : (((m 66 s.toNat).toNat : Nat) : Int) = dR D s.toNat := by omega
  have tc : (((m 67 s.toNat).toNat : Nat) : Int) = dC D s.toNat := by omega
  refine ⟨⟨fun t ht => ?_, hk⟩, fun w hw => ?_, fun r hr => ?_, fun r hr => ?_, fun t ht => by rw [r6.1, r6.2]; exact a6 t ht⟩
  · rw [r0]
    by_cases e : t = s.toNat
    · rw [e, q_fu_eq, q_fu_eq]; exact ⟨rfl, by omega, by omega⟩
    · rw [q_fu_ne e, q_fu_ne e]; exact a1 t ht
  · rw [r1]
    by_cases e : w = v.toNat
    · rw [e, q_fu_eq]
      refine ⟨⟨fun z => by omega, fun z => ?_⟩, by omega, by omega⟩
      have := z s.toNat l
      rw [q_fu_eq] at this
      omega
    · rw [q_fu_ne e]
      have b := a3 w hw
      refine ⟨b.1.trans ⟨fun z t ht => ?_, fun z t ht q => ?_⟩, b.2⟩
      · by_cases e2 : t = s.toNat
        · rw [e2, q_fu_eq]; omega
        · rw [q_fu_ne e2]; exact z t ht
      · have e2 : ¬ t = s.toNat := fun y => by rw [y, h0] at q; omega
        have := z t ht
        rw [q_fu_ne e2] at this
        exact this q
  · have b := a4 r hr
    rw [r2, r3, uR_n h0 (by omega)]
    by_cases e : r = (m 66 s.toNat).toNat
    · have er : dR D s.toNat = (r : Int) := by rw [e]; exact tr.symm
      rw [if_pos ⟨l, er⟩, e, q_fu_eq, q_fu_eq, ← e]
      refine ⟨by rw [b.1]; omega, fun t ht z w => ?_⟩
      by_cases e2 : t = s.toNat
      · rw [e2, q_fu_eq]
      · rw [q_fu_ne e2] at z ⊢
        have k := (okV_fu a2 h0 (by omega) l).mp hk t ht z
        exact k.2.1 (er.trans w.symm)
    · have er : ¬ dR D s.toNat = (r : Int) := fun z => e (by omega)
      rw [if_neg (fun z => er z.2), q_fu_ne e, q_fu_ne e]
      refine ⟨by rw [b.1]; omega, fun t ht z w => ?_⟩
      have e2 : ¬ t = s.toNat := fun y => er (by rw [← y]; exact w)
      rw [q_fu_ne e2] at z ⊢
      exact b.2 t ht z w
  · have b := a5 r hr
    rw [r4, r5, uR_n h0 (by omega)]
    by_cases e : r = (m 67 s.toNat).toNat
    · have er : dC D s.toNat = (r : Int) := by rw [e]; exact tc.symm
      rw [if_pos ⟨l, er⟩, e, q_fu_eq, q_fu_eq, ← e]
      refine ⟨by rw [b.1]; omega, fun t ht z w => ?_⟩
      by_cases e2 : t = s.toNat
      · rw [e2, q_fu_eq]
      · rw [q_fu_ne e2] at z ⊢
        have k := (okV_fu a2 h0 (by omega) l).mp hk t ht z
        exact k.2.2 (er.trans w.symm)
    · have er : ¬ dC D s.toNat = (r : Int) := fun z => e (by omega)
      rw [if_neg (fun z => er z.2), q_fu_ne e, q_fu_ne e]
      refine ⟨by rw [b.1]; omega, fun t ht z w => ?_⟩
      have e2 : ¬ t = s.toNat := fun y => er (by rw [← y]; exact w)
      rw [q_fu_ne e2] at z ⊢
      exact b.2 t ht z w

theorem aS_unbind {D : qD} {f : Nat → Int} {m : qM} {s : Int} (hA : aS D f m) (hD : dOk D) (hs : 0 ≤ s ∧ s < 20) (h0 : ¬ f s.toNat = -1) {M' : qM} (r0 : M' 60 = q_fu (m 60) s.toNat (-1)) (r1 : M' 61 = q_fu (m 61) (m 60 s.toNat).toNat (-1)) (r2 : M' 62 = q_fu (m 62) (m 66 s.toNat).toNat (m 62 (m 66 s.toNat).toNat - 1)) (r3 : M' 63 = m 63) (r4 : M' 64 = q_fu (m 64) (m 67 s.toNat).toNat (m 64 (m 67 s.toNat).toNat - 1)) (r5 : M' 65 = m 65) (r6 : M' 66 = m 66 ∧ M' 67 = m 67) : aS D (q_fu f s.toNat (-1)) M' := by
  have l : s.toNat < 20 := by omega
  obtain ⟨⟨a1, a2⟩, a3, a4, a5, a6⟩ := hA
  have e6 := a6 s.toNat l
  have rc := hD.2.2.2 s.toNat l
  have tr : (((m 66 s.toNat).toNat : Nat) : Int) = dR D s.toNat := by omega
  have tc : (((m 67 s.toNat).toNat : Nat) : Int) = dC D s.toNat := by omega
  have b1 := a1 s.toNat l
  have ff : f = q_fu (q_fu f s.toNat (-1)) s.toNat (f s.toNat) := by rw [fu_fu, fu_self rfl]
  refine ⟨⟨fun t ht => ?_, okV_sub (fun t ht => ?_) a2⟩, fun w hw => ?_, fun r hr => ?_, fun r hr => ?_, fun t ht => by rw [r6.1, r6.2]; exact a6 t ht⟩
  · rw [r0]
    by_cases e : t = s.toNat
    · rw [e, q_fu_eq, q_fu_eq]; exact ⟨rfl, by omega, by omega⟩
    · rw [q_fu_ne e, q_fu_ne e]; exact a1 t ht
  · have e : ¬ t = s.toNat := fun z => ht (by rw [z, q_fu_eq])
    rw [q_fu_ne e]
  · rw [r1]
    by_cases e : w = (m 60 s.toNat).toNat
    · rw [e, q_fu_eq]
      refine ⟨⟨fun _ t ht q => ?_, fun _ => rfl⟩, by omega, by omega⟩
      by_cases e2 : t = s.toNat
      · rw [e2, q_fu_eq] at q; omega
      · rw [q_fu_ne e2] at q
        have k := a2 t s.toNat ht l e2 (by omega) h0
        exact k.1 (by omega)
    · rw [q_fu_ne e]
      have b := a3 w hw
      refine ⟨b.1.trans ⟨fun z t ht => ?_, fun z t ht q => ?_⟩, b.2⟩
      · by_cases e2 : t = s.toNat
        · rw [e2, q_fu_eq]; omega
        · rw [q_fu_ne e2]; exact z t ht
      · have e2 : ¬ t = s.toNat := fun y => by rw [y] at q; omega
        have := z t ht
        rw [q_fu_ne e2] at this
        exact this q
  · have b := a4 r hr
    have cn : q_cnt (uR f (dR D) (r : Int)) 20 = q_cnt (uR (q_fu f s.toNat (-1)) (dR D) (r : Int)) 20 + if s.toNat < 20 ∧ dR D s.toNat = (r : Int) then 1 else 0 := by
      rw [← uR_n (f := q_fu f s.toNat (-1)) (s := s.toNat) (v := f s.toNat) q_fu_eq h0, ← ff]
    rw [r2, r3]
    refine ⟨?_, fun t ht z w => ?_⟩
    · by_cases e : r = (m 66 s.toNat).toNat
      · have er : dR D s.toNat = (r : Int) := by rw [e]; exact tr.symm
        rw [if_pos ⟨l, er⟩] at cn
        rw [e, q_fu_eq, ← e]
        rw [b.1]; omega
      · have er : ¬ dR D s.toNat = (r : Int) := fun z => e (by omega)
        rw [if_neg (fun z => er z.2)] at cn
        rw [q_fu_ne e]
        rw [b.1]; omega
    · have e2 : ¬ t = s.toNat := fun y => z (by rw [y, q_fu_eq])
      rw [q_fu_ne e2] at z ⊢
      exact b.2 t ht z w
  · have b := a5 r hr
    have cn : q_cnt (uR f (dC D) (r : Int)) 20 = q_cnt (uR (q_fu f s.toNat (-1)) (dC D) (r : Int)) 20 + if s.toNat < 20 ∧ dC D s.toNat = (r : Int) then 1 else 0 := by
      rw [← uR_n (f := q_fu f s.toNat (-1)) (s := s.toNat) (v := f s.toNat) q_fu_eq h0, ← ff]
    rw [r4, r5]
    refine ⟨?_, fun t ht z w => ?_⟩
    · by_cases e : r = (m 67 s.toNat).toNat
      · have er : dC D s.toNat = (r : Int) := by rw [e]; exact tc.symm
        rw [if_pos ⟨l, er⟩] at cn
        rw [e, q_fu_eq, ← e]
        rw [b.1]; omega
      · have er : ¬ dC D s.toNat = (r : Int) := fun z => e (by omega)
        rw [if_neg (fun z => er z.2)] at cn
        rw [q_fu_ne e]
        rw [b.1]; omega
    · have e2 : ¬ t = s.toNat := fun y => z (by rw [y, q_fu_eq])
      rw [q_fu_ne e2] at z ⊢
      exact b.2 t ht z w

set_option maxRecDepth 100000 in
theorem c_allows (u : qU) (m y : qM) (D : qD) (f : Nat → Int) (s v : Int) (hD : dOk D) (hA : aS D f m) (hs : 0 ≤ s ∧ s < 20) (hv : 0 ≤ v ∧ v < 28) : qCt YX0_allows 1 0 0 [qR 59, qI s, qI v] (qLy u, m, y) (fun r h => ∃ z : Int, r = some (qI z) ∧ (z = 1 ∧ (f s.toNat = -1 ∧ okV D (q_fu f s.toNat v)) ∨ z = 0 ∧ ¬ (f s.toNat = -1 ∧ okV D (q_fu f s.toNat v))) ∧ h = (qLy u, m, y)) := by
  refine qCt.intro okX0_allows (Nat.le_of_ble_eq_true rfl) (fun κ hκ => ?_)
  have b60 := hA.1.1 s.toNat (by omega)
  have b66 := hA.2.2.2.2 s.toNat (by omega)
  have rc := hD.2.2.2 s.toNat (by omega)
  have al := al_ok hA hD hs hv
  have b61 := (hA.2.1 v.toNat (by omega)).2
  have dr := q_div_r v 4
  have er := q_rem_r v 4
  show qJ YX0_allows κ _ (qLy u, m, y) 0 0 0 [some (qR 59), some (qI s), some (qI v), none, none] []
  refine qJ.run hκ 3 (pc' := 5) (ls' := [some (qR 59), some (qI s), some (qI v), none, none]) (st' := [qI s, qR 60]) rfl ?_
  refine qJ.ald hκ rfl rfl rfl (by decide) (by omega) ?_
  show qJ YX0_allows κ _ (qLy u, m, y) 0 0 6 [some (qR 59), some (qI s), some (qI v), none, none] [qI (m 60 s.toNat)]
  refine qJ.run hκ 1 (pc' := 7) (ls' := [some (qR 59), some (qI s), some (qI v), none, none]) (st' := [qI (-1), qI (m 60 s.toNat)]) rfl ?_
  refine qJ.icmp_ne hκ (tgt := 20) rfl rfl (by omega) (by omega) (fun c7 => ?_) (fun c7 => ?_)
  · show qJ YX0_allows κ _ (qLy u, m, y) 0 0 20 [some (qR 59), some (qI s), some (qI v), none, none] []
    refine qJ.run hκ 1 (pc' := 21) (ls' := [some (qR 59), some (qI s), some (qI v), none, none]) (st' := [qI 0]) rfl ?_
    exact qJ.bret hκ rfl rfl (by omega) (by decide) (by decide) (⟨_, rfl, by rw [al.1]; omega, rfl⟩)
  · show qJ YX0_allows κ _ (qLy u, m, y) 0 0 10 [some (qR 59), some (qI s), some (qI v), none, none] []
    refine qJ.run hκ 3 (pc' := 15) (ls' := [some (qR 59), some (qI s), some (qI v), none, none]) (st' := [qI v, qR 61]) rfl ?_
    refine qJ.ald hκ rfl rfl rfl (by decide) (by omega) ?_
    show qJ YX0_allows κ _ (qLy u, m, y) 0 0 16 [some (qR 59), some (qI s), some (qI v), none, none] [qI (m 61 v.toNat)]
    refine qJ.run hκ 1 (pc' := 17) (ls' := [some (qR 59), some (qI s), some (qI v), none, none]) (st' := [qI (-1), qI (m 61 v.toNat)]) rfl ?_
    refine qJ.icmp_eq hκ (tgt := 22) rfl rfl (by omega) (by omega) (fun c17 => ?_) (fun c17 => ?_)
    · show qJ YX0_allows κ _ (qLy u, m, y) 0 0 22 [some (qR 59), some (qI s), some (qI v), none, none] []
      refine qJ.run hκ 3 (pc' := 27) (ls' := [some (qR 59), some (qI s), some (qI v), none, none]) (st' := [qI s, qR 66]) rfl ?_
      refine qJ.ald hκ rfl rfl rfl (by decide) (by omega) ?_
      show qJ YX0_allows κ _ (qLy u, m, y) 0 0 28 [some (qR 59), some (qI s), some (qI v), none, none] [qI (m 66 s.toNat)]
      refine qJ.run hκ 4 (pc' := 34) (ls' := [some (qR 59), some (qI s), some (qI v), some (qI (m 66 s.toNat)), none]) (st' := [qI (m 66 s.toNat), qR 62]) rfl ?_
      refine qJ.ald hκ rfl rfl rfl (by decide) (by omega) ?_
      show qJ YX0_allows κ _ (qLy u, m, y) 0 0 35 [some (qR 59), some (qI s), some (qI v), some (qI (m 66 s.toNat)), none] [qI (m 62 ((m 66 s.toNat).toNat))]
      refine qJ.if_le hκ (tgt := 52) rfl rfl (by omega) (fun c35 => ?_) (fun c35 => ?_)
      · show qJ YX0_allows κ _ (qLy u, m, y) 0 0 52 [some (qR 59), some (qI s), some (qI v), some (qI (m 66 s.toNat)), none] []
        refine qJ.run hκ 3 (pc' := 57) (ls' := [some (qR 59), some (qI s), some (qI v), some (qI (m 66 s.toNat)), none]) (st' := [qI s, qR 67]) rfl ?_
        refine qJ.ald hκ rfl rfl rfl (by decide) (by omega) ?_
        show qJ YX0_allows κ _ (qLy u, m, y) 0 0 58 [some (qR 59), some (qI s), some (qI v), some (qI (m 66 s.toNat)), none] [qI (m 67 s.toNat)]
        refine qJ.run hκ 4 (pc' := 66) (ls' := [some (qR 59), some (qI s), some (qI v), some (qI (m 66 s.toNat)), some (qI (m 67 s.toNat))]) (st' := [qI (m 67 s.toNat), qR 64]) rfl ?_
        refine qJ.ald hκ rfl rfl rfl (by decide) (by omega) ?_
        show qJ YX0_allows κ _ (qLy u, m, y) 0 0 67 [some (qR 59), some (qI s), some (qI v), some (qI (m 66 s.toNat)), some (qI (m 67 s.toNat))] [qI (m 64 ((m 67 s.toNat).toNat))]
        refine qJ.if_eq hκ (tgt := 83) rfl rfl (by omega) (fun c67 => ?_) (fun c67 => ?_)
        · show qJ YX0_allows κ _ (qLy u, m, y) 0 0 83 [some (qR 59), some (qI s), some (qI v), some (qI (m 66 s.toNat)), some (qI (m 67 s.toNat))] []
          refine qJ.run hκ 2 (pc' := 88) (ls' := [some (qR 59), some (qI s), some (qI v), some (qI (m 66 s.toNat)), some (qI (m 67 s.toNat))]) (st' := [qI 1]) rfl ?_
          exact qJ.bret hκ rfl rfl (by omega) (by decide) (by decide) (⟨_, rfl, by rw [al.1]; omega, rfl⟩)
        · show qJ YX0_allows κ _ (qLy u, m, y) 0 0 70 [some (qR 59), some (qI s), some (qI v), some (qI (m 66 s.toNat)), some (qI (m 67 s.toNat))] []
          refine qJ.run hκ 3 (pc' := 76) (ls' := [some (qR 59), some (qI s), some (qI v), some (qI (m 66 s.toNat)), some (qI (m 67 s.toNat))]) (st' := [qI (m 67 s.toNat), qR 65]) rfl ?_
          refine qJ.ald hκ rfl rfl rfl (by decide) (by omega) ?_
          show qJ YX0_allows κ _ (qLy u, m, y) 0 0 77 [some (qR 59), some (qI s), some (qI v), some (qI (m 66 s.toNat)), some (qI (m 67 s.toNat))] [qI (m 65 ((m 67 s.toNat).toNat))]
          refine qJ.run hκ 3 (pc' := 80) (ls' := [some (qR 59), some (qI s), some (qI v), some (qI (m 66 s.toNat)), some (qI (m 67 s.toNat))]) (st' := [qI (q_rem v 4), qI (m 65 ((m 67 s.toNat).toNat))]) rfl ?_
          refine qJ.icmp_ne hκ (tgt := 87) rfl rfl (by omega) (by omega) (fun c80 => ?_) (fun c80 => ?_)
          · show qJ YX0_allows κ _ (qLy u, m, y) 0 0 87 [some (qR 59), some (qI s), some (qI v), some (qI (m 66 s.toNat)), some (qI (m 67 s.toNat))] []
            refine qJ.run hκ 1 (pc' := 88) (ls' := [some (qR 59), some (qI s), some (qI v), some (qI (m 66 s.toNat)), some (qI (m 67 s.toNat))]) (st' := [qI 0]) rfl ?_
            exact qJ.bret hκ rfl rfl (by omega) (by decide) (by decide) (⟨_, rfl, by rw [al.1]; omega, rfl⟩)
          · show qJ YX0_allows κ _ (qLy u, m, y) 0 0 83 [some (qR 59), some (qI s), some (qI v), some (qI (m 66 s.toNat)), some (qI (m 67 s.toNat))] []
            refine qJ.run hκ 2 (pc' := 88) (ls' := [some (qR 59), some (qI s), some (qI v), some (qI (m 66 s.toNat)), some (qI (m 67 s.toNat))]) (st' := [qI 1]) rfl ?_
            exact qJ.bret hκ rfl rfl (by omega) (by decide) (by decide) (⟨_, rfl, by rw [al.1]; omega, rfl⟩)
      · show qJ YX0_allows κ _ (qLy u, m, y) 0 0 38 [some (qR 59), some (qI s), some (qI v), some (qI (m 66 s.toNat)), none] []
        refine qJ.run hκ 3 (pc' := 43) (ls' := [some (qR 59), some (qI s), some (qI v), some (qI (m 66 s.toNat)), none]) (st' := [qI (m 66 s.toNat), qR 63]) rfl ?_
        refine qJ.ald hκ rfl rfl rfl (by decide) (by omega) ?_
        show qJ YX0_allows κ _ (qLy u, m, y) 0 0 44 [some (qR 59), some (qI s), some (qI v), some (qI (m 66 s.toNat)), none] [qI (m 63 ((m 66 s.toNat).toNat))]
        refine qJ.run hκ 3 (pc' := 47) (ls' := [some (qR 59), some (qI s), some (qI v), some (qI (m 66 s.toNat)), none]) (st' := [qI (q_div v 4), qI (m 63 ((m 66 s.toNat).toNat))]) rfl ?_
        refine qJ.icmp_eq hκ (tgt := 52) rfl rfl (by omega) (by omega) (fun c47 => ?_) (fun c47 => ?_)
        · show qJ YX0_allows κ _ (qLy u, m, y) 0 0 52 [some (qR 59), some (qI s), some (qI v), some (qI (m 66 s.toNat)), none] []
          refine qJ.run hκ 3 (pc' := 57) (ls' := [some (qR 59), some (qI s), some (qI v), some (qI (m 66 s.toNat)), none]) (st' := [qI s, qR 67]) rfl ?_
          refine qJ.ald hκ rfl rfl rfl (by decide) (by omega) ?_
          show qJ YX0_allows κ _ (qLy u, m, y) 0 0 58 [some (qR 59), some (qI s), some (qI v), some (qI (m 66 s.toNat)), none] [qI (m 67 s.toNat)]
          refine qJ.run hκ 4 (pc' := 66) (ls' := [some (qR 59), some (qI s), some (qI v), some (qI (m 66 s.toNat)), some (qI (m 67 s.toNat))]) (st' := [qI (m 67 s.toNat), qR 64]) rfl ?_
          refine qJ.ald hκ rfl rfl rfl (by decide) (by omega) ?_
          show qJ YX0_allows κ _ (qLy u, m, y) 0 0 67 [some (qR 59), some (qI s), some (qI v), some (qI (m 66 s.toNat)), some (qI (m 67 s.toNat))] [qI (m 64 ((m 67 s.toNat).toNat))]
          refine qJ.if_eq hκ (tgt := 83) rfl rfl (by omega) (fun c67 => ?_) (fun c67 => ?_)
          · show qJ YX0_allows κ _ (qLy u, m, y) 0 0 83 [some (qR 59), some (qI s), some (qI v), some (qI (m 66 s.toNat)), some (qI (m 67 s.toNat))] []
            refine qJ.run hκ 2 (pc' := 88) (ls' := [some (qR 59), some (qI s), some (qI v), some (qI (m 66 s.toNat)), some (qI (m 67 s.toNat))]) (st' := [qI 1]) rfl ?_
            exact qJ.bret hκ rfl rfl (by omega) (by decide) (by decide) (⟨_, rfl, by rw [al.1]; omega, rfl⟩)
          · show qJ YX0_allows κ _ (qLy u, m, y) 0 0 70 [some (qR 59), some (qI s), some (qI v), some (qI (m 66 s.toNat)), some (qI (m 67 s.toNat))] []
            refine qJ.run hκ 3 (pc' := 76) (ls' := [some (qR 59), some (qI s), some (qI v), some (qI (m 66 s.toNat)), some (qI (m 67 s.toNat))]) (st' := [qI (m 67 s.toNat), qR 65]) rfl ?_
            refine qJ.ald hκ rfl rfl rfl (by decide) (by omega) ?_
            show qJ YX0_allows κ _ (qLy u, m, y) 0 0 77 [some (qR 59), some (qI s), some (qI v), some (qI (m 66 s.toNat)), some (qI (m 67 s.toNat))] [qI (m 65 ((m 67 s.toNat).toNat))]
            refine qJ.run hκ 3 (pc' := 80) (ls' := [some (qR 59), some (qI s), some (qI v), some (qI (m 66 s.toNat)), some (qI (m 67 s.toNat))]) (st' := [qI (q_rem v 4), qI (m 65 ((m 67 s.toNat).toNat))]) rfl ?_
            refine qJ.icmp_ne hκ (tgt := 87) rfl rfl (by omega) (by omega) (fun c80 => ?_) (fun c80 => ?_)
            · show qJ YX0_allows κ _ (qLy u, m, y) 0 0 87 [some (qR 59), some (qI s), some (qI v), some (qI (m 66 s.toNat)), some (qI (m 67 s.toNat))] []
              refine qJ.run hκ 1 (pc' := 88) (ls' := [some (qR 59), some (qI s), some (qI v), some (qI (m 66 s.toNat)), some (qI (m 67 s.toNat))]) (st' := [qI 0]) rfl ?_
              exact qJ.bret hκ rfl rfl (by omega) (by decide) (by decide) (⟨_, rfl, by rw [al.1]; omega, rfl⟩)
            · show qJ YX0_allows κ _ (qLy u, m, y) 0 0 83 [some (qR 59), some (qI s), some (qI v), some (qI (m 66 s.toNat)), some (qI (m 67 s.toNat))] []
              refine qJ.run hκ 2 (pc' := 88) (ls' := [some (qR 59), some (qI s), some (qI v), some (qI (m 66 s.toNat)), some (qI (m 67 s.toNat))]) (st' := [qI 1]) rfl ?_
              exact qJ.bret hκ rfl rfl (by omega) (by decide) (by decide) (⟨_, rfl, by rw [al.1]; omega, rfl⟩)
        · show qJ YX0_allows κ _ (qLy u, m, y) 0 0 50 [some (qR 59), some (qI s), some (qI v), some (qI (m 66 s.toNat)), none] []
          refine qJ.run hκ 1 (pc' := 51) (ls' := [some (qR 59), some (qI s), some (qI v), some (qI (m 66 s.toNat)), none]) (st' := [qI 0]) rfl ?_
          exact qJ.bret hκ rfl rfl (by omega) (by decide) (by decide) (⟨_, rfl, by rw [al.1]; omega, rfl⟩)
    · show qJ YX0_allows κ _ (qLy u, m, y) 0 0 20 [some (qR 59), some (qI s), some (qI v), none, none] []
      refine qJ.run hκ 1 (pc' := 21) (ls' := [some (qR 59), some (qI s), some (qI v), none, none]) (st' := [qI 0]) rfl ?_
      exact qJ.bret hκ rfl rfl (by omega) (by decide) (by decide) (⟨_, rfl, by rw [al.1]; omega, rfl⟩)

set_option maxRecDepth 100000 in
theorem c_bind (u : qU) (m y : qM) (D : qD) (f : Nat → Int) (s v : Int) (hD : dOk D) (hA : aS D f m) (hs : 0 ≤ s ∧ s < 20) (hv : 0 ≤ v ∧ v < 28) (h0 : f s.toNat = -1) (hk : okV D (q_fu f s.toNat v)) : qCt YX0_bind 1 0 0 [qR 59, qI s, qI v] (qLy u, m, y) (fun r h => r = none ∧ ∃ m', h = (qLy u, m', y) ∧ keep (kN kAs) m' = keep (kN kAs) m ∧ aS D (q_fu f s.toNat v) m') := by
  refine qCt.intro okX0_bind (Nat.le_of_ble_eq_true rfl) (fun κ hκ => ?_)
  have b60 := hA.1.1 s.toNat (by omega)
  have b66 := hA.2.2.2.2 s.toNat (by omega)
  have rc := hD.2.2.2 s.toNat (by omega)
  show qJ YX0_bind κ _ (qLy u, m, y) 0 0 0 [some (qR 59), some (qI s), some (qI v), none, none] []
  refine qJ.run hκ 4 (pc' := 6) (ls' := [some (qR 59), some (qI s), some (qI v), none, none]) (st' := [qI v, qI s, qR 60]) rfl ?_
  refine qJ.ast hκ rfl rfl rfl (by decide) (by omega) ?_
  show qJ YX0_bind κ _ (qLy u, (q_up m 60 s.toNat v), y) 0 0 7 [some (qR 59), some (qI s), some (qI v), none, none] []
  refine qJ.run hκ 4 (pc' := 13) (ls' := [some (qR 59), some (qI s), some (qI v), none, none]) (st' := [qI s, qI v, qR 61]) rfl ?_
  refine qJ.ast hκ rfl rfl rfl (by decide) (by omega) ?_
  show qJ YX0_bind κ _ (qLy u, (q_up (q_up m 60 s.toNat v) 61 v.toNat s), y) 0 0 14 [some (qR 59), some (qI s), some (qI v), none, none] []
  refine qJ.run hκ 3 (pc' := 19) (ls' := [some (qR 59), some (qI s), some (qI v), none, none]) (st' := [qI s, qR 66]) rfl ?_
  refine qJ.ald hκ rfl rfl rfl (by decide) (by omega) ?_
  show qJ YX0_bind κ _ (qLy u, (q_up (q_up m 60 s.toNat v) 61 v.toNat s), y) 0 0 20 [some (qR 59), some (qI s), some (qI v), none, none] [qI (m 66 s.toNat)]
  refine qJ.run hκ 5 (pc' := 27) (ls' := [some (qR 59), some (qI s), some (qI v), some (qI (m 66 s.toNat)), none]) (st' := [qI (m 66 s.toNat), qR 62, qI (m 66 s.toNat), qR 62]) rfl ?_
  refine qJ.ald hκ rfl rfl rfl (by decide) (by omega) ?_
  show qJ YX0_bind κ _ (qLy u, (q_up (q_up m 60 s.toNat v) 61 v.toNat s), y) 0 0 28 [some (qR 59), some (qI s), some (qI v), some (qI (m 66 s.toNat)), none] [qI (m 62 ((m 66 s.toNat).toNat)), qI (m 66 s.toNat), qR 62]
  refine qJ.run hκ 2 (pc' := 30) (ls' := [some (qR 59), some (qI s), some (qI v), some (qI (m 66 s.toNat)), none]) (st' := [qI ((m 62 ((m 66 s.toNat).toNat)) + 1), qI (m 66 s.toNat), qR 62]) rfl ?_
  refine qJ.ast hκ rfl rfl rfl (by decide) (by omega) ?_
  show qJ YX0_bind κ _ (qLy u, (q_up (q_up (q_up m 60 s.toNat v) 61 v.toNat s) 62 ((m 66 s.toNat).toNat) ((m 62 ((m 66 s.toNat).toNat)) + 1)), y) 0 0 31 [some (qR 59), some (qI s), some (qI v), some (qI (m 66 s.toNat)), none] []
  refine qJ.run hκ 6 (pc' := 39) (ls' := [some (qR 59), some (qI s), some (qI v), some (qI (m 66 s.toNat)), none]) (st' := [qI (q_div v 4), qI (m 66 s.toNat), qR 63]) rfl ?_
  refine qJ.ast hκ rfl rfl rfl (by decide) (by omega) ?_
  show qJ YX0_bind κ _ (qLy u, (q_up (q_up (q_up (q_up m 60 s.toNat v) 61 v.toNat s) 62 ((m 66 s.toNat).toNat) ((m 62 ((m 66 s.toNat).toNat)) + 1)) 63 ((m 66 s.toNat).toNat) (q_div v 4)), y) 0 0 40 [some (qR 59), some (qI s), some (qI v), some (qI (m 66 s.toNat)), none] []
  refine qJ.run hκ 3 (pc' := 45) (ls' := [some (qR 59), some (qI s), some (qI v), some (qI (m 66 s.toNat)), none]) (st' := [qI s, qR 67]) rfl ?_
  refine qJ.ald hκ rfl rfl rfl (by decide) (by omega) ?_
  show qJ YX0_bind κ _ (qLy u, (q_up (q_up (q_up (q_up m 60 s.toNat v) 61 v.toNat s) 62 ((m 66 s.toNat).toNat) ((m 62 ((m 66 s.toNat).toNat)) + 1)) 63 ((m 66 s.toNat).toNat) (q_div v 4)), y) 0 0 46 [some (qR 59), some (qI s), some (qI v), some (qI (m 66 s.toNat)), none] [qI (m 67 s.toNat)]
  refine qJ.run hκ 5 (pc' := 55) (ls' := [some (qR 59), some (qI s), some (qI v), some (qI (m 66 s.toNat)), some (qI (m 67 s.toNat))]) (st' := [qI (m 67 s.toNat), qR 64, qI (m 67 s.toNat), qR 64]) rfl ?_
  refine qJ.ald hκ rfl rfl rfl (by decide) (by omega) ?_
  show qJ YX0_bind κ _ (qLy u, (q_up (q_up (q_up (q_up m 60 s.toNat v) 61 v.toNat s) 62 ((m 66 s.toNat).toNat) ((m 62 ((m 66 s.toNat).toNat)) + 1)) 63 ((m 66 s.toNat).toNat) (q_div v 4)), y) 0 0 56 [some (qR 59), some (qI s), some (qI v), some (qI (m 66 s.toNat)), some (qI (m 67 s.toNat))] [qI (m 64 ((m 67 s.toNat).toNat)), qI (m 67 s.toNat), qR 64]
  refine qJ.run hκ 2 (pc' := 58) (ls' := [some (qR 59), some (qI s), some (qI v), some (qI (m 66 s.toNat)), some (qI (m 67 s.toNat))]) (st' := [qI ((m 64 ((m 67 s.toNat).toNat)) + 1), qI (m 67 s.toNat), qR 64]) rfl ?_
  refine qJ.ast hκ rfl rfl rfl (by decide) (by omega) ?_
  show qJ YX0_bind κ _ (qLy u, (q_up (q_up (q_up (q_up (q_up m 60 s.toNat v) 61 v.toNat s) 62 ((m 66 s.toNat).toNat) ((m 62 ((m 66 s.toNat).toNat)) + 1)) 63 ((m 66 s.toNat).toNat) (q_div v 4)) 64 ((m 67 s.toNat).toNat) ((m 64 ((m 67 s.toNat).toNat)) + 1)), y) 0 0 59 [some (qR 59), some (qI s), some (qI v), some (qI (m 66 s.toNat)), some (qI (m 67 s.toNat))] []
  refine qJ.run hκ 6 (pc' := 68) (ls' := [some (qR 59), some (qI s), some (qI v), some (qI (m 66 s.toNat)), some (qI (m 67 s.toNat))]) (st' := [qI (q_rem v 4), qI (m 67 s.toNat), qR 65]) rfl ?_
  refine qJ.ast hκ rfl rfl rfl (by decide) (by omega) ?_
  show qJ YX0_bind κ _ (qLy u, (q_up (q_up (q_up (q_up (q_up (q_up m 60 s.toNat v) 61 v.toNat s) 62 ((m 66 s.toNat).toNat) ((m 62 ((m 66 s.toNat).toNat)) + 1)) 63 ((m 66 s.toNat).toNat) (q_div v 4)) 64 ((m 67 s.toNat).toNat) ((m 64 ((m 67 s.toNat).toNat)) + 1)) 65 ((m 67 s.toNat).toNat) (q_rem v 4)), y) 0 0 69 [some (qR 59), some (qI s), some (qI v), some (qI (m 66 s.toNat)), some (qI (m 67 s.toNat))] []
  exact qJ.vret hκ rfl rfl (by decide) (by decide) (⟨rfl, (q_up (q_up (q_up (q_up (q_up (q_up m 60 s.toNat v) 61 v.toNat s) 62 ((m 66 s.toNat).toNat) ((m 62 ((m 66 s.toNat).toNat)) + 1)) 63 ((m 66 s.toNat).toNat) (q_div v 4)) 64 ((m 67 s.toNat).toNat) ((m 64 ((m 67 s.toNat).toNat)) + 1)) 65 ((m 67 s.toNat).toNat) (q_rem v 4)), rfl, (Eq.trans (keep_up (by rfl)) (Eq.trans (keep_up (by rfl)) (Eq.trans (keep_up (by rfl)) (Eq.trans (keep_up (by rfl)) (Eq.trans (keep_up (by rfl)) (Eq.trans (keep_up (by rfl)) rfl)))))), aS_bind hA hD hs hv h0 hk (by rw [q_up_rw (by decide), q_up_rw (by decide), q_up_rw (by decide), q_up_rw (by decide), q_up_rw (by decide), q_up_fu]) (by rw [q_up_rw (by decide), q_up_rw (by decide), q_up_rw (by decide), q_up_rw (by decide), q_up_fu, q_up_rw (by decide)]) (by rw [q_up_rw (by decide), q_up_rw (by decide), q_up_rw (by decide), q_up_fu, q_up_rw (by decide), q_up_rw (by decide)]) (by rw [q_up_rw (by decide), q_up_rw (by decide), q_up_fu, q_up_rw (by decide), q_up_rw (by decide), q_up_rw (by decide)]) (by rw [q_up_rw (by decide), q_up_fu, q_up_rw (by decide), q_up_rw (by decide), q_up_rw (by decide), q_up_rw (by decide)]) (by rw [q_up_fu, q_up_rw (by decide), q_up_rw (by decide), q_up_rw (by decide), q_up_rw (by decide), q_up_rw (by decide)]) ⟨by rw [q_up_rw (by decide), q_up_rw (by decide), q_up_rw (by decide), q_up_rw (by decide), q_up_rw (by decide), q_up_rw (by decide)], by rw [q_up_rw (by decide), q_up_rw (by decide), q_up_rw (by decide), q_up_rw (by decide), q_up_rw (by decide), q_up_rw (by decide)]⟩⟩)

set_option maxRecDepth 100000 in
theorem c_unbind (u : qU) (m y : qM) (D : qD) (f : Nat → Int) (s : Int) (hD : dOk D) (hA : aS D f m) (hs : 0 ≤ s ∧ s < 20) (h0 : ¬ f s.toNat = -1) : qCt YX0_unbind 1 0 0 [qR 59, qI s] (qLy u, m, y) (fun r h => r = none ∧ ∃ m', h = (qLy u, m', y) ∧ keep (kN kAs) m' = keep (kN kAs) m ∧ aS D (q_fu f s.toNat (-1)) m') := by
  refine qCt.intro okX0_unbind (Nat.le_of_ble_eq_true rfl) (fun κ hκ => ?_)
  have b60 := hA.1.1 s.toNat (by omega)
  have b66 := hA.2.2.2.2 s.toNat (by omega)
  have rc := hD.2.2.2 s.toNat (by omega)
  show qJ YX0_unbind κ _ (qLy u, m, y) 0 0 0 [some (qR 59), some (qI s)] []
  refine qJ.run hκ 5 (pc' := 9) (ls' := [some (qR 59), some (qI s)]) (st' := [qI s, qR 60, qR 61]) rfl ?_
  refine qJ.ald hκ rfl rfl rfl (by decide) (by omega) ?_
  show qJ YX0_unbind κ _ (qLy u, m, y) 0 0 10 [some (qR 59), some (qI s)] [qI (m 60 s.toNat), qR 61]
  refine qJ.run hκ 1 (pc' := 11) (ls' := [some (qR 59), some (qI s)]) (st' := [qI (-1), qI (m 60 s.toNat), qR 61]) rfl ?_
  refine qJ.ast hκ rfl rfl rfl (by decide) (by omega) ?_
  show qJ YX0_unbind κ _ (qLy u, (q_up m 61 ((m 60 s.toNat).toNat) (-1)), y) 0 0 12 [some (qR 59), some (qI s)] []
  refine qJ.run hκ 4 (pc' := 18) (ls' := [some (qR 59), some (qI s)]) (st' := [qI (-1), qI s, qR 60]) rfl ?_
  refine qJ.ast hκ rfl rfl rfl (by decide) (by omega) ?_
  show qJ YX0_unbind κ _ (qLy u, (q_up (q_up m 61 ((m 60 s.toNat).toNat) (-1)) 60 s.toNat (-1)), y) 0 0 19 [some (qR 59), some (qI s)] []
  refine qJ.run hκ 5 (pc' := 28) (ls' := [some (qR 59), some (qI s)]) (st' := [qI s, qR 66, qR 62]) rfl ?_
  refine qJ.ald hκ rfl rfl rfl (by decide) (by omega) ?_
  show qJ YX0_unbind κ _ (qLy u, (q_up (q_up m 61 ((m 60 s.toNat).toNat) (-1)) 60 s.toNat (-1)), y) 0 0 29 [some (qR 59), some (qI s)] [qI (m 66 s.toNat), qR 62]
  refine qJ.run hκ 1 (pc' := 30) (ls' := [some (qR 59), some (qI s)]) (st' := [qI (m 66 s.toNat), qR 62, qI (m 66 s.toNat), qR 62]) rfl ?_
  refine qJ.ald hκ rfl rfl rfl (by decide) (by omega) ?_
  show qJ YX0_unbind κ _ (qLy u, (q_up (q_up m 61 ((m 60 s.toNat).toNat) (-1)) 60 s.toNat (-1)), y) 0 0 31 [some (qR 59), some (qI s)] [qI (m 62 ((m 66 s.toNat).toNat)), qI (m 66 s.toNat), qR 62]
  refine qJ.run hκ 2 (pc' := 33) (ls' := [some (qR 59), some (qI s)]) (st' := [qI ((m 62 ((m 66 s.toNat).toNat)) - 1), qI (m 66 s.toNat), qR 62]) rfl ?_
  refine qJ.ast hκ rfl rfl rfl (by decide) (by omega) ?_
  show qJ YX0_unbind κ _ (qLy u, (q_up (q_up (q_up m 61 ((m 60 s.toNat).toNat) (-1)) 60 s.toNat (-1)) 62 ((m 66 s.toNat).toNat) ((m 62 ((m 66 s.toNat).toNat)) - 1)), y) 0 0 34 [some (qR 59), some (qI s)] []
  refine qJ.run hκ 5 (pc' := 43) (ls' := [some (qR 59), some (qI s)]) (st' := [qI s, qR 67, qR 64]) rfl ?_
  refine qJ.ald hκ rfl rfl rfl (by decide) (by omega) ?_
  show qJ YX0_unbind κ _ (qLy u, (q_up (q_up (q_up m 61 ((m 60 s.toNat).toNat) (-1)) 60 s.toNat (-1)) 62 ((m 66 s.toNat).toNat) ((m 62 ((m 66 s.toNat).toNat)) - 1)), y) 0 0 44 [some (qR 59), some (qI s)] [qI (m 67 s.toNat), qR 64]
  refine qJ.run hκ 1 (pc' := 45) (ls' := [some (qR 59), some (qI s)]) (st' := [qI (m 67 s.toNat), qR 64, qI (m 67 s.toNat), qR 64]) rfl ?_
  refine qJ.ald hκ rfl rfl rfl (by decide) (by omega) ?_
  show qJ YX0_unbind κ _ (qLy u, (q_up (q_up (q_up m 61 ((m 60 s.toNat).toNat) (-1)) 60 s.toNat (-1)) 62 ((m 66 s.toNat).toNat) ((m 62 ((m 66 s.toNat).toNat)) - 1)), y) 0 0 46 [some (qR 59), some (qI s)] [qI (m 64 ((m 67 s.toNat).toNat)), qI (m 67 s.toNat), qR 64]
  refine qJ.run hκ 2 (pc' := 48) (ls' := [some (qR 59), some (qI s)]) (st' := [qI ((m 64 ((m 67 s.toNat).toNat)) - 1), qI (m 67 s.toNat), qR 64]) rfl ?_
  refine qJ.ast hκ rfl rfl rfl (by decide) (by omega) ?_
  show qJ YX0_unbind κ _ (qLy u, (q_up (q_up (q_up (q_up m 61 ((m 60 s.toNat).toNat) (-1)) 60 s.toNat (-1)) 62 ((m 66 s.toNat).toNat) ((m 62 ((m 66 s.toNat).toNat)) - 1)) 64 ((m 67 s.toNat).toNat) ((m 64 ((m 67 s.toNat).toNat)) - 1)), y) 0 0 49 [some (qR 59), some (qI s)] []
  exact qJ.vret hκ rfl rfl (by decide) (by decide) (⟨rfl, (q_up (q_up (q_up (q_up m 61 ((m 60 s.toNat).toNat) (-1)) 60 s.toNat (-1)) 62 ((m 66 s.toNat).toNat) ((m 62 ((m 66 s.toNat).toNat)) - 1)) 64 ((m 67 s.toNat).toNat) ((m 64 ((m 67 s.toNat).toNat)) - 1)), rfl, (Eq.trans (keep_up (by rfl)) (Eq.trans (keep_up (by rfl)) (Eq.trans (keep_up (by rfl)) (Eq.trans (keep_up (by rfl)) rfl)))), aS_unbind hA hD hs h0 (by rw [q_up_rw (by decide), q_up_rw (by decide), q_up_fu, q_up_rw (by decide)]) (by rw [q_up_rw (by decide), q_up_rw (by decide), q_up_rw (by decide), q_up_fu]) (by rw [q_up_rw (by decide), q_up_fu, q_up_rw (by decide), q_up_rw (by decide)]) (by rw [q_up_rw (by decide), q_up_rw (by decide), q_up_rw (by decide), q_up_rw (by decide)]) (by rw [q_up_fu, q_up_rw (by decide), q_up_rw (by decide), q_up_rw (by decide)]) (by rw [q_up_rw (by decide), q_up_rw (by decide), q_up_rw (by decide), q_up_rw (by decide)]) ⟨by rw [q_up_rw (by decide), q_up_rw (by decide), q_up_rw (by decide), q_up_rw (by decide)], by rw [q_up_rw (by decide), q_up_rw (by decide), q_up_rw (by decide), q_up_rw (by decide)]⟩⟩)

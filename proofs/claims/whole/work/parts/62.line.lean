/-! printed by p62.py: a line of the class -/
def kRl : Nat → Nat → Bool := fun i j => decide ((i = 49 ∧ (j = 0 ∨ 5 ≤ j)) ∨ i = 50 ∨ i = 51)
theorem kRdl : ∀ i j, kN kRl i j = true → kN kRd i j = true := by
  intro i j h
  have h1 := kN_t.mp h
  refine kN_t.mpr fun z => h1 ?_
  unfold kRd at z
  unfold kRl
  have z2 := of_decide_eq_true z
  exact decide_eq_true (Or.inl ⟨z2.1, Or.inr z2.2.1⟩)
/-- a step from token to token -/
def St (t : Nat → Int) (L p k : Int) (D : Prop) (p' k' : Int) : Prop := (¬ k = -1 ∧ p' = p ∧ k' = k) ∨ (k = -1 ∧ D ∧ p' = tE t L p ∧ k' = -1) ∨ (k = -1 ∧ ¬ D ∧ p' = p ∧ k' = tS t L p)
def nx3 (t : Nat → Int) (L : Int) (m : qM) (p k : Int) (D : Prop) (m' : qM) (p' k' : Int) : Prop := (keep (kN kRd) m' = keep (kN kRd) m ∧ rdS m' p' k' ∧ m' 52 = t ∧ m' 49 4 = L) ∧ St t L p k D p' k'
theorem nxt_3 {t : Nat → Int} {L : Int} {m m' : qM} {p k p' k' : Int} {D : Prop} (ht : m 52 = t) (hl : m 49 4 = L) (h : nxt m p k D m' p' k') : nx3 t L m p k D m' p' k' := by
  subst ht; subst hl
  exact ⟨⟨h.1, h.2.1, congrFun h.1 52, congrFun (congrFun h.1 49) 4⟩, h.2.2⟩
abbrev tMk (c : Int) (t : Nat → Int) (L p : Int) : Prop := tK t L p = 2 ∧ sB t L (tS t L p) = c
theorem St_k {t : Nat → Int} {L p k p' k' : Int} {D : Prop} (h : St t L p k D p' k') (hk : ¬ k = -1) : k' = k ∧ p' = p := by
  rcases h with ⟨_, a, b⟩ | ⟨a, _⟩ | ⟨a, _⟩
  · exact ⟨b, a⟩
  · exact absurd a hk
  · exact absurd a hk
theorem St_f {t : Nat → Int} {L p k p' k' : Int} {D : Prop} (h : St t L p k D p' k') (hk : k = -1) : (D ∧ p' = tE t L p ∧ k' = -1) ∨ (¬ D ∧ k' = tS t L p) := by
  rcases h with ⟨a, _⟩ | ⟨_, a, b, c⟩ | ⟨_, a, b, c⟩
  · exact absurd hk a
  · exact Or.inl ⟨a, b, c⟩
  · exact Or.inr ⟨a, c⟩
/-- where a line ends, where it is stuck -/
def q3 (t : Nat → Int) (L p : Int) : Int := tE t L (tE t L (tE t L p))
def q5 (t : Nat → Int) (L p : Int) : Int := if tA t L (q3 t L p) = 3 then tE t L (tE t L (q3 t L p)) else tE t L (q3 t L p)
def q6 (t : Nat → Int) (L p : Int) : Int := tE t L (q5 t L p)
def lO (t : Nat → Int) (L p : Int) : Int := if tA t L (q3 t L p) = 3 then tC t L (tE t L (q3 t L p)) else -1
def lnX (t : Nat → Int) (L p : Int) : Int := if tC t L p = -1 then tS t L p else if tD t L (tE t L p) = -1 then tS t L (tE t L p) else if ¬ tMk 58 t L (tE t L (tE t L p)) then tS t L (tE t L (tE t L p)) else if tA t L (q3 t L p) = -1 then tS t L (q3 t L p) else if tA t L (q3 t L p) = 3 ∧ tC t L (tE t L (q3 t L p)) = -1 then tS t L (tE t L (q3 t L p)) else if ¬ tMk 59 t L (q5 t L p) then tS t L (q5 t L p) else -1
theorem ts0 {t : Nat → Int} {L p : Int} (h0 : 0 ≤ p) (h : p ≤ L) : ¬ tS t L p = -1 := by have := tS_r t h; omega
theorem te0 {t : Nat → Int} {L p : Int} (h0 : 0 ≤ p) (h : p ≤ L) : 0 ≤ tE t L p ∧ tE t L p ≤ L := by have := tS_r t h; have := tE_r t h; omega

theorem ln_as {t : Nat → Int} {L p p1 k1 p2 k2 p3 k3 p4 k4 p5 k5 p6 k6 : Int} (h0 : 0 ≤ p ∧ p ≤ L) (s1 : St t L p (-1) (¬ tC t L p = -1) p1 k1) (s2 : St t L p1 k1 (¬ tD t L p1 = -1) p2 k2) (s3 : St t L p2 k2 (tMk 58 t L p2) p3 k3) (s4 : St t L p3 k3 (¬ tA t L p3 = -1) p4 k4) (s5 : St t L p4 k4 (¬ tC t L p4 = -1) p5 k5) (s6 : St t L p5 k5 (tMk 59 t L p5) p6 k6) (ha : tA t L p3 = 3) : (k6 = -1 ∧ lnX t L p = -1 ∧ p6 = q6 t L p ∧ p1 = tE t L p ∧ p3 = q3 t L p ∧ p4 = tE t L (q3 t L p) ∧ ¬ tC t L p = -1 ∧ ¬ tD t L p1 = -1 ∧ ¬ tA t L p3 = -1 ∧ ¬ tC t L p4 = -1) ∨ (¬ k6 = -1 ∧ k6 = lnX t L p) := by
  have r0 : 0 ≤ p ∧ p ≤ L := h0
  rcases St_f s1 rfl with ⟨d1, e1, f1⟩ | ⟨d1, g1⟩
  rotate_left
  · have x1 : ¬ k1 = -1 := by rw [g1]; exact ts0 r0.1 r0.2
    have y2 := (St_k s2 x1).1
    have x2 : ¬ k2 = -1 := by rw [y2]; exact x1
    have y3 := (St_k s3 x2).1
    have x3 : ¬ k3 = -1 := by rw [y3]; exact x2
    have y4 := (St_k s4 x3).1
    have x4 : ¬ k4 = -1 := by rw [y4]; exact x3
    have y5 := (St_k s5 x4).1
    have x5 : ¬ k5 = -1 := by rw [y5]; exact x4
    have y6 := (St_k s6 x5).1
    have x6 : ¬ k6 = -1 := by rw [y6]; exact x5
    refine Or.inr ⟨x6, ?_⟩
    rw [y6, y5, y4, y3, y2, g1]
    unfold lnX
    rw [if_pos (Decidable.not_not.mp d1)]
  have r1 : 0 ≤ p1 ∧ p1 ≤ L := by rw [e1]; exact te0 r0.1 r0.2
  rcases St_f s2 f1 with ⟨d2, e2, f2⟩ | ⟨d2, g2⟩
  rotate_left
  · have x2 : ¬ k2 = -1 := by rw [g2]; exact ts0 r1.1 r1.2
    have y3 := (St_k s3 x2).1
    have x3 : ¬ k3 = -1 := by rw [y3]; exact x2
    have y4 := (St_k s4 x3).1
    have x4 : ¬ k4 = -1 := by rw [y4]; exact x3
    have y5 := (St_k s5 x4).1
    have x5 : ¬ k5 = -1 := by rw [y5]; exact x4
    have y6 := (St_k s6 x5).1
    have x6 : ¬ k6 = -1 := by rw [y6]; exact x5
    refine Or.inr ⟨x6, ?_⟩
    rw [y6, y5, y4, y3, g2]
    unfold lnX
    rw [e1] at d2
    rw [e1]
    rw [if_neg d1, if_pos (Decidable.not_not.mp d2)]
  have r2 : 0 ≤ p2 ∧ p2 ≤ L := by rw [e2]; exact te0 r1.1 r1.2
  rcases St_f s3 f2 with ⟨d3, e3, f3⟩ | ⟨d3, g3⟩
  rotate_left
  · have x3 : ¬ k3 = -1 := by rw [g3]; exact ts0 r2.1 r2.2
    have y4 := (St_k s4 x3).1
    have x4 : ¬ k4 = -1 := by rw [y4]; exact x3
    have y5 := (St_k s5 x4).1
    have x5 : ¬ k5 = -1 := by rw [y5]; exact x4
    have y6 := (St_k s6 x5).1
    have x6 : ¬ k6 = -1 := by rw [y6]; exact x5
    refine Or.inr ⟨x6, ?_⟩
    rw [y6, y5, y4, g3]
    unfold lnX
    rw [e1] at d2
    rw [e2, e1] at d3
    rw [e2, e1]
    rw [if_neg d1, if_neg d2, if_pos d3]
  have r3 : 0 ≤ p3 ∧ p3 ≤ L := by rw [e3]; exact te0 r2.1 r2.2
  rcases St_f s4 f3 with ⟨d4, e4, f4⟩ | ⟨d4, g4⟩
  rotate_left
  · have x4 : ¬ k4 = -1 := by rw [g4]; exact ts0 r3.1 r3.2
    have y5 := (St_k s5 x4).1
    have x5 : ¬ k5 = -1 := by rw [y5]; exact x4
    have y6 := (St_k s6 x5).1
    have x6 : ¬ k6 = -1 := by rw [y6]; exact x5
    refine Or.inr ⟨x6, ?_⟩
    rw [y6, y5, g4]
    unfold lnX
    rw [e1] at d2
    rw [e2, e1] at d3
    rw [e3, e2, e1] at d4
    rw [e3, e2, e1] at ha
    have ha2 : tA t L (q3 t L p) = 3 := ha
    rw [e3, e2, e1]
    rw [if_neg d1, if_neg d2, if_neg (fun z => z d3), if_pos (show tA t L (q3 t L p) = -1 from Decidable.not_not.mp d4)]
    all_goals rfl
  have r4 : 0 ≤ p4 ∧ p4 ≤ L := by rw [e4]; exact te0 r3.1 r3.2
  rcases St_f s5 f4 with ⟨d5, e5, f5⟩ | ⟨d5, g5⟩
  rotate_left
  · have x5 : ¬ k5 = -1 := by rw [g5]; exact ts0 r4.1 r4.2
    have y6 := (St_k s6 x5).1
    have x6 : ¬ k6 = -1 := by rw [y6]; exact x5
    refine Or.inr ⟨x6, ?_⟩
    rw [y6, g5]
    unfold lnX
    rw [e1] at d2
    rw [e2, e1] at d3
    rw [e3, e2, e1] at d4
    rw [e4, e3, e2, e1] at d5
    rw [e3, e2, e1] at ha
    have ha2 : tA t L (q3 t L p) = 3 := ha
    rw [e4, e3, e2, e1]
    rw [if_neg d1, if_neg d2, if_neg (fun z => z d3), if_neg (show ¬ tA t L (q3 t L p) = -1 from d4), if_pos ⟨ha2, Decidable.not_not.mp d5⟩]
    all_goals rfl
  have r5 : 0 ≤ p5 ∧ p5 ≤ L := by rw [e5]; exact te0 r4.1 r4.2
  rcases St_f s6 f5 with ⟨d6, e6, f6⟩ | ⟨d6, g6⟩
  rotate_left
  · have x6 : ¬ k6 = -1 := by rw [g6]; exact ts0 r5.1 r5.2
    refine Or.inr ⟨x6, ?_⟩
    rw [g6]
    unfold lnX
    rw [e1] at d2
    rw [e2, e1] at d3
    rw [e3, e2, e1] at d4
    rw [e4, e3, e2, e1] at d5
    rw [e5, e4, e3, e2, e1] at d6
    rw [e3, e2, e1] at ha
    have ha2 : tA t L (q3 t L p) = 3 := ha
    rw [e5, e4, e3, e2, e1]
    have q5E : q5 t L p = tE t L (tE t L (q3 t L p)) := if_pos ha2
    rw [if_neg d1, if_neg d2, if_neg (fun z => z d3), if_neg (show ¬ tA t L (q3 t L p) = -1 from d4), if_neg (fun z => d5 z.2), q5E, if_pos (show ¬ tMk 59 t L (tE t L (tE t L (q3 t L p))) from d6)]
    all_goals rfl
  have ee3 : p3 = q3 t L p := by rw [e3, e2, e1]; rfl
  have ha2 := ha
  rw [ee3] at ha2
  have q5E : q5 t L p = tE t L (tE t L (q3 t L p)) := if_pos ha2
  have e7 : p6 = q6 t L p := by unfold q6; rw [q5E, ← ee3, ← e4, ← e5, ← e6]
  refine Or.inl ⟨f6, ?_, e7, e1, ee3, by rw [e4, ee3], d1, d2, d4, d5⟩
  unfold lnX
  rw [← ee3] at q5E
  rw [← ee3, q5E, ← e1, ← e2, if_neg d1, if_neg d2, if_neg (fun z => z d3), if_neg d4, ← e4, if_neg (fun z => d5 z.2), ← e5, if_neg (fun z => z d6)]

theorem ln_no {t : Nat → Int} {L p p1 k1 p2 k2 p3 k3 p4 k4 p5 k5 : Int} (h0 : 0 ≤ p ∧ p ≤ L) (s1 : St t L p (-1) (¬ tC t L p = -1) p1 k1) (s2 : St t L p1 k1 (¬ tD t L p1 = -1) p2 k2) (s3 : St t L p2 k2 (tMk 58 t L p2) p3 k3) (s4 : St t L p3 k3 (¬ tA t L p3 = -1) p4 k4) (s5 : St t L p4 k4 (tMk 59 t L p4) p5 k5) (ha : ¬ tA t L p3 = 3) : (k5 = -1 ∧ lnX t L p = -1 ∧ p5 = q6 t L p ∧ p1 = tE t L p ∧ p3 = q3 t L p ∧ ¬ tC t L p = -1 ∧ ¬ tD t L p1 = -1 ∧ ¬ tA t L p3 = -1) ∨ (¬ k5 = -1 ∧ k5 = lnX t L p) := by
  have r0 : 0 ≤ p ∧ p ≤ L := h0
  rcases St_f s1 rfl with ⟨d1, e1, f1⟩ | ⟨d1, g1⟩
  rotate_left
  · have x1 : ¬ k1 = -1 := by rw [g1]; exact ts0 r0.1 r0.2
    have y2 := (St_k s2 x1).1
    have x2 : ¬ k2 = -1 := by rw [y2]; exact x1
    have y3 := (St_k s3 x2).1
    have x3 : ¬ k3 = -1 := by rw [y3]; exact x2
    have y4 := (St_k s4 x3).1
    have x4 : ¬ k4 = -1 := by rw [y4]; exact x3
    have y5 := (St_k s5 x4).1
    have x5 : ¬ k5 = -1 := by rw [y5]; exact x4
    refine Or.inr ⟨x5, ?_⟩
    rw [y5, y4, y3, y2, g1]
    unfold lnX
    rw [if_pos (Decidable.not_not.mp d1)]
  have r1 : 0 ≤ p1 ∧ p1 ≤ L := by rw [e1]; exact te0 r0.1 r0.2
  rcases St_f s2 f1 with ⟨d2, e2, f2⟩ | ⟨d2, g2⟩
  rotate_left
  · have x2 : ¬ k2 = -1 := by rw [g2]; exact ts0 r1.1 r1.2
    have y3 := (St_k s3 x2).1
    have x3 : ¬ k3 = -1 := by rw [y3]; exact x2
    have y4 := (St_k s4 x3).1
    have x4 : ¬ k4 = -1 := by rw [y4]; exact x3
    have y5 := (St_k s5 x4).1
    have x5 : ¬ k5 = -1 := by rw [y5]; exact x4
    refine Or.inr ⟨x5, ?_⟩
    rw [y5, y4, y3, g2]
    unfold lnX
    rw [e1] at d2
    rw [e1]
    rw [if_neg d1, if_pos (Decidable.not_not.mp d2)]
  have r2 : 0 ≤ p2 ∧ p2 ≤ L := by rw [e2]; exact te0 r1.1 r1.2
  rcases St_f s3 f2 with ⟨d3, e3, f3⟩ | ⟨d3, g3⟩
  rotate_left
  · have x3 : ¬ k3 = -1 := by rw [g3]; exact ts0 r2.1 r2.2
    have y4 := (St_k s4 x3).1
    have x4 : ¬ k4 = -1 := by rw [y4]; exact x3
    have y5 := (St_k s5 x4).1
    have x5 : ¬ k5 = -1 := by rw [y5]; exact x4
    refine Or.inr ⟨x5, ?_⟩
    rw [y5, y4, g3]
    unfold lnX
    rw [e1] at d2
    rw [e2, e1] at d3
    rw [e2, e1]
    rw [if_neg d1, if_neg d2, if_pos d3]
  have r3 : 0 ≤ p3 ∧ p3 ≤ L := by rw [e3]; exact te0 r2.1 r2.2
  rcases St_f s4 f3 with ⟨d4, e4, f4⟩ | ⟨d4, g4⟩
  rotate_left
  · have x4 : ¬ k4 = -1 := by rw [g4]; exact ts0 r3.1 r3.2
    have y5 := (St_k s5 x4).1
    have x5 : ¬ k5 = -1 := by rw [y5]; exact x4
    refine Or.inr ⟨x5, ?_⟩
    rw [y5, g4]
    unfold lnX
    rw [e1] at d2
    rw [e2, e1] at d3
    rw [e3, e2, e1] at d4
    rw [e3, e2, e1] at ha
    have ha2 : ¬ tA t L (q3 t L p) = 3 := ha
    rw [e3, e2, e1]
    rw [if_neg d1, if_neg d2, if_neg (fun z => z d3), if_pos (show tA t L (q3 t L p) = -1 from Decidable.not_not.mp d4)]
    all_goals rfl
  have r4 : 0 ≤ p4 ∧ p4 ≤ L := by rw [e4]; exact te0 r3.1 r3.2
  rcases St_f s5 f4 with ⟨d5, e5, f5⟩ | ⟨d5, g5⟩
  rotate_left
  · have x5 : ¬ k5 = -1 := by rw [g5]; exact ts0 r4.1 r4.2
    refine Or.inr ⟨x5, ?_⟩
    rw [g5]
    unfold lnX
    rw [e1] at d2
    rw [e2, e1] at d3
    rw [e3, e2, e1] at d4
    rw [e4, e3, e2, e1] at d5
    rw [e3, e2, e1] at ha
    have ha2 : ¬ tA t L (q3 t L p) = 3 := ha
    rw [e4, e3, e2, e1]
    have q5E : q5 t L p = tE t L (q3 t L p) := if_neg ha2
    rw [if_neg d1, if_neg d2, if_neg (fun z => z d3), if_neg (show ¬ tA t L (q3 t L p) = -1 from d4), if_neg (fun z => ha2 z.1), q5E, if_pos (show ¬ tMk 59 t L (tE t L (q3 t L p)) from d5)]
    all_goals rfl
  have ee3 : p3 = q3 t L p := by rw [e3, e2, e1]; rfl
  have ha2 := ha
  rw [ee3] at ha2
  have q5E : q5 t L p = tE t L (q3 t L p) := if_neg ha2
  have e6 : p5 = q6 t L p := by unfold q6; rw [q5E, ← ee3, ← e4, ← e5]
  refine Or.inl ⟨f5, ?_, e6, e1, ee3, d1, d2, d4⟩
  unfold lnX
  rw [← ee3] at q5E
  rw [← ee3, q5E, ← e1, ← e2, if_neg d1, if_neg d2, if_neg (fun z => z d3), if_neg d4, ← e4, if_neg (fun z => ha z.1), if_neg (fun z => z d5)]

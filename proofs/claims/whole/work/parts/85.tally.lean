/-! printed by p85.py: readings counted, what a count leaves; pure -/
theorem VM_up {D : qD} {R : Nat → Int} {l : Nat} {s : Nat} (hs : ¬ VM D R l s = -1) : ∀ r, (∀ i, l ≤ i → i < l + r → ftL D R i) → VM D R (l + r) s = VM D R l s
  | 0, _ => rfl
  | r + 1, h => by
    have ih := VM_up hs r (fun i a b => h i a (by omega))
    have f := (h (l + r) (by omega) (by omega)).2
    show vP D (R (l + r)).toNat (l + r) (VM D R (l + r)) (dW D (l + r)).toNat s = _
    rw [← ih]
    refine vP_keep (fun a ha => f.2.1 a ?_) (by rw [ih]; exact hs)
    have := f.1
    omega
def sC (D : qD) (s : Nat) (L : List (Nat → Int)) : Int := (L.countP (fun R => decide (¬ VM D R (dN D).toNat s = -1)) : Nat)
def sV (D : qD) (s : Nat) (v0 : Int) (L : List (Nat → Int)) : Int := L.foldl (fun v R => nV v (VM D R (dN D).toNat s) (if VM D R (dN D).toNat s = -1 then 0 else 1)) v0
def hC (L : List (Nat → Int)) (e : Nat) (i : Int) : Int := (L.countP (fun R => decide (R e = i)) : Nat)
theorem sC_app (D : qD) (s : Nat) (A B : List (Nat → Int)) : sC D s (A ++ B) = sC D s A + sC D s B := by unfold sC; rw [List.countP_append]; omega
theorem sV_app (D : qD) (s : Nat) (v0 : Int) (A B : List (Nat → Int)) : sV D s v0 (A ++ B) = sV D s (sV D s v0 A) B := by unfold sV; rw [List.foldl_append]
theorem hC_app (A B : List (Nat → Int)) (e : Nat) (i : Int) : hC (A ++ B) e i = hC A e i + hC B e i := by unfold hC; rw [List.countP_append]; omega
theorem nV_nV {v0 w : Int} {n : Nat} (hw : 0 ≤ w) : nV (nV v0 w 1) w (n : Int) = nV v0 w ((n + 1 : Nat) : Int) := by
  have e1 : nV v0 w ((n + 1 : Nat) : Int) = nV v0 w 1 := by
    unfold nV
    rw [if_neg (show ¬ ((n + 1 : Nat) : Int) = 0 by omega), if_neg (show ¬ (1 : Int) = 0 by decide)]
  rw [e1]
  by_cases e : (n : Int) = 0
  · unfold nV; rw [if_pos e]
  · have k : ∀ x : Int, nV x w (n : Int) = if x = -1 then w else if x = w then x else -2 := fun x => by unfold nV; rw [if_neg e]
    rw [k]
    unfold nV
    rw [if_neg (show ¬ (1 : Int) = 0 by decide)]
    by_cases a : v0 = -1
    · rw [if_pos a, if_neg (by omega), if_pos rfl]
    · rw [if_neg a]
      by_cases b : v0 = w
      · rw [if_pos b, if_neg (by omega), if_pos b]
      · rw [if_neg b, if_neg (by decide), if_neg (by omega)]
theorem sV_all {D : qD} {s : Nat} {w : Int} (hw : 0 ≤ w) : ∀ (B : List (Nat → Int)) (v0 : Int), (∀ R, R ∈ B → VM D R (dN D).toNat s = w) → sV D s v0 B = nV v0 w (B.length : Nat)
  | [], v0, _ => by unfold nV; rw [if_pos (show (([] : List (Nat → Int)).length : Int) = 0 from rfl)]; rfl
  | R :: B, v0, h => by
    have e := h R List.mem_cons_self
    show sV D s (nV v0 (VM D R (dN D).toNat s) (if VM D R (dN D).toNat s = -1 then 0 else 1)) B = _
    rw [sV_all hw B _ (fun R' hR => h R' (List.mem_cons_of_mem _ hR)), e, if_neg (by omega), nV_nV hw]
    rfl
theorem sC_all {D : qD} {s : Nat} {w : Int} (hw : 0 ≤ w) (B : List (Nat → Int)) (h : ∀ R, R ∈ B → VM D R (dN D).toNat s = w) : sC D s B = (B.length : Nat) := by
  unfold sC
  rw [List.countP_eq_length.mpr (fun R hR => decide_eq_true (by rw [h R hR]; omega))]
theorem hC_all {B : List (Nat → Int)} {e : Nat} {i : Int} (h : ∀ R, R ∈ B → R e = i) : hC B e i = (B.length : Nat) := by
  unfold hC
  rw [List.countP_eq_length.mpr (fun R hR => decide_eq_true (h R hR))]
theorem hC_none {B : List (Nat → Int)} {e : Nat} {i : Int} (h : ∀ R, R ∈ B → ¬ R e = i) : hC B e i = 0 := by
  unfold hC
  rw [List.countP_eq_zero.mpr (fun R hR z => h R hR (of_decide_eq_true z))]
  rfl
theorem VM_fu {D : qD} {ch : Nat → Int} {l i : Nat} : VM D (q_fu ch l (i : Int)) (l + 1) = vP D i l (VM D ch l) (dW D l).toNat := by
  show vP D (q_fu ch l (i : Int) l).toNat l (VM D (q_fu ch l (i : Int)) l) (dW D l).toNat = _
  rw [q_fu_eq, VM_c (c := q_fu ch l (i : Int)) (c' := ch) l (fun e he => q_fu_ne (by omega))]
  rfl
theorem ftL_fu {D : qD} {ch : Nat → Int} {l i : Nat} : ftL D (q_fu ch l (i : Int)) l ↔ (¬ (∃ e, e < l ∧ ch e = (i : Int)) ∧ fitW D i l (VM D ch l)) := by
  unfold ftL
  rw [q_fu_eq, VM_c (c := q_fu ch l (i : Int)) (c' := ch) l (fun e he => q_fu_ne (by omega))]
  constructor
  · rintro ⟨a, b⟩
    refine ⟨fun ⟨e, e1, e2⟩ => ?_, b⟩
    have := a e e1
    rw [q_fu_ne (by omega)] at this
    exact this e2
  · rintro ⟨a, b⟩
    refine ⟨fun e e1 z => a ⟨e, e1, ?_⟩, b⟩
    rw [q_fu_ne (by omega)] at z
    exact z
def uQ (ch : Nat → Int) (l : Nat) (t : Nat) : Prop := ∃ e, e < l ∧ ch e = (t : Int)
theorem uQ_s {ch : Nat → Int} {l i t : Nat} : (uQ ch l t ∨ t = i) ↔ uQ (q_fu ch l (i : Int)) (l + 1) t := by
  constructor
  · rintro (⟨e, a, b⟩ | a)
    · exact ⟨e, by omega, by rw [q_fu_ne (by omega)]; exact b⟩
    · exact ⟨l, by omega, by rw [q_fu_eq, a]⟩
  · rintro ⟨e, a, b⟩
    by_cases g : e = l
    · rw [g, q_fu_eq] at b; right; omega
    · rw [q_fu_ne g] at b; exact Or.inl ⟨e, by omega, b⟩
/-- what a count of L leaves -/
def tyS (D : qD) (l : Nat) (ch : Nat → Int) (L : List (Nat → Int)) (m m' : qM) : Prop := (∀ e i : Nat, e < 5 → i < 12 → m' 74 (e * 12 + i) = m 74 (e * 12 + i) + (if l ≤ e then hC L e (i : Int) else 0)) ∧ (∀ s : Nat, s < 20 → (VM D ch l s = -1 → m' 75 s = sV D s (m 75 s) L ∧ m' 76 s = m 76 s + sC D s L) ∧ (¬ VM D ch l s = -1 → m' 75 s = m 75 s ∧ m' 76 s = m 76 s)) ∧ ∀ t : Nat, t < 20 → -2 ≤ m' 75 t ∧ m' 75 t ≤ 27
theorem tyS_0 {D : qD} {l : Nat} {ch : Nat → Int} {m : qM} (h7 : ∀ t : Nat, t < 20 → -2 ≤ m 75 t ∧ m 75 t ≤ 27) : tyS D l ch [] m m := by
  refine ⟨fun e i _ _ => ?_, fun s _ => ⟨fun _ => ⟨rfl, ?_⟩, fun _ => ⟨rfl, rfl⟩⟩, h7⟩
  · have : hC [] e (i : Int) = 0 := rfl
    rw [this]; split <;> omega
  · have : sC D s [] = 0 := rfl
    rw [this]; omega
theorem tyS_k {D : qD} {l : Nat} {ch : Nat → Int} {L : List (Nat → Int)} {m m' m'' : qM} (h : tyS D l ch L m m') (h4 : m'' 74 = m' 74) (h5 : ∀ t : Nat, t < 20 → m'' 75 t = m' 75 t ∧ m'' 76 t = m' 76 t) : tyS D l ch L m m'' := by
  refine ⟨fun e i a b => by rw [h4]; exact h.1 e i a b, fun s hs => ?_, fun t ht => by rw [(h5 t ht).1]; exact h.2.2 t ht⟩
  rw [(h5 s hs).1, (h5 s hs).2]
  exact h.2.1 s hs
/-- one word more at a level -/
theorem tyS_s {D : qD} {l r i b : Nat} {ch : Nat → Int} {A : List (Nat → Int)} {m M6 M7 M8 M9 M' : qM} {G : Nat → Int} (hD : dOk D) (hi : (i : Int) < dK D) (hr : (l : Int) + r + 1 = dN D) (hl : l < 5)
    (h : tyS D l ch A m M6) (hp : ftL D (q_fu ch l (i : Int)) l) (h4 : M7 74 = M6 74) (h5 : ∀ t : Nat, t < 20 → M7 75 t = M6 75 t ∧ M7 76 t = M6 76 t)
    (hb : ∀ t : Nat, t < 20 → (pb b t ↔ (VM D ch l t = -1 ∧ ¬ VM D (q_fu ch l (i : Int)) (l + 1) t = -1)))
    (hr8 : ∀ t : Nat, t < 20 → -1 ≤ VM D (q_fu ch l (i : Int)) (l + 1) t)
    (h8 : tyS D (l + 1) (q_fu ch l (i : Int)) (LV D r (l + 1) (q_fu ch l (i : Int))) M7 M8)
    (h9 : lfS D i b ((LV D r (l + 1) (q_fu ch l (i : Int))).length : Nat) (VM D (q_fu ch l (i : Int)) (l + 1)) M8 (dL D i) G M9) (h94 : M9 74 = M8 74)
    (e4 : M' 74 = q_fu (M9 74) (l * 12 + i) (M9 74 (l * 12 + i) + ((LV D r (l + 1) (q_fu ch l (i : Int))).length : Nat))) (e5 : M' 75 = M9 75 ∧ M' 76 = M9 76)
    (h7 : ∀ t : Nat, t < 20 → -2 ≤ M9 75 t ∧ M9 75 t ≤ 27) : tyS D l ch (A ++ ftI D (LV D r (l + 1)) l (q_fu ch l (i : Int))) m M' ∧ ∀ t : Nat, t < 20 → G t = VM D ch l t := by
  rw [ftI_y hp]
  have f1 := ftL_fu.mp hp
  have dwl : dL D i = dW D l := f1.2.1
  have kb := hD.1.1
  have mem : ∀ R, R ∈ LV D r (l + 1) (q_fu ch l (i : Int)) → R l = (i : Int) ∧ ∀ s, ¬ VM D (q_fu ch l (i : Int)) (l + 1) s = -1 → VM D R (dN D).toNat s = VM D (q_fu ch l (i : Int)) (l + 1) s := by
    intro R hR
    obtain ⟨g1, g2, -⟩ := LV_mem r (l + 1) _ hR
    refine ⟨(g1 l (by omega)).trans q_fu_eq, fun s hs => ?_⟩
    have v := VM_c (D := D) (c := R) (c' := q_fu ch l (i : Int)) (l + 1) (fun x hx => g1 x hx)
    rw [← v] at hs ⊢
    have := VM_up hs r (fun x a b => (g2 x a b).2)
    rw [show (dN D).toNat = l + 1 + r by omega]
    exact this
  have keepv : ∀ t, ¬ VM D ch l t = -1 → VM D (q_fu ch l (i : Int)) (l + 1) t = VM D ch l t := by
    intro t ht
    rw [VM_fu]
    exact vP_keep (fun a ha => f1.2.2.1 a (by omega)) ht
  have hit : ∀ t : Nat, t < 20 → pb b t → hitW D i (dL D i) t := by
    intro t ht p
    have q := (hb t ht).mp p
    rw [VM_fu] at q
    obtain ⟨x, x1, x2, x3⟩ := vP_hit (D := D) (j := i) (i := l) (f := VM D ch l) (t := t) _ (fun y => q.2 (y.trans q.1))
    have xr := (hD.2.1 i hi).2 x (by omega)
    exact ⟨x, by omega, by omega⟩
  refine ⟨⟨fun e k he hk => ?_, fun s hs => ⟨fun z => ?_, fun z => ?_⟩, fun t ht => by rw [e5.1]; exact h7 t ht⟩, fun t ht => ?_⟩
  · have a0 := h.1 e k he hk
    have a1 := h8.1 e k he hk
    rw [h4] at a1
    rw [e4, hC_app, h94]
    by_cases g : e * 12 + k = l * 12 + i
    · have e1 : e = l := by omega
      have e2 : k = i := by omega
      subst e1; subst e2
      rw [q_fu_eq, hC_all (fun R hR => (mem R hR).1)]
      rw [if_neg (by omega)] at a1
      rw [if_pos (Nat.le_refl e)] at a0 ⊢
      omega
    · rw [q_fu_ne g, a1]
      by_cases c : e = l
      · subst c
        rw [if_neg (by omega), hC_none (B := LV D r (e + 1) (q_fu ch e (i : Int))) (fun R hR y => by have := (mem R hR).1; omega)]
        rw [if_pos (Nat.le_refl e)] at a0 ⊢
        omega
      · by_cases c2 : l ≤ e
        · rw [if_pos (by omega)]
          rw [if_pos c2] at a0 ⊢
          omega
        · rw [if_neg (by omega)]
          rw [if_neg c2] at a0 ⊢
          omega
  · have a0 := (h.2.1 s hs).1 z
    have a7 := h5 s hs
    rw [e5.1, e5.2, sV_app, sC_app]
    by_cases c : VM D (q_fu ch l (i : Int)) (l + 1) s = -1
    · have a8 := (h8.2.1 s hs).1 c
      have a9 := (h9 s hs).2 (fun p => ((hb s hs).mp p.1).2 c)
      rw [a9.2.1, a9.2.2, a8.1, a8.2, a7.1, a7.2, a0.1, a0.2]
      exact ⟨rfl, by omega⟩
    · have a8 := (h8.2.1 s hs).2 c
      have p := (hb s hs).mpr ⟨z, c⟩
      have a9 := (h9 s hs).1 ⟨p, hit s hs p⟩
      have w0 : 0 ≤ VM D (q_fu ch l (i : Int)) (l + 1) s := by have := hr8 s hs; omega
      rw [a9.2.1, a9.2.2, a8.1, a8.2, a7.1, a7.2, a0.1, a0.2, sV_all w0 _ _ (fun R hR => (mem R hR).2 s c), sC_all w0 _ (fun R hR => (mem R hR).2 s c)]
      exact ⟨rfl, by omega⟩
  · have a0 := (h.2.1 s hs).2 z
    have a7 := h5 s hs
    have c : ¬ VM D (q_fu ch l (i : Int)) (l + 1) s = -1 := by rw [keepv s z]; exact z
    have a8 := (h8.2.1 s hs).2 c
    have a9 := (h9 s hs).2 (fun p => z ((hb s hs).mp p.1).1)
    rw [e5.1, e5.2, a9.2.1, a9.2.2, a8.1, a8.2, a7.1, a7.2, a0.1, a0.2]
    exact ⟨rfl, rfl⟩
  · by_cases z : VM D ch l t = -1
    · by_cases c : VM D (q_fu ch l (i : Int)) (l + 1) t = -1
      · rw [((h9 t ht).2 (fun p => ((hb t ht).mp p.1).2 c)).1, c, z]
      · have p := (hb t ht).mpr ⟨z, c⟩
        rw [((h9 t ht).1 ⟨p, hit t ht p⟩).1, z]
    · rw [((h9 t ht).2 (fun p => z ((hb t ht).mp p.1).1)).1, keepv t z]
theorem lvF_len {D : qD} {G : (Nat → Int) → List (Nat → Int)} {l : Nat} {ch : Nat → Int} {B : Nat} (h : ∀ c, (G c).length ≤ B) : ∀ n, (lvF D G l ch n).length ≤ n * B
  | 0 => by unfold lvF; exact Nat.zero_le _
  | n + 1 => by
    have ih := lvF_len (D := D) (l := l) (ch := ch) h n
    unfold lvF
    rw [List.length_append, Nat.succ_mul]
    by_cases e : ftL D (q_fu ch l (n : Int)) l
    · rw [ftI_y e]; have := h (q_fu ch l (n : Int)); omega
    · rw [ftI_n e]; show _ + 0 ≤ _; omega
theorem LV_len {D : qD} (hD : dOk D) : ∀ r l ch, (LV D r l ch).length ≤ 12 ^ r
  | 0, _, _ => Nat.le_refl 1
  | r + 1, l, ch => by
    have k := lvF_len (D := D) (G := LV D r (l + 1)) (l := l) (ch := ch) (B := 12 ^ r) (fun c => LV_len hD r (l + 1) c) (dK D).toNat
    have kb := hD.1.1
    have : (dK D).toNat * 12 ^ r ≤ 12 * 12 ^ r := Nat.mul_le_mul_right _ (by omega)
    show (lvF D (LV D r (l + 1)) l ch (dK D).toNat).length ≤ _
    rw [Nat.pow_succ, Nat.mul_comm]
    omega
theorem LV_b {D : qD} (hD : dOk D) {r l : Nat} {ch : Nat → Int} (hr : r ≤ 5) : (LV D r l ch).length ≤ 248832 := Nat.le_trans (LV_len hD r l ch) (Nat.le_trans (Nat.pow_le_pow_right (by decide) hr) (by decide))

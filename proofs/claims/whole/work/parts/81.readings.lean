/-! printed by p81.py: readings, pure -/
theorem q_and_cm (x y : Int) : q_and x y = q_and y x := by
  unfold q_and
  rw [Int32.and_comm]
theorem pb_tb {x s : Nat} : pb x s ↔ x.testBit s = true := by
  show x / 2 ^ s % 2 = 1 ↔ _
  rw [Nat.testBit_eq_decide_div_mod_eq, decide_eq_true_eq]
theorem pb_and {a b t : Nat} : pb (a &&& b) t ↔ (pb a t ∧ pb b t) := by
  rw [pb_tb, pb_tb, pb_tb, Nat.testBit_and, Bool.and_eq_true]
theorem clrF : ∀ c : Fin 12, Int32.ofInt (q_xor (q_shl 1 (c.val : Int)) (-1)) = Int32.ofInt ((4294967295 - 2 ^ c.val : Nat) : Int) := by decide +kernel
theorem clrP : ∀ c t : Fin 12, pb (4294967295 - 2 ^ c.val) t.val ↔ ¬ t.val = c.val := by decide +kernel
/-- a bit is taken away -/
theorem q_clrb {x c : Nat} (hx : x < 4096) (hc : c < 12) : ∃ z : Nat, q_and (x : Int) (q_xor (q_shl 1 (c : Int)) (-1)) = (z : Int) ∧ z < 4096 ∧ ∀ t, t < 12 → (pb z t ↔ pb x t ∧ ¬ t = c) := by
  refine ⟨(4294967295 - 2 ^ c) &&& x, ?_, ?_, fun t ht => ?_⟩
  · rw [← q_and_n (by omega), q_and_cm]
    have := clrF ⟨c, hc⟩
    unfold q_and
    rw [this]
  · have := Nat.and_le_right (n := 4294967295 - 2 ^ c) (m := x)
    omega
  · rw [pb_and, clrP ⟨c, hc⟩ ⟨t, ht⟩]
    exact ⟨fun z => ⟨z.2, z.1⟩, fun z => ⟨z.2, z.1⟩⟩
/-- a bit is set -/
theorem q_setb {x c n : Nat} (hc : c < n) (hn : n ≤ 30) (hx : x < 2 ^ n) : ∃ z : Nat, q_or (x : Int) (q_shl 1 (c : Int)) = (z : Int) ∧ z < 2 ^ n ∧ ∀ t, (pb z t ↔ pb x t ∨ t = c) := by
  have p1 : 2 ^ n ≤ 2 ^ 30 := Nat.pow_le_pow_right (by decide) hn
  have p2 : 2 ^ c < 2 ^ n := Nat.pow_lt_pow_right (by decide) hc
  refine ⟨x ||| 2 ^ c, ?_, Nat.or_lt_two_pow hx p2, fun t => pb_or⟩
  rw [q_shl1 c (by omega), q_or_n (by omega) (by omega)]
/-- words and names, abstract: counts; lengths and signs; lengths and values; rows and columns -/
abbrev qD : Type := (Int × Int) × ((Nat → Int) × (Nat → Nat → Int)) × ((Nat → Int) × (Nat → Nat → Int)) × ((Nat → Int) × (Nat → Int))
abbrev dK (D : qD) : Int := D.1.1
abbrev dN (D : qD) : Int := D.1.2
abbrev dL (D : qD) (j : Nat) : Int := D.2.1.1 j
abbrev dS (D : qD) (j k : Nat) : Int := D.2.1.2 j k
abbrev dW (D : qD) (i : Nat) : Int := D.2.2.1.1 i
abbrev dV (D : qD) (i k : Nat) : Int := D.2.2.1.2 i k
abbrev dR (D : qD) (s : Nat) : Int := D.2.2.2.1 s
abbrev dC (D : qD) (s : Nat) : Int := D.2.2.2.2 s
def dOk (D : qD) : Prop := ((0 ≤ dK D ∧ dK D ≤ 12) ∧ (0 ≤ dN D ∧ dN D ≤ 5)) ∧ (∀ j : Nat, (j : Int) < dK D → (1 ≤ dL D j ∧ dL D j ≤ 5) ∧ ∀ k : Nat, (k : Int) < dL D j → 0 ≤ dS D j k ∧ dS D j k ≤ 20) ∧ (∀ i : Nat, (i : Int) < dN D → (1 ≤ dW D i ∧ dW D i ≤ 5) ∧ ∀ k : Nat, (k : Int) < dW D i → 0 ≤ dV D i k ∧ dV D i k ≤ 27) ∧ ∀ s : Nat, s < 20 → (0 ≤ dR D s ∧ dR D s ≤ 19) ∧ 0 ≤ dC D s ∧ dC D s ≤ 19
/-- values behind the first k places of word j for name i -/
def vP (D : qD) (j i : Nat) (f : Nat → Int) : Nat → Nat → Int
  | 0 => f
  | k + 1 => if dS D j k = 20 then vP D j i f k else q_fu (vP D j i f k) (dS D j k).toNat (dV D i k)
def okP (D : qD) (f : Nat → Int) (a b : Nat) : Prop := ¬ f a = f b ∧ (dR D a = dR D b → q_div (f a) 4 = q_div (f b) 4) ∧ (dC D a = dC D b → q_rem (f a) 4 = q_rem (f b) 4)
def okV (D : qD) (f : Nat → Int) : Prop := ∀ a b : Nat, a < 20 → b < 20 → ¬ a = b → ¬ f a = -1 → ¬ f b = -1 → okP D f a b
theorem okP_s {D : qD} {f : Nat → Int} {a b : Nat} (h : okP D f a b) : okP D f b a := ⟨fun z => h.1 z.symm, fun z => (h.2.1 z.symm).symm, fun z => (h.2.2 z.symm).symm⟩
def cfW (D : qD) (j i : Nat) (f : Nat → Int) (k : Nat) : Prop := dS D j k = 20 ∨ vP D j i f k (dS D j k).toNat = -1 ∨ vP D j i f k (dS D j k).toNat = dV D i k
def fitW (D : qD) (j i : Nat) (f : Nat → Int) : Prop := dL D j = dW D i ∧ (∀ k : Nat, (k : Int) < dL D j → cfW D j i f k) ∧ okV D (vP D j i f (dL D j).toNat)
theorem fu_self {f : Nat → Int} {k : Nat} {v : Int} (h : f k = v) : q_fu f k v = f := by
  funext j
  unfold q_fu
  by_cases e : j = k
  · subst e; rw [if_pos rfl]; exact h.symm
  · rw [if_neg e]
theorem fu_fu {f : Nat → Int} {k : Nat} {v w : Int} : q_fu (q_fu f k v) k w = q_fu f k w := by
  funext j
  unfold q_fu
  by_cases e : j = k
  · rw [if_pos e, if_pos e]
  · rw [if_neg e, if_neg e, if_neg e]
/-- what is bound stays -/
theorem vP_up {D : qD} {j i : Nat} {f : Nat → Int} {n : Nat} (hc : ∀ k, k < n → cfW D j i f k) : ∀ m k, k + m ≤ n → ∀ s, ¬ vP D j i f k s = -1 → vP D j i f (k + m) s = vP D j i f k s
  | 0, k, _, s, _ => rfl
  | m + 1, k, h, s, hs => by
    have ih := vP_up hc m k (by omega) s hs
    rw [← ih]
    show (if dS D j (k + m) = 20 then vP D j i f (k + m) else q_fu (vP D j i f (k + m)) (dS D j (k + m)).toNat (dV D i (k + m))) s = _
    by_cases e : dS D j (k + m) = 20
    · rw [if_pos e]
    · rw [if_neg e]
      by_cases g : s = (dS D j (k + m)).toNat
      · rw [g, q_fu_eq]
        rw [← g]
        rcases hc (k + m) (by omega) with c | c | c
        · exact absurd c e
        · rw [← g] at c; exact absurd (ih.symm.trans c) hs
        · rw [← g] at c; exact c.symm
      · rw [q_fu_ne g]
theorem okV_sub {D : qD} {f g : Nat → Int} (h : ∀ s, ¬ f s = -1 → g s = f s) (hg : okV D g) : okV D f := by
  intro a b ha hb hab fa fb
  have := hg a b ha hb hab (by rw [h a fa]; exact fa) (by rw [h b fb]; exact fb)
  unfold okP at this ⊢
  rw [h a fa, h b fb] at this
  exact this
theorem fitW_ok {D : qD} {j i : Nat} {f : Nat → Int} (h : fitW D j i f) (k : Nat) (hk : (k : Int) ≤ dL D j) : okV D (vP D j i f k) := by
  refine okV_sub (fun s hs => ?_) h.2.2
  have := vP_up (n := (dL D j).toNat) (fun k hk => h.2.1 k (by omega)) ((dL D j).toNat - k) k (by omega) s hs
  rw [show k + ((dL D j).toNat - k) = (dL D j).toNat by omega] at this
  exact this
theorem okV_fu {D : qD} {f : Nat → Int} {s : Nat} {v : Int} (h : okV D f) (hs : f s = -1) (hv : ¬ v = -1) (hl : s < 20) : okV D (q_fu f s v) ↔ ∀ b, b < 20 → ¬ f b = -1 → ¬ v = f b ∧ (dR D s = dR D b → q_div v 4 = q_div (f b) 4) ∧ (dC D s = dC D b → q_rem v 4 = q_rem (f b) 4) := by
  constructor
  · intro k b hb fb
    have bs : ¬ b = s := fun z => by rw [z, hs] at fb; exact fb rfl
    have := k s b hl hb (fun z => bs z.symm) (by rw [q_fu_eq]; exact hv) (by rw [q_fu_ne bs]; exact fb)
    unfold okP at this
    rw [q_fu_eq, q_fu_ne bs] at this
    exact this
  · intro k a b ha hb hab fa fb
    by_cases e : a = s
    · subst e
      have bs : ¬ b = a := fun z => hab z.symm
      rw [q_fu_ne bs] at fb
      unfold okP
      rw [q_fu_eq, q_fu_ne bs]
      exact k b hb fb
    · by_cases e2 : b = s
      · subst e2
        rw [q_fu_ne e] at fa
        refine okP_s ?_
        unfold okP
        rw [q_fu_eq, q_fu_ne e]
        exact k a ha fa
      · rw [q_fu_ne e] at fa
        rw [q_fu_ne e2] at fb
        unfold okP
        rw [q_fu_ne e, q_fu_ne e2]
        exact h a b ha hb hab fa fb
/-- values behind the first l names -/
def VM (D : qD) (ch : Nat → Int) : Nat → Nat → Int
  | 0 => fun _ => -1
  | l + 1 => vP D (ch l).toNat l (VM D ch l) (dW D l).toNat
def ftL (D : qD) (ch : Nat → Int) (l : Nat) : Prop := (∀ i, i < l → ¬ ch i = ch l) ∧ fitW D (ch l).toNat l (VM D ch l)
noncomputable def ftI (D : qD) (G : (Nat → Int) → List (Nat → Int)) (l : Nat) (c : Nat → Int) : List (Nat → Int) := @ite _ (ftL D c l) (Classical.propDecidable _) (G c) []
theorem ftI_y {D : qD} {G : (Nat → Int) → List (Nat → Int)} {l : Nat} {c : Nat → Int} (h : ftL D c l) : ftI D G l c = G c := by unfold ftI; rw [if_pos h]
theorem ftI_n {D : qD} {G : (Nat → Int) → List (Nat → Int)} {l : Nat} {c : Nat → Int} (h : ¬ ftL D c l) : ftI D G l c = [] := by unfold ftI; rw [if_neg h]
/-- the first i words at a level -/
noncomputable def lvF (D : qD) (G : (Nat → Int) → List (Nat → Int)) (l : Nat) (ch : Nat → Int) : Nat → List (Nat → Int)
  | 0 => []
  | i + 1 => lvF D G l ch i ++ ftI D G l (q_fu ch l (i : Int))
/-- n words from the i-th on -/
noncomputable def lvT (D : qD) (G : (Nat → Int) → List (Nat → Int)) (l : Nat) (ch : Nat → Int) : Nat → Nat → List (Nat → Int)
  | 0, _ => []
  | n + 1, i => ftI D G l (q_fu ch l (i : Int)) ++ lvT D G l ch n (i + 1)
/-- readings behind the first l names, r names to go -/
noncomputable def LV (D : qD) : Nat → Nat → (Nat → Int) → List (Nat → Int)
  | 0, _, ch => [ch]
  | r + 1, l, ch => lvF D (LV D r (l + 1)) l ch (dK D).toNat
theorem lvFT {D : qD} {G : (Nat → Int) → List (Nat → Int)} {l : Nat} {ch : Nat → Int} : ∀ n i, lvF D G l ch (i + n) = lvF D G l ch i ++ lvT D G l ch n i
  | 0, i => by show lvF D G l ch i = _; unfold lvT; rw [List.append_nil]
  | n + 1, i => by
    rw [show i + (n + 1) = (i + 1) + n by omega, lvFT n (i + 1)]
    show (lvF D G l ch i ++ ftI D G l (q_fu ch l (i : Int))) ++ lvT D G l ch n (i + 1) = lvF D G l ch i ++ (ftI D G l (q_fu ch l (i : Int)) ++ lvT D G l ch n (i + 1))
    rw [List.append_assoc]
theorem VM_c {D : qD} {c c' : Nat → Int} : ∀ l, (∀ i, i < l → c i = c' i) → VM D c l = VM D c' l
  | 0, _ => rfl
  | l + 1, h => by
    show vP D (c l).toNat l (VM D c l) (dW D l).toNat = vP D (c' l).toNat l (VM D c' l) (dW D l).toNat
    rw [VM_c l (fun i hi => h i (by omega)), h l (by omega)]
theorem lvF_mem {D : qD} {G : (Nat → Int) → List (Nat → Int)} {l : Nat} {ch R : Nat → Int} : ∀ n, R ∈ lvF D G l ch n → ∃ i, i < n ∧ ftL D (q_fu ch l (i : Int)) l ∧ R ∈ G (q_fu ch l (i : Int))
  | 0, h => by unfold lvF at h; exact absurd h List.not_mem_nil
  | n + 1, h => by
    unfold lvF at h
    rcases List.mem_append.mp h with h | h
    · obtain ⟨i, a, b⟩ := lvF_mem n h
      exact ⟨i, by omega, b⟩
    · by_cases e : ftL D (q_fu ch l (n : Int)) l
      · rw [ftI_y e] at h
        exact ⟨n, by omega, e, h⟩
      · rw [ftI_n e] at h
        exact absurd h List.not_mem_nil
/-- a reading: what it holds at each level -/
theorem LV_mem {D : qD} {R : Nat → Int} : ∀ r l ch, R ∈ LV D r l ch → (∀ i, i < l → R i = ch i) ∧ (∀ i, l ≤ i → i < l + r → (0 ≤ R i ∧ R i < dK D) ∧ ftL D R i) ∧ ∀ i, l + r ≤ i → R i = ch i
  | 0, l, ch, h => by
    unfold LV at h
    rw [List.mem_singleton] at h
    subst h
    exact ⟨fun i _ => rfl, fun i a b => by omega, fun i _ => rfl⟩
  | r + 1, l, ch, h => by
    unfold LV at h
    obtain ⟨i, h1, h2, h3⟩ := lvF_mem _ h
    obtain ⟨g1, g2, g3⟩ := LV_mem r (l + 1) _ h3
    have e0 : R l = (i : Int) := (g1 l (by omega)).trans q_fu_eq
    have e1 : ∀ k, k < l → R k = ch k := fun k hk => (g1 k (by omega)).trans (q_fu_ne (by omega))
    refine ⟨e1, fun k a b => ?_, fun k a => (g3 k (by omega)).trans (q_fu_ne (by omega))⟩
    by_cases e : k = l
    · subst e
      refine ⟨by omega, ?_⟩
      unfold ftL at h2 ⊢
      rw [VM_c (c := R) (c' := q_fu ch k (i : Int)) k (fun x hx => g1 x (by omega)), e0]
      rw [q_fu_eq] at h2
      refine ⟨fun x hx => ?_, h2.2⟩
      have := h2.1 x hx
      rw [q_fu_ne (by omega)] at this
      rw [e1 x hx]; exact this
    · exact g2 k (by omega) (by omega)

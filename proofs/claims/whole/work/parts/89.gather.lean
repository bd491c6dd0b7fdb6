/-! printed by p89.py: words that may be names, names that are sought: canon; the class gathers them -/
abbrev cwP (m : qM) (w : Nat) : Prop := m 8 w = 1
abbrev spA (m : qM) (a : Nat) : Prop := (a : Int) < (nN m : Int) ∧ 1 ≤ vL m (a : Int) ∧ vL m (a : Int) ≤ 5
def nC (m : qM) : Nat := q_cnt (cwP m) (nW m)
def cW (m : qM) (j : Nat) : Int := q_nth (cwP m) (j : Int) (nW m)
def nS (m : qM) : Nat := q_cnt (spA m) 5
def sN (m : qM) (i : Nat) : Int := q_nth (spA m) (i : Int) 5
def DD (m : qM) : qD := (((nC m : Int), (nS m : Int)), ((fun j => m 4 (cW m j).toNat), fun j k => m 3 (cW m j * 5 + (k : Int)).toNat), ((fun i => (vL m (sN m i) : Int)), fun i k => sv m (sN m i) (k : Int)), (gF m (-1) (-1) (nT m), gK m (-1) (-1) (nT m)))
theorem cnt_sum {f : Nat → Int} : ∀ n, (∀ k, k < n → f k = 0 ∨ f k = 1) → (q_cnt (fun w => f w = 1) n : Int) = q_sum f n
  | 0, _ => rfl
  | n + 1, h => by
    have ih := cnt_sum n (fun k hk => h k (by omega))
    have a := h n (by omega)
    show ((q_cnt (fun w => f w = 1) n + (if f n = 1 then 1 else 0) : Nat) : Int) = q_sum f n + f n
    rw [← ih]
    by_cases e : f n = 1
    · rw [if_pos e, e]; omega
    · rw [if_neg e]; omega
theorem nC_le {m : qM} (h : rC m) : nC m ≤ 12 ∧ q_cnt (cwP m) (m 2 0).toNat ≤ 12 := by
  have a := h.1.1
  have s := h.2.2.2.2.2.2.2.2
  have l := nW_le h.1
  have k := cnt_sum (f := m 8) (m 2 0).toNat (fun k hk => by have := (h.2.2.1 (k : Int) (by omega) (by omega)).2.1.2.2; rw [show ((k : Int)).toNat = k by omega] at this; exact this)
  have b := q_cnt_mono (cwP m) (a := nW m) (m 2 0).toNat (by omega)
  have c : (q_cnt (cwP m) (m 2 0).toNat : Int) = m 2 1 := k.trans s
  unfold nC
  omega
theorem nS_le (m : qM) : nS m ≤ 5 := q_cnt_le _ _
theorem cW_at {m : qM} {j : Nat} (h : j < nC m) : 0 ≤ cW m j ∧ (cW m j).toNat < nW m ∧ m 8 (cW m j).toNat = 1 ∧ q_cnt (cwP m) (cW m j).toNat = j := by
  have a := nth_at (p := cwP m) (k := (j : Int)) (n := nW m) (by omega) (by unfold nC at h; omega)
  exact ⟨a.1, a.2.1, a.2.2.1, by have := a.2.2.2; unfold cW; omega⟩
theorem sN_at {m : qM} {i : Nat} (h : i < nS m) : 0 ≤ sN m i ∧ (sN m i).toNat < 5 ∧ spA m (sN m i).toNat ∧ q_cnt (spA m) (sN m i).toNat = i := by
  have a := nth_at (p := spA m) (k := (i : Int)) (n := 5) (by omega) (by unfold nS at h; omega)
  exact ⟨a.1, a.2.1, a.2.2.1, by have := a.2.2.2; unfold sN; omega⟩
theorem q_cnt_lt {p : Nat → Prop} [DecidablePred p] {a b : Nat} (hp : p a) (h : a < b) : q_cnt p a < q_cnt p b := by
  have k := q_cnt_mono p (a := a + 1) b h
  have e : q_cnt p (a + 1) = q_cnt p a + 1 := by
    show q_cnt p a + (if p a then 1 else 0) = _
    rw [if_pos hp]
  omega
theorem lxA_of {m : qM} (h : rXn m) {a : Int} (h0 : 0 ≤ a) (h1 : a < m 15 0) : lxA m a := by
  have b := h.2.1 a h0 h1
  have c := h.1.1
  refine ⟨by omega, b.2.1, fun i i0 i1 => ?_⟩
  have d := b.2.2.2 i i0 i1
  have r := lcode_r (m 104 (10 * a + i).toNat)
  show 0 ≤ m 16 (a * 10 + i).toNat ∧ m 16 (a * 10 + i).toNat ≤ 9
  omega
theorem sv_r {m : qM} (h : rXn m) (hs : lxS m) {a k : Int} (h0 : 0 ≤ a) (h1 : a < m 15 0) (k0 : 0 ≤ k) (k1 : k < (vL m a : Int)) : 0 ≤ sv m a k ∧ sv m a k ≤ 27 := by
  have x := lxA_of h h0 h1
  have t := nth_at (p := fun j => ¬ pV m a (j : Int) = -1) (k := k) (n := (m 17 a.toNat).toNat) k0 (by unfold vL vN at k1; exact k1)
  have r := pV_r (i := q_nth (fun j => ¬ pV m a (j : Int) = -1) k (m 17 a.toNat).toNat) x hs (by omega)
  have n := t.2.2.1
  rw [q_tn t.1] at n
  unfold sv
  omega
theorem DD_ok {m : qM} {f c : Nat → Int} (hR : rC m) (hX : rXn m) (hs : lxS m) (hg : gdI m (-1) (-1) (nT m) f c) : dOk (DD m) := by
  have n1 := nC_le hR
  have n2 := nS_le m
  have l := nW_le hR.1
  have nl := nN_le hX
  refine ⟨⟨⟨Int.natCast_nonneg _, by show (nC m : Int) ≤ 12; omega⟩, ⟨Int.natCast_nonneg _, by show (nS m : Int) ≤ 5; omega⟩⟩, fun j hj => ?_, fun i hi => ?_, fun s hs2 => ?_⟩
  · have a := cW_at (m := m) (j := j) (by have : (j : Int) < (nC m : Int) := hj; omega)
    have w := hR.2.1 (cW m j) a.1 (by omega)
    refine ⟨w.1, fun k hk => ?_⟩
    exact (w.2.2 (k : Int) (by omega) hk).1
  · have a := sN_at (m := m) (i := i) (by have : (i : Int) < (nS m : Int) := hi; omega)
    have b := a.2.2.1
    rw [spA, q_tn a.1] at b
    refine ⟨by show (1 : Int) ≤ (vL m (sN m i) : Int) ∧ (vL m (sN m i) : Int) ≤ 5; omega, fun k hk => ?_⟩
    exact sv_r hX hs a.1 (by omega) (by omega) hk
  · have a := hg.1 s hs2
    have b := hg.2.1 s hs2
    show (0 ≤ gF m (-1) (-1) (nT m) s ∧ gF m (-1) (-1) (nT m) s ≤ 19) ∧ 0 ≤ gK m (-1) (-1) (nT m) s ∧ gK m (-1) (-1) (nT m) s ≤ 19
    rw [← hg.2.2.1 s hs2, ← hg.2.2.2 s hs2]
    exact ⟨a, b⟩
/-- the pool behind the first w words -/
def poS (m M : qM) (w : Nat) : Prop := ∀ x : Nat, x < w → m 8 x = 1 → M 68 (q_cnt (cwP m) x) = (x : Int) ∧ M 70 (q_cnt (cwP m) x) = m 4 x ∧ ∀ k : Nat, k < 5 → M 69 (q_cnt (cwP m) x * 5 + k) = m 3 (x * 5 + k)
def kPo : Nat → Nat → Bool := fun i j => decide ((68 ≤ i ∧ i ≤ 70) ∨ (i = 56 ∧ j = 10))
def snS (m M : qM) (a : Nat) : Prop := ∀ x : Nat, x < a → spA m x → M 71 (q_cnt (spA m) x) = (x : Int) ∧ M 73 (q_cnt (spA m) x) = (vL m (x : Int) : Int) ∧ ∀ k : Nat, k < vL m (x : Int) → M 72 (q_cnt (spA m) x * 5 + k) = sv m (x : Int) (k : Int)
def kSn : Nat → Nat → Bool := fun i j => decide ((71 ≤ i ∧ i ≤ 73) ∨ (i = 56 ∧ j = 14))

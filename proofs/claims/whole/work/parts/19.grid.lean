/-! printed by p19.py: Grid -/
/-- two signs' labels are joined: the greater one gives way -/
def jn (f : Nat → Int) (a b : Int) : Nat → Int := fun s => if s < 20 ∧ f s = max (f a.toNat) (f b.toNat) then min (f a.toNat) (f b.toNat) else f s
theorem jn_same {f : Nat → Int} {a b : Int} (h : min (f a.toNat) (f b.toNat) = max (f a.toNat) (f b.toNat)) : jn f a b = f := by
  funext s
  unfold jn
  split
  · rename_i g; rw [h, g.2]
  · rfl
/-- labels are signs -/
def lb (f : Nat → Int) : Prop := ∀ s : Nat, s < 20 → 0 ≤ f s ∧ f s ≤ 19
theorem jn_lb {f : Nat → Int} {a b : Int} (h : lb f) (ha : 0 ≤ a ∧ a < 20) (hb : 0 ≤ b ∧ b < 20) : lb (jn f a b) := by
  intro s hs
  have h1 := h s hs
  have h2 := h a.toNat (by omega)
  have h3 := h b.toNat (by omega)
  unfold jn
  split <;> omega
def sep (f : Nat → Int) : Nat → Int := fun s => if s < 20 then (s : Int) else f s
theorem sep_lb (f : Nat → Int) : lb (sep f) := by
  intro s hs
  unfold sep
  rw [if_pos hs]
  omega
/-- a sign as a grid reads it: the greater of two that may be one as the less -/
def gs (m : qM) (g : Nat) (x : Int) : Int := if x = m g 7 then m g 6 else x
def gOK (m : qM) (g : Nat) : Prop := (m g 7 = -1 ∧ m g 6 = -1) ∨ ((0 ≤ m g 6 ∧ m g 6 < 20) ∧ 0 ≤ m g 7 ∧ m g 7 < 20)
theorem gs_r {m : qM} {g : Nat} {x : Int} (h : gOK m g) (hx : 0 ≤ x ∧ x ≤ 20) : (0 ≤ gs m g x ∧ gs m g x ≤ 20) ∧ (x < 20 → gs m g x < 20) ∧ (x = 20 → gs m g x = 20) := by
  unfold gs
  rcases h with h | h <;> split <;> omega
theorem gOK_r {m : qM} {g : Nat} (h : gOK m g) : qr (m g 7) ∧ qr (m g 6) := by
  rcases h with h | h <;> constructor <;> constructor <;> omega
/-- the words differ at a place, as a grid reads them -/
abbrev jsD (m : qM) (g : Nat) (w v : Int) (k : Nat) : Prop := ¬ gs m g (m 3 (w * 5 + (k : Int)).toNat) = gs m g (m 3 (v * 5 + (k : Int)).toNat)
theorem jsD_i {m : qM} {g : Nat} {w v i : Int} (h : 0 ≤ i) : jsD m g w v i.toNat ↔ ¬ gs m g (m 3 (w * 5 + i).toNat) = gs m g (m 3 (v * 5 + i).toNat) := by
  show (¬ gs m g (m 3 (w * 5 + ((i.toNat : Nat) : Int)).toNat) = gs m g (m 3 (v * 5 + ((i.toNat : Nat) : Int)).toNat)) ↔ _
  rw [show ((i.toNat : Nat) : Int) = i by omega]
/-- two words of one stem -/
abbrev stq (m : qM) (g : Nat) (w v : Int) : Prop := (3 ≤ m 4 w.toNat ∧ m 4 v.toNat = m 4 w.toNat ∧ m 5 w.toNat = -1 ∧ m 5 v.toNat = -1) ∧ q_cnt (jsD m g w v) (m 4 w.toNat - 1).toNat = 0
def lst (m : qM) (g : Nat) (w : Int) : Int := gs m g (m 3 (w * 5 + (m 4 w.toNat - 1)).toNat)
def jst (m : qM) (g : Nat) (w v : Int) (f : Nat → Int) : Nat → Int := if stq m g w v then jn f (lst m g w) (lst m g v) else f
theorem q_cnt_pos {p : Nat → Prop} [DecidablePred p] {i : Int} {n : Nat} (h0 : 0 ≤ i) (hi : i.toNat < n) (hp : p i.toNat) : ¬ q_cnt p n = 0 := by
  have h1 := q_cnt_s (p := p) h0
  rw [if_pos hp] at h1
  have h2 := q_cnt_mono p (a := (i + 1).toNat) n (by omega)
  omega
/-- the stems of a word's predecessors -/
def stm (m : qM) (g : Nat) (w : Int) (f : Nat → Int) : Nat → Nat → Int
  | 0 => f
  | j + 1 => jst m g w j (stm m g w f j)
def tkF (m : qM) (g : Nat) (t : Int) (f : Nat → Int) : Nat → Int := if m 10 t.toNat = -1 then stm m g (m 9 t.toNat) f (m 9 t.toNat).toNat else f
def tkN (m : qM) (t nw : Int) : Int := if m 10 t.toNat = -1 then m 9 t.toNat + 1 else nw

theorem lst_r {m : qM} {g : Nat} {w : Int} (hW : gW m) (hg : gOK m g) (hw : 0 ≤ w ∧ w < m 2 0) (hn : m 5 w.toNat = -1) : 0 ≤ lst m g w ∧ lst m g w < 20 := by
  have w1 := hW w hw.1 hw.2
  have w3 := w1.2.2 (m 4 w.toNat - 1) (by omega) (by omega)
  have s1 := gs_r hg w3.1
  unfold lst
  constructor
  · exact s1.1.1
  · exact s1.2.1 (by omega)
theorem jst_lb {m : qM} {g : Nat} {w v : Int} {f : Nat → Int} (h0 : 0 ≤ m 2 0 ∧ m 2 0 ≤ 60) (hW : gW m) (hg : gOK m g) (hl : lb f) (hw : 0 ≤ w ∧ w < m 2 0) (hv : 0 ≤ v ∧ v < m 2 0) : lb (jst m g w v f) := by
  unfold jst
  split
  · rename_i q
    exact jn_lb hl (lst_r hW hg hw q.1.2.2.1) (lst_r hW hg hv q.1.2.2.2)
  · exact hl
theorem stm_lb {m : qM} {g : Nat} {w : Int} {f : Nat → Int} (h0 : 0 ≤ m 2 0 ∧ m 2 0 ≤ 60) (hW : gW m) (hg : gOK m g) (hl : lb f) (hw : 0 ≤ w ∧ w < m 2 0) : ∀ j : Nat, (j : Int) ≤ w → lb (stm m g w f j)
  | 0, _ => hl
  | j + 1, h => jst_lb h0 hW hg (stm_lb h0 hW hg hl hw j (by omega)) hw ⟨by omega, by omega⟩
theorem q_up_same {m : qM} {a k : Nat} {v w : Int} : q_up (q_up m a k v) a k w = q_up m a k w := by
  funext i j
  by_cases e : i = a ∧ j = k <;> simp [q_up, e]

set_option maxRecDepth 100000 in
theorem c_join30 (u : qU) (m y : qM) (a b : Int) (hl : lb (m 30)) (ha : 0 ≤ a ∧ a < 20) (hb : 0 ≤ b ∧ b < 20) : qCt YX2_join 2 0 0 [qR 30, qI a, qI b] (qLy u, m, y) (fun r h => r = none ∧ h = (qLy u, q_row m 30 (jn (m 30) a b), y)) := by
  refine qCt.intro okX2_join (Nat.le_of_ble_eq_true rfl) (fun κ hκ => ?_)
  have l1 := hl a.toNat (by omega)
  have l2 := hl b.toNat (by omega)
  have L31 : ∀ (n : Nat) (f : Nat → Int) (i : Int), (0 ≤ i) → (i ≤ 20) → (∀ k : Nat, f k = if (k : Int) < i ∧ m 30 k = max (m 30 a.toNat) (m 30 b.toNat) then min (m 30 a.toNat) (m 30 b.toNat) else m 30 k) → ((20 - i).toNat) < n → qJ YX2_join κ (qFin (fun r h => r = none ∧ h = (qLy u, q_row m 30 (jn (m 30) a b), y)) 0 0 κ) (qLy u, (q_row m 30 f), y) 0 0 31 [some (qR 30), some (qI a), some (qI b), some (qI (min (m 30 a.toNat) (m 30 b.toNat))), some (qI (max (m 30 a.toNat) (m 30 b.toNat))), some (qI i)] [] := by
    intro n
    induction n with
    | zero => intro f i _ _ _ hz0; omega
    | succ n ih31 =>
      intro f i v31_0 v31_1 v31_2 v31_m
      refine qJ.run hκ 2 (pc' := 35) (ls' := [some (qR 30), some (qI a), some (qI b), some (qI (min (m 30 a.toNat) (m 30 b.toNat))), some (qI (max (m 30 a.toNat) (m 30 b.toNat))), some (qI i)]) (st' := [qI 20, qI i]) rfl ?_
      refine qJ.icmp_ge hκ (tgt := 58) rfl rfl (by omega) (by omega) (fun c35 => ?_) (fun c35 => ?_)
      · show qJ YX2_join κ _ (qLy u, (q_row m 30 f), y) 0 0 58 [some (qR 30), some (qI a), some (qI b), some (qI (min (m 30 a.toNat) (m 30 b.toNat))), some (qI (max (m 30 a.toNat) (m 30 b.toNat))), some (qI i)] []
        exact qJ.vret hκ rfl rfl (by decide) (by decide) (by refine ⟨rfl, ?_⟩; rw [q_row_c (g := jn (m 30) a b) (fun k => by rw [v31_2 k]; unfold jn; by_cases g : k < 20 ∧ m 30 k = max (m 30 a.toNat) (m 30 b.toNat); rw [if_pos ⟨by omega, g.2⟩, if_pos g]; rw [if_neg (fun z => g ⟨by have := z.1; omega, z.2⟩), if_neg g])])
      · show qJ YX2_join κ _ (qLy u, (q_row m 30 f), y) 0 0 38 [some (qR 30), some (qI a), some (qI b), some (qI (min (m 30 a.toNat) (m 30 b.toNat))), some (qI (max (m 30 a.toNat) (m 30 b.toNat))), some (qI i)] []
        have l3 := hl i.toNat (by omega)
        have fi : f i.toNat = m 30 i.toNat := by rw [v31_2, if_neg (by omega)]
        refine qJ.run hκ 2 (pc' := 41) (ls' := [some (qR 30), some (qI a), some (qI b), some (qI (min (m 30 a.toNat) (m 30 b.toNat))), some (qI (max (m 30 a.toNat) (m 30 b.toNat))), some (qI i)]) (st' := [qI i, qR 30]) rfl ?_
        refine qJ.ald hκ rfl rfl rfl (by decide) (by omega) ?_
        show qJ YX2_join κ _ (qLy u, (q_row m 30 f), y) 0 0 42 [some (qR 30), some (qI a), some (qI b), some (qI (min (m 30 a.toNat) (m 30 b.toNat))), some (qI (max (m 30 a.toNat) (m 30 b.toNat))), some (qI i)] [qI (f i.toNat)]
        refine qJ.run hκ 1 (pc' := 44) (ls' := [some (qR 30), some (qI a), some (qI b), some (qI (min (m 30 a.toNat) (m 30 b.toNat))), some (qI (max (m 30 a.toNat) (m 30 b.toNat))), some (qI i)]) (st' := [qI (max (m 30 a.toNat) (m 30 b.toNat)), qI (f i.toNat)]) rfl ?_
        refine qJ.icmp_ne hκ (tgt := 52) rfl rfl (by omega) (by omega) (fun c44 => ?_) (fun c44 => ?_)
        · show qJ YX2_join κ _ (qLy u, (q_row m 30 f), y) 0 0 52 [some (qR 30), some (qI a), some (qI b), some (qI (min (m 30 a.toNat) (m 30 b.toNat))), some (qI (max (m 30 a.toNat) (m 30 b.toNat))), some (qI i)] []
          refine qJ.run hκ 2 (pc' := 31) (ls' := [some (qR 30), some (qI a), some (qI b), some (qI (min (m 30 a.toNat) (m 30 b.toNat))), some (qI (max (m 30 a.toNat) (m 30 b.toNat))), some (qI (i + 1))]) (st' := []) rfl ?_
          exact qJ.cast (ih31  f (i + 1) (by omega) (by omega) (fun k => by rw [v31_2 k]; by_cases g : (k : Int) < i; (by_cases e : m 30 k = max (m 30 a.toNat) (m 30 b.toNat); rw [if_pos ⟨g, e⟩, if_pos ⟨by omega, e⟩]; rw [if_neg (fun z => e z.2), if_neg (fun z => e z.2)]); by_cases g2 : k = i.toNat; subst g2; rw [if_neg (fun z => g z.1), if_neg (fun z => c44 (by rw [fi]; exact z.2))]; rw [if_neg (fun z => g z.1), if_neg (fun z => by have := z.1; omega)]) (by omega)) (rfl) rfl rfl
        · show qJ YX2_join κ _ (qLy u, (q_row m 30 f), y) 0 0 47 [some (qR 30), some (qI a), some (qI b), some (qI (min (m 30 a.toNat) (m 30 b.toNat))), some (qI (max (m 30 a.toNat) (m 30 b.toNat))), some (qI i)] []
          refine qJ.run hκ 3 (pc' := 51) (ls' := [some (qR 30), some (qI a), some (qI b), some (qI (min (m 30 a.toNat) (m 30 b.toNat))), some (qI (max (m 30 a.toNat) (m 30 b.toNat))), some (qI i)]) (st' := [qI (min (m 30 a.toNat) (m 30 b.toNat)), qI i, qR 30]) rfl ?_
          refine qJ.ast hκ rfl rfl rfl (by decide) (by omega) ?_
          refine qJ.mc (m1 := (q_up (q_row m 30 f) 30 i.toNat (min (m 30 a.toNat) (m 30 b.toNat)))) (m2 := (q_row m 30 (q_fu f i.toNat (min (m 30 a.toNat) (m 30 b.toNat))))) (by rw [q_up_row_eq]) ?_
          show qJ YX2_join κ _ (qLy u, (q_row m 30 (q_fu f i.toNat (min (m 30 a.toNat) (m 30 b.toNat)))), y) 0 0 52 [some (qR 30), some (qI a), some (qI b), some (qI (min (m 30 a.toNat) (m 30 b.toNat))), some (qI (max (m 30 a.toNat) (m 30 b.toNat))), some (qI i)] []
          refine qJ.run hκ 2 (pc' := 31) (ls' := [some (qR 30), some (qI a), some (qI b), some (qI (min (m 30 a.toNat) (m 30 b.toNat))), some (qI (max (m 30 a.toNat) (m 30 b.toNat))), some (qI (i + 1))]) (st' := []) rfl ?_
          exact qJ.cast (ih31  (q_fu f i.toNat (min (m 30 a.toNat) (m 30 b.toNat))) (i + 1) (by omega) (by omega) (fun k => by by_cases e : k = i.toNat; subst e; rw [q_fu_eq, if_pos ⟨by omega, by rw [← fi]; exact c44⟩]; rw [q_fu_ne e, v31_2 k]; by_cases g : (k : Int) < i ∧ m 30 k = max (m 30 a.toNat) (m 30 b.toNat); rw [if_pos g, if_pos ⟨by omega, g.2⟩]; rw [if_neg g, if_neg (fun z => g ⟨by have := z.1; omega, z.2⟩)]) (by omega)) (rfl) rfl rfl
  show qJ YX2_join κ _ (qLy u, m, y) 0 0 0 [some (qR 30), some (qI a), some (qI b), none, none, none] []
  refine qJ.run hκ 2 (pc' := 2) (ls' := [some (qR 30), some (qI a), some (qI b), none, none, none]) (st' := [qI a, qR 30]) rfl ?_
  refine qJ.ald hκ rfl rfl rfl (by decide) (by omega) ?_
  show qJ YX2_join κ _ (qLy u, m, y) 0 0 3 [some (qR 30), some (qI a), some (qI b), none, none, none] [qI (m 30 a.toNat)]
  refine qJ.run hκ 2 (pc' := 5) (ls' := [some (qR 30), some (qI a), some (qI b), none, none, none]) (st' := [qI b, qR 30, qI (m 30 a.toNat)]) rfl ?_
  refine qJ.ald hκ rfl rfl rfl (by decide) (by omega) ?_
  show qJ YX2_join κ _ (qLy u, m, y) 0 0 6 [some (qR 30), some (qI a), some (qI b), none, none, none] [qI (m 30 b.toNat), qI (m 30 a.toNat)]
  refine qJ.min hκ rfl kX2_97 (Nat.le_of_ble_eq_true rfl) (Nat.le_of_ble_eq_true rfl) (Nat.le_of_ble_eq_true rfl) (Nat.le_of_ble_eq_true rfl) (by omega) (by omega) ?_
  show qJ YX2_join κ _ (qLy u, m, y) 0 0 9 [some (qR 30), some (qI a), some (qI b), none, none, none] [qI (min (m 30 a.toNat) (m 30 b.toNat))]
  refine qJ.run hκ 3 (pc' := 12) (ls' := [some (qR 30), some (qI a), some (qI b), some (qI (min (m 30 a.toNat) (m 30 b.toNat))), none, none]) (st' := [qI a, qR 30]) rfl ?_
  refine qJ.ald hκ rfl rfl rfl (by decide) (by omega) ?_
  show qJ YX2_join κ _ (qLy u, m, y) 0 0 13 [some (qR 30), some (qI a), some (qI b), some (qI (min (m 30 a.toNat) (m 30 b.toNat))), none, none] [qI (m 30 a.toNat)]
  refine qJ.run hκ 2 (pc' := 15) (ls' := [some (qR 30), some (qI a), some (qI b), some (qI (min (m 30 a.toNat) (m 30 b.toNat))), none, none]) (st' := [qI b, qR 30, qI (m 30 a.toNat)]) rfl ?_
  refine qJ.ald hκ rfl rfl rfl (by decide) (by omega) ?_
  show qJ YX2_join κ _ (qLy u, m, y) 0 0 16 [some (qR 30), some (qI a), some (qI b), some (qI (min (m 30 a.toNat) (m 30 b.toNat))), none, none] [qI (m 30 b.toNat), qI (m 30 a.toNat)]
  refine qJ.max hκ rfl kX2_102 (Nat.le_of_ble_eq_true rfl) (Nat.le_of_ble_eq_true rfl) (Nat.le_of_ble_eq_true rfl) (Nat.le_of_ble_eq_true rfl) (by omega) (by omega) ?_
  show qJ YX2_join κ _ (qLy u, m, y) 0 0 19 [some (qR 30), some (qI a), some (qI b), some (qI (min (m 30 a.toNat) (m 30 b.toNat))), none, none] [qI (max (m 30 a.toNat) (m 30 b.toNat))]
  refine qJ.run hκ 3 (pc' := 24) (ls' := [some (qR 30), some (qI a), some (qI b), some (qI (min (m 30 a.toNat) (m 30 b.toNat))), some (qI (max (m 30 a.toNat) (m 30 b.toNat))), none]) (st' := [qI (max (m 30 a.toNat) (m 30 b.toNat)), qI (min (m 30 a.toNat) (m 30 b.toNat))]) rfl ?_
  refine qJ.icmp_ne hκ (tgt := 28) rfl rfl (by omega) (by omega) (fun c24 => ?_) (fun c24 => ?_)
  · show qJ YX2_join κ _ (qLy u, m, y) 0 0 28 [some (qR 30), some (qI a), some (qI b), some (qI (min (m 30 a.toNat) (m 30 b.toNat))), some (qI (max (m 30 a.toNat) (m 30 b.toNat))), none] []
    refine qJ.run hκ 2 (pc' := 31) (ls' := [some (qR 30), some (qI a), some (qI b), some (qI (min (m 30 a.toNat) (m 30 b.toNat))), some (qI (max (m 30 a.toNat) (m 30 b.toNat))), some (qI 0)]) (st' := []) rfl ?_
    exact qJ.cast (L31 21 (m 30) 0 (by omega) (by omega) (fun k => by rw [if_neg (by omega)]) (by omega)) (by rw [q_row_self]) rfl rfl
  · show qJ YX2_join κ _ (qLy u, m, y) 0 0 27 [some (qR 30), some (qI a), some (qI b), some (qI (min (m 30 a.toNat) (m 30 b.toNat))), some (qI (max (m 30 a.toNat) (m 30 b.toNat))), none] []
    exact qJ.vret hκ rfl rfl (by decide) (by decide) (by refine ⟨rfl, ?_⟩; rw [jn_same c24, q_row_self])

set_option maxRecDepth 100000 in
theorem c_sep30 (u : qU) (m y : qM)  : qCt YX2_separate 1 0 0 [qR 30] (qLy u, m, y) (fun r h => r = none ∧ h = (qLy u, q_row m 30 (sep (m 30)), y)) := by
  refine qCt.intro okX2_separate (Nat.le_of_ble_eq_true rfl) (fun κ hκ => ?_)
  have L2 : ∀ (n : Nat) (f : Nat → Int) (i : Int), (0 ≤ i) → (i ≤ 20) → (∀ k : Nat, f k = if (k : Int) < i then (k : Int) else m 30 k) → ((20 - i).toNat) < n → qJ YX2_separate κ (qFin (fun r h => r = none ∧ h = (qLy u, q_row m 30 (sep (m 30)), y)) 0 0 κ) (qLy u, (q_row m 30 f), y) 0 0 2 [some (qR 30), some (qI i)] [] := by
    intro n
    induction n with
    | zero => intro f i _ _ _ hz0; omega
    | succ n ih2 =>
      intro f i v2_0 v2_1 v2_2 v2_m
      refine qJ.run hκ 2 (pc' := 5) (ls' := [some (qR 30), some (qI i)]) (st' := [qI 20, qI i]) rfl ?_
      refine qJ.icmp_ge hκ (tgt := 18) rfl rfl (by omega) (by omega) (fun c5 => ?_) (fun c5 => ?_)
      · show qJ YX2_separate κ _ (qLy u, (q_row m 30 f), y) 0 0 18 [some (qR 30), some (qI i)] []
        exact qJ.vret hκ rfl rfl (by decide) (by decide) (by refine ⟨rfl, ?_⟩; rw [q_row_c (g := sep (m 30)) (fun k => by rw [v2_2 k]; unfold sep; by_cases g : k < 20; rw [if_pos (by omega), if_pos g]; rw [if_neg (by omega), if_neg g])])
      · show qJ YX2_separate κ _ (qLy u, (q_row m 30 f), y) 0 0 8 [some (qR 30), some (qI i)] []
        refine qJ.run hκ 3 (pc' := 11) (ls' := [some (qR 30), some (qI i)]) (st' := [qI i, qI i, qR 30]) rfl ?_
        refine qJ.ast hκ rfl rfl rfl (by decide) (by omega) ?_
        refine qJ.mc (m1 := (q_up (q_row m 30 f) 30 i.toNat i)) (m2 := (q_row m 30 (q_fu f i.toNat i))) (by rw [q_up_row_eq]) ?_
        show qJ YX2_separate κ _ (qLy u, (q_row m 30 (q_fu f i.toNat i)), y) 0 0 12 [some (qR 30), some (qI i)] []
        refine qJ.run hκ 2 (pc' := 2) (ls' := [some (qR 30), some (qI (i + 1))]) (st' := []) rfl ?_
        exact qJ.cast (ih2  (q_fu f i.toNat i) (i + 1) (by omega) (by omega) (fun k => by by_cases e : k = i.toNat; subst e; rw [q_fu_eq, if_pos (by omega)]; omega; rw [q_fu_ne e, v2_2 k]; by_cases g : (k : Int) < i; rw [if_pos g, if_pos (by omega)]; rw [if_neg g, if_neg (by omega)]) (by omega)) (rfl) rfl rfl
  show qJ YX2_separate κ _ (qLy u, m, y) 0 0 0 [some (qR 30), none] []
  refine qJ.run hκ 2 (pc' := 2) (ls' := [some (qR 30), some (qI 0)]) (st' := []) rfl ?_
  exact qJ.cast (L2 21 (m 30) 0 (by omega) (by omega) (fun k => by rw [if_neg (by omega)]) (by omega)) (by rw [q_row_self]) rfl rfl

set_option maxRecDepth 100000 in
theorem c_join31 (u : qU) (m y : qM) (a b : Int) (hl : lb (m 31)) (ha : 0 ≤ a ∧ a < 20) (hb : 0 ≤ b ∧ b < 20) : qCt YX2_join 2 0 0 [qR 31, qI a, qI b] (qLy u, m, y) (fun r h => r = none ∧ h = (qLy u, q_row m 31 (jn (m 31) a b), y)) := by
  refine qCt.intro okX2_join (Nat.le_of_ble_eq_true rfl) (fun κ hκ => ?_)
  have l1 := hl a.toNat (by omega)
  have l2 := hl b.toNat (by omega)
  have L31 : ∀ (n : Nat) (f : Nat → Int) (i : Int), (0 ≤ i) → (i ≤ 20) → (∀ k : Nat, f k = if (k : Int) < i ∧ m 31 k = max (m 31 a.toNat) (m 31 b.toNat) then min (m 31 a.toNat) (m 31 b.toNat) else m 31 k) → ((20 - i).toNat) < n → qJ YX2_join κ (qFin (fun r h => r = none ∧ h = (qLy u, q_row m 31 (jn (m 31) a b), y)) 0 0 κ) (qLy u, (q_row m 31 f), y) 0 0 31 [some (qR 31), some (qI a), some (qI b), some (qI (min (m 31 a.toNat) (m 31 b.toNat))), some (qI (max (m 31 a.toNat) (m 31 b.toNat))), some (qI i)] [] := by
    intro n
    induction n with
    | zero => intro f i _ _ _ hz0; omega
    | succ n ih31 =>
      intro f i v31_0 v31_1 v31_2 v31_m
      refine qJ.run hκ 2 (pc' := 35) (ls' := [some (qR 31), some (qI a), some (qI b), some (qI (min (m 31 a.toNat) (m 31 b.toNat))), some (qI (max (m 31 a.toNat) (m 31 b.toNat))), some (qI i)]) (st' := [qI 20, qI i]) rfl ?_
      refine qJ.icmp_ge hκ (tgt := 58) rfl rfl (by omega) (by omega) (fun c35 => ?_) (fun c35 => ?_)
      · show qJ YX2_join κ _ (qLy u, (q_row m 31 f), y) 0 0 58 [some (qR 31), some (qI a), some (qI b), some (qI (min (m 31 a.toNat) (m 31 b.toNat))), some (qI (max (m 31 a.toNat) (m 31 b.toNat))), some (qI i)] []
        exact qJ.vret hκ rfl rfl (by decide) (by decide) (by refine ⟨rfl, ?_⟩; rw [q_row_c (g := jn (m 31) a b) (fun k => by rw [v31_2 k]; unfold jn; by_cases g : k < 20 ∧ m 31 k = max (m 31 a.toNat) (m 31 b.toNat); rw [if_pos ⟨by omega, g.2⟩, if_pos g]; rw [if_neg (fun z => g ⟨by have := z.1; omega, z.2⟩), if_neg g])])
      · show qJ YX2_join κ _ (qLy u, (q_row m 31 f), y) 0 0 38 [some (qR 31), some (qI a), some (qI b), some (qI (min (m 31 a.toNat) (m 31 b.toNat))), some (qI (max (m 31 a.toNat) (m 31 b.toNat))), some (qI i)] []
        have l3 := hl i.toNat (by omega)
        have fi : f i.toNat = m 31 i.toNat := by rw [v31_2, if_neg (by omega)]
        refine qJ.run hκ 2 (pc' := 41) (ls' := [some (qR 31), some (qI a), some (qI b), some (qI (min (m 31 a.toNat) (m 31 b.toNat))), some (qI (max (m 31 a.toNat) (m 31 b.toNat))), some (qI i)]) (st' := [qI i, qR 31]) rfl ?_
        refine qJ.ald hκ rfl rfl rfl (by decide) (by omega) ?_
        show qJ YX2_join κ _ (qLy u, (q_row m 31 f), y) 0 0 42 [some (qR 31), some (qI a), some (qI b), some (qI (min (m 31 a.toNat) (m 31 b.toNat))), some (qI (max (m 31 a.toNat) (m 31 b.toNat))), some (qI i)] [qI (f i.toNat)]
        refine qJ.run hκ 1 (pc' := 44) (ls' := [some (qR 31), some (qI a), some (qI b), some (qI (min (m 31 a.toNat) (m 31 b.toNat))), some (qI (max (m 31 a.toNat) (m 31 b.toNat))), some (qI i)]) (st' := [qI (max (m 31 a.toNat) (m 31 b.toNat)), qI (f i.toNat)]) rfl ?_
        refine qJ.icmp_ne hκ (tgt := 52) rfl rfl (by omega) (by omega) (fun c44 => ?_) (fun c44 => ?_)
        · show qJ YX2_join κ _ (qLy u, (q_row m 31 f), y) 0 0 52 [some (qR 31), some (qI a), some (qI b), some (qI (min (m 31 a.toNat) (m 31 b.toNat))), some (qI (max (m 31 a.toNat) (m 31 b.toNat))), some (qI i)] []
          refine qJ.run hκ 2 (pc' := 31) (ls' := [some (qR 31), some (qI a), some (qI b), some (qI (min (m 31 a.toNat) (m 31 b.toNat))), some (qI (max (m 31 a.toNat) (m 31 b.toNat))), some (qI (i + 1))]) (st' := []) rfl ?_
          exact qJ.cast (ih31  f (i + 1) (by omega) (by omega) (fun k => by rw [v31_2 k]; by_cases g : (k : Int) < i; (by_cases e : m 31 k = max (m 31 a.toNat) (m 31 b.toNat); rw [if_pos ⟨g, e⟩, if_pos ⟨by omega, e⟩]; rw [if_neg (fun z => e z.2), if_neg (fun z => e z.2)]); by_cases g2 : k = i.toNat; subst g2; rw [if_neg (fun z => g z.1), if_neg (fun z => c44 (by rw [fi]; exact z.2))]; rw [if_neg (fun z => g z.1), if_neg (fun z => by have := z.1; omega)]) (by omega)) (rfl) rfl rfl
        · show qJ YX2_join κ _ (qLy u, (q_row m 31 f), y) 0 0 47 [some (qR 31), some (qI a), some (qI b), some (qI (min (m 31 a.toNat) (m 31 b.toNat))), some (qI (max (m 31 a.toNat) (m 31 b.toNat))), some (qI i)] []
          refine qJ.run hκ 3 (pc' := 51) (ls' := [some (qR 31), some (qI a), some (qI b), some (qI (min (m 31 a.toNat) (m 31 b.toNat))), some (qI (max (m 31 a.toNat) (m 31 b.toNat))), some (qI i)]) (st' := [qI (min (m 31 a.toNat) (m 31 b.toNat)), qI i, qR 31]) rfl ?_
          refine qJ.ast hκ rfl rfl rfl (by decide) (by omega) ?_
          refine qJ.mc (m1 := (q_up (q_row m 31 f) 31 i.toNat (min (m 31 a.toNat) (m 31 b.toNat)))) (m2 := (q_row m 31 (q_fu f i.toNat (min (m 31 a.toNat) (m 31 b.toNat))))) (by rw [q_up_row_eq]) ?_
          show qJ YX2_join κ _ (qLy u, (q_row m 31 (q_fu f i.toNat (min (m 31 a.toNat) (m 31 b.toNat)))), y) 0 0 52 [some (qR 31), some (qI a), some (qI b), some (qI (min (m 31 a.toNat) (m 31 b.toNat))), some (qI (max (m 31 a.toNat) (m 31 b.toNat))), some (qI i)] []
          refine qJ.run hκ 2 (pc' := 31) (ls' := [some (qR 31), some (qI a), some (qI b), some (qI (min (m 31 a.toNat) (m 31 b.toNat))), some (qI (max (m 31 a.toNat) (m 31 b.toNat))), some (qI (i + 1))]) (st' := []) rfl ?_
          exact qJ.cast (ih31  (q_fu f i.toNat (min (m 31 a.toNat) (m 31 b.toNat))) (i + 1) (by omega) (by omega) (fun k => by by_cases e : k = i.toNat; subst e; rw [q_fu_eq, if_pos ⟨by omega, by rw [← fi]; exact c44⟩]; rw [q_fu_ne e, v31_2 k]; by_cases g : (k : Int) < i ∧ m 31 k = max (m 31 a.toNat) (m 31 b.toNat); rw [if_pos g, if_pos ⟨by omega, g.2⟩]; rw [if_neg g, if_neg (fun z => g ⟨by have := z.1; omega, z.2⟩)]) (by omega)) (rfl) rfl rfl
  show qJ YX2_join κ _ (qLy u, m, y) 0 0 0 [some (qR 31), some (qI a), some (qI b), none, none, none] []
  refine qJ.run hκ 2 (pc' := 2) (ls' := [some (qR 31), some (qI a), some (qI b), none, none, none]) (st' := [qI a, qR 31]) rfl ?_
  refine qJ.ald hκ rfl rfl rfl (by decide) (by omega) ?_
  show qJ YX2_join κ _ (qLy u, m, y) 0 0 3 [some (qR 31), some (qI a), some (qI b), none, none, none] [qI (m 31 a.toNat)]
  refine qJ.run hκ 2 (pc' := 5) (ls' := [some (qR 31), some (qI a), some (qI b), none, none, none]) (st' := [qI b, qR 31, qI (m 31 a.toNat)]) rfl ?_
  refine qJ.ald hκ rfl rfl rfl (by decide) (by omega) ?_
  show qJ YX2_join κ _ (qLy u, m, y) 0 0 6 [some (qR 31), some (qI a), some (qI b), none, none, none] [qI (m 31 b.toNat), qI (m 31 a.toNat)]
  refine qJ.min hκ rfl kX2_97 (Nat.le_of_ble_eq_true rfl) (Nat.le_of_ble_eq_true rfl) (Nat.le_of_ble_eq_true rfl) (Nat.le_of_ble_eq_true rfl) (by omega) (by omega) ?_
  show qJ YX2_join κ _ (qLy u, m, y) 0 0 9 [some (qR 31), some (qI a), some (qI b), none, none, none] [qI (min (m 31 a.toNat) (m 31 b.toNat))]
  refine qJ.run hκ 3 (pc' := 12) (ls' := [some (qR 31), some (qI a), some (qI b), some (qI (min (m 31 a.toNat) (m 31 b.toNat))), none, none]) (st' := [qI a, qR 31]) rfl ?_
  refine qJ.ald hκ rfl rfl rfl (by decide) (by omega) ?_
  show qJ YX2_join κ _ (qLy u, m, y) 0 0 13 [some (qR 31), some (qI a), some (qI b), some (qI (min (m 31 a.toNat) (m 31 b.toNat))), none, none] [qI (m 31 a.toNat)]
  refine qJ.run hκ 2 (pc' := 15) (ls' := [some (qR 31), some (qI a), some (qI b), some (qI (min (m 31 a.toNat) (m 31 b.toNat))), none, none]) (st' := [qI b, qR 31, qI (m 31 a.toNat)]) rfl ?_
  refine qJ.ald hκ rfl rfl rfl (by decide) (by omega) ?_
  show qJ YX2_join κ _ (qLy u, m, y) 0 0 16 [some (qR 31), some (qI a), some (qI b), some (qI (min (m 31 a.toNat) (m 31 b.toNat))), none, none] [qI (m 31 b.toNat), qI (m 31 a.toNat)]
  refine qJ.max hκ rfl kX2_102 (Nat.le_of_ble_eq_true rfl) (Nat.le_of_ble_eq_true rfl) (Nat.le_of_ble_eq_true rfl) (Nat.le_of_ble_eq_true rfl) (by omega) (by omega) ?_
  show qJ YX2_join κ _ (qLy u, m, y) 0 0 19 [some (qR 31), some (qI a), some (qI b), some (qI (min (m 31 a.toNat) (m 31 b.toNat))), none, none] [qI (max (m 31 a.toNat) (m 31 b.toNat))]
  refine qJ.run hκ 3 (pc' := 24) (ls' := [some (qR 31), some (qI a), some (qI b), some (qI (min (m 31 a.toNat) (m 31 b.toNat))), some (qI (max (m 31 a.toNat) (m 31 b.toNat))), none]) (st' := [qI (max (m 31 a.toNat) (m 31 b.toNat)), qI (min (m 31 a.toNat) (m 31 b.toNat))]) rfl ?_
  refine qJ.icmp_ne hκ (tgt := 28) rfl rfl (by omega) (by omega) (fun c24 => ?_) (fun c24 => ?_)
  · show qJ YX2_join κ _ (qLy u, m, y) 0 0 28 [some (qR 31), some (qI a), some (qI b), some (qI (min (m 31 a.toNat) (m 31 b.toNat))), some (qI (max (m 31 a.toNat) (m 31 b.toNat))), none] []
    refine qJ.run hκ 2 (pc' := 31) (ls' := [some (qR 31), some (qI a), some (qI b), some (qI (min (m 31 a.toNat) (m 31 b.toNat))), some (qI (max (m 31 a.toNat) (m 31 b.toNat))), some (qI 0)]) (st' := []) rfl ?_
    exact qJ.cast (L31 21 (m 31) 0 (by omega) (by omega) (fun k => by rw [if_neg (by omega)]) (by omega)) (by rw [q_row_self]) rfl rfl
  · show qJ YX2_join κ _ (qLy u, m, y) 0 0 27 [some (qR 31), some (qI a), some (qI b), some (qI (min (m 31 a.toNat) (m 31 b.toNat))), some (qI (max (m 31 a.toNat) (m 31 b.toNat))), none] []
    exact qJ.vret hκ rfl rfl (by decide) (by decide) (by refine ⟨rfl, ?_⟩; rw [jn_same c24, q_row_self])

set_option maxRecDepth 100000 in
theorem c_sep31 (u : qU) (m y : qM)  : qCt YX2_separate 1 0 0 [qR 31] (qLy u, m, y) (fun r h => r = none ∧ h = (qLy u, q_row m 31 (sep (m 31)), y)) := by
  refine qCt.intro okX2_separate (Nat.le_of_ble_eq_true rfl) (fun κ hκ => ?_)
  have L2 : ∀ (n : Nat) (f : Nat → Int) (i : Int), (0 ≤ i) → (i ≤ 20) → (∀ k : Nat, f k = if (k : Int) < i then (k : Int) else m 31 k) → ((20 - i).toNat) < n → qJ YX2_separate κ (qFin (fun r h => r = none ∧ h = (qLy u, q_row m 31 (sep (m 31)), y)) 0 0 κ) (qLy u, (q_row m 31 f), y) 0 0 2 [some (qR 31), some (qI i)] [] := by
    intro n
    induction n with
    | zero => intro f i _ _ _ hz0; omega
    | succ n ih2 =>
      intro f i v2_0 v2_1 v2_2 v2_m
      refine qJ.run hκ 2 (pc' := 5) (ls' := [some (qR 31), some (qI i)]) (st' := [qI 20, qI i]) rfl ?_
      refine qJ.icmp_ge hκ (tgt := 18) rfl rfl (by omega) (by omega) (fun c5 => ?_) (fun c5 => ?_)
      · show qJ YX2_separate κ _ (qLy u, (q_row m 31 f), y) 0 0 18 [some (qR 31), some (qI i)] []
        exact qJ.vret hκ rfl rfl (by decide) (by decide) (by refine ⟨rfl, ?_⟩; rw [q_row_c (g := sep (m 31)) (fun k => by rw [v2_2 k]; unfold sep; by_cases g : k < 20; rw [if_pos (by omega), if_pos g]; rw [if_neg (by omega), if_neg g])])
      · show qJ YX2_separate κ _ (qLy u, (q_row m 31 f), y) 0 0 8 [some (qR 31), some (qI i)] []
        refine qJ.run hκ 3 (pc' := 11) (ls' := [some (qR 31), some (qI i)]) (st' := [qI i, qI i, qR 31]) rfl ?_
        refine qJ.ast hκ rfl rfl rfl (by decide) (by omega) ?_
        refine qJ.mc (m1 := (q_up (q_row m 31 f) 31 i.toNat i)) (m2 := (q_row m 31 (q_fu f i.toNat i))) (by rw [q_up_row_eq]) ?_
        show qJ YX2_separate κ _ (qLy u, (q_row m 31 (q_fu f i.toNat i)), y) 0 0 12 [some (qR 31), some (qI i)] []
        refine qJ.run hκ 2 (pc' := 2) (ls' := [some (qR 31), some (qI (i + 1))]) (st' := []) rfl ?_
        exact qJ.cast (ih2  (q_fu f i.toNat i) (i + 1) (by omega) (by omega) (fun k => by by_cases e : k = i.toNat; subst e; rw [q_fu_eq, if_pos (by omega)]; omega; rw [q_fu_ne e, v2_2 k]; by_cases g : (k : Int) < i; rw [if_pos g, if_pos (by omega)]; rw [if_neg g, if_neg (by omega)]) (by omega)) (rfl) rfl rfl
  show qJ YX2_separate κ _ (qLy u, m, y) 0 0 0 [some (qR 31), none] []
  refine qJ.run hκ 2 (pc' := 2) (ls' := [some (qR 31), some (qI 0)]) (st' := []) rfl ?_
  exact qJ.cast (L2 21 (m 31) 0 (by omega) (by omega) (fun k => by rw [if_neg (by omega)]) (by omega)) (by rw [q_row_self]) rfl rfl

set_option maxRecDepth 100000 in
theorem c_gSign29 (u : qU) (m y : qM) (w i : Int) (h0 : 0 ≤ w * 5 + i ∧ w * 5 + i < 300) (h1 : qr (m 3 (w * 5 + i).toNat)) (h2 : qr (m 29 7)) : qCt YX2_signAt 2 0 0 [qR 29, qR 2, qI w, qI i] (qLy u, m, y) (fun r h => r = some (qI (gs m 29 (m 3 (w * 5 + i).toNat))) ∧ h = (qLy u, m, y)) := by
  refine qCt.intro okX2_signAt (Nat.le_of_ble_eq_true rfl) (fun κ hκ => ?_)
  show qJ YX2_signAt κ _ (qLy u, m, y) 0 0 0 [some (qR 29), some (qR 2), some (qI w), some (qI i), none] []
  refine qJ.run hκ 3 (pc' := 3) (ls' := [some (qR 29), some (qR 2), some (qI w), some (qI i), none]) (st' := [qI i, qI w, qR 2]) rfl ?_
  refine qJ.callV (As := [qI w, qI i]) (rest := []) hκ rfl kX2_74 (c_signAt u m y w i (by omega)) rfl rfl (by decide) rfl rfl (Nat.le_of_ble_eq_true rfl) (Nat.le_of_ble_eq_true rfl) (Nat.le_of_ble_eq_true rfl) (Or.inl (fun r h' e => by obtain ⟨rfl, rfl⟩ := e; rfl)) (fun r h' e => ?_)
  obtain ⟨rfl, rfl⟩ := e
  show qJ YX2_signAt κ _ (qLy u, m, y) 0 0 6 [some (qR 29), some (qR 2), some (qI w), some (qI i), none] [qI (m 3 ((w * 5 + i).toNat))]
  refine qJ.run hκ 4 (pc' := 14) (ls' := [some (qR 29), some (qR 2), some (qI w), some (qI i), some (qI (m 3 ((w * 5 + i).toNat)))]) (st' := [qI (m 29 7), qI (m 3 ((w * 5 + i).toNat))]) rfl ?_
  refine qJ.icmp_ne hκ (tgt := 24) rfl rfl (by omega) (by omega) (fun c14 => ?_) (fun c14 => ?_)
  · show qJ YX2_signAt κ _ (qLy u, m, y) 0 0 24 [some (qR 29), some (qR 2), some (qI w), some (qI i), some (qI (m 3 ((w * 5 + i).toNat)))] []
    refine qJ.run hκ 1 (pc' := 26) (ls' := [some (qR 29), some (qR 2), some (qI w), some (qI i), some (qI (m 3 ((w * 5 + i).toNat)))]) (st' := [qI (m 3 ((w * 5 + i).toNat))]) rfl ?_
    exact qJ.iret hκ rfl rfl (by decide) (by decide) (by refine ⟨?_, rfl⟩; unfold gs; first | rw [if_pos c14] | rw [if_neg c14])
  · show qJ YX2_signAt κ _ (qLy u, m, y) 0 0 17 [some (qR 29), some (qR 2), some (qI w), some (qI i), some (qI (m 3 ((w * 5 + i).toNat)))] []
    refine qJ.run hκ 3 (pc' := 26) (ls' := [some (qR 29), some (qR 2), some (qI w), some (qI i), some (qI (m 3 ((w * 5 + i).toNat)))]) (st' := [qI (m 29 6)]) rfl ?_
    exact qJ.iret hκ rfl rfl (by decide) (by decide) (by refine ⟨?_, rfl⟩; unfold gs; first | rw [if_pos c14] | rw [if_neg c14])

set_option maxRecDepth 100000 in
theorem c_joinStems29 (u : qU) (m y : qM) (f k : Nat → Int) (nw w v : Int) (h0 : 0 ≤ m 2 0 ∧ m 2 0 ≤ 60) (hW : gW m) (hg : gOK m 29) (hl : lb f) (hw : 0 ≤ w ∧ w < m 2 0) (hv : 0 ≤ v ∧ v < m 2 0) : qCt YX2_joinStems 3 0 0 [qR 29, qR 2, qI w, qI v] (qLy u, (q_up (q_row (q_row m 30 f) 32 k) 29 5 nw), y) (fun r h => r = none ∧ h = (qLy u, (q_up (q_row (q_row m 30 (jst m 29 w v f)) 32 k) 29 5 nw), y)) := by
  refine qCt.intro okX2_joinStems (Nat.le_of_ble_eq_true rfl) (fun κ hκ => ?_)
  have w1 := hW w hw.1 hw.2
  have w2 := hW v hv.1 hv.2
  have hq := gOK_r hg
  have L50 : ∀ (n : Nat) (i : Int), (0 ≤ i) → (i ≤ m 4 w.toNat - 1) → (3 ≤ m 4 w.toNat ∧ m 4 v.toNat = m 4 w.toNat ∧ m 5 w.toNat = -1 ∧ m 5 v.toNat = -1) → (q_cnt (jsD m 29 w v) i.toNat = 0) → ((m 4 w.toNat - i).toNat) < n → qJ YX2_joinStems κ (qFin (fun r h => r = none ∧ h = (qLy u, (q_up (q_row (q_row m 30 (jst m 29 w v f)) 32 k) 29 5 nw), y)) 0 0 κ) (qLy u, (q_up (q_row (q_row m 30 f) 32 k) 29 5 nw), y) 0 0 50 [some (qR 29), some (qR 2), some (qI w), some (qI v), some (qI (m 4 w.toNat)), some (qI i)] [] := by
    intro n
    induction n with
    | zero => intro i _ _ _ _ hz0; omega
    | succ n ih50 =>
      intro i v50_0 v50_1 v50_2 v50_3 v50_m
      refine qJ.run hκ 4 (pc' := 56) (ls' := [some (qR 29), some (qR 2), some (qI w), some (qI v), some (qI (m 4 w.toNat)), some (qI i)]) (st' := [qI ((m 4 w.toNat) - 1), qI i]) rfl ?_
      refine qJ.icmp_ge hκ (tgt := 85) rfl rfl (by omega) (by omega) (fun c56 => ?_) (fun c56 => ?_)
      · show qJ YX2_joinStems κ _ (qLy u, (q_up (q_row (q_row m 30 f) 32 k) 29 5 nw), y) 0 0 85 [some (qR 29), some (qR 2), some (qI w), some (qI v), some (qI (m 4 w.toNat)), some (qI i)] []
        have w3 := w1.2.2 (m 4 w.toNat - 1) (by omega) (by omega)
        have w4 := w2.2.2 (m 4 w.toNat - 1) (by omega) (by omega)
        have s1 := gs_r hg w3.1
        have s2 := gs_r hg w4.1
        refine qJ.run hκ 8 (pc' := 96) (ls' := [some (qR 29), some (qR 2), some (qI w), some (qI v), some (qI (m 4 w.toNat)), some (qI i)]) (st' := [qI ((m 4 w.toNat) - 1), qI w, qR 2, qR 29, qR 30]) rfl ?_
        refine qJ.callV (As := [qR 2, qI w, qI ((m 4 w.toNat) - 1)]) (rest := [qR 30]) hκ rfl kX2_84 (c_gSign29 u (q_up (q_row (q_row m 30 f) 32 k) 29 5 nw) y w ((m 4 w.toNat) - 1) (by omega) (show qr (m 3 ((w * 5 + ((m 4 w.toNat) - 1)).toNat)) from by omega) hq.1) rfl rfl (by decide) rfl rfl (Nat.le_of_ble_eq_true rfl) (Nat.le_of_ble_eq_true rfl) (Nat.le_of_ble_eq_true rfl) (Or.inl (fun r h' e => by obtain ⟨rfl, rfl⟩ := e; rfl)) (fun r h' e => ?_)
        obtain ⟨rfl, rfl⟩ := e
        show qJ YX2_joinStems κ _ (qLy u, (q_up (q_row (q_row m 30 f) 32 k) 29 5 nw), y) 0 0 99 [some (qR 29), some (qR 2), some (qI w), some (qI v), some (qI (m 4 w.toNat)), some (qI i)] [qI (gs m 29 (m 3 ((w * 5 + ((m 4 w.toNat) - 1)).toNat))), qR 30]
        refine qJ.run hκ 6 (pc' := 106) (ls' := [some (qR 29), some (qR 2), some (qI w), some (qI v), some (qI (m 4 w.toNat)), some (qI i)]) (st' := [qI ((m 4 w.toNat) - 1), qI v, qR 2, qR 29, qI (gs m 29 (m 3 ((w * 5 + ((m 4 w.toNat) - 1)).toNat))), qR 30]) rfl ?_
        refine qJ.callV (As := [qR 2, qI v, qI ((m 4 w.toNat) - 1)]) (rest := [qI (gs m 29 (m 3 ((w * 5 + ((m 4 w.toNat) - 1)).toNat))), qR 30]) hκ rfl kX2_84 (c_gSign29 u (q_up (q_row (q_row m 30 f) 32 k) 29 5 nw) y v ((m 4 w.toNat) - 1) (by omega) (show qr (m 3 ((v * 5 + ((m 4 w.toNat) - 1)).toNat)) from by omega) hq.1) rfl rfl (by decide) rfl rfl (Nat.le_of_ble_eq_true rfl) (Nat.le_of_ble_eq_true rfl) (Nat.le_of_ble_eq_true rfl) (Or.inl (fun r h' e => by obtain ⟨rfl, rfl⟩ := e; rfl)) (fun r h' e => ?_)
        obtain ⟨rfl, rfl⟩ := e
        show qJ YX2_joinStems κ _ (qLy u, (q_up (q_row (q_row m 30 f) 32 k) 29 5 nw), y) 0 0 109 [some (qR 29), some (qR 2), some (qI w), some (qI v), some (qI (m 4 w.toNat)), some (qI i)] [qI (gs m 29 (m 3 ((v * 5 + ((m 4 w.toNat) - 1)).toNat))), qI (gs m 29 (m 3 ((w * 5 + ((m 4 w.toNat) - 1)).toNat))), qR 30]
        refine qJ.callS (As := [qR 30, qI (gs m 29 (m 3 ((w * 5 + ((m 4 w.toNat) - 1)).toNat))), qI (gs m 29 (m 3 ((v * 5 + ((m 4 w.toNat) - 1)).toNat)))]) (rest := []) hκ rfl kX2_87 (c_join30 u (q_up (q_row (q_row m 30 f) 32 k) 29 5 nw) y (gs m 29 (m 3 ((w * 5 + ((m 4 w.toNat) - 1)).toNat))) (gs m 29 (m 3 ((v * 5 + ((m 4 w.toNat) - 1)).toNat))) hl (by omega) (by omega)) (by decide) rfl rfl (Nat.le_of_ble_eq_true rfl) (Nat.le_of_ble_eq_true rfl) (Nat.le_of_ble_eq_true rfl) (Or.inl (fun r h' e => by obtain ⟨rfl, rfl⟩ := e; rfl)) (fun r h' e => ?_)
        obtain ⟨rfl, rfl⟩ := e
        show qJ YX2_joinStems κ _ (qLy u, (q_row (q_up (q_row (q_row m 30 f) 32 k) 29 5 nw) 30 (jn f (gs m 29 (m 3 ((w * 5 + ((m 4 w.toNat) - 1)).toNat))) (gs m 29 (m 3 ((v * 5 + ((m 4 w.toNat) - 1)).toNat))))), y) 0 0 112 [some (qR 29), some (qR 2), some (qI w), some (qI v), some (qI (m 4 w.toNat)), some (qI i)] []
        exact qJ.vret hκ rfl rfl (by decide) (by decide) (by refine ⟨rfl, ?_⟩; unfold jst; rw [if_pos ⟨by omega, by rw [show m 4 w.toNat - 1 = i by omega]; exact v50_3⟩]; unfold lst; rw [show m 4 v.toNat = m 4 w.toNat by omega, ← q_up_row_ne (by decide), q_row_comm (a := 30) (b := 32) (by decide), q_row_row, q_row_comm (a := 32) (b := 30) (by decide)])
      · show qJ YX2_joinStems κ _ (qLy u, (q_up (q_row (q_row m 30 f) 32 k) 29 5 nw), y) 0 0 59 [some (qR 29), some (qR 2), some (qI w), some (qI v), some (qI (m 4 w.toNat)), some (qI i)] []
        have w3 := w1.2.2 i v50_0 (by omega)
        have w4 := w2.2.2 i v50_0 (by omega)
        have s1 := gs_r hg w3.1
        have s2 := gs_r hg w4.1
        refine qJ.run hκ 4 (pc' := 64) (ls' := [some (qR 29), some (qR 2), some (qI w), some (qI v), some (qI (m 4 w.toNat)), some (qI i)]) (st' := [qI i, qI w, qR 2, qR 29]) rfl ?_
        refine qJ.callV (As := [qR 2, qI w, qI i]) (rest := []) hκ rfl kX2_84 (c_gSign29 u (q_up (q_row (q_row m 30 f) 32 k) 29 5 nw) y w i (by omega) (show qr (m 3 ((w * 5 + i).toNat)) from by omega) hq.1) rfl rfl (by decide) rfl rfl (Nat.le_of_ble_eq_true rfl) (Nat.le_of_ble_eq_true rfl) (Nat.le_of_ble_eq_true rfl) (Or.inl (fun r h' e => by obtain ⟨rfl, rfl⟩ := e; rfl)) (fun r h' e => ?_)
        obtain ⟨rfl, rfl⟩ := e
        show qJ YX2_joinStems κ _ (qLy u, (q_up (q_row (q_row m 30 f) 32 k) 29 5 nw), y) 0 0 67 [some (qR 29), some (qR 2), some (qI w), some (qI v), some (qI (m 4 w.toNat)), some (qI i)] [qI (gs m 29 (m 3 ((w * 5 + i).toNat)))]
        refine qJ.run hκ 4 (pc' := 72) (ls' := [some (qR 29), some (qR 2), some (qI w), some (qI v), some (qI (m 4 w.toNat)), some (qI i)]) (st' := [qI i, qI v, qR 2, qR 29, qI (gs m 29 (m 3 ((w * 5 + i).toNat)))]) rfl ?_
        refine qJ.callV (As := [qR 2, qI v, qI i]) (rest := [qI (gs m 29 (m 3 ((w * 5 + i).toNat)))]) hκ rfl kX2_84 (c_gSign29 u (q_up (q_row (q_row m 30 f) 32 k) 29 5 nw) y v i (by omega) (show qr (m 3 ((v * 5 + i).toNat)) from by omega) hq.1) rfl rfl (by decide) rfl rfl (Nat.le_of_ble_eq_true rfl) (Nat.le_of_ble_eq_true rfl) (Nat.le_of_ble_eq_true rfl) (Or.inl (fun r h' e => by obtain ⟨rfl, rfl⟩ := e; rfl)) (fun r h' e => ?_)
        obtain ⟨rfl, rfl⟩ := e
        show qJ YX2_joinStems κ _ (qLy u, (q_up (q_row (q_row m 30 f) 32 k) 29 5 nw), y) 0 0 75 [some (qR 29), some (qR 2), some (qI w), some (qI v), some (qI (m 4 w.toNat)), some (qI i)] [qI (gs m 29 (m 3 ((v * 5 + i).toNat))), qI (gs m 29 (m 3 ((w * 5 + i).toNat)))]
        refine qJ.icmp_eq hκ (tgt := 79) rfl rfl (by omega) (by omega) (fun c75 => ?_) (fun c75 => ?_)
        · show qJ YX2_joinStems κ _ (qLy u, (q_up (q_row (q_row m 30 f) 32 k) 29 5 nw), y) 0 0 79 [some (qR 29), some (qR 2), some (qI w), some (qI v), some (qI (m 4 w.toNat)), some (qI i)] []
          refine qJ.run hκ 2 (pc' := 50) (ls' := [some (qR 29), some (qR 2), some (qI w), some (qI v), some (qI (m 4 w.toNat)), some (qI (i + 1))]) (st' := []) rfl ?_
          exact ih50  (i + 1) (by omega) (by omega) (by omega) (by rw [q_cnt_s v50_0, if_neg (fun z => (jsD_i v50_0).mp z c75)]; omega) (by omega)
        · show qJ YX2_joinStems κ _ (qLy u, (q_up (q_row (q_row m 30 f) 32 k) 29 5 nw), y) 0 0 78 [some (qR 29), some (qR 2), some (qI w), some (qI v), some (qI (m 4 w.toNat)), some (qI i)] []
          exact qJ.vret hκ rfl rfl (by decide) (by decide) (by refine ⟨rfl, ?_⟩; unfold jst; rw [if_neg (fun z => q_cnt_pos v50_0 (by omega) ((jsD_i v50_0).mpr c75) z.2)])
  show qJ YX2_joinStems κ _ (qLy u, (q_up (q_row (q_row m 30 f) 32 k) 29 5 nw), y) 0 0 0 [some (qR 29), some (qR 2), some (qI w), some (qI v), none, none] []
  refine qJ.run hκ 3 (pc' := 5) (ls' := [some (qR 29), some (qR 2), some (qI w), some (qI v), none, none]) (st' := [qI w, qR 4]) rfl ?_
  refine qJ.ald hκ rfl rfl rfl (by decide) (by omega) ?_
  show qJ YX2_joinStems κ _ (qLy u, (q_up (q_row (q_row m 30 f) 32 k) 29 5 nw), y) 0 0 6 [some (qR 29), some (qR 2), some (qI w), some (qI v), none, none] [qI (m 4 w.toNat)]
  refine qJ.run hκ 3 (pc' := 11) (ls' := [some (qR 29), some (qR 2), some (qI w), some (qI v), some (qI (m 4 w.toNat)), none]) (st' := [qI 3, qI (m 4 w.toNat)]) rfl ?_
  refine qJ.icmp_lt hκ (tgt := 25) rfl rfl (by omega) (by omega) (fun c11 => ?_) (fun c11 => ?_)
  · show qJ YX2_joinStems κ _ (qLy u, (q_up (q_row (q_row m 30 f) 32 k) 29 5 nw), y) 0 0 25 [some (qR 29), some (qR 2), some (qI w), some (qI v), some (qI (m 4 w.toNat)), none] []
    exact qJ.vret hκ rfl rfl (by decide) (by decide) (by refine ⟨rfl, ?_⟩; unfold jst; rw [if_neg (fun z => by have := z.1; omega)])
  · show qJ YX2_joinStems κ _ (qLy u, (q_up (q_row (q_row m 30 f) 32 k) 29 5 nw), y) 0 0 14 [some (qR 29), some (qR 2), some (qI w), some (qI v), some (qI (m 4 w.toNat)), none] []
    refine qJ.run hκ 3 (pc' := 19) (ls' := [some (qR 29), some (qR 2), some (qI w), some (qI v), some (qI (m 4 w.toNat)), none]) (st' := [qI v, qR 4]) rfl ?_
    refine qJ.ald hκ rfl rfl rfl (by decide) (by omega) ?_
    show qJ YX2_joinStems κ _ (qLy u, (q_up (q_row (q_row m 30 f) 32 k) 29 5 nw), y) 0 0 20 [some (qR 29), some (qR 2), some (qI w), some (qI v), some (qI (m 4 w.toNat)), none] [qI (m 4 v.toNat)]
    refine qJ.run hκ 1 (pc' := 22) (ls' := [some (qR 29), some (qR 2), some (qI w), some (qI v), some (qI (m 4 w.toNat)), none]) (st' := [qI (m 4 w.toNat), qI (m 4 v.toNat)]) rfl ?_
    refine qJ.icmp_eq hκ (tgt := 26) rfl rfl (by omega) (by omega) (fun c22 => ?_) (fun c22 => ?_)
    · show qJ YX2_joinStems κ _ (qLy u, (q_up (q_row (q_row m 30 f) 32 k) 29 5 nw), y) 0 0 26 [some (qR 29), some (qR 2), some (qI w), some (qI v), some (qI (m 4 w.toNat)), none] []
      refine qJ.run hκ 3 (pc' := 31) (ls' := [some (qR 29), some (qR 2), some (qI w), some (qI v), some (qI (m 4 w.toNat)), none]) (st' := [qI w, qR 5]) rfl ?_
      refine qJ.ald hκ rfl rfl rfl (by decide) (by omega) ?_
      show qJ YX2_joinStems κ _ (qLy u, (q_up (q_row (q_row m 30 f) 32 k) 29 5 nw), y) 0 0 32 [some (qR 29), some (qR 2), some (qI w), some (qI v), some (qI (m 4 w.toNat)), none] [qI (m 5 w.toNat)]
      refine qJ.run hκ 1 (pc' := 33) (ls' := [some (qR 29), some (qR 2), some (qI w), some (qI v), some (qI (m 4 w.toNat)), none]) (st' := [qI (-1), qI (m 5 w.toNat)]) rfl ?_
      refine qJ.icmp_ne hκ (tgt := 46) rfl rfl (by omega) (by omega) (fun c33 => ?_) (fun c33 => ?_)
      · show qJ YX2_joinStems κ _ (qLy u, (q_up (q_row (q_row m 30 f) 32 k) 29 5 nw), y) 0 0 46 [some (qR 29), some (qR 2), some (qI w), some (qI v), some (qI (m 4 w.toNat)), none] []
        exact qJ.vret hκ rfl rfl (by decide) (by decide) (by refine ⟨rfl, ?_⟩; unfold jst; rw [if_neg (fun z => by have := z.1; omega)])
      · show qJ YX2_joinStems κ _ (qLy u, (q_up (q_row (q_row m 30 f) 32 k) 29 5 nw), y) 0 0 36 [some (qR 29), some (qR 2), some (qI w), some (qI v), some (qI (m 4 w.toNat)), none] []
        refine qJ.run hκ 3 (pc' := 41) (ls' := [some (qR 29), some (qR 2), some (qI w), some (qI v), some (qI (m 4 w.toNat)), none]) (st' := [qI v, qR 5]) rfl ?_
        refine qJ.ald hκ rfl rfl rfl (by decide) (by omega) ?_
        show qJ YX2_joinStems κ _ (qLy u, (q_up (q_row (q_row m 30 f) 32 k) 29 5 nw), y) 0 0 42 [some (qR 29), some (qR 2), some (qI w), some (qI v), some (qI (m 4 w.toNat)), none] [qI (m 5 v.toNat)]
        refine qJ.run hκ 1 (pc' := 43) (ls' := [some (qR 29), some (qR 2), some (qI w), some (qI v), some (qI (m 4 w.toNat)), none]) (st' := [qI (-1), qI (m 5 v.toNat)]) rfl ?_
        refine qJ.icmp_eq hκ (tgt := 47) rfl rfl (by omega) (by omega) (fun c43 => ?_) (fun c43 => ?_)
        · show qJ YX2_joinStems κ _ (qLy u, (q_up (q_row (q_row m 30 f) 32 k) 29 5 nw), y) 0 0 47 [some (qR 29), some (qR 2), some (qI w), some (qI v), some (qI (m 4 w.toNat)), none] []
          refine qJ.run hκ 2 (pc' := 50) (ls' := [some (qR 29), some (qR 2), some (qI w), some (qI v), some (qI (m 4 w.toNat)), some (qI 0)]) (st' := []) rfl ?_
          exact L50 7 0 (by omega) (by omega) (by omega) (rfl) (by omega)
        · show qJ YX2_joinStems κ _ (qLy u, (q_up (q_row (q_row m 30 f) 32 k) 29 5 nw), y) 0 0 46 [some (qR 29), some (qR 2), some (qI w), some (qI v), some (qI (m 4 w.toNat)), none] []
          exact qJ.vret hκ rfl rfl (by decide) (by decide) (by refine ⟨rfl, ?_⟩; unfold jst; rw [if_neg (fun z => by have := z.1; omega)])
    · show qJ YX2_joinStems κ _ (qLy u, (q_up (q_row (q_row m 30 f) 32 k) 29 5 nw), y) 0 0 25 [some (qR 29), some (qR 2), some (qI w), some (qI v), some (qI (m 4 w.toNat)), none] []
      exact qJ.vret hκ rfl rfl (by decide) (by decide) (by refine ⟨rfl, ?_⟩; unfold jst; rw [if_neg (fun z => by have := z.1; omega)])

set_option maxRecDepth 100000 in
theorem c_gTake29 (u : qU) (m y : qM) (f k : Nat → Int) (nw t : Int) (h0 : 0 ≤ m 2 0 ∧ m 2 0 ≤ 60) (hW : gW m) (hg : gOK m 29) (hl : lb f) (ht : 0 ≤ t ∧ t < 150) (h9 : 0 ≤ m 9 t.toNat ∧ m 9 t.toNat < m 2 0) (h10 : -1 ≤ m 10 t.toNat ∧ m 10 t.toNat ≤ 3) : qCt YX2_take 4 0 0 [qR 29, qR 2, qI t] (qLy u, (q_up (q_row (q_row m 30 f) 32 k) 29 5 nw), y) (fun r h => r = none ∧ h = (qLy u, (q_up (q_row (q_row m 30 (tkF m 29 t f)) 32 (q_fu k (m 9 t.toNat).toNat (m 10 t.toNat))) 29 5 (tkN m t nw)), y)) := by
  refine qCt.intro okX2_take (Nat.le_of_ble_eq_true rfl) (fun κ hκ => ?_)
  have L32 : ∀ (n : Nat) (f1 : Nat → Int) (i : Int), (0 ≤ i) → (i ≤ m 9 t.toNat) → (f1 = stm m 29 (m 9 t.toNat) f i.toNat) → (lb f1) → (m 10 t.toNat = -1) → ((m 9 t.toNat - i).toNat) < n → qJ YX2_take κ (qFin (fun r h => r = none ∧ h = (qLy u, (q_up (q_row (q_row m 30 (tkF m 29 t f)) 32 (q_fu k (m 9 t.toNat).toNat (m 10 t.toNat))) 29 5 (tkN m t nw)), y)) 0 0 κ) (qLy u, (q_up (q_row (q_row m 30 f1) 32 (q_fu k (m 9 t.toNat).toNat (m 10 t.toNat))) 29 5 nw), y) 0 0 32 [some (qR 29), some (qR 2), some (qI t), some (qI (m 9 t.toNat)), some (qI i)] [] := by
    intro n
    induction n with
    | zero => intro f1 i _ _ _ _ _ hz0; omega
    | succ n ih32 =>
      intro f1 i v32_0 v32_1 v32_2 v32_3 v32_4 v32_m
      refine qJ.run hκ 2 (pc' := 35) (ls' := [some (qR 29), some (qR 2), some (qI t), some (qI (m 9 t.toNat)), some (qI i)]) (st' := [qI (m 9 t.toNat), qI i]) rfl ?_
      refine qJ.icmp_ge hκ (tgt := 52) rfl rfl (by omega) (by omega) (fun c35 => ?_) (fun c35 => ?_)
      · show qJ YX2_take κ _ (qLy u, (q_up (q_row (q_row m 30 f1) 32 (q_fu k (m 9 t.toNat).toNat (m 10 t.toNat))) 29 5 nw), y) 0 0 52 [some (qR 29), some (qR 2), some (qI t), some (qI (m 9 t.toNat)), some (qI i)] []
        refine qJ.run hκ 4 (pc' := 56) (ls' := [some (qR 29), some (qR 2), some (qI t), some (qI (m 9 t.toNat)), some (qI i)]) (st' := [qI ((m 9 t.toNat) + 1), qR 29]) rfl ?_
        refine qJ.putI hκ rfl rfl rfl rfl (Or.inl rfl) ?_
        show qJ YX2_take κ _ (qLy u, (q_up (q_up (q_row (q_row m 30 f1) 32 (q_fu k (m 9 t.toNat).toNat (m 10 t.toNat))) 29 5 nw) 29 5 ((m 9 t.toNat) + 1)), y) 0 0 59 [some (qR 29), some (qR 2), some (qI t), some (qI (m 9 t.toNat)), some (qI i)] []
        exact qJ.vret hκ rfl rfl (by decide) (by decide) (by refine ⟨rfl, ?_⟩; unfold tkF tkN; rw [if_pos v32_4, if_pos v32_4, v32_2, show i = m 9 t.toNat by omega, q_up_same])
      · show qJ YX2_take κ _ (qLy u, (q_up (q_row (q_row m 30 f1) 32 (q_fu k (m 9 t.toNat).toNat (m 10 t.toNat))) 29 5 nw), y) 0 0 38 [some (qR 29), some (qR 2), some (qI t), some (qI (m 9 t.toNat)), some (qI i)] []
        have hf := v32_3
        refine qJ.run hκ 4 (pc' := 43) (ls' := [some (qR 29), some (qR 2), some (qI t), some (qI (m 9 t.toNat)), some (qI i)]) (st' := [qI i, qI (m 9 t.toNat), qR 2, qR 29]) rfl ?_
        refine qJ.callV (As := [qR 2, qI (m 9 t.toNat), qI i]) (rest := []) hκ rfl kX2_70 (c_joinStems29 u m y f1 (q_fu k (m 9 t.toNat).toNat (m 10 t.toNat)) nw (m 9 t.toNat) i h0 hW hg hf (by omega) (by omega)) rfl rfl (by decide) rfl rfl (Nat.le_of_ble_eq_true rfl) (Nat.le_of_ble_eq_true rfl) (Nat.le_of_ble_eq_true rfl) (Or.inl (fun r h' e => by obtain ⟨rfl, rfl⟩ := e; rfl)) (fun r h' e => ?_)
        obtain ⟨rfl, rfl⟩ := e
        show qJ YX2_take κ _ (qLy u, (q_up (q_row (q_row m 30 (jst m 29 (m 9 t.toNat) i f1)) 32 (q_fu k (m 9 t.toNat).toNat (m 10 t.toNat))) 29 5 nw), y) 0 0 46 [some (qR 29), some (qR 2), some (qI t), some (qI (m 9 t.toNat)), some (qI i)] []
        refine qJ.run hκ 2 (pc' := 32) (ls' := [some (qR 29), some (qR 2), some (qI t), some (qI (m 9 t.toNat)), some (qI (i + 1))]) (st' := []) rfl ?_
        exact ih32  (jst m 29 (m 9 t.toNat) i f1) (i + 1) (by omega) (by omega) (by rw [v32_2, show (i + 1).toNat = i.toNat + 1 by omega]; show _ = jst m 29 _ ((i.toNat : Nat) : Int) _; rw [show ((i.toNat : Nat) : Int) = i by omega]) (jst_lb h0 hW hg v32_3 (by omega) (by omega)) (by omega) (by omega)
  show qJ YX2_take κ _ (qLy u, (q_up (q_row (q_row m 30 f) 32 k) 29 5 nw), y) 0 0 0 [some (qR 29), some (qR 2), some (qI t), none, none] []
  refine qJ.run hκ 3 (pc' := 5) (ls' := [some (qR 29), some (qR 2), some (qI t), none, none]) (st' := [qI t, qR 9]) rfl ?_
  refine qJ.ald hκ rfl rfl rfl (by decide) (by omega) ?_
  show qJ YX2_take κ _ (qLy u, (q_up (q_row (q_row m 30 f) 32 k) 29 5 nw), y) 0 0 6 [some (qR 29), some (qR 2), some (qI t), none, none] [qI (m 9 t.toNat)]
  refine qJ.run hκ 7 (pc' := 17) (ls' := [some (qR 29), some (qR 2), some (qI t), some (qI (m 9 t.toNat)), none]) (st' := [qI t, qR 10, qI (m 9 t.toNat), qR 32]) rfl ?_
  refine qJ.ald hκ rfl rfl rfl (by decide) (by omega) ?_
  show qJ YX2_take κ _ (qLy u, (q_up (q_row (q_row m 30 f) 32 k) 29 5 nw), y) 0 0 18 [some (qR 29), some (qR 2), some (qI t), some (qI (m 9 t.toNat)), none] [qI (m 10 t.toNat), qI (m 9 t.toNat), qR 32]
  refine qJ.ast hκ rfl rfl rfl (by decide) (by omega) ?_
  refine qJ.mc (m1 := (q_up (q_up (q_row (q_row m 30 f) 32 k) 29 5 nw) 32 ((m 9 t.toNat).toNat) (m 10 t.toNat))) (m2 := (q_up (q_row (q_row m 30 f) 32 (q_fu k ((m 9 t.toNat).toNat) (m 10 t.toNat))) 29 5 nw)) (by rw [q_up_comm (a := 32) (c := 29) (by decide), q_up_row_eq]) ?_
  show qJ YX2_take κ _ (qLy u, (q_up (q_row (q_row m 30 f) 32 (q_fu k ((m 9 t.toNat).toNat) (m 10 t.toNat))) 29 5 nw), y) 0 0 19 [some (qR 29), some (qR 2), some (qI t), some (qI (m 9 t.toNat)), none] []
  have kw : q_fu k (m 9 t.toNat).toNat (m 10 t.toNat) (m 9 t.toNat).toNat = m 10 t.toNat := q_fu_eq
  refine qJ.run hκ 3 (pc' := 24) (ls' := [some (qR 29), some (qR 2), some (qI t), some (qI (m 9 t.toNat)), none]) (st' := [qI (m 9 t.toNat), qR 32]) rfl ?_
  refine qJ.ald hκ rfl rfl rfl (by decide) (by omega) ?_
  show qJ YX2_take κ _ (qLy u, (q_up (q_row (q_row m 30 f) 32 (q_fu k ((m 9 t.toNat).toNat) (m 10 t.toNat))) 29 5 nw), y) 0 0 25 [some (qR 29), some (qR 2), some (qI t), some (qI (m 9 t.toNat)), none] [qI ((q_fu k ((m 9 t.toNat).toNat) (m 10 t.toNat)) ((m 9 t.toNat).toNat))]
  refine qJ.run hκ 1 (pc' := 26) (ls' := [some (qR 29), some (qR 2), some (qI t), some (qI (m 9 t.toNat)), none]) (st' := [qI (-1), qI ((q_fu k ((m 9 t.toNat).toNat) (m 10 t.toNat)) ((m 9 t.toNat).toNat))]) rfl ?_
  refine qJ.icmp_ne hκ (tgt := 59) rfl rfl (by omega) (by omega) (fun c26 => ?_) (fun c26 => ?_)
  · show qJ YX2_take κ _ (qLy u, (q_up (q_row (q_row m 30 f) 32 (q_fu k ((m 9 t.toNat).toNat) (m 10 t.toNat))) 29 5 nw), y) 0 0 59 [some (qR 29), some (qR 2), some (qI t), some (qI (m 9 t.toNat)), none] []
    exact qJ.vret hκ rfl rfl (by decide) (by decide) (by refine ⟨rfl, ?_⟩; unfold tkF tkN; rw [if_neg (by rw [← kw]; exact c26), if_neg (by rw [← kw]; exact c26)])
  · show qJ YX2_take κ _ (qLy u, (q_up (q_row (q_row m 30 f) 32 (q_fu k ((m 9 t.toNat).toNat) (m 10 t.toNat))) 29 5 nw), y) 0 0 29 [some (qR 29), some (qR 2), some (qI t), some (qI (m 9 t.toNat)), none] []
    refine qJ.run hκ 2 (pc' := 32) (ls' := [some (qR 29), some (qR 2), some (qI t), some (qI (m 9 t.toNat)), some (qI 0)]) (st' := []) rfl ?_
    exact L32 61 f 0 (by omega) (by omega) (rfl) (hl) (by rw [← kw]; exact c26) (by omega)

set_option maxRecDepth 100000 in
theorem c_join35 (u : qU) (m y : qM) (a b : Int) (hl : lb (m 35)) (ha : 0 ≤ a ∧ a < 20) (hb : 0 ≤ b ∧ b < 20) : qCt YX2_join 2 0 0 [qR 35, qI a, qI b] (qLy u, m, y) (fun r h => r = none ∧ h = (qLy u, q_row m 35 (jn (m 35) a b), y)) := by
  refine qCt.intro okX2_join (Nat.le_of_ble_eq_true rfl) (fun κ hκ => ?_)
  have l1 := hl a.toNat (by omega)
  have l2 := hl b.toNat (by omega)
  have L31 : ∀ (n : Nat) (f : Nat → Int) (i : Int), (0 ≤ i) → (i ≤ 20) → (∀ k : Nat, f k = if (k : Int) < i ∧ m 35 k = max (m 35 a.toNat) (m 35 b.toNat) then min (m 35 a.toNat) (m 35 b.toNat) else m 35 k) → ((20 - i).toNat) < n → qJ YX2_join κ (qFin (fun r h => r = none ∧ h = (qLy u, q_row m 35 (jn (m 35) a b), y)) 0 0 κ) (qLy u, (q_row m 35 f), y) 0 0 31 [some (qR 35), some (qI a), some (qI b), some (qI (min (m 35 a.toNat) (m 35 b.toNat))), some (qI (max (m 35 a.toNat) (m 35 b.toNat))), some (qI i)] [] := by
    intro n
    induction n with
    | zero => intro f i _ _ _ hz0; omega
    | succ n ih31 =>
      intro f i v31_0 v31_1 v31_2 v31_m
      refine qJ.run hκ 2 (pc' := 35) (ls' := [some (qR 35), some (qI a), some (qI b), some (qI (min (m 35 a.toNat) (m 35 b.toNat))), some (qI (max (m 35 a.toNat) (m 35 b.toNat))), some (qI i)]) (st' := [qI 20, qI i]) rfl ?_
      refine qJ.icmp_ge hκ (tgt := 58) rfl rfl (by omega) (by omega) (fun c35 => ?_) (fun c35 => ?_)
      · show qJ YX2_join κ _ (qLy u, (q_row m 35 f), y) 0 0 58 [some (qR 35), some (qI a), some (qI b), some (qI (min (m 35 a.toNat) (m 35 b.toNat))), some (qI (max (m 35 a.toNat) (m 35 b.toNat))), some (qI i)] []
        exact qJ.vret hκ rfl rfl (by decide) (by decide) (by refine ⟨rfl, ?_⟩; rw [q_row_c (g := jn (m 35) a b) (fun k => by rw [v31_2 k]; unfold jn; by_cases g : k < 20 ∧ m 35 k = max (m 35 a.toNat) (m 35 b.toNat); rw [if_pos ⟨by omega, g.2⟩, if_pos g]; rw [if_neg (fun z => g ⟨by have := z.1; omega, z.2⟩), if_neg g])])
      · show qJ YX2_join κ _ (qLy u, (q_row m 35 f), y) 0 0 38 [some (qR 35), some (qI a), some (qI b), some (qI (min (m 35 a.toNat) (m 35 b.toNat))), some (qI (max (m 35 a.toNat) (m 35 b.toNat))), some (qI i)] []
        have l3 := hl i.toNat (by omega)
        have fi : f i.toNat = m 35 i.toNat := by rw [v31_2, if_neg (by omega)]
        refine qJ.run hκ 2 (pc' := 41) (ls' := [some (qR 35), some (qI a), some (qI b), some (qI (min (m 35 a.toNat) (m 35 b.toNat))), some (qI (max (m 35 a.toNat) (m 35 b.toNat))), some (qI i)]) (st' := [qI i, qR 35]) rfl ?_
        refine qJ.ald hκ rfl rfl rfl (by decide) (by omega) ?_
        show qJ YX2_join κ _ (qLy u, (q_row m 35 f), y) 0 0 42 [some (qR 35), some (qI a), some (qI b), some (qI (min (m 35 a.toNat) (m 35 b.toNat))), some (qI (max (m 35 a.toNat) (m 35 b.toNat))), some (qI i)] [qI (f i.toNat)]
        refine qJ.run hκ 1 (pc' := 44) (ls' := [some (qR 35), some (qI a), some (qI b), some (qI (min (m 35 a.toNat) (m 35 b.toNat))), some (qI (max (m 35 a.toNat) (m 35 b.toNat))), some (qI i)]) (st' := [qI (max (m 35 a.toNat) (m 35 b.toNat)), qI (f i.toNat)]) rfl ?_
        refine qJ.icmp_ne hκ (tgt := 52) rfl rfl (by omega) (by omega) (fun c44 => ?_) (fun c44 => ?_)
        · show qJ YX2_join κ _ (qLy u, (q_row m 35 f), y) 0 0 52 [some (qR 35), some (qI a), some (qI b), some (qI (min (m 35 a.toNat) (m 35 b.toNat))), some (qI (max (m 35 a.toNat) (m 35 b.toNat))), some (qI i)] []
          refine qJ.run hκ 2 (pc' := 31) (ls' := [some (qR 35), some (qI a), some (qI b), some (qI (min (m 35 a.toNat) (m 35 b.toNat))), some (qI (max (m 35 a.toNat) (m 35 b.toNat))), some (qI (i + 1))]) (st' := []) rfl ?_
          exact qJ.cast (ih31  f (i + 1) (by omega) (by omega) (fun k => by rw [v31_2 k]; by_cases g : (k : Int) < i; (by_cases e : m 35 k = max (m 35 a.toNat) (m 35 b.toNat); rw [if_pos ⟨g, e⟩, if_pos ⟨by omega, e⟩]; rw [if_neg (fun z => e z.2), if_neg (fun z => e z.2)]); by_cases g2 : k = i.toNat; subst g2; rw [if_neg (fun z => g z.1), if_neg (fun z => c44 (by rw [fi]; exact z.2))]; rw [if_neg (fun z => g z.1), if_neg (fun z => by have := z.1; omega)]) (by omega)) (rfl) rfl rfl
        · show qJ YX2_join κ _ (qLy u, (q_row m 35 f), y) 0 0 47 [some (qR 35), some (qI a), some (qI b), some (qI (min (m 35 a.toNat) (m 35 b.toNat))), some (qI (max (m 35 a.toNat) (m 35 b.toNat))), some (qI i)] []
          refine qJ.run hκ 3 (pc' := 51) (ls' := [some (qR 35), some (qI a), some (qI b), some (qI (min (m 35 a.toNat) (m 35 b.toNat))), some (qI (max (m 35 a.toNat) (m 35 b.toNat))), some (qI i)]) (st' := [qI (min (m 35 a.toNat) (m 35 b.toNat)), qI i, qR 35]) rfl ?_
          refine qJ.ast hκ rfl rfl rfl (by decide) (by omega) ?_
          refine qJ.mc (m1 := (q_up (q_row m 35 f) 35 i.toNat (min (m 35 a.toNat) (m 35 b.toNat)))) (m2 := (q_row m 35 (q_fu f i.toNat (min (m 35 a.toNat) (m 35 b.toNat))))) (by rw [q_up_row_eq]) ?_
          show qJ YX2_join κ _ (qLy u, (q_row m 35 (q_fu f i.toNat (min (m 35 a.toNat) (m 35 b.toNat)))), y) 0 0 52 [some (qR 35), some (qI a), some (qI b), some (qI (min (m 35 a.toNat) (m 35 b.toNat))), some (qI (max (m 35 a.toNat) (m 35 b.toNat))), some (qI i)] []
          refine qJ.run hκ 2 (pc' := 31) (ls' := [some (qR 35), some (qI a), some (qI b), some (qI (min (m 35 a.toNat) (m 35 b.toNat))), some (qI (max (m 35 a.toNat) (m 35 b.toNat))), some (qI (i + 1))]) (st' := []) rfl ?_
          exact qJ.cast (ih31  (q_fu f i.toNat (min (m 35 a.toNat) (m 35 b.toNat))) (i + 1) (by omega) (by omega) (fun k => by by_cases e : k = i.toNat; subst e; rw [q_fu_eq, if_pos ⟨by omega, by rw [← fi]; exact c44⟩]; rw [q_fu_ne e, v31_2 k]; by_cases g : (k : Int) < i ∧ m 35 k = max (m 35 a.toNat) (m 35 b.toNat); rw [if_pos g, if_pos ⟨by omega, g.2⟩]; rw [if_neg g, if_neg (fun z => g ⟨by have := z.1; omega, z.2⟩)]) (by omega)) (rfl) rfl rfl
  show qJ YX2_join κ _ (qLy u, m, y) 0 0 0 [some (qR 35), some (qI a), some (qI b), none, none, none] []
  refine qJ.run hκ 2 (pc' := 2) (ls' := [some (qR 35), some (qI a), some (qI b), none, none, none]) (st' := [qI a, qR 35]) rfl ?_
  refine qJ.ald hκ rfl rfl rfl (by decide) (by omega) ?_
  show qJ YX2_join κ _ (qLy u, m, y) 0 0 3 [some (qR 35), some (qI a), some (qI b), none, none, none] [qI (m 35 a.toNat)]
  refine qJ.run hκ 2 (pc' := 5) (ls' := [some (qR 35), some (qI a), some (qI b), none, none, none]) (st' := [qI b, qR 35, qI (m 35 a.toNat)]) rfl ?_
  refine qJ.ald hκ rfl rfl rfl (by decide) (by omega) ?_
  show qJ YX2_join κ _ (qLy u, m, y) 0 0 6 [some (qR 35), some (qI a), some (qI b), none, none, none] [qI (m 35 b.toNat), qI (m 35 a.toNat)]
  refine qJ.min hκ rfl kX2_97 (Nat.le_of_ble_eq_true rfl) (Nat.le_of_ble_eq_true rfl) (Nat.le_of_ble_eq_true rfl) (Nat.le_of_ble_eq_true rfl) (by omega) (by omega) ?_
  show qJ YX2_join κ _ (qLy u, m, y) 0 0 9 [some (qR 35), some (qI a), some (qI b), none, none, none] [qI (min (m 35 a.toNat) (m 35 b.toNat))]
  refine qJ.run hκ 3 (pc' := 12) (ls' := [some (qR 35), some (qI a), some (qI b), some (qI (min (m 35 a.toNat) (m 35 b.toNat))), none, none]) (st' := [qI a, qR 35]) rfl ?_
  refine qJ.ald hκ rfl rfl rfl (by decide) (by omega) ?_
  show qJ YX2_join κ _ (qLy u, m, y) 0 0 13 [some (qR 35), some (qI a), some (qI b), some (qI (min (m 35 a.toNat) (m 35 b.toNat))), none, none] [qI (m 35 a.toNat)]
  refine qJ.run hκ 2 (pc' := 15) (ls' := [some (qR 35), some (qI a), some (qI b), some (qI (min (m 35 a.toNat) (m 35 b.toNat))), none, none]) (st' := [qI b, qR 35, qI (m 35 a.toNat)]) rfl ?_
  refine qJ.ald hκ rfl rfl rfl (by decide) (by omega) ?_
  show qJ YX2_join κ _ (qLy u, m, y) 0 0 16 [some (qR 35), some (qI a), some (qI b), some (qI (min (m 35 a.toNat) (m 35 b.toNat))), none, none] [qI (m 35 b.toNat), qI (m 35 a.toNat)]
  refine qJ.max hκ rfl kX2_102 (Nat.le_of_ble_eq_true rfl) (Nat.le_of_ble_eq_true rfl) (Nat.le_of_ble_eq_true rfl) (Nat.le_of_ble_eq_true rfl) (by omega) (by omega) ?_
  show qJ YX2_join κ _ (qLy u, m, y) 0 0 19 [some (qR 35), some (qI a), some (qI b), some (qI (min (m 35 a.toNat) (m 35 b.toNat))), none, none] [qI (max (m 35 a.toNat) (m 35 b.toNat))]
  refine qJ.run hκ 3 (pc' := 24) (ls' := [some (qR 35), some (qI a), some (qI b), some (qI (min (m 35 a.toNat) (m 35 b.toNat))), some (qI (max (m 35 a.toNat) (m 35 b.toNat))), none]) (st' := [qI (max (m 35 a.toNat) (m 35 b.toNat)), qI (min (m 35 a.toNat) (m 35 b.toNat))]) rfl ?_
  refine qJ.icmp_ne hκ (tgt := 28) rfl rfl (by omega) (by omega) (fun c24 => ?_) (fun c24 => ?_)
  · show qJ YX2_join κ _ (qLy u, m, y) 0 0 28 [some (qR 35), some (qI a), some (qI b), some (qI (min (m 35 a.toNat) (m 35 b.toNat))), some (qI (max (m 35 a.toNat) (m 35 b.toNat))), none] []
    refine qJ.run hκ 2 (pc' := 31) (ls' := [some (qR 35), some (qI a), some (qI b), some (qI (min (m 35 a.toNat) (m 35 b.toNat))), some (qI (max (m 35 a.toNat) (m 35 b.toNat))), some (qI 0)]) (st' := []) rfl ?_
    exact qJ.cast (L31 21 (m 35) 0 (by omega) (by omega) (fun k => by rw [if_neg (by omega)]) (by omega)) (by rw [q_row_self]) rfl rfl
  · show qJ YX2_join κ _ (qLy u, m, y) 0 0 27 [some (qR 35), some (qI a), some (qI b), some (qI (min (m 35 a.toNat) (m 35 b.toNat))), some (qI (max (m 35 a.toNat) (m 35 b.toNat))), none] []
    exact qJ.vret hκ rfl rfl (by decide) (by decide) (by refine ⟨rfl, ?_⟩; rw [jn_same c24, q_row_self])

set_option maxRecDepth 100000 in
theorem c_sep35 (u : qU) (m y : qM)  : qCt YX2_separate 1 0 0 [qR 35] (qLy u, m, y) (fun r h => r = none ∧ h = (qLy u, q_row m 35 (sep (m 35)), y)) := by
  refine qCt.intro okX2_separate (Nat.le_of_ble_eq_true rfl) (fun κ hκ => ?_)
  have L2 : ∀ (n : Nat) (f : Nat → Int) (i : Int), (0 ≤ i) → (i ≤ 20) → (∀ k : Nat, f k = if (k : Int) < i then (k : Int) else m 35 k) → ((20 - i).toNat) < n → qJ YX2_separate κ (qFin (fun r h => r = none ∧ h = (qLy u, q_row m 35 (sep (m 35)), y)) 0 0 κ) (qLy u, (q_row m 35 f), y) 0 0 2 [some (qR 35), some (qI i)] [] := by
    intro n
    induction n with
    | zero => intro f i _ _ _ hz0; omega
    | succ n ih2 =>
      intro f i v2_0 v2_1 v2_2 v2_m
      refine qJ.run hκ 2 (pc' := 5) (ls' := [some (qR 35), some (qI i)]) (st' := [qI 20, qI i]) rfl ?_
      refine qJ.icmp_ge hκ (tgt := 18) rfl rfl (by omega) (by omega) (fun c5 => ?_) (fun c5 => ?_)
      · show qJ YX2_separate κ _ (qLy u, (q_row m 35 f), y) 0 0 18 [some (qR 35), some (qI i)] []
        exact qJ.vret hκ rfl rfl (by decide) (by decide) (by refine ⟨rfl, ?_⟩; rw [q_row_c (g := sep (m 35)) (fun k => by rw [v2_2 k]; unfold sep; by_cases g : k < 20; rw [if_pos (by omega), if_pos g]; rw [if_neg (by omega), if_neg g])])
      · show qJ YX2_separate κ _ (qLy u, (q_row m 35 f), y) 0 0 8 [some (qR 35), some (qI i)] []
        refine qJ.run hκ 3 (pc' := 11) (ls' := [some (qR 35), some (qI i)]) (st' := [qI i, qI i, qR 35]) rfl ?_
        refine qJ.ast hκ rfl rfl rfl (by decide) (by omega) ?_
        refine qJ.mc (m1 := (q_up (q_row m 35 f) 35 i.toNat i)) (m2 := (q_row m 35 (q_fu f i.toNat i))) (by rw [q_up_row_eq]) ?_
        show qJ YX2_separate κ _ (qLy u, (q_row m 35 (q_fu f i.toNat i)), y) 0 0 12 [some (qR 35), some (qI i)] []
        refine qJ.run hκ 2 (pc' := 2) (ls' := [some (qR 35), some (qI (i + 1))]) (st' := []) rfl ?_
        exact qJ.cast (ih2  (q_fu f i.toNat i) (i + 1) (by omega) (by omega) (fun k => by by_cases e : k = i.toNat; subst e; rw [q_fu_eq, if_pos (by omega)]; omega; rw [q_fu_ne e, v2_2 k]; by_cases g : (k : Int) < i; rw [if_pos g, if_pos (by omega)]; rw [if_neg g, if_neg (by omega)]) (by omega)) (rfl) rfl rfl
  show qJ YX2_separate κ _ (qLy u, m, y) 0 0 0 [some (qR 35), none] []
  refine qJ.run hκ 2 (pc' := 2) (ls' := [some (qR 35), some (qI 0)]) (st' := []) rfl ?_
  exact qJ.cast (L2 21 (m 35) 0 (by omega) (by omega) (fun k => by rw [if_neg (by omega)]) (by omega)) (by rw [q_row_self]) rfl rfl

set_option maxRecDepth 100000 in
theorem c_join36 (u : qU) (m y : qM) (a b : Int) (hl : lb (m 36)) (ha : 0 ≤ a ∧ a < 20) (hb : 0 ≤ b ∧ b < 20) : qCt YX2_join 2 0 0 [qR 36, qI a, qI b] (qLy u, m, y) (fun r h => r = none ∧ h = (qLy u, q_row m 36 (jn (m 36) a b), y)) := by
  refine qCt.intro okX2_join (Nat.le_of_ble_eq_true rfl) (fun κ hκ => ?_)
  have l1 := hl a.toNat (by omega)
  have l2 := hl b.toNat (by omega)
  have L31 : ∀ (n : Nat) (f : Nat → Int) (i : Int), (0 ≤ i) → (i ≤ 20) → (∀ k : Nat, f k = if (k : Int) < i ∧ m 36 k = max (m 36 a.toNat) (m 36 b.toNat) then min (m 36 a.toNat) (m 36 b.toNat) else m 36 k) → ((20 - i).toNat) < n → qJ YX2_join κ (qFin (fun r h => r = none ∧ h = (qLy u, q_row m 36 (jn (m 36) a b), y)) 0 0 κ) (qLy u, (q_row m 36 f), y) 0 0 31 [some (qR 36), some (qI a), some (qI b), some (qI (min (m 36 a.toNat) (m 36 b.toNat))), some (qI (max (m 36 a.toNat) (m 36 b.toNat))), some (qI i)] [] := by
    intro n
    induction n with
    | zero => intro f i _ _ _ hz0; omega
    | succ n ih31 =>
      intro f i v31_0 v31_1 v31_2 v31_m
      refine qJ.run hκ 2 (pc' := 35) (ls' := [some (qR 36), some (qI a), some (qI b), some (qI (min (m 36 a.toNat) (m 36 b.toNat))), some (qI (max (m 36 a.toNat) (m 36 b.toNat))), some (qI i)]) (st' := [qI 20, qI i]) rfl ?_
      refine qJ.icmp_ge hκ (tgt := 58) rfl rfl (by omega) (by omega) (fun c35 => ?_) (fun c35 => ?_)
      · show qJ YX2_join κ _ (qLy u, (q_row m 36 f), y) 0 0 58 [some (qR 36), some (qI a), some (qI b), some (qI (min (m 36 a.toNat) (m 36 b.toNat))), some (qI (max (m 36 a.toNat) (m 36 b.toNat))), some (qI i)] []
        exact qJ.vret hκ rfl rfl (by decide) (by decide) (by refine ⟨rfl, ?_⟩; rw [q_row_c (g := jn (m 36) a b) (fun k => by rw [v31_2 k]; unfold jn; by_cases g : k < 20 ∧ m 36 k = max (m 36 a.toNat) (m 36 b.toNat); rw [if_pos ⟨by omega, g.2⟩, if_pos g]; rw [if_neg (fun z => g ⟨by have := z.1; omega, z.2⟩), if_neg g])])
      · show qJ YX2_join κ _ (qLy u, (q_row m 36 f), y) 0 0 38 [some (qR 36), some (qI a), some (qI b), some (qI (min (m 36 a.toNat) (m 36 b.toNat))), some (qI (max (m 36 a.toNat) (m 36 b.toNat))), some (qI i)] []
        have l3 := hl i.toNat (by omega)
        have fi : f i.toNat = m 36 i.toNat := by rw [v31_2, if_neg (by omega)]
        refine qJ.run hκ 2 (pc' := 41) (ls' := [some (qR 36), some (qI a), some (qI b), some (qI (min (m 36 a.toNat) (m 36 b.toNat))), some (qI (max (m 36 a.toNat) (m 36 b.toNat))), some (qI i)]) (st' := [qI i, qR 36]) rfl ?_
        refine qJ.ald hκ rfl rfl rfl (by decide) (by omega) ?_
        show qJ YX2_join κ _ (qLy u, (q_row m 36 f), y) 0 0 42 [some (qR 36), some (qI a), some (qI b), some (qI (min (m 36 a.toNat) (m 36 b.toNat))), some (qI (max (m 36 a.toNat) (m 36 b.toNat))), some (qI i)] [qI (f i.toNat)]
        refine qJ.run hκ 1 (pc' := 44) (ls' := [some (qR 36), some (qI a), some (qI b), some (qI (min (m 36 a.toNat) (m 36 b.toNat))), some (qI (max (m 36 a.toNat) (m 36 b.toNat))), some (qI i)]) (st' := [qI (max (m 36 a.toNat) (m 36 b.toNat)), qI (f i.toNat)]) rfl ?_
        refine qJ.icmp_ne hκ (tgt := 52) rfl rfl (by omega) (by omega) (fun c44 => ?_) (fun c44 => ?_)
        · show qJ YX2_join κ _ (qLy u, (q_row m 36 f), y) 0 0 52 [some (qR 36), some (qI a), some (qI b), some (qI (min (m 36 a.toNat) (m 36 b.toNat))), some (qI (max (m 36 a.toNat) (m 36 b.toNat))), some (qI i)] []
          refine qJ.run hκ 2 (pc' := 31) (ls' := [some (qR 36), some (qI a), some (qI b), some (qI (min (m 36 a.toNat) (m 36 b.toNat))), some (qI (max (m 36 a.toNat) (m 36 b.toNat))), some (qI (i + 1))]) (st' := []) rfl ?_
          exact qJ.cast (ih31  f (i + 1) (by omega) (by omega) (fun k => by rw [v31_2 k]; by_cases g : (k : Int) < i; (by_cases e : m 36 k = max (m 36 a.toNat) (m 36 b.toNat); rw [if_pos ⟨g, e⟩, if_pos ⟨by omega, e⟩]; rw [if_neg (fun z => e z.2), if_neg (fun z => e z.2)]); by_cases g2 : k = i.toNat; subst g2; rw [if_neg (fun z => g z.1), if_neg (fun z => c44 (by rw [fi]; exact z.2))]; rw [if_neg (fun z => g z.1), if_neg (fun z => by have := z.1; omega)]) (by omega)) (rfl) rfl rfl
        · show qJ YX2_join κ _ (qLy u, (q_row m 36 f), y) 0 0 47 [some (qR 36), some (qI a), some (qI b), some (qI (min (m 36 a.toNat) (m 36 b.toNat))), some (qI (max (m 36 a.toNat) (m 36 b.toNat))), some (qI i)] []
          refine qJ.run hκ 3 (pc' := 51) (ls' := [some (qR 36), some (qI a), some (qI b), some (qI (min (m 36 a.toNat) (m 36 b.toNat))), some (qI (max (m 36 a.toNat) (m 36 b.toNat))), some (qI i)]) (st' := [qI (min (m 36 a.toNat) (m 36 b.toNat)), qI i, qR 36]) rfl ?_
          refine qJ.ast hκ rfl rfl rfl (by decide) (by omega) ?_
          refine qJ.mc (m1 := (q_up (q_row m 36 f) 36 i.toNat (min (m 36 a.toNat) (m 36 b.toNat)))) (m2 := (q_row m 36 (q_fu f i.toNat (min (m 36 a.toNat) (m 36 b.toNat))))) (by rw [q_up_row_eq]) ?_
          show qJ YX2_join κ _ (qLy u, (q_row m 36 (q_fu f i.toNat (min (m 36 a.toNat) (m 36 b.toNat)))), y) 0 0 52 [some (qR 36), some (qI a), some (qI b), some (qI (min (m 36 a.toNat) (m 36 b.toNat))), some (qI (max (m 36 a.toNat) (m 36 b.toNat))), some (qI i)] []
          refine qJ.run hκ 2 (pc' := 31) (ls' := [some (qR 36), some (qI a), some (qI b), some (qI (min (m 36 a.toNat) (m 36 b.toNat))), some (qI (max (m 36 a.toNat) (m 36 b.toNat))), some (qI (i + 1))]) (st' := []) rfl ?_
          exact qJ.cast (ih31  (q_fu f i.toNat (min (m 36 a.toNat) (m 36 b.toNat))) (i + 1) (by omega) (by omega) (fun k => by by_cases e : k = i.toNat; subst e; rw [q_fu_eq, if_pos ⟨by omega, by rw [← fi]; exact c44⟩]; rw [q_fu_ne e, v31_2 k]; by_cases g : (k : Int) < i ∧ m 36 k = max (m 36 a.toNat) (m 36 b.toNat); rw [if_pos g, if_pos ⟨by omega, g.2⟩]; rw [if_neg g, if_neg (fun z => g ⟨by have := z.1; omega, z.2⟩)]) (by omega)) (rfl) rfl rfl
  show qJ YX2_join κ _ (qLy u, m, y) 0 0 0 [some (qR 36), some (qI a), some (qI b), none, none, none] []
  refine qJ.run hκ 2 (pc' := 2) (ls' := [some (qR 36), some (qI a), some (qI b), none, none, none]) (st' := [qI a, qR 36]) rfl ?_
  refine qJ.ald hκ rfl rfl rfl (by decide) (by omega) ?_
  show qJ YX2_join κ _ (qLy u, m, y) 0 0 3 [some (qR 36), some (qI a), some (qI b), none, none, none] [qI (m 36 a.toNat)]
  refine qJ.run hκ 2 (pc' := 5) (ls' := [some (qR 36), some (qI a), some (qI b), none, none, none]) (st' := [qI b, qR 36, qI (m 36 a.toNat)]) rfl ?_
  refine qJ.ald hκ rfl rfl rfl (by decide) (by omega) ?_
  show qJ YX2_join κ _ (qLy u, m, y) 0 0 6 [some (qR 36), some (qI a), some (qI b), none, none, none] [qI (m 36 b.toNat), qI (m 36 a.toNat)]
  refine qJ.min hκ rfl kX2_97 (Nat.le_of_ble_eq_true rfl) (Nat.le_of_ble_eq_true rfl) (Nat.le_of_ble_eq_true rfl) (Nat.le_of_ble_eq_true rfl) (by omega) (by omega) ?_
  show qJ YX2_join κ _ (qLy u, m, y) 0 0 9 [some (qR 36), some (qI a), some (qI b), none, none, none] [qI (min (m 36 a.toNat) (m 36 b.toNat))]
  refine qJ.run hκ 3 (pc' := 12) (ls' := [some (qR 36), some (qI a), some (qI b), some (qI (min (m 36 a.toNat) (m 36 b.toNat))), none, none]) (st' := [qI a, qR 36]) rfl ?_
  refine qJ.ald hκ rfl rfl rfl (by decide) (by omega) ?_
  show qJ YX2_join κ _ (qLy u, m, y) 0 0 13 [some (qR 36), some (qI a), some (qI b), some (qI (min (m 36 a.toNat) (m 36 b.toNat))), none, none] [qI (m 36 a.toNat)]
  refine qJ.run hκ 2 (pc' := 15) (ls' := [some (qR 36), some (qI a), some (qI b), some (qI (min (m 36 a.toNat) (m 36 b.toNat))), none, none]) (st' := [qI b, qR 36, qI (m 36 a.toNat)]) rfl ?_
  refine qJ.ald hκ rfl rfl rfl (by decide) (by omega) ?_
  show qJ YX2_join κ _ (qLy u, m, y) 0 0 16 [some (qR 36), some (qI a), some (qI b), some (qI (min (m 36 a.toNat) (m 36 b.toNat))), none, none] [qI (m 36 b.toNat), qI (m 36 a.toNat)]
  refine qJ.max hκ rfl kX2_102 (Nat.le_of_ble_eq_true rfl) (Nat.le_of_ble_eq_true rfl) (Nat.le_of_ble_eq_true rfl) (Nat.le_of_ble_eq_true rfl) (by omega) (by omega) ?_
  show qJ YX2_join κ _ (qLy u, m, y) 0 0 19 [some (qR 36), some (qI a), some (qI b), some (qI (min (m 36 a.toNat) (m 36 b.toNat))), none, none] [qI (max (m 36 a.toNat) (m 36 b.toNat))]
  refine qJ.run hκ 3 (pc' := 24) (ls' := [some (qR 36), some (qI a), some (qI b), some (qI (min (m 36 a.toNat) (m 36 b.toNat))), some (qI (max (m 36 a.toNat) (m 36 b.toNat))), none]) (st' := [qI (max (m 36 a.toNat) (m 36 b.toNat)), qI (min (m 36 a.toNat) (m 36 b.toNat))]) rfl ?_
  refine qJ.icmp_ne hκ (tgt := 28) rfl rfl (by omega) (by omega) (fun c24 => ?_) (fun c24 => ?_)
  · show qJ YX2_join κ _ (qLy u, m, y) 0 0 28 [some (qR 36), some (qI a), some (qI b), some (qI (min (m 36 a.toNat) (m 36 b.toNat))), some (qI (max (m 36 a.toNat) (m 36 b.toNat))), none] []
    refine qJ.run hκ 2 (pc' := 31) (ls' := [some (qR 36), some (qI a), some (qI b), some (qI (min (m 36 a.toNat) (m 36 b.toNat))), some (qI (max (m 36 a.toNat) (m 36 b.toNat))), some (qI 0)]) (st' := []) rfl ?_
    exact qJ.cast (L31 21 (m 36) 0 (by omega) (by omega) (fun k => by rw [if_neg (by omega)]) (by omega)) (by rw [q_row_self]) rfl rfl
  · show qJ YX2_join κ _ (qLy u, m, y) 0 0 27 [some (qR 36), some (qI a), some (qI b), some (qI (min (m 36 a.toNat) (m 36 b.toNat))), some (qI (max (m 36 a.toNat) (m 36 b.toNat))), none] []
    exact qJ.vret hκ rfl rfl (by decide) (by decide) (by refine ⟨rfl, ?_⟩; rw [jn_same c24, q_row_self])

set_option maxRecDepth 100000 in
theorem c_sep36 (u : qU) (m y : qM)  : qCt YX2_separate 1 0 0 [qR 36] (qLy u, m, y) (fun r h => r = none ∧ h = (qLy u, q_row m 36 (sep (m 36)), y)) := by
  refine qCt.intro okX2_separate (Nat.le_of_ble_eq_true rfl) (fun κ hκ => ?_)
  have L2 : ∀ (n : Nat) (f : Nat → Int) (i : Int), (0 ≤ i) → (i ≤ 20) → (∀ k : Nat, f k = if (k : Int) < i then (k : Int) else m 36 k) → ((20 - i).toNat) < n → qJ YX2_separate κ (qFin (fun r h => r = none ∧ h = (qLy u, q_row m 36 (sep (m 36)), y)) 0 0 κ) (qLy u, (q_row m 36 f), y) 0 0 2 [some (qR 36), some (qI i)] [] := by
    intro n
    induction n with
    | zero => intro f i _ _ _ hz0; omega
    | succ n ih2 =>
      intro f i v2_0 v2_1 v2_2 v2_m
      refine qJ.run hκ 2 (pc' := 5) (ls' := [some (qR 36), some (qI i)]) (st' := [qI 20, qI i]) rfl ?_
      refine qJ.icmp_ge hκ (tgt := 18) rfl rfl (by omega) (by omega) (fun c5 => ?_) (fun c5 => ?_)
      · show qJ YX2_separate κ _ (qLy u, (q_row m 36 f), y) 0 0 18 [some (qR 36), some (qI i)] []
        exact qJ.vret hκ rfl rfl (by decide) (by decide) (by refine ⟨rfl, ?_⟩; rw [q_row_c (g := sep (m 36)) (fun k => by rw [v2_2 k]; unfold sep; by_cases g : k < 20; rw [if_pos (by omega), if_pos g]; rw [if_neg (by omega), if_neg g])])
      · show qJ YX2_separate κ _ (qLy u, (q_row m 36 f), y) 0 0 8 [some (qR 36), some (qI i)] []
        refine qJ.run hκ 3 (pc' := 11) (ls' := [some (qR 36), some (qI i)]) (st' := [qI i, qI i, qR 36]) rfl ?_
        refine qJ.ast hκ rfl rfl rfl (by decide) (by omega) ?_
        refine qJ.mc (m1 := (q_up (q_row m 36 f) 36 i.toNat i)) (m2 := (q_row m 36 (q_fu f i.toNat i))) (by rw [q_up_row_eq]) ?_
        show qJ YX2_separate κ _ (qLy u, (q_row m 36 (q_fu f i.toNat i)), y) 0 0 12 [some (qR 36), some (qI i)] []
        refine qJ.run hκ 2 (pc' := 2) (ls' := [some (qR 36), some (qI (i + 1))]) (st' := []) rfl ?_
        exact qJ.cast (ih2  (q_fu f i.toNat i) (i + 1) (by omega) (by omega) (fun k => by by_cases e : k = i.toNat; subst e; rw [q_fu_eq, if_pos (by omega)]; omega; rw [q_fu_ne e, v2_2 k]; by_cases g : (k : Int) < i; rw [if_pos g, if_pos (by omega)]; rw [if_neg g, if_neg (by omega)]) (by omega)) (rfl) rfl rfl
  show qJ YX2_separate κ _ (qLy u, m, y) 0 0 0 [some (qR 36), none] []
  refine qJ.run hκ 2 (pc' := 2) (ls' := [some (qR 36), some (qI 0)]) (st' := []) rfl ?_
  exact qJ.cast (L2 21 (m 36) 0 (by omega) (by omega) (fun k => by rw [if_neg (by omega)]) (by omega)) (by rw [q_row_self]) rfl rfl

set_option maxRecDepth 100000 in
theorem c_gSign34 (u : qU) (m y : qM) (w i : Int) (h0 : 0 ≤ w * 5 + i ∧ w * 5 + i < 300) (h1 : qr (m 3 (w * 5 + i).toNat)) (h2 : qr (m 34 7)) : qCt YX2_signAt 2 0 0 [qR 34, qR 2, qI w, qI i] (qLy u, m, y) (fun r h => r = some (qI (gs m 34 (m 3 (w * 5 + i).toNat))) ∧ h = (qLy u, m, y)) := by
  refine qCt.intro okX2_signAt (Nat.le_of_ble_eq_true rfl) (fun κ hκ => ?_)
  show qJ YX2_signAt κ _ (qLy u, m, y) 0 0 0 [some (qR 34), some (qR 2), some (qI w), some (qI i), none] []
  refine qJ.run hκ 3 (pc' := 3) (ls' := [some (qR 34), some (qR 2), some (qI w), some (qI i), none]) (st' := [qI i, qI w, qR 2]) rfl ?_
  refine qJ.callV (As := [qI w, qI i]) (rest := []) hκ rfl kX2_74 (c_signAt u m y w i (by omega)) rfl rfl (by decide) rfl rfl (Nat.le_of_ble_eq_true rfl) (Nat.le_of_ble_eq_true rfl) (Nat.le_of_ble_eq_true rfl) (Or.inl (fun r h' e => by obtain ⟨rfl, rfl⟩ := e; rfl)) (fun r h' e => ?_)
  obtain ⟨rfl, rfl⟩ := e
  show qJ YX2_signAt κ _ (qLy u, m, y) 0 0 6 [some (qR 34), some (qR 2), some (qI w), some (qI i), none] [qI (m 3 ((w * 5 + i).toNat))]
  refine qJ.run hκ 4 (pc' := 14) (ls' := [some (qR 34), some (qR 2), some (qI w), some (qI i), some (qI (m 3 ((w * 5 + i).toNat)))]) (st' := [qI (m 34 7), qI (m 3 ((w * 5 + i).toNat))]) rfl ?_
  refine qJ.icmp_ne hκ (tgt := 24) rfl rfl (by omega) (by omega) (fun c14 => ?_) (fun c14 => ?_)
  · show qJ YX2_signAt κ _ (qLy u, m, y) 0 0 24 [some (qR 34), some (qR 2), some (qI w), some (qI i), some (qI (m 3 ((w * 5 + i).toNat)))] []
    refine qJ.run hκ 1 (pc' := 26) (ls' := [some (qR 34), some (qR 2), some (qI w), some (qI i), some (qI (m 3 ((w * 5 + i).toNat)))]) (st' := [qI (m 3 ((w * 5 + i).toNat))]) rfl ?_
    exact qJ.iret hκ rfl rfl (by decide) (by decide) (by refine ⟨?_, rfl⟩; unfold gs; first | rw [if_pos c14] | rw [if_neg c14])
  · show qJ YX2_signAt κ _ (qLy u, m, y) 0 0 17 [some (qR 34), some (qR 2), some (qI w), some (qI i), some (qI (m 3 ((w * 5 + i).toNat)))] []
    refine qJ.run hκ 3 (pc' := 26) (ls' := [some (qR 34), some (qR 2), some (qI w), some (qI i), some (qI (m 3 ((w * 5 + i).toNat)))]) (st' := [qI (m 34 6)]) rfl ?_
    exact qJ.iret hκ rfl rfl (by decide) (by decide) (by refine ⟨?_, rfl⟩; unfold gs; first | rw [if_pos c14] | rw [if_neg c14])

set_option maxRecDepth 100000 in
theorem c_joinStems34 (u : qU) (m y : qM) (f k : Nat → Int) (nw w v : Int) (h0 : 0 ≤ m 2 0 ∧ m 2 0 ≤ 60) (hW : gW m) (hg : gOK m 34) (hl : lb f) (hw : 0 ≤ w ∧ w < m 2 0) (hv : 0 ≤ v ∧ v < m 2 0) : qCt YX2_joinStems 3 0 0 [qR 34, qR 2, qI w, qI v] (qLy u, (q_up (q_row (q_row m 35 f) 37 k) 34 5 nw), y) (fun r h => r = none ∧ h = (qLy u, (q_up (q_row (q_row m 35 (jst m 34 w v f)) 37 k) 34 5 nw), y)) := by
  refine qCt.intro okX2_joinStems (Nat.le_of_ble_eq_true rfl) (fun κ hκ => ?_)
  have w1 := hW w hw.1 hw.2
  have w2 := hW v hv.1 hv.2
  have hq := gOK_r hg
  have L50 : ∀ (n : Nat) (i : Int), (0 ≤ i) → (i ≤ m 4 w.toNat - 1) → (3 ≤ m 4 w.toNat ∧ m 4 v.toNat = m 4 w.toNat ∧ m 5 w.toNat = -1 ∧ m 5 v.toNat = -1) → (q_cnt (jsD m 34 w v) i.toNat = 0) → ((m 4 w.toNat - i).toNat) < n → qJ YX2_joinStems κ (qFin (fun r h => r = none ∧ h = (qLy u, (q_up (q_row (q_row m 35 (jst m 34 w v f)) 37 k) 34 5 nw), y)) 0 0 κ) (qLy u, (q_up (q_row (q_row m 35 f) 37 k) 34 5 nw), y) 0 0 50 [some (qR 34), some (qR 2), some (qI w), some (qI v), some (qI (m 4 w.toNat)), some (qI i)] [] := by
    intro n
    induction n with
    | zero => intro i _ _ _ _ hz0; omega
    | succ n ih50 =>
      intro i v50_0 v50_1 v50_2 v50_3 v50_m
      refine qJ.run hκ 4 (pc' := 56) (ls' := [some (qR 34), some (qR 2), some (qI w), some (qI v), some (qI (m 4 w.toNat)), some (qI i)]) (st' := [qI ((m 4 w.toNat) - 1), qI i]) rfl ?_
      refine qJ.icmp_ge hκ (tgt := 85) rfl rfl (by omega) (by omega) (fun c56 => ?_) (fun c56 => ?_)
      · show qJ YX2_joinStems κ _ (qLy u, (q_up (q_row (q_row m 35 f) 37 k) 34 5 nw), y) 0 0 85 [some (qR 34), some (qR 2), some (qI w), some (qI v), some (qI (m 4 w.toNat)), some (qI i)] []
        have w3 := w1.2.2 (m 4 w.toNat - 1) (by omega) (by omega)
        have w4 := w2.2.2 (m 4 w.toNat - 1) (by omega) (by omega)
        have s1 := gs_r hg w3.1
        have s2 := gs_r hg w4.1
        refine qJ.run hκ 8 (pc' := 96) (ls' := [some (qR 34), some (qR 2), some (qI w), some (qI v), some (qI (m 4 w.toNat)), some (qI i)]) (st' := [qI ((m 4 w.toNat) - 1), qI w, qR 2, qR 34, qR 35]) rfl ?_
        refine qJ.callV (As := [qR 2, qI w, qI ((m 4 w.toNat) - 1)]) (rest := [qR 35]) hκ rfl kX2_84 (c_gSign34 u (q_up (q_row (q_row m 35 f) 37 k) 34 5 nw) y w ((m 4 w.toNat) - 1) (by omega) (show qr (m 3 ((w * 5 + ((m 4 w.toNat) - 1)).toNat)) from by omega) hq.1) rfl rfl (by decide) rfl rfl (Nat.le_of_ble_eq_true rfl) (Nat.le_of_ble_eq_true rfl) (Nat.le_of_ble_eq_true rfl) (Or.inl (fun r h' e => by obtain ⟨rfl, rfl⟩ := e; rfl)) (fun r h' e => ?_)
        obtain ⟨rfl, rfl⟩ := e
        show qJ YX2_joinStems κ _ (qLy u, (q_up (q_row (q_row m 35 f) 37 k) 34 5 nw), y) 0 0 99 [some (qR 34), some (qR 2), some (qI w), some (qI v), some (qI (m 4 w.toNat)), some (qI i)] [qI (gs m 34 (m 3 ((w * 5 + ((m 4 w.toNat) - 1)).toNat))), qR 35]
        refine qJ.run hκ 6 (pc' := 106) (ls' := [some (qR 34), some (qR 2), some (qI w), some (qI v), some (qI (m 4 w.toNat)), some (qI i)]) (st' := [qI ((m 4 w.toNat) - 1), qI v, qR 2, qR 34, qI (gs m 34 (m 3 ((w * 5 + ((m 4 w.toNat) - 1)).toNat))), qR 35]) rfl ?_
        refine qJ.callV (As := [qR 2, qI v, qI ((m 4 w.toNat) - 1)]) (rest := [qI (gs m 34 (m 3 ((w * 5 + ((m 4 w.toNat) - 1)).toNat))), qR 35]) hκ rfl kX2_84 (c_gSign34 u (q_up (q_row (q_row m 35 f) 37 k) 34 5 nw) y v ((m 4 w.toNat) - 1) (by omega) (show qr (m 3 ((v * 5 + ((m 4 w.toNat) - 1)).toNat)) from by omega) hq.1) rfl rfl (by decide) rfl rfl (Nat.le_of_ble_eq_true rfl) (Nat.le_of_ble_eq_true rfl) (Nat.le_of_ble_eq_true rfl) (Or.inl (fun r h' e => by obtain ⟨rfl, rfl⟩ := e; rfl)) (fun r h' e => ?_)
        obtain ⟨rfl, rfl⟩ := e
        show qJ YX2_joinStems κ _ (qLy u, (q_up (q_row (q_row m 35 f) 37 k) 34 5 nw), y) 0 0 109 [some (qR 34), some (qR 2), some (qI w), some (qI v), some (qI (m 4 w.toNat)), some (qI i)] [qI (gs m 34 (m 3 ((v * 5 + ((m 4 w.toNat) - 1)).toNat))), qI (gs m 34 (m 3 ((w * 5 + ((m 4 w.toNat) - 1)).toNat))), qR 35]
        refine qJ.callS (As := [qR 35, qI (gs m 34 (m 3 ((w * 5 + ((m 4 w.toNat) - 1)).toNat))), qI (gs m 34 (m 3 ((v * 5 + ((m 4 w.toNat) - 1)).toNat)))]) (rest := []) hκ rfl kX2_87 (c_join35 u (q_up (q_row (q_row m 35 f) 37 k) 34 5 nw) y (gs m 34 (m 3 ((w * 5 + ((m 4 w.toNat) - 1)).toNat))) (gs m 34 (m 3 ((v * 5 + ((m 4 w.toNat) - 1)).toNat))) hl (by omega) (by omega)) (by decide) rfl rfl (Nat.le_of_ble_eq_true rfl) (Nat.le_of_ble_eq_true rfl) (Nat.le_of_ble_eq_true rfl) (Or.inl (fun r h' e => by obtain ⟨rfl, rfl⟩ := e; rfl)) (fun r h' e => ?_)
        obtain ⟨rfl, rfl⟩ := e
        show qJ YX2_joinStems κ _ (qLy u, (q_row (q_up (q_row (q_row m 35 f) 37 k) 34 5 nw) 35 (jn f (gs m 34 (m 3 ((w * 5 + ((m 4 w.toNat) - 1)).toNat))) (gs m 34 (m 3 ((v * 5 + ((m 4 w.toNat) - 1)).toNat))))), y) 0 0 112 [some (qR 34), some (qR 2), some (qI w), some (qI v), some (qI (m 4 w.toNat)), some (qI i)] []
        exact qJ.vret hκ rfl rfl (by decide) (by decide) (by refine ⟨rfl, ?_⟩; unfold jst; rw [if_pos ⟨by omega, by rw [show m 4 w.toNat - 1 = i by omega]; exact v50_3⟩]; unfold lst; rw [show m 4 v.toNat = m 4 w.toNat by omega, ← q_up_row_ne (by decide), q_row_comm (a := 35) (b := 37) (by decide), q_row_row, q_row_comm (a := 37) (b := 35) (by decide)])
      · show qJ YX2_joinStems κ _ (qLy u, (q_up (q_row (q_row m 35 f) 37 k) 34 5 nw), y) 0 0 59 [some (qR 34), some (qR 2), some (qI w), some (qI v), some (qI (m 4 w.toNat)), some (qI i)] []
        have w3 := w1.2.2 i v50_0 (by omega)
        have w4 := w2.2.2 i v50_0 (by omega)
        have s1 := gs_r hg w3.1
        have s2 := gs_r hg w4.1
        refine qJ.run hκ 4 (pc' := 64) (ls' := [some (qR 34), some (qR 2), some (qI w), some (qI v), some (qI (m 4 w.toNat)), some (qI i)]) (st' := [qI i, qI w, qR 2, qR 34]) rfl ?_
        refine qJ.callV (As := [qR 2, qI w, qI i]) (rest := []) hκ rfl kX2_84 (c_gSign34 u (q_up (q_row (q_row m 35 f) 37 k) 34 5 nw) y w i (by omega) (show qr (m 3 ((w * 5 + i).toNat)) from by omega) hq.1) rfl rfl (by decide) rfl rfl (Nat.le_of_ble_eq_true rfl) (Nat.le_of_ble_eq_true rfl) (Nat.le_of_ble_eq_true rfl) (Or.inl (fun r h' e => by obtain ⟨rfl, rfl⟩ := e; rfl)) (fun r h' e => ?_)
        obtain ⟨rfl, rfl⟩ := e
        show qJ YX2_joinStems κ _ (qLy u, (q_up (q_row (q_row m 35 f) 37 k) 34 5 nw), y) 0 0 67 [some (qR 34), some (qR 2), some (qI w), some (qI v), some (qI (m 4 w.toNat)), some (qI i)] [qI (gs m 34 (m 3 ((w * 5 + i).toNat)))]
        refine qJ.run hκ 4 (pc' := 72) (ls' := [some (qR 34), some (qR 2), some (qI w), some (qI v), some (qI (m 4 w.toNat)), some (qI i)]) (st' := [qI i, qI v, qR 2, qR 34, qI (gs m 34 (m 3 ((w * 5 + i).toNat)))]) rfl ?_
        refine qJ.callV (As := [qR 2, qI v, qI i]) (rest := [qI (gs m 34 (m 3 ((w * 5 + i).toNat)))]) hκ rfl kX2_84 (c_gSign34 u (q_up (q_row (q_row m 35 f) 37 k) 34 5 nw) y v i (by omega) (show qr (m 3 ((v * 5 + i).toNat)) from by omega) hq.1) rfl rfl (by decide) rfl rfl (Nat.le_of_ble_eq_true rfl) (Nat.le_of_ble_eq_true rfl) (Nat.le_of_ble_eq_true rfl) (Or.inl (fun r h' e => by obtain ⟨rfl, rfl⟩ := e; rfl)) (fun r h' e => ?_)
        obtain ⟨rfl, rfl⟩ := e
        show qJ YX2_joinStems κ _ (qLy u, (q_up (q_row (q_row m 35 f) 37 k) 34 5 nw), y) 0 0 75 [some (qR 34), some (qR 2), some (qI w), some (qI v), some (qI (m 4 w.toNat)), some (qI i)] [qI (gs m 34 (m 3 ((v * 5 + i).toNat))), qI (gs m 34 (m 3 ((w * 5 + i).toNat)))]
        refine qJ.icmp_eq hκ (tgt := 79) rfl rfl (by omega) (by omega) (fun c75 => ?_) (fun c75 => ?_)
        · show qJ YX2_joinStems κ _ (qLy u, (q_up (q_row (q_row m 35 f) 37 k) 34 5 nw), y) 0 0 79 [some (qR 34), some (qR 2), some (qI w), some (qI v), some (qI (m 4 w.toNat)), some (qI i)] []
          refine qJ.run hκ 2 (pc' := 50) (ls' := [some (qR 34), some (qR 2), some (qI w), some (qI v), some (qI (m 4 w.toNat)), some (qI (i + 1))]) (st' := []) rfl ?_
          exact ih50  (i + 1) (by omega) (by omega) (by omega) (by rw [q_cnt_s v50_0, if_neg (fun z => (jsD_i v50_0).mp z c75)]; omega) (by omega)
        · show qJ YX2_joinStems κ _ (qLy u, (q_up (q_row (q_row m 35 f) 37 k) 34 5 nw), y) 0 0 78 [some (qR 34), some (qR 2), some (qI w), some (qI v), some (qI (m 4 w.toNat)), some (qI i)] []
          exact qJ.vret hκ rfl rfl (by decide) (by decide) (by refine ⟨rfl, ?_⟩; unfold jst; rw [if_neg (fun z => q_cnt_pos v50_0 (by omega) ((jsD_i v50_0).mpr c75) z.2)])
  show qJ YX2_joinStems κ _ (qLy u, (q_up (q_row (q_row m 35 f) 37 k) 34 5 nw), y) 0 0 0 [some (qR 34), some (qR 2), some (qI w), some (qI v), none, none] []
  refine qJ.run hκ 3 (pc' := 5) (ls' := [some (qR 34), some (qR 2), some (qI w), some (qI v), none, none]) (st' := [qI w, qR 4]) rfl ?_
  refine qJ.ald hκ rfl rfl rfl (by decide) (by omega) ?_
  show qJ YX2_joinStems κ _ (qLy u, (q_up (q_row (q_row m 35 f) 37 k) 34 5 nw), y) 0 0 6 [some (qR 34), some (qR 2), some (qI w), some (qI v), none, none] [qI (m 4 w.toNat)]
  refine qJ.run hκ 3 (pc' := 11) (ls' := [some (qR 34), some (qR 2), some (qI w), some (qI v), some (qI (m 4 w.toNat)), none]) (st' := [qI 3, qI (m 4 w.toNat)]) rfl ?_
  refine qJ.icmp_lt hκ (tgt := 25) rfl rfl (by omega) (by omega) (fun c11 => ?_) (fun c11 => ?_)
  · show qJ YX2_joinStems κ _ (qLy u, (q_up (q_row (q_row m 35 f) 37 k) 34 5 nw), y) 0 0 25 [some (qR 34), some (qR 2), some (qI w), some (qI v), some (qI (m 4 w.toNat)), none] []
    exact qJ.vret hκ rfl rfl (by decide) (by decide) (by refine ⟨rfl, ?_⟩; unfold jst; rw [if_neg (fun z => by have := z.1; omega)])
  · show qJ YX2_joinStems κ _ (qLy u, (q_up (q_row (q_row m 35 f) 37 k) 34 5 nw), y) 0 0 14 [some (qR 34), some (qR 2), some (qI w), some (qI v), some (qI (m 4 w.toNat)), none] []
    refine qJ.run hκ 3 (pc' := 19) (ls' := [some (qR 34), some (qR 2), some (qI w), some (qI v), some (qI (m 4 w.toNat)), none]) (st' := [qI v, qR 4]) rfl ?_
    refine qJ.ald hκ rfl rfl rfl (by decide) (by omega) ?_
    show qJ YX2_joinStems κ _ (qLy u, (q_up (q_row (q_row m 35 f) 37 k) 34 5 nw), y) 0 0 20 [some (qR 34), some (qR 2), some (qI w), some (qI v), some (qI (m 4 w.toNat)), none] [qI (m 4 v.toNat)]
    refine qJ.run hκ 1 (pc' := 22) (ls' := [some (qR 34), some (qR 2), some (qI w), some (qI v), some (qI (m 4 w.toNat)), none]) (st' := [qI (m 4 w.toNat), qI (m 4 v.toNat)]) rfl ?_
    refine qJ.icmp_eq hκ (tgt := 26) rfl rfl (by omega) (by omega) (fun c22 => ?_) (fun c22 => ?_)
    · show qJ YX2_joinStems κ _ (qLy u, (q_up (q_row (q_row m 35 f) 37 k) 34 5 nw), y) 0 0 26 [some (qR 34), some (qR 2), some (qI w), some (qI v), some (qI (m 4 w.toNat)), none] []
      refine qJ.run hκ 3 (pc' := 31) (ls' := [some (qR 34), some (qR 2), some (qI w), some (qI v), some (qI (m 4 w.toNat)), none]) (st' := [qI w, qR 5]) rfl ?_
      refine qJ.ald hκ rfl rfl rfl (by decide) (by omega) ?_
      show qJ YX2_joinStems κ _ (qLy u, (q_up (q_row (q_row m 35 f) 37 k) 34 5 nw), y) 0 0 32 [some (qR 34), some (qR 2), some (qI w), some (qI v), some (qI (m 4 w.toNat)), none] [qI (m 5 w.toNat)]
      refine qJ.run hκ 1 (pc' := 33) (ls' := [some (qR 34), some (qR 2), some (qI w), some (qI v), some (qI (m 4 w.toNat)), none]) (st' := [qI (-1), qI (m 5 w.toNat)]) rfl ?_
      refine qJ.icmp_ne hκ (tgt := 46) rfl rfl (by omega) (by omega) (fun c33 => ?_) (fun c33 => ?_)
      · show qJ YX2_joinStems κ _ (qLy u, (q_up (q_row (q_row m 35 f) 37 k) 34 5 nw), y) 0 0 46 [some (qR 34), some (qR 2), some (qI w), some (qI v), some (qI (m 4 w.toNat)), none] []
        exact qJ.vret hκ rfl rfl (by decide) (by decide) (by refine ⟨rfl, ?_⟩; unfold jst; rw [if_neg (fun z => by have := z.1; omega)])
      · show qJ YX2_joinStems κ _ (qLy u, (q_up (q_row (q_row m 35 f) 37 k) 34 5 nw), y) 0 0 36 [some (qR 34), some (qR 2), some (qI w), some (qI v), some (qI (m 4 w.toNat)), none] []
        refine qJ.run hκ 3 (pc' := 41) (ls' := [some (qR 34), some (qR 2), some (qI w), some (qI v), some (qI (m 4 w.toNat)), none]) (st' := [qI v, qR 5]) rfl ?_
        refine qJ.ald hκ rfl rfl rfl (by decide) (by omega) ?_
        show qJ YX2_joinStems κ _ (qLy u, (q_up (q_row (q_row m 35 f) 37 k) 34 5 nw), y) 0 0 42 [some (qR 34), some (qR 2), some (qI w), some (qI v), some (qI (m 4 w.toNat)), none] [qI (m 5 v.toNat)]
        refine qJ.run hκ 1 (pc' := 43) (ls' := [some (qR 34), some (qR 2), some (qI w), some (qI v), some (qI (m 4 w.toNat)), none]) (st' := [qI (-1), qI (m 5 v.toNat)]) rfl ?_
        refine qJ.icmp_eq hκ (tgt := 47) rfl rfl (by omega) (by omega) (fun c43 => ?_) (fun c43 => ?_)
        · show qJ YX2_joinStems κ _ (qLy u, (q_up (q_row (q_row m 35 f) 37 k) 34 5 nw), y) 0 0 47 [some (qR 34), some (qR 2), some (qI w), some (qI v), some (qI (m 4 w.toNat)), none] []
          refine qJ.run hκ 2 (pc' := 50) (ls' := [some (qR 34), some (qR 2), some (qI w), some (qI v), some (qI (m 4 w.toNat)), some (qI 0)]) (st' := []) rfl ?_
          exact L50 7 0 (by omega) (by omega) (by omega) (rfl) (by omega)
        · show qJ YX2_joinStems κ _ (qLy u, (q_up (q_row (q_row m 35 f) 37 k) 34 5 nw), y) 0 0 46 [some (qR 34), some (qR 2), some (qI w), some (qI v), some (qI (m 4 w.toNat)), none] []
          exact qJ.vret hκ rfl rfl (by decide) (by decide) (by refine ⟨rfl, ?_⟩; unfold jst; rw [if_neg (fun z => by have := z.1; omega)])
    · show qJ YX2_joinStems κ _ (qLy u, (q_up (q_row (q_row m 35 f) 37 k) 34 5 nw), y) 0 0 25 [some (qR 34), some (qR 2), some (qI w), some (qI v), some (qI (m 4 w.toNat)), none] []
      exact qJ.vret hκ rfl rfl (by decide) (by decide) (by refine ⟨rfl, ?_⟩; unfold jst; rw [if_neg (fun z => by have := z.1; omega)])

set_option maxRecDepth 100000 in
theorem c_gTake34 (u : qU) (m y : qM) (f k : Nat → Int) (nw t : Int) (h0 : 0 ≤ m 2 0 ∧ m 2 0 ≤ 60) (hW : gW m) (hg : gOK m 34) (hl : lb f) (ht : 0 ≤ t ∧ t < 150) (h9 : 0 ≤ m 9 t.toNat ∧ m 9 t.toNat < m 2 0) (h10 : -1 ≤ m 10 t.toNat ∧ m 10 t.toNat ≤ 3) : qCt YX2_take 4 0 0 [qR 34, qR 2, qI t] (qLy u, (q_up (q_row (q_row m 35 f) 37 k) 34 5 nw), y) (fun r h => r = none ∧ h = (qLy u, (q_up (q_row (q_row m 35 (tkF m 34 t f)) 37 (q_fu k (m 9 t.toNat).toNat (m 10 t.toNat))) 34 5 (tkN m t nw)), y)) := by
  refine qCt.intro okX2_take (Nat.le_of_ble_eq_true rfl) (fun κ hκ => ?_)
  have L32 : ∀ (n : Nat) (f1 : Nat → Int) (i : Int), (0 ≤ i) → (i ≤ m 9 t.toNat) → (f1 = stm m 34 (m 9 t.toNat) f i.toNat) → (lb f1) → (m 10 t.toNat = -1) → ((m 9 t.toNat - i).toNat) < n → qJ YX2_take κ (qFin (fun r h => r = none ∧ h = (qLy u, (q_up (q_row (q_row m 35 (tkF m 34 t f)) 37 (q_fu k (m 9 t.toNat).toNat (m 10 t.toNat))) 34 5 (tkN m t nw)), y)) 0 0 κ) (qLy u, (q_up (q_row (q_row m 35 f1) 37 (q_fu k (m 9 t.toNat).toNat (m 10 t.toNat))) 34 5 nw), y) 0 0 32 [some (qR 34), some (qR 2), some (qI t), some (qI (m 9 t.toNat)), some (qI i)] [] := by
    intro n
    induction n with
    | zero => intro f1 i _ _ _ _ _ hz0; omega
    | succ n ih32 =>
      intro f1 i v32_0 v32_1 v32_2 v32_3 v32_4 v32_m
      refine qJ.run hκ 2 (pc' := 35) (ls' := [some (qR 34), some (qR 2), some (qI t), some (qI (m 9 t.toNat)), some (qI i)]) (st' := [qI (m 9 t.toNat), qI i]) rfl ?_
      refine qJ.icmp_ge hκ (tgt := 52) rfl rfl (by omega) (by omega) (fun c35 => ?_) (fun c35 => ?_)
      · show qJ YX2_take κ _ (qLy u, (q_up (q_row (q_row m 35 f1) 37 (q_fu k (m 9 t.toNat).toNat (m 10 t.toNat))) 34 5 nw), y) 0 0 52 [some (qR 34), some (qR 2), some (qI t), some (qI (m 9 t.toNat)), some (qI i)] []
        refine qJ.run hκ 4 (pc' := 56) (ls' := [some (qR 34), some (qR 2), some (qI t), some (qI (m 9 t.toNat)), some (qI i)]) (st' := [qI ((m 9 t.toNat) + 1), qR 34]) rfl ?_
        refine qJ.putI hκ rfl rfl rfl rfl (Or.inl rfl) ?_
        show qJ YX2_take κ _ (qLy u, (q_up (q_up (q_row (q_row m 35 f1) 37 (q_fu k (m 9 t.toNat).toNat (m 10 t.toNat))) 34 5 nw) 34 5 ((m 9 t.toNat) + 1)), y) 0 0 59 [some (qR 34), some (qR 2), some (qI t), some (qI (m 9 t.toNat)), some (qI i)] []
        exact qJ.vret hκ rfl rfl (by decide) (by decide) (by refine ⟨rfl, ?_⟩; unfold tkF tkN; rw [if_pos v32_4, if_pos v32_4, v32_2, show i = m 9 t.toNat by omega, q_up_same])
      · show qJ YX2_take κ _ (qLy u, (q_up (q_row (q_row m 35 f1) 37 (q_fu k (m 9 t.toNat).toNat (m 10 t.toNat))) 34 5 nw), y) 0 0 38 [some (qR 34), some (qR 2), some (qI t), some (qI (m 9 t.toNat)), some (qI i)] []
        have hf := v32_3
        refine qJ.run hκ 4 (pc' := 43) (ls' := [some (qR 34), some (qR 2), some (qI t), some (qI (m 9 t.toNat)), some (qI i)]) (st' := [qI i, qI (m 9 t.toNat), qR 2, qR 34]) rfl ?_
        refine qJ.callV (As := [qR 2, qI (m 9 t.toNat), qI i]) (rest := []) hκ rfl kX2_70 (c_joinStems34 u m y f1 (q_fu k (m 9 t.toNat).toNat (m 10 t.toNat)) nw (m 9 t.toNat) i h0 hW hg hf (by omega) (by omega)) rfl rfl (by decide) rfl rfl (Nat.le_of_ble_eq_true rfl) (Nat.le_of_ble_eq_true rfl) (Nat.le_of_ble_eq_true rfl) (Or.inl (fun r h' e => by obtain ⟨rfl, rfl⟩ := e; rfl)) (fun r h' e => ?_)
        obtain ⟨rfl, rfl⟩ := e
        show qJ YX2_take κ _ (qLy u, (q_up (q_row (q_row m 35 (jst m 34 (m 9 t.toNat) i f1)) 37 (q_fu k (m 9 t.toNat).toNat (m 10 t.toNat))) 34 5 nw), y) 0 0 46 [some (qR 34), some (qR 2), some (qI t), some (qI (m 9 t.toNat)), some (qI i)] []
        refine qJ.run hκ 2 (pc' := 32) (ls' := [some (qR 34), some (qR 2), some (qI t), some (qI (m 9 t.toNat)), some (qI (i + 1))]) (st' := []) rfl ?_
        exact ih32  (jst m 34 (m 9 t.toNat) i f1) (i + 1) (by omega) (by omega) (by rw [v32_2, show (i + 1).toNat = i.toNat + 1 by omega]; show _ = jst m 34 _ ((i.toNat : Nat) : Int) _; rw [show ((i.toNat : Nat) : Int) = i by omega]) (jst_lb h0 hW hg v32_3 (by omega) (by omega)) (by omega) (by omega)
  show qJ YX2_take κ _ (qLy u, (q_up (q_row (q_row m 35 f) 37 k) 34 5 nw), y) 0 0 0 [some (qR 34), some (qR 2), some (qI t), none, none] []
  refine qJ.run hκ 3 (pc' := 5) (ls' := [some (qR 34), some (qR 2), some (qI t), none, none]) (st' := [qI t, qR 9]) rfl ?_
  refine qJ.ald hκ rfl rfl rfl (by decide) (by omega) ?_
  show qJ YX2_take κ _ (qLy u, (q_up (q_row (q_row m 35 f) 37 k) 34 5 nw), y) 0 0 6 [some (qR 34), some (qR 2), some (qI t), none, none] [qI (m 9 t.toNat)]
  refine qJ.run hκ 7 (pc' := 17) (ls' := [some (qR 34), some (qR 2), some (qI t), some (qI (m 9 t.toNat)), none]) (st' := [qI t, qR 10, qI (m 9 t.toNat), qR 37]) rfl ?_
  refine qJ.ald hκ rfl rfl rfl (by decide) (by omega) ?_
  show qJ YX2_take κ _ (qLy u, (q_up (q_row (q_row m 35 f) 37 k) 34 5 nw), y) 0 0 18 [some (qR 34), some (qR 2), some (qI t), some (qI (m 9 t.toNat)), none] [qI (m 10 t.toNat), qI (m 9 t.toNat), qR 37]
  refine qJ.ast hκ rfl rfl rfl (by decide) (by omega) ?_
  refine qJ.mc (m1 := (q_up (q_up (q_row (q_row m 35 f) 37 k) 34 5 nw) 37 ((m 9 t.toNat).toNat) (m 10 t.toNat))) (m2 := (q_up (q_row (q_row m 35 f) 37 (q_fu k ((m 9 t.toNat).toNat) (m 10 t.toNat))) 34 5 nw)) (by rw [q_up_comm (a := 37) (c := 34) (by decide), q_up_row_eq]) ?_
  show qJ YX2_take κ _ (qLy u, (q_up (q_row (q_row m 35 f) 37 (q_fu k ((m 9 t.toNat).toNat) (m 10 t.toNat))) 34 5 nw), y) 0 0 19 [some (qR 34), some (qR 2), some (qI t), some (qI (m 9 t.toNat)), none] []
  have kw : q_fu k (m 9 t.toNat).toNat (m 10 t.toNat) (m 9 t.toNat).toNat = m 10 t.toNat := q_fu_eq
  refine qJ.run hκ 3 (pc' := 24) (ls' := [some (qR 34), some (qR 2), some (qI t), some (qI (m 9 t.toNat)), none]) (st' := [qI (m 9 t.toNat), qR 37]) rfl ?_
  refine qJ.ald hκ rfl rfl rfl (by decide) (by omega) ?_
  show qJ YX2_take κ _ (qLy u, (q_up (q_row (q_row m 35 f) 37 (q_fu k ((m 9 t.toNat).toNat) (m 10 t.toNat))) 34 5 nw), y) 0 0 25 [some (qR 34), some (qR 2), some (qI t), some (qI (m 9 t.toNat)), none] [qI ((q_fu k ((m 9 t.toNat).toNat) (m 10 t.toNat)) ((m 9 t.toNat).toNat))]
  refine qJ.run hκ 1 (pc' := 26) (ls' := [some (qR 34), some (qR 2), some (qI t), some (qI (m 9 t.toNat)), none]) (st' := [qI (-1), qI ((q_fu k ((m 9 t.toNat).toNat) (m 10 t.toNat)) ((m 9 t.toNat).toNat))]) rfl ?_
  refine qJ.icmp_ne hκ (tgt := 59) rfl rfl (by omega) (by omega) (fun c26 => ?_) (fun c26 => ?_)
  · show qJ YX2_take κ _ (qLy u, (q_up (q_row (q_row m 35 f) 37 (q_fu k ((m 9 t.toNat).toNat) (m 10 t.toNat))) 34 5 nw), y) 0 0 59 [some (qR 34), some (qR 2), some (qI t), some (qI (m 9 t.toNat)), none] []
    exact qJ.vret hκ rfl rfl (by decide) (by decide) (by refine ⟨rfl, ?_⟩; unfold tkF tkN; rw [if_neg (by rw [← kw]; exact c26), if_neg (by rw [← kw]; exact c26)])
  · show qJ YX2_take κ _ (qLy u, (q_up (q_row (q_row m 35 f) 37 (q_fu k ((m 9 t.toNat).toNat) (m 10 t.toNat))) 34 5 nw), y) 0 0 29 [some (qR 34), some (qR 2), some (qI t), some (qI (m 9 t.toNat)), none] []
    refine qJ.run hκ 2 (pc' := 32) (ls' := [some (qR 34), some (qR 2), some (qI t), some (qI (m 9 t.toNat)), some (qI 0)]) (st' := []) rfl ?_
    exact L32 61 f 0 (by omega) (by omega) (rfl) (hl) (by rw [← kw]; exact c26) (by omega)

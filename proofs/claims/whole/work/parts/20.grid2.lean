/-! printed by p20.py: Grid, columns and the whole -/
theorem lst_r2 {m : qM} {g : Nat} {w : Int} (hW : gW m) (hg : gOK m g) (hw : 0 ≤ w ∧ w < m 2 0) : 0 ≤ lst m g w ∧ lst m g w ≤ 20 := by
  have w1 := hW w hw.1 hw.2
  have w3 := w1.2.2 (m 4 w.toNat - 1) (by omega) (by omega)
  exact (gs_r hg w3.1).1
/-- the columns behind the first words: the labels, the first sign of each case -/
def jcS (m : qM) (g : Nat) (kk c0 p0 : Nat → Int) : Nat → (Nat → Int) × (Nat → Int)
  | 0 => (c0, p0)
  | w + 1 => if kk w = -1 ∨ lst m g w = 20 then jcS m g kk c0 p0 w else if (jcS m g kk c0 p0 w).2 (kk w).toNat = -1 then ((jcS m g kk c0 p0 w).1, q_fu (jcS m g kk c0 p0 w).2 (kk w).toNat (lst m g w)) else (jn (jcS m g kk c0 p0 w).1 ((jcS m g kk c0 p0 w).2 (kk w).toNat) (lst m g w), (jcS m g kk c0 p0 w).2)
theorem jcS_s {m : qM} {g : Nat} {kk c0 p0 : Nat → Int} {i : Int} (h : 0 ≤ i) : jcS m g kk c0 p0 (i + 1).toNat = if kk i.toNat = -1 ∨ lst m g i = 20 then jcS m g kk c0 p0 i.toNat else if (jcS m g kk c0 p0 i.toNat).2 (kk i.toNat).toNat = -1 then ((jcS m g kk c0 p0 i.toNat).1, q_fu (jcS m g kk c0 p0 i.toNat).2 (kk i.toNat).toNat (lst m g i)) else (jn (jcS m g kk c0 p0 i.toNat).1 ((jcS m g kk c0 p0 i.toNat).2 (kk i.toNat).toNat) (lst m g i), (jcS m g kk c0 p0 i.toNat).2) := by
  rw [show (i + 1).toNat = i.toNat + 1 by omega, jcS, show ((i.toNat : Nat) : Int) = i by omega]
def fc (p : Nat → Int) : Prop := ∀ k : Nat, k < 4 → -1 ≤ p k ∧ p k ≤ 19
theorem fc_fu {p : Nat → Int} {k : Nat} {v : Int} (h : fc p) (hv : -1 ≤ v ∧ v ≤ 19) : fc (q_fu p k v) := by
  intro j hj
  by_cases e : j = k
  · subst e; rw [q_fu_eq]; exact hv
  · rw [q_fu_ne e]; exact h j hj
abbrev bri (f c : Nat → Int) (s o : Nat) : Prop := f s = f o ∧ c s = c o
abbrev bro (f c : Nat → Int) (s : Nat) : Prop := ¬ q_cnt (bri f c s) s = 0
/-- BROKEN: two signs of one row and one column -/
abbrev brk (f c : Nat → Int) : Prop := ¬ q_cnt (bro f c) 20 = 0
/-- the grid behind the first tellings: rows' labels, cases, how many words -/
def gst (m : qM) (g : Nat) (f0 k0 : Nat → Int) : Nat → (Nat → Int) × (Nat → Int) × Int
  | 0 => (f0, k0, 0)
  | t + 1 => (tkF m g t (gst m g f0 k0 t).1, q_fu (gst m g f0 k0 t).2.1 (m 9 t).toNat (m 10 t), tkN m t (gst m g f0 k0 t).2.2)
theorem gst_s {m : qM} {g : Nat} {f0 k0 : Nat → Int} {t : Int} (h : 0 ≤ t) : gst m g f0 k0 (t + 1).toNat = (tkF m g t (gst m g f0 k0 t.toNat).1, q_fu (gst m g f0 k0 t.toNat).2.1 (m 9 t.toNat).toNat (m 10 t.toNat), tkN m t (gst m g f0 k0 t.toNat).2.2) := by
  rw [show (t + 1).toNat = t.toNat + 1 by omega, gst, show ((t.toNat : Nat) : Int) = t by omega]
/-- words are found one by one; a case is told of a word that is found -/
def gTl (m : qM) : Prop := ∀ t : Int, 0 ≤ t → t < m 2 2 → (-1 ≤ m 10 t.toNat ∧ m 10 t.toNat ≤ 3) ∧ (0 ≤ m 9 t.toNat ∧ m 9 t.toNat < m 2 0) ∧ (m 10 t.toNat = -1 → m 9 t.toNat = (q_cnt (fun j => m 10 j = -1) t.toNat : Nat)) ∧ (¬ m 10 t.toNat = -1 → m 9 t.toNat < (q_cnt (fun j => m 10 j = -1) t.toNat : Nat))
/-- what holds of a grid behind the first t tellings -/
def gIv (m : qM) (t : Int) (f k : Nat → Int) (nw : Int) : Prop := lb f ∧ nw = (q_cnt (fun j => m 10 j = -1) t.toNat : Nat) ∧ (nw ≤ m 2 0) ∧ ∀ w : Int, 0 ≤ w → w < nw → -1 ≤ k w.toNat ∧ k w.toNat ≤ 3
theorem tkF_lb {m : qM} {g : Nat} {t : Int} {f : Nat → Int} (h0 : 0 ≤ m 2 0 ∧ m 2 0 ≤ 60) (hW : gW m) (hg : gOK m g) (hl : lb f) (h9 : 0 ≤ m 9 t.toNat ∧ m 9 t.toNat < m 2 0) : lb (tkF m g t f) := by
  unfold tkF
  split
  · exact stm_lb h0 hW hg hl h9 _ (by omega)
  · exact hl
theorem gIv_s {m : qM} {g : Nat} {t nw : Int} {f k : Nat → Int} (h0 : 0 ≤ m 2 0 ∧ m 2 0 ≤ 60) (hW : gW m) (hg : gOK m g) (hT : gTl m) (ht : 0 ≤ t ∧ t < m 2 2) (h : gIv m t f k nw) : gIv m (t + 1) (tkF m g t f) (q_fu k (m 9 t.toNat).toNat (m 10 t.toNat)) (tkN m t nw) := by
  obtain ⟨t1, t2, t3, t4⟩ := hT t ht.1 ht.2
  obtain ⟨g1, g2, g3, g4⟩ := h
  have hc := q_cnt_s (p := fun j => m 10 j = -1) ht.1
  refine ⟨tkF_lb h0 hW hg g1 t2, ?_, ?_, ?_⟩
  · unfold tkN
    by_cases e : m 10 t.toNat = -1
    · rw [if_pos e, hc, if_pos e, t3 e]; omega
    · rw [if_neg e, hc, if_neg e, g2]; omega
  · unfold tkN
    split <;> omega
  · intro w w0 w1
    by_cases e : w.toNat = (m 9 t.toNat).toNat
    · rw [e, q_fu_eq]; exact t1
    · rw [q_fu_ne e]
      refine g4 w w0 ?_
      unfold tkN at w1
      split at w1
      · rename_i e2
        have := t3 e2
        omega
      · exact w1

set_option maxRecDepth 100000 in
theorem c_joinColumns29 (u : qU) (m y : qM) (h0 : 0 ≤ m 2 0 ∧ m 2 0 ≤ 60) (hW : gW m) (hg : gOK m 29) (hn : 0 ≤ m 29 5 ∧ m 29 5 ≤ m 2 0) (hk : ∀ w : Int, 0 ≤ w → w < m 29 5 → -1 ≤ m 32 w.toNat ∧ m 32 w.toNat ≤ 3) : qCt YX2_joinColumns 3 0 0 [qR 29, qR 2] (qLy u, m, y) (fun r h => r = none ∧ h = (qLy u, q_row (q_row m 31 (jcS m 29 (m 32) (sep (m 31)) (fun k => if k < 4 then (-1) else m 33 k) (m 29 5).toNat).1) 33 (jcS m 29 (m 32) (sep (m 31)) (fun k => if k < 4 then (-1) else m 33 k) (m 29 5).toNat).2, y) ∧ lb (jcS m 29 (m 32) (sep (m 31)) (fun k => if k < 4 then (-1) else m 33 k) (m 29 5).toNat).1) := by
  refine qCt.intro okX2_joinColumns (Nat.le_of_ble_eq_true rfl) (fun κ hκ => ?_)
  have hq := gOK_r hg
  have L17 : ∀ (n : Nat) (c : Nat → Int) (p : Nat → Int) (i : Int), (0 ≤ i) → (i ≤ m 29 5) → ((c, p) = jcS m 29 (m 32) (sep (m 31)) (fun k => if k < 4 then (-1) else m 33 k) i.toNat) → (lb c) → (fc p) → ((m 29 5 - i).toNat) < n → qJ YX2_joinColumns κ (qFin (fun r h => r = none ∧ h = (qLy u, q_row (q_row m 31 (jcS m 29 (m 32) (sep (m 31)) (fun k => if k < 4 then (-1) else m 33 k) (m 29 5).toNat).1) 33 (jcS m 29 (m 32) (sep (m 31)) (fun k => if k < 4 then (-1) else m 33 k) (m 29 5).toNat).2, y) ∧ lb (jcS m 29 (m 32) (sep (m 31)) (fun k => if k < 4 then (-1) else m 33 k) (m 29 5).toNat).1) 0 0 κ) (qLy u, (q_row (q_row m 31 c) 33 p), y) 0 0 17 [some (qR 29), some (qR 2), some (qI i), none, none] [] := by
    intro n
    induction n with
    | zero => intro c p i _ _ _ _ _ hz0; omega
    | succ n ih17 =>
      intro c p i v17_0 v17_1 v17_2 v17_3 v17_4 v17_m
      refine qJ.run hκ 3 (pc' := 22) (ls' := [some (qR 29), some (qR 2), some (qI i), none, none]) (st' := [qI (m 29 5), qI i]) rfl ?_
      refine qJ.icmp_ge hκ (tgt := 105) rfl rfl (by omega) (by omega) (fun c22 => ?_) (fun c22 => ?_)
      · show qJ YX2_joinColumns κ _ (qLy u, (q_row (q_row m 31 c) 33 p), y) 0 0 105 [some (qR 29), some (qR 2), some (qI i), none, none] []
        exact qJ.vret hκ rfl rfl (by decide) (by decide) (by refine ⟨rfl, ?_, ?_⟩; rw [show m 29 5 = i by omega, ← v17_2]; rw [show m 29 5 = i by omega, ← v17_2]; exact v17_3)
      · show qJ YX2_joinColumns κ _ (qLy u, (q_row (q_row m 31 c) 33 p), y) 0 0 25 [some (qR 29), some (qR 2), some (qI i), none, none] []
        have w1 := hW i v17_0 (by omega)
        have w3 := w1.2.2 (m 4 i.toNat - 1) (by omega) (by omega)
        have s1 := gs_r hg w3.1
        have k1 := hk i v17_0 (by omega)
        have l1 := lst_r2 (w := i) hW hg (by omega)
        refine qJ.run hκ 3 (pc' := 30) (ls' := [some (qR 29), some (qR 2), some (qI i), none, none]) (st' := [qI i, qR 32]) rfl ?_
        refine qJ.ald hκ rfl rfl rfl (by decide) (by omega) ?_
        show qJ YX2_joinColumns κ _ (qLy u, (q_row (q_row m 31 c) 33 p), y) 0 0 31 [some (qR 29), some (qR 2), some (qI i), none, none] [qI (m 32 i.toNat)]
        refine qJ.run hκ 7 (pc' := 40) (ls' := [some (qR 29), some (qR 2), some (qI i), some (qI (m 32 i.toNat)), none]) (st' := [qI i, qR 4, qI i, qR 2, qR 29]) rfl ?_
        refine qJ.ald hκ rfl rfl rfl (by decide) (by omega) ?_
        show qJ YX2_joinColumns κ _ (qLy u, (q_row (q_row m 31 c) 33 p), y) 0 0 41 [some (qR 29), some (qR 2), some (qI i), some (qI (m 32 i.toNat)), none] [qI (m 4 i.toNat), qI i, qR 2, qR 29]
        refine qJ.run hκ 2 (pc' := 43) (ls' := [some (qR 29), some (qR 2), some (qI i), some (qI (m 32 i.toNat)), none]) (st' := [qI ((m 4 i.toNat) - 1), qI i, qR 2, qR 29]) rfl ?_
        refine qJ.callV (As := [qR 2, qI i, qI ((m 4 i.toNat) - 1)]) (rest := []) hκ rfl kX2_84 (c_gSign29 u (q_row (q_row m 31 c) 33 p) y i ((m 4 i.toNat) - 1) (by omega) (show qr (m 3 ((i * 5 + ((m 4 i.toNat) - 1)).toNat)) from by omega) hq.1) rfl rfl (by decide) rfl rfl (Nat.le_of_ble_eq_true rfl) (Nat.le_of_ble_eq_true rfl) (Nat.le_of_ble_eq_true rfl) (Or.inl (fun r h' e => by obtain ⟨rfl, rfl⟩ := e; rfl)) (fun r h' e => ?_)
        obtain ⟨rfl, rfl⟩ := e
        show qJ YX2_joinColumns κ _ (qLy u, (q_row (q_row m 31 c) 33 p), y) 0 0 46 [some (qR 29), some (qR 2), some (qI i), some (qI (m 32 i.toNat)), none] [qI (lst m 29 i)]
        refine qJ.run hκ 3 (pc' := 50) (ls' := [some (qR 29), some (qR 2), some (qI i), some (qI (m 32 i.toNat)), some (qI (lst m 29 i))]) (st' := [qI (-1), qI (m 32 i.toNat)]) rfl ?_
        refine qJ.icmp_eq hκ (tgt := 99) rfl rfl (by omega) (by omega) (fun c50 => ?_) (fun c50 => ?_)
        · show qJ YX2_joinColumns κ _ (qLy u, (q_row (q_row m 31 c) 33 p), y) 0 0 99 [some (qR 29), some (qR 2), some (qI i), some (qI (m 32 i.toNat)), some (qI (lst m 29 i))] []
          refine qJ.run hκ 2 (pc' := 17) (ls' := [some (qR 29), some (qR 2), some (qI (i + 1)), some (qI (m 32 i.toNat)), some (qI (lst m 29 i))]) (st' := []) rfl ?_
          refine qJ.dl [true, true, true, false, false] ?_
          show qJ YX2_joinColumns κ _ (qLy u, (q_row (q_row m 31 c) 33 p), y) 0 0 17 [some (qR 29), some (qR 2), some (qI (i + 1)), none, none] []
          exact ih17  c p (i + 1) (by omega) (by omega) (by rw [jcS_s v17_0, if_pos (Or.inl c50)]; exact v17_2) (v17_3) (v17_4) (by omega)
        · show qJ YX2_joinColumns κ _ (qLy u, (q_row (q_row m 31 c) 33 p), y) 0 0 53 [some (qR 29), some (qR 2), some (qI i), some (qI (m 32 i.toNat)), some (qI (lst m 29 i))] []
          refine qJ.run hκ 2 (pc' := 57) (ls' := [some (qR 29), some (qR 2), some (qI i), some (qI (m 32 i.toNat)), some (qI (lst m 29 i))]) (st' := [qI 20, qI (lst m 29 i)]) rfl ?_
          refine qJ.icmp_ne hκ (tgt := 63) rfl rfl (by omega) (by omega) (fun c57 => ?_) (fun c57 => ?_)
          · show qJ YX2_joinColumns κ _ (qLy u, (q_row (q_row m 31 c) 33 p), y) 0 0 63 [some (qR 29), some (qR 2), some (qI i), some (qI (m 32 i.toNat)), some (qI (lst m 29 i))] []
            have f1 := v17_4 (m 32 i.toNat).toNat (by omega)
            refine qJ.run hκ 3 (pc' := 68) (ls' := [some (qR 29), some (qR 2), some (qI i), some (qI (m 32 i.toNat)), some (qI (lst m 29 i))]) (st' := [qI (m 32 i.toNat), qR 33]) rfl ?_
            refine qJ.ald hκ rfl rfl rfl (by decide) (by omega) ?_
            show qJ YX2_joinColumns κ _ (qLy u, (q_row (q_row m 31 c) 33 p), y) 0 0 69 [some (qR 29), some (qR 2), some (qI i), some (qI (m 32 i.toNat)), some (qI (lst m 29 i))] [qI (p ((m 32 i.toNat).toNat))]
            refine qJ.run hκ 1 (pc' := 70) (ls' := [some (qR 29), some (qR 2), some (qI i), some (qI (m 32 i.toNat)), some (qI (lst m 29 i))]) (st' := [qI (-1), qI (p ((m 32 i.toNat).toNat))]) rfl ?_
            refine qJ.icmp_ne hκ (tgt := 84) rfl rfl (by omega) (by omega) (fun c70 => ?_) (fun c70 => ?_)
            · show qJ YX2_joinColumns κ _ (qLy u, (q_row (q_row m 31 c) 33 p), y) 0 0 84 [some (qR 29), some (qR 2), some (qI i), some (qI (m 32 i.toNat)), some (qI (lst m 29 i))] []
              refine qJ.run hκ 5 (pc' := 93) (ls' := [some (qR 29), some (qR 2), some (qI i), some (qI (m 32 i.toNat)), some (qI (lst m 29 i))]) (st' := [qI (m 32 i.toNat), qR 33, qR 31]) rfl ?_
              refine qJ.ald hκ rfl rfl rfl (by decide) (by omega) ?_
              show qJ YX2_joinColumns κ _ (qLy u, (q_row (q_row m 31 c) 33 p), y) 0 0 94 [some (qR 29), some (qR 2), some (qI i), some (qI (m 32 i.toNat)), some (qI (lst m 29 i))] [qI (p ((m 32 i.toNat).toNat)), qR 31]
              refine qJ.run hκ 1 (pc' := 96) (ls' := [some (qR 29), some (qR 2), some (qI i), some (qI (m 32 i.toNat)), some (qI (lst m 29 i))]) (st' := [qI (lst m 29 i), qI (p ((m 32 i.toNat).toNat)), qR 31]) rfl ?_
              refine qJ.callS (As := [qR 31, qI (p ((m 32 i.toNat).toNat)), qI (lst m 29 i)]) (rest := []) hκ rfl kX2_87 (c_join31 u (q_row (q_row m 31 c) 33 p) y (p ((m 32 i.toNat).toNat)) (lst m 29 i) v17_3 (by omega) (by omega)) (by decide) rfl rfl (Nat.le_of_ble_eq_true rfl) (Nat.le_of_ble_eq_true rfl) (Nat.le_of_ble_eq_true rfl) (Or.inl (fun r h' e => by obtain ⟨rfl, rfl⟩ := e; rfl)) (fun r h' e => ?_)
              obtain ⟨rfl, rfl⟩ := e
              refine qJ.mc (m1 := (q_row (q_row (q_row m 31 c) 33 p) 31 (jn c (p ((m 32 i.toNat).toNat)) (lst m 29 i)))) (m2 := (q_row (q_row m 31 (jn c (p ((m 32 i.toNat).toNat)) (lst m 29 i))) 33 p)) (by rw [q_row_comm (a := 33) (b := 31) (by decide), q_row_row]) ?_
              show qJ YX2_joinColumns κ _ (qLy u, (q_row (q_row m 31 (jn c (p ((m 32 i.toNat).toNat)) (lst m 29 i))) 33 p), y) 0 0 99 [some (qR 29), some (qR 2), some (qI i), some (qI (m 32 i.toNat)), some (qI (lst m 29 i))] []
              refine qJ.run hκ 2 (pc' := 17) (ls' := [some (qR 29), some (qR 2), some (qI (i + 1)), some (qI (m 32 i.toNat)), some (qI (lst m 29 i))]) (st' := []) rfl ?_
              refine qJ.dl [true, true, true, false, false] ?_
              show qJ YX2_joinColumns κ _ (qLy u, (q_row (q_row m 31 (jn c (p ((m 32 i.toNat).toNat)) (lst m 29 i))) 33 p), y) 0 0 17 [some (qR 29), some (qR 2), some (qI (i + 1)), none, none] []
              exact ih17  (jn c (p ((m 32 i.toNat).toNat)) (lst m 29 i)) p (i + 1) (by omega) (by omega) (by rw [jcS_s v17_0, if_neg (fun z => z.elim c50 c57), ← v17_2, if_neg c70]) (jn_lb v17_3 (by omega) (by omega)) (v17_4) (by omega)
            · show qJ YX2_joinColumns κ _ (qLy u, (q_row (q_row m 31 c) 33 p), y) 0 0 73 [some (qR 29), some (qR 2), some (qI i), some (qI (m 32 i.toNat)), some (qI (lst m 29 i))] []
              refine qJ.run hκ 4 (pc' := 80) (ls' := [some (qR 29), some (qR 2), some (qI i), some (qI (m 32 i.toNat)), some (qI (lst m 29 i))]) (st' := [qI (lst m 29 i), qI (m 32 i.toNat), qR 33]) rfl ?_
              refine qJ.ast hκ rfl rfl rfl (by decide) (by omega) ?_
              refine qJ.mc (m1 := (q_up (q_row (q_row m 31 c) 33 p) 33 ((m 32 i.toNat).toNat) (lst m 29 i))) (m2 := (q_row (q_row m 31 c) 33 (q_fu p ((m 32 i.toNat).toNat) (lst m 29 i)))) (by rw [q_up_row_eq]) ?_
              show qJ YX2_joinColumns κ _ (qLy u, (q_row (q_row m 31 c) 33 (q_fu p ((m 32 i.toNat).toNat) (lst m 29 i))), y) 0 0 81 [some (qR 29), some (qR 2), some (qI i), some (qI (m 32 i.toNat)), some (qI (lst m 29 i))] []
              refine qJ.run hκ 3 (pc' := 17) (ls' := [some (qR 29), some (qR 2), some (qI (i + 1)), some (qI (m 32 i.toNat)), some (qI (lst m 29 i))]) (st' := []) rfl ?_
              refine qJ.dl [true, true, true, false, false] ?_
              show qJ YX2_joinColumns κ _ (qLy u, (q_row (q_row m 31 c) 33 (q_fu p ((m 32 i.toNat).toNat) (lst m 29 i))), y) 0 0 17 [some (qR 29), some (qR 2), some (qI (i + 1)), none, none] []
              exact ih17  c (q_fu p ((m 32 i.toNat).toNat) (lst m 29 i)) (i + 1) (by omega) (by omega) (by rw [jcS_s v17_0, if_neg (fun z => z.elim c50 c57), ← v17_2, if_pos c70]) (v17_3) (fc_fu v17_4 (by omega)) (by omega)
          · show qJ YX2_joinColumns κ _ (qLy u, (q_row (q_row m 31 c) 33 p), y) 0 0 60 [some (qR 29), some (qR 2), some (qI i), some (qI (m 32 i.toNat)), some (qI (lst m 29 i))] []
            refine qJ.run hκ 3 (pc' := 17) (ls' := [some (qR 29), some (qR 2), some (qI (i + 1)), some (qI (m 32 i.toNat)), some (qI (lst m 29 i))]) (st' := []) rfl ?_
            refine qJ.dl [true, true, true, false, false] ?_
            show qJ YX2_joinColumns κ _ (qLy u, (q_row (q_row m 31 c) 33 p), y) 0 0 17 [some (qR 29), some (qR 2), some (qI (i + 1)), none, none] []
            exact ih17  c p (i + 1) (by omega) (by omega) (by rw [jcS_s v17_0, if_pos (Or.inr c57)]; exact v17_2) (v17_3) (v17_4) (by omega)
  show qJ YX2_joinColumns κ _ (qLy u, m, y) 0 0 0 [some (qR 29), some (qR 2), none, none, none] []
  refine qJ.run hκ 2 (pc' := 4) (ls' := [some (qR 29), some (qR 2), none, none, none]) (st' := [qR 31]) rfl ?_
  refine qJ.callS (As := [qR 31]) (rest := []) hκ rfl kX2_60 (c_sep31 u m y) (by decide) rfl rfl (Nat.le_of_ble_eq_true rfl) (Nat.le_of_ble_eq_true rfl) (Nat.le_of_ble_eq_true rfl) (Or.inl (fun r h' e => by obtain ⟨rfl, rfl⟩ := e; rfl)) (fun r h' e => ?_)
  obtain ⟨rfl, rfl⟩ := e
  show qJ YX2_joinColumns κ _ (qLy u, (q_row m 31 (sep (m 31))), y) 0 0 7 [some (qR 29), some (qR 2), none, none, none] []
  refine qJ.run hκ 3 (pc' := 12) (ls' := [some (qR 29), some (qR 2), none, none, none]) (st' := [qI (-1), qR 33]) rfl ?_
  refine qJ.callS (As := [qR 33, qI (-1)]) (rest := []) hκ rfl kX2_91 (c_fill33 u (q_row m 31 (sep (m 31))) y (-1)) (by decide) rfl rfl (Nat.le_of_ble_eq_true rfl) (Nat.le_of_ble_eq_true rfl) (Nat.le_of_ble_eq_true rfl) (Or.inl (fun r h' e => by obtain ⟨rfl, rfl⟩ := e; rfl)) (fun r h' e => ?_)
  obtain ⟨rfl, rfl⟩ := e
  show qJ YX2_joinColumns κ _ (qLy u, (q_row (q_row m 31 (sep (m 31))) 33 (fun k => if k < 4 then (-1) else m 33 k)), y) 0 0 15 [some (qR 29), some (qR 2), none, none, none] []
  refine qJ.run hκ 2 (pc' := 17) (ls' := [some (qR 29), some (qR 2), some (qI 0), none, none]) (st' := []) rfl ?_
  exact L17 61 (sep (m 31)) (fun k => if k < 4 then (-1) else m 33 k) 0 (by omega) (by omega) (rfl) (sep_lb _) (fun k hk4 => by show -1 ≤ (if k < 4 then (-1 : Int) else _) ∧ (if k < 4 then (-1 : Int) else _) ≤ 19; rw [if_pos hk4]; decide) (by omega)

set_option maxRecDepth 100000 in
theorem c_isBroken29 (u : qU) (m y : qM) (hr : lb (m 30)) (hc : lb (m 31)) : qCt YX2_isBroken 1 0 0 [qR 29] (qLy u, m, y) (fun r h => r = some (qI (if brk (m 30) (m 31) then 1 else 0)) ∧ h = (qLy u, m, y)) := by
  refine qCt.intro okX2_isBroken (Nat.le_of_ble_eq_true rfl) (fun κ hκ => ?_)
  have L2 : ∀ (n : Nat) (s : Int), (1 ≤ s) → (s ≤ 20) → (q_cnt (bro (m 30) (m 31)) s.toNat = 0) → ((20 - s).toNat) < n → qJ YX2_isBroken κ (qFin (fun r h => r = some (qI (if brk (m 30) (m 31) then 1 else 0)) ∧ h = (qLy u, m, y)) 0 0 κ) (qLy u, m, y) 0 0 2 [some (qR 29), some (qI s), none] [] := by
    intro n
    induction n with
    | zero => intro s _ _ _ hz0; omega
    | succ n ih2 =>
      intro s v2_0 v2_1 v2_2 v2_m
      have L10 : ∀ (n : Nat) (o : Int), (0 ≤ o) → (o ≤ s) → (q_cnt (bri (m 30) (m 31) s.toNat) o.toNat = 0) → (s < 20) → ((s - o).toNat) < n → qJ YX2_isBroken κ (qFin (fun r h => r = some (qI (if brk (m 30) (m 31) then 1 else 0)) ∧ h = (qLy u, m, y)) 0 0 κ) (qLy u, m, y) 0 0 10 [some (qR 29), some (qI s), some (qI o)] [] := by
        intro n
        induction n with
        | zero => intro o _ _ _ _ hz0; omega
        | succ n ih10 =>
          intro o v10_0 v10_1 v10_2 v10_3 v10_m
          refine qJ.run hκ 2 (pc' := 12) (ls' := [some (qR 29), some (qI s), some (qI o)]) (st' := [qI s, qI o]) rfl ?_
          refine qJ.icmp_ge hκ (tgt := 53) rfl rfl (by omega) (by omega) (fun c12 => ?_) (fun c12 => ?_)
          · show qJ YX2_isBroken κ _ (qLy u, m, y) 0 0 53 [some (qR 29), some (qI s), some (qI o)] []
            refine qJ.run hκ 2 (pc' := 2) (ls' := [some (qR 29), some (qI (s + 1)), some (qI o)]) (st' := []) rfl ?_
            refine qJ.dl [true, true, false] ?_
            show qJ YX2_isBroken κ _ (qLy u, m, y) 0 0 2 [some (qR 29), some (qI (s + 1)), none] []
            exact ih2  (s + 1) (by omega) (by omega) (by rw [q_cnt_s (by omega), if_neg (fun z => z (by rw [show s = o by omega]; rw [show s = o by omega] at v10_2; exact v10_2))]; omega) (by omega)
          · show qJ YX2_isBroken κ _ (qLy u, m, y) 0 0 15 [some (qR 29), some (qI s), some (qI o)] []
            have r1 := hr s.toNat (by omega)
            have r2 := hr o.toNat (by omega)
            have r3 := hc s.toNat (by omega)
            have r4 := hc o.toNat (by omega)
            refine qJ.run hκ 3 (pc' := 20) (ls' := [some (qR 29), some (qI s), some (qI o)]) (st' := [qI s, qR 30]) rfl ?_
            refine qJ.ald hκ rfl rfl rfl (by decide) (by omega) ?_
            show qJ YX2_isBroken κ _ (qLy u, m, y) 0 0 21 [some (qR 29), some (qI s), some (qI o)] [qI (m 30 s.toNat)]
            refine qJ.run hκ 3 (pc' := 26) (ls' := [some (qR 29), some (qI s), some (qI o)]) (st' := [qI o, qR 30, qI (m 30 s.toNat)]) rfl ?_
            refine qJ.ald hκ rfl rfl rfl (by decide) (by omega) ?_
            show qJ YX2_isBroken κ _ (qLy u, m, y) 0 0 27 [some (qR 29), some (qI s), some (qI o)] [qI (m 30 o.toNat), qI (m 30 s.toNat)]
            refine qJ.icmp_ne hκ (tgt := 47) rfl rfl (by omega) (by omega) (fun c27 => ?_) (fun c27 => ?_)
            · show qJ YX2_isBroken κ _ (qLy u, m, y) 0 0 47 [some (qR 29), some (qI s), some (qI o)] []
              refine qJ.run hκ 2 (pc' := 10) (ls' := [some (qR 29), some (qI s), some (qI (o + 1))]) (st' := []) rfl ?_
              exact ih10  (o + 1) (by omega) (by omega) (by rw [q_cnt_s v10_0, if_neg (fun z => c27 z.1)]; omega) (by omega) (by omega)
            · show qJ YX2_isBroken κ _ (qLy u, m, y) 0 0 30 [some (qR 29), some (qI s), some (qI o)] []
              refine qJ.run hκ 3 (pc' := 35) (ls' := [some (qR 29), some (qI s), some (qI o)]) (st' := [qI s, qR 31]) rfl ?_
              refine qJ.ald hκ rfl rfl rfl (by decide) (by omega) ?_
              show qJ YX2_isBroken κ _ (qLy u, m, y) 0 0 36 [some (qR 29), some (qI s), some (qI o)] [qI (m 31 s.toNat)]
              refine qJ.run hκ 3 (pc' := 41) (ls' := [some (qR 29), some (qI s), some (qI o)]) (st' := [qI o, qR 31, qI (m 31 s.toNat)]) rfl ?_
              refine qJ.ald hκ rfl rfl rfl (by decide) (by omega) ?_
              show qJ YX2_isBroken κ _ (qLy u, m, y) 0 0 42 [some (qR 29), some (qI s), some (qI o)] [qI (m 31 o.toNat), qI (m 31 s.toNat)]
              refine qJ.icmp_ne hκ (tgt := 47) rfl rfl (by omega) (by omega) (fun c42 => ?_) (fun c42 => ?_)
              · show qJ YX2_isBroken κ _ (qLy u, m, y) 0 0 47 [some (qR 29), some (qI s), some (qI o)] []
                refine qJ.run hκ 2 (pc' := 10) (ls' := [some (qR 29), some (qI s), some (qI (o + 1))]) (st' := []) rfl ?_
                exact ih10  (o + 1) (by omega) (by omega) (by rw [q_cnt_s v10_0, if_neg (fun z => c42 z.2)]; omega) (by omega) (by omega)
              · show qJ YX2_isBroken κ _ (qLy u, m, y) 0 0 45 [some (qR 29), some (qI s), some (qI o)] []
                refine qJ.run hκ 1 (pc' := 46) (ls' := [some (qR 29), some (qI s), some (qI o)]) (st' := [qI 1]) rfl ?_
                exact qJ.bret hκ rfl rfl (by omega) (by decide) (by decide) (by refine ⟨?_, rfl⟩; rw [if_pos (show brk (m 30) (m 31) from q_cnt_pos (i := s) (by omega) (by omega) (q_cnt_pos v10_0 (by omega) ⟨c27, c42⟩))])
      refine qJ.run hκ 2 (pc' := 5) (ls' := [some (qR 29), some (qI s), none]) (st' := [qI 20, qI s]) rfl ?_
      refine qJ.icmp_ge hκ (tgt := 59) rfl rfl (by omega) (by omega) (fun c5 => ?_) (fun c5 => ?_)
      · show qJ YX2_isBroken κ _ (qLy u, m, y) 0 0 59 [some (qR 29), some (qI s), none] []
        refine qJ.run hκ 1 (pc' := 60) (ls' := [some (qR 29), some (qI s), none]) (st' := [qI 0]) rfl ?_
        exact qJ.bret hκ rfl rfl (by omega) (by decide) (by decide) (by refine ⟨?_, rfl⟩; rw [if_neg (fun z => z (by rw [show s = 20 by omega] at v2_2; exact v2_2))])
      · show qJ YX2_isBroken κ _ (qLy u, m, y) 0 0 8 [some (qR 29), some (qI s), none] []
        refine qJ.run hκ 2 (pc' := 10) (ls' := [some (qR 29), some (qI s), some (qI 0)]) (st' := []) rfl ?_
        exact L10 21 0 (by omega) (by omega) (rfl) (by omega) (by omega)
  show qJ YX2_isBroken κ _ (qLy u, m, y) 0 0 0 [some (qR 29), none, none] []
  refine qJ.run hκ 2 (pc' := 2) (ls' := [some (qR 29), some (qI 1), none]) (st' := []) rfl ?_
  exact L2 21 1 (by omega) (by omega) (rfl) (by omega)

set_option maxRecDepth 100000 in
theorem c_gStart29 (u : qU) (m y : qM) (l gr : Int)  : qCt YX2_start 2 0 0 [qR 29, qI l, qI gr] (qLy u, m, y) (fun r h => r = none ∧ h = (qLy u, (q_row (q_up (q_up (q_up m 29 6 l) 29 7 gr) 29 5 0) 30 (sep (m 30))), y)) := by
  refine qCt.intro okX2_start (Nat.le_of_ble_eq_true rfl) (fun κ hκ => ?_)
  show qJ YX2_start κ _ (qLy u, m, y) 0 0 0 [some (qR 29), some (qI l), some (qI gr)] []
  refine qJ.run hκ 2 (pc' := 2) (ls' := [some (qR 29), some (qI l), some (qI gr)]) (st' := [qI l, qR 29]) rfl ?_
  refine qJ.putI hκ rfl rfl rfl rfl (Or.inl rfl) ?_
  show qJ YX2_start κ _ (qLy u, (q_up m 29 6 l), y) 0 0 5 [some (qR 29), some (qI l), some (qI gr)] []
  refine qJ.run hκ 2 (pc' := 7) (ls' := [some (qR 29), some (qI l), some (qI gr)]) (st' := [qI gr, qR 29]) rfl ?_
  refine qJ.putI hκ rfl rfl rfl rfl (Or.inl rfl) ?_
  show qJ YX2_start κ _ (qLy u, (q_up (q_up m 29 6 l) 29 7 gr), y) 0 0 10 [some (qR 29), some (qI l), some (qI gr)] []
  refine qJ.run hκ 2 (pc' := 12) (ls' := [some (qR 29), some (qI l), some (qI gr)]) (st' := [qI 0, qR 29]) rfl ?_
  refine qJ.putI hκ rfl rfl rfl rfl (Or.inl rfl) ?_
  show qJ YX2_start κ _ (qLy u, (q_up (q_up (q_up m 29 6 l) 29 7 gr) 29 5 0), y) 0 0 15 [some (qR 29), some (qI l), some (qI gr)] []
  refine qJ.run hκ 2 (pc' := 19) (ls' := [some (qR 29), some (qI l), some (qI gr)]) (st' := [qR 30]) rfl ?_
  refine qJ.callS (As := [qR 30]) (rest := []) hκ rfl kX2_60 (c_sep30 u (q_up (q_up (q_up m 29 6 l) 29 7 gr) 29 5 0) y) (by decide) rfl rfl (Nat.le_of_ble_eq_true rfl) (Nat.le_of_ble_eq_true rfl) (Nat.le_of_ble_eq_true rfl) (Or.inl (fun r h' e => by obtain ⟨rfl, rfl⟩ := e; rfl)) (fun r h' e => ?_)
  obtain ⟨rfl, rfl⟩ := e
  show qJ YX2_start κ _ (qLy u, (q_row (q_up (q_up (q_up m 29 6 l) 29 7 gr) 29 5 0) 30 (sep (m 30))), y) 0 0 22 [some (qR 29), some (qI l), some (qI gr)] []
  exact qJ.vret hκ rfl rfl (by decide) (by decide) (by first | exact ⟨rfl, rfl⟩ | (refine ⟨?_, rfl⟩; first | rfl | omega))

set_option maxRecDepth 100000 in
theorem c_joinColumns34 (u : qU) (m y : qM) (h0 : 0 ≤ m 2 0 ∧ m 2 0 ≤ 60) (hW : gW m) (hg : gOK m 34) (hn : 0 ≤ m 34 5 ∧ m 34 5 ≤ m 2 0) (hk : ∀ w : Int, 0 ≤ w → w < m 34 5 → -1 ≤ m 37 w.toNat ∧ m 37 w.toNat ≤ 3) : qCt YX2_joinColumns 3 0 0 [qR 34, qR 2] (qLy u, m, y) (fun r h => r = none ∧ h = (qLy u, q_row (q_row m 36 (jcS m 34 (m 37) (sep (m 36)) (fun k => if k < 4 then (-1) else m 38 k) (m 34 5).toNat).1) 38 (jcS m 34 (m 37) (sep (m 36)) (fun k => if k < 4 then (-1) else m 38 k) (m 34 5).toNat).2, y) ∧ lb (jcS m 34 (m 37) (sep (m 36)) (fun k => if k < 4 then (-1) else m 38 k) (m 34 5).toNat).1) := by
  refine qCt.intro okX2_joinColumns (Nat.le_of_ble_eq_true rfl) (fun κ hκ => ?_)
  have hq := gOK_r hg
  have L17 : ∀ (n : Nat) (c : Nat → Int) (p : Nat → Int) (i : Int), (0 ≤ i) → (i ≤ m 34 5) → ((c, p) = jcS m 34 (m 37) (sep (m 36)) (fun k => if k < 4 then (-1) else m 38 k) i.toNat) → (lb c) → (fc p) → ((m 34 5 - i).toNat) < n → qJ YX2_joinColumns κ (qFin (fun r h => r = none ∧ h = (qLy u, q_row (q_row m 36 (jcS m 34 (m 37) (sep (m 36)) (fun k => if k < 4 then (-1) else m 38 k) (m 34 5).toNat).1) 38 (jcS m 34 (m 37) (sep (m 36)) (fun k => if k < 4 then (-1) else m 38 k) (m 34 5).toNat).2, y) ∧ lb (jcS m 34 (m 37) (sep (m 36)) (fun k => if k < 4 then (-1) else m 38 k) (m 34 5).toNat).1) 0 0 κ) (qLy u, (q_row (q_row m 36 c) 38 p), y) 0 0 17 [some (qR 34), some (qR 2), some (qI i), none, none] [] := by
    intro n
    induction n with
    | zero => intro c p i _ _ _ _ _ hz0; omega
    | succ n ih17 =>
      intro c p i v17_0 v17_1 v17_2 v17_3 v17_4 v17_m
      refine qJ.run hκ 3 (pc' := 22) (ls' := [some (qR 34), some (qR 2), some (qI i), none, none]) (st' := [qI (m 34 5), qI i]) rfl ?_
      refine qJ.icmp_ge hκ (tgt := 105) rfl rfl (by omega) (by omega) (fun c22 => ?_) (fun c22 => ?_)
      · show qJ YX2_joinColumns κ _ (qLy u, (q_row (q_row m 36 c) 38 p), y) 0 0 105 [some (qR 34), some (qR 2), some (qI i), none, none] []
        exact qJ.vret hκ rfl rfl (by decide) (by decide) (by refine ⟨rfl, ?_, ?_⟩; rw [show m 34 5 = i by omega, ← v17_2]; rw [show m 34 5 = i by omega, ← v17_2]; exact v17_3)
      · show qJ YX2_joinColumns κ _ (qLy u, (q_row (q_row m 36 c) 38 p), y) 0 0 25 [some (qR 34), some (qR 2), some (qI i), none, none] []
        have w1 := hW i v17_0 (by omega)
        have w3 := w1.2.2 (m 4 i.toNat - 1) (by omega) (by omega)
        have s1 := gs_r hg w3.1
        have k1 := hk i v17_0 (by omega)
        have l1 := lst_r2 (w := i) hW hg (by omega)
        refine qJ.run hκ 3 (pc' := 30) (ls' := [some (qR 34), some (qR 2), some (qI i), none, none]) (st' := [qI i, qR 37]) rfl ?_
        refine qJ.ald hκ rfl rfl rfl (by decide) (by omega) ?_
        show qJ YX2_joinColumns κ _ (qLy u, (q_row (q_row m 36 c) 38 p), y) 0 0 31 [some (qR 34), some (qR 2), some (qI i), none, none] [qI (m 37 i.toNat)]
        refine qJ.run hκ 7 (pc' := 40) (ls' := [some (qR 34), some (qR 2), some (qI i), some (qI (m 37 i.toNat)), none]) (st' := [qI i, qR 4, qI i, qR 2, qR 34]) rfl ?_
        refine qJ.ald hκ rfl rfl rfl (by decide) (by omega) ?_
        show qJ YX2_joinColumns κ _ (qLy u, (q_row (q_row m 36 c) 38 p), y) 0 0 41 [some (qR 34), some (qR 2), some (qI i), some (qI (m 37 i.toNat)), none] [qI (m 4 i.toNat), qI i, qR 2, qR 34]
        refine qJ.run hκ 2 (pc' := 43) (ls' := [some (qR 34), some (qR 2), some (qI i), some (qI (m 37 i.toNat)), none]) (st' := [qI ((m 4 i.toNat) - 1), qI i, qR 2, qR 34]) rfl ?_
        refine qJ.callV (As := [qR 2, qI i, qI ((m 4 i.toNat) - 1)]) (rest := []) hκ rfl kX2_84 (c_gSign34 u (q_row (q_row m 36 c) 38 p) y i ((m 4 i.toNat) - 1) (by omega) (show qr (m 3 ((i * 5 + ((m 4 i.toNat) - 1)).toNat)) from by omega) hq.1) rfl rfl (by decide) rfl rfl (Nat.le_of_ble_eq_true rfl) (Nat.le_of_ble_eq_true rfl) (Nat.le_of_ble_eq_true rfl) (Or.inl (fun r h' e => by obtain ⟨rfl, rfl⟩ := e; rfl)) (fun r h' e => ?_)
        obtain ⟨rfl, rfl⟩ := e
        show qJ YX2_joinColumns κ _ (qLy u, (q_row (q_row m 36 c) 38 p), y) 0 0 46 [some (qR 34), some (qR 2), some (qI i), some (qI (m 37 i.toNat)), none] [qI (lst m 34 i)]
        refine qJ.run hκ 3 (pc' := 50) (ls' := [some (qR 34), some (qR 2), some (qI i), some (qI (m 37 i.toNat)), some (qI (lst m 34 i))]) (st' := [qI (-1), qI (m 37 i.toNat)]) rfl ?_
        refine qJ.icmp_eq hκ (tgt := 99) rfl rfl (by omega) (by omega) (fun c50 => ?_) (fun c50 => ?_)
        · show qJ YX2_joinColumns κ _ (qLy u, (q_row (q_row m 36 c) 38 p), y) 0 0 99 [some (qR 34), some (qR 2), some (qI i), some (qI (m 37 i.toNat)), some (qI (lst m 34 i))] []
          refine qJ.run hκ 2 (pc' := 17) (ls' := [some (qR 34), some (qR 2), some (qI (i + 1)), some (qI (m 37 i.toNat)), some (qI (lst m 34 i))]) (st' := []) rfl ?_
          refine qJ.dl [true, true, true, false, false] ?_
          show qJ YX2_joinColumns κ _ (qLy u, (q_row (q_row m 36 c) 38 p), y) 0 0 17 [some (qR 34), some (qR 2), some (qI (i + 1)), none, none] []
          exact ih17  c p (i + 1) (by omega) (by omega) (by rw [jcS_s v17_0, if_pos (Or.inl c50)]; exact v17_2) (v17_3) (v17_4) (by omega)
        · show qJ YX2_joinColumns κ _ (qLy u, (q_row (q_row m 36 c) 38 p), y) 0 0 53 [some (qR 34), some (qR 2), some (qI i), some (qI (m 37 i.toNat)), some (qI (lst m 34 i))] []
          refine qJ.run hκ 2 (pc' := 57) (ls' := [some (qR 34), some (qR 2), some (qI i), some (qI (m 37 i.toNat)), some (qI (lst m 34 i))]) (st' := [qI 20, qI (lst m 34 i)]) rfl ?_
          refine qJ.icmp_ne hκ (tgt := 63) rfl rfl (by omega) (by omega) (fun c57 => ?_) (fun c57 => ?_)
          · show qJ YX2_joinColumns κ _ (qLy u, (q_row (q_row m 36 c) 38 p), y) 0 0 63 [some (qR 34), some (qR 2), some (qI i), some (qI (m 37 i.toNat)), some (qI (lst m 34 i))] []
            have f1 := v17_4 (m 37 i.toNat).toNat (by omega)
            refine qJ.run hκ 3 (pc' := 68) (ls' := [some (qR 34), some (qR 2), some (qI i), some (qI (m 37 i.toNat)), some (qI (lst m 34 i))]) (st' := [qI (m 37 i.toNat), qR 38]) rfl ?_
            refine qJ.ald hκ rfl rfl rfl (by decide) (by omega) ?_
            show qJ YX2_joinColumns κ _ (qLy u, (q_row (q_row m 36 c) 38 p), y) 0 0 69 [some (qR 34), some (qR 2), some (qI i), some (qI (m 37 i.toNat)), some (qI (lst m 34 i))] [qI (p ((m 37 i.toNat).toNat))]
            refine qJ.run hκ 1 (pc' := 70) (ls' := [some (qR 34), some (qR 2), some (qI i), some (qI (m 37 i.toNat)), some (qI (lst m 34 i))]) (st' := [qI (-1), qI (p ((m 37 i.toNat).toNat))]) rfl ?_
            refine qJ.icmp_ne hκ (tgt := 84) rfl rfl (by omega) (by omega) (fun c70 => ?_) (fun c70 => ?_)
            · show qJ YX2_joinColumns κ _ (qLy u, (q_row (q_row m 36 c) 38 p), y) 0 0 84 [some (qR 34), some (qR 2), some (qI i), some (qI (m 37 i.toNat)), some (qI (lst m 34 i))] []
              refine qJ.run hκ 5 (pc' := 93) (ls' := [some (qR 34), some (qR 2), some (qI i), some (qI (m 37 i.toNat)), some (qI (lst m 34 i))]) (st' := [qI (m 37 i.toNat), qR 38, qR 36]) rfl ?_
              refine qJ.ald hκ rfl rfl rfl (by decide) (by omega) ?_
              show qJ YX2_joinColumns κ _ (qLy u, (q_row (q_row m 36 c) 38 p), y) 0 0 94 [some (qR 34), some (qR 2), some (qI i), some (qI (m 37 i.toNat)), some (qI (lst m 34 i))] [qI (p ((m 37 i.toNat).toNat)), qR 36]
              refine qJ.run hκ 1 (pc' := 96) (ls' := [some (qR 34), some (qR 2), some (qI i), some (qI (m 37 i.toNat)), some (qI (lst m 34 i))]) (st' := [qI (lst m 34 i), qI (p ((m 37 i.toNat).toNat)), qR 36]) rfl ?_
              refine qJ.callS (As := [qR 36, qI (p ((m 37 i.toNat).toNat)), qI (lst m 34 i)]) (rest := []) hκ rfl kX2_87 (c_join36 u (q_row (q_row m 36 c) 38 p) y (p ((m 37 i.toNat).toNat)) (lst m 34 i) v17_3 (by omega) (by omega)) (by decide) rfl rfl (Nat.le_of_ble_eq_true rfl) (Nat.le_of_ble_eq_true rfl) (Nat.le_of_ble_eq_true rfl) (Or.inl (fun r h' e => by obtain ⟨rfl, rfl⟩ := e; rfl)) (fun r h' e => ?_)
              obtain ⟨rfl, rfl⟩ := e
              refine qJ.mc (m1 := (q_row (q_row (q_row m 36 c) 38 p) 36 (jn c (p ((m 37 i.toNat).toNat)) (lst m 34 i)))) (m2 := (q_row (q_row m 36 (jn c (p ((m 37 i.toNat).toNat)) (lst m 34 i))) 38 p)) (by rw [q_row_comm (a := 38) (b := 36) (by decide), q_row_row]) ?_
              show qJ YX2_joinColumns κ _ (qLy u, (q_row (q_row m 36 (jn c (p ((m 37 i.toNat).toNat)) (lst m 34 i))) 38 p), y) 0 0 99 [some (qR 34), some (qR 2), some (qI i), some (qI (m 37 i.toNat)), some (qI (lst m 34 i))] []
              refine qJ.run hκ 2 (pc' := 17) (ls' := [some (qR 34), some (qR 2), some (qI (i + 1)), some (qI (m 37 i.toNat)), some (qI (lst m 34 i))]) (st' := []) rfl ?_
              refine qJ.dl [true, true, true, false, false] ?_
              show qJ YX2_joinColumns κ _ (qLy u, (q_row (q_row m 36 (jn c (p ((m 37 i.toNat).toNat)) (lst m 34 i))) 38 p), y) 0 0 17 [some (qR 34), some (qR 2), some (qI (i + 1)), none, none] []
              exact ih17  (jn c (p ((m 37 i.toNat).toNat)) (lst m 34 i)) p (i + 1) (by omega) (by omega) (by rw [jcS_s v17_0, if_neg (fun z => z.elim c50 c57), ← v17_2, if_neg c70]) (jn_lb v17_3 (by omega) (by omega)) (v17_4) (by omega)
            · show qJ YX2_joinColumns κ _ (qLy u, (q_row (q_row m 36 c) 38 p), y) 0 0 73 [some (qR 34), some (qR 2), some (qI i), some (qI (m 37 i.toNat)), some (qI (lst m 34 i))] []
              refine qJ.run hκ 4 (pc' := 80) (ls' := [some (qR 34), some (qR 2), some (qI i), some (qI (m 37 i.toNat)), some (qI (lst m 34 i))]) (st' := [qI (lst m 34 i), qI (m 37 i.toNat), qR 38]) rfl ?_
              refine qJ.ast hκ rfl rfl rfl (by decide) (by omega) ?_
              refine qJ.mc (m1 := (q_up (q_row (q_row m 36 c) 38 p) 38 ((m 37 i.toNat).toNat) (lst m 34 i))) (m2 := (q_row (q_row m 36 c) 38 (q_fu p ((m 37 i.toNat).toNat) (lst m 34 i)))) (by rw [q_up_row_eq]) ?_
              show qJ YX2_joinColumns κ _ (qLy u, (q_row (q_row m 36 c) 38 (q_fu p ((m 37 i.toNat).toNat) (lst m 34 i))), y) 0 0 81 [some (qR 34), some (qR 2), some (qI i), some (qI (m 37 i.toNat)), some (qI (lst m 34 i))] []
              refine qJ.run hκ 3 (pc' := 17) (ls' := [some (qR 34), some (qR 2), some (qI (i + 1)), some (qI (m 37 i.toNat)), some (qI (lst m 34 i))]) (st' := []) rfl ?_
              refine qJ.dl [true, true, true, false, false] ?_
              show qJ YX2_joinColumns κ _ (qLy u, (q_row (q_row m 36 c) 38 (q_fu p ((m 37 i.toNat).toNat) (lst m 34 i))), y) 0 0 17 [some (qR 34), some (qR 2), some (qI (i + 1)), none, none] []
              exact ih17  c (q_fu p ((m 37 i.toNat).toNat) (lst m 34 i)) (i + 1) (by omega) (by omega) (by rw [jcS_s v17_0, if_neg (fun z => z.elim c50 c57), ← v17_2, if_pos c70]) (v17_3) (fc_fu v17_4 (by omega)) (by omega)
          · show qJ YX2_joinColumns κ _ (qLy u, (q_row (q_row m 36 c) 38 p), y) 0 0 60 [some (qR 34), some (qR 2), some (qI i), some (qI (m 37 i.toNat)), some (qI (lst m 34 i))] []
            refine qJ.run hκ 3 (pc' := 17) (ls' := [some (qR 34), some (qR 2), some (qI (i + 1)), some (qI (m 37 i.toNat)), some (qI (lst m 34 i))]) (st' := []) rfl ?_
            refine qJ.dl [true, true, true, false, false] ?_
            show qJ YX2_joinColumns κ _ (qLy u, (q_row (q_row m 36 c) 38 p), y) 0 0 17 [some (qR 34), some (qR 2), some (qI (i + 1)), none, none] []
            exact ih17  c p (i + 1) (by omega) (by omega) (by rw [jcS_s v17_0, if_pos (Or.inr c57)]; exact v17_2) (v17_3) (v17_4) (by omega)
  show qJ YX2_joinColumns κ _ (qLy u, m, y) 0 0 0 [some (qR 34), some (qR 2), none, none, none] []
  refine qJ.run hκ 2 (pc' := 4) (ls' := [some (qR 34), some (qR 2), none, none, none]) (st' := [qR 36]) rfl ?_
  refine qJ.callS (As := [qR 36]) (rest := []) hκ rfl kX2_60 (c_sep36 u m y) (by decide) rfl rfl (Nat.le_of_ble_eq_true rfl) (Nat.le_of_ble_eq_true rfl) (Nat.le_of_ble_eq_true rfl) (Or.inl (fun r h' e => by obtain ⟨rfl, rfl⟩ := e; rfl)) (fun r h' e => ?_)
  obtain ⟨rfl, rfl⟩ := e
  show qJ YX2_joinColumns κ _ (qLy u, (q_row m 36 (sep (m 36))), y) 0 0 7 [some (qR 34), some (qR 2), none, none, none] []
  refine qJ.run hκ 3 (pc' := 12) (ls' := [some (qR 34), some (qR 2), none, none, none]) (st' := [qI (-1), qR 38]) rfl ?_
  refine qJ.callS (As := [qR 38, qI (-1)]) (rest := []) hκ rfl kX2_91 (c_fill38 u (q_row m 36 (sep (m 36))) y (-1)) (by decide) rfl rfl (Nat.le_of_ble_eq_true rfl) (Nat.le_of_ble_eq_true rfl) (Nat.le_of_ble_eq_true rfl) (Or.inl (fun r h' e => by obtain ⟨rfl, rfl⟩ := e; rfl)) (fun r h' e => ?_)
  obtain ⟨rfl, rfl⟩ := e
  show qJ YX2_joinColumns κ _ (qLy u, (q_row (q_row m 36 (sep (m 36))) 38 (fun k => if k < 4 then (-1) else m 38 k)), y) 0 0 15 [some (qR 34), some (qR 2), none, none, none] []
  refine qJ.run hκ 2 (pc' := 17) (ls' := [some (qR 34), some (qR 2), some (qI 0), none, none]) (st' := []) rfl ?_
  exact L17 61 (sep (m 36)) (fun k => if k < 4 then (-1) else m 38 k) 0 (by omega) (by omega) (rfl) (sep_lb _) (fun k hk4 => by show -1 ≤ (if k < 4 then (-1 : Int) else _) ∧ (if k < 4 then (-1 : Int) else _) ≤ 19; rw [if_pos hk4]; decide) (by omega)

set_option maxRecDepth 100000 in
theorem c_isBroken34 (u : qU) (m y : qM) (hr : lb (m 35)) (hc : lb (m 36)) : qCt YX2_isBroken 1 0 0 [qR 34] (qLy u, m, y) (fun r h => r = some (qI (if brk (m 35) (m 36) then 1 else 0)) ∧ h = (qLy u, m, y)) := by
  refine qCt.intro okX2_isBroken (Nat.le_of_ble_eq_true rfl) (fun κ hκ => ?_)
  have L2 : ∀ (n : Nat) (s : Int), (1 ≤ s) → (s ≤ 20) → (q_cnt (bro (m 35) (m 36)) s.toNat = 0) → ((20 - s).toNat) < n → qJ YX2_isBroken κ (qFin (fun r h => r = some (qI (if brk (m 35) (m 36) then 1 else 0)) ∧ h = (qLy u, m, y)) 0 0 κ) (qLy u, m, y) 0 0 2 [some (qR 34), some (qI s), none] [] := by
    intro n
    induction n with
    | zero => intro s _ _ _ hz0; omega
    | succ n ih2 =>
      intro s v2_0 v2_1 v2_2 v2_m
      have L10 : ∀ (n : Nat) (o : Int), (0 ≤ o) → (o ≤ s) → (q_cnt (bri (m 35) (m 36) s.toNat) o.toNat = 0) → (s < 20) → ((s - o).toNat) < n → qJ YX2_isBroken κ (qFin (fun r h => r = some (qI (if brk (m 35) (m 36) then 1 else 0)) ∧ h = (qLy u, m, y)) 0 0 κ) (qLy u, m, y) 0 0 10 [some (qR 34), some (qI s), some (qI o)] [] := by
        intro n
        induction n with
        | zero => intro o _ _ _ _ hz0; omega
        | succ n ih10 =>
          intro o v10_0 v10_1 v10_2 v10_3 v10_m
          refine qJ.run hκ 2 (pc' := 12) (ls' := [some (qR 34), some (qI s), some (qI o)]) (st' := [qI s, qI o]) rfl ?_
          refine qJ.icmp_ge hκ (tgt := 53) rfl rfl (by omega) (by omega) (fun c12 => ?_) (fun c12 => ?_)
          · show qJ YX2_isBroken κ _ (qLy u, m, y) 0 0 53 [some (qR 34), some (qI s), some (qI o)] []
            refine qJ.run hκ 2 (pc' := 2) (ls' := [some (qR 34), some (qI (s + 1)), some (qI o)]) (st' := []) rfl ?_
            refine qJ.dl [true, true, false] ?_
            show qJ YX2_isBroken κ _ (qLy u, m, y) 0 0 2 [some (qR 34), some (qI (s + 1)), none] []
            exact ih2  (s + 1) (by omega) (by omega) (by rw [q_cnt_s (by omega), if_neg (fun z => z (by rw [show s = o by omega]; rw [show s = o by omega] at v10_2; exact v10_2))]; omega) (by omega)
          · show qJ YX2_isBroken κ _ (qLy u, m, y) 0 0 15 [some (qR 34), some (qI s), some (qI o)] []
            have r1 := hr s.toNat (by omega)
            have r2 := hr o.toNat (by omega)
            have r3 := hc s.toNat (by omega)
            have r4 := hc o.toNat (by omega)
            refine qJ.run hκ 3 (pc' := 20) (ls' := [some (qR 34), some (qI s), some (qI o)]) (st' := [qI s, qR 35]) rfl ?_
            refine qJ.ald hκ rfl rfl rfl (by decide) (by omega) ?_
            show qJ YX2_isBroken κ _ (qLy u, m, y) 0 0 21 [some (qR 34), some (qI s), some (qI o)] [qI (m 35 s.toNat)]
            refine qJ.run hκ 3 (pc' := 26) (ls' := [some (qR 34), some (qI s), some (qI o)]) (st' := [qI o, qR 35, qI (m 35 s.toNat)]) rfl ?_
            refine qJ.ald hκ rfl rfl rfl (by decide) (by omega) ?_
            show qJ YX2_isBroken κ _ (qLy u, m, y) 0 0 27 [some (qR 34), some (qI s), some (qI o)] [qI (m 35 o.toNat), qI (m 35 s.toNat)]
            refine qJ.icmp_ne hκ (tgt := 47) rfl rfl (by omega) (by omega) (fun c27 => ?_) (fun c27 => ?_)
            · show qJ YX2_isBroken κ _ (qLy u, m, y) 0 0 47 [some (qR 34), some (qI s), some (qI o)] []
              refine qJ.run hκ 2 (pc' := 10) (ls' := [some (qR 34), some (qI s), some (qI (o + 1))]) (st' := []) rfl ?_
              exact ih10  (o + 1) (by omega) (by omega) (by rw [q_cnt_s v10_0, if_neg (fun z => c27 z.1)]; omega) (by omega) (by omega)
            · show qJ YX2_isBroken κ _ (qLy u, m, y) 0 0 30 [some (qR 34), some (qI s), some (qI o)] []
              refine qJ.run hκ 3 (pc' := 35) (ls' := [some (qR 34), some (qI s), some (qI o)]) (st' := [qI s, qR 36]) rfl ?_
              refine qJ.ald hκ rfl rfl rfl (by decide) (by omega) ?_
              show qJ YX2_isBroken κ _ (qLy u, m, y) 0 0 36 [some (qR 34), some (qI s), some (qI o)] [qI (m 36 s.toNat)]
              refine qJ.run hκ 3 (pc' := 41) (ls' := [some (qR 34), some (qI s), some (qI o)]) (st' := [qI o, qR 36, qI (m 36 s.toNat)]) rfl ?_
              refine qJ.ald hκ rfl rfl rfl (by decide) (by omega) ?_
              show qJ YX2_isBroken κ _ (qLy u, m, y) 0 0 42 [some (qR 34), some (qI s), some (qI o)] [qI (m 36 o.toNat), qI (m 36 s.toNat)]
              refine qJ.icmp_ne hκ (tgt := 47) rfl rfl (by omega) (by omega) (fun c42 => ?_) (fun c42 => ?_)
              · show qJ YX2_isBroken κ _ (qLy u, m, y) 0 0 47 [some (qR 34), some (qI s), some (qI o)] []
                refine qJ.run hκ 2 (pc' := 10) (ls' := [some (qR 34), some (qI s), some (qI (o + 1))]) (st' := []) rfl ?_
                exact ih10  (o + 1) (by omega) (by omega) (by rw [q_cnt_s v10_0, if_neg (fun z => c42 z.2)]; omega) (by omega) (by omega)
              · show qJ YX2_isBroken κ _ (qLy u, m, y) 0 0 45 [some (qR 34), some (qI s), some (qI o)] []
                refine qJ.run hκ 1 (pc' := 46) (ls' := [some (qR 34), some (qI s), some (qI o)]) (st' := [qI 1]) rfl ?_
                exact qJ.bret hκ rfl rfl (by omega) (by decide) (by decide) (by refine ⟨?_, rfl⟩; rw [if_pos (show brk (m 35) (m 36) from q_cnt_pos (i := s) (by omega) (by omega) (q_cnt_pos v10_0 (by omega) ⟨c27, c42⟩))])
      refine qJ.run hκ 2 (pc' := 5) (ls' := [some (qR 34), some (qI s), none]) (st' := [qI 20, qI s]) rfl ?_
      refine qJ.icmp_ge hκ (tgt := 59) rfl rfl (by omega) (by omega) (fun c5 => ?_) (fun c5 => ?_)
      · show qJ YX2_isBroken κ _ (qLy u, m, y) 0 0 59 [some (qR 34), some (qI s), none] []
        refine qJ.run hκ 1 (pc' := 60) (ls' := [some (qR 34), some (qI s), none]) (st' := [qI 0]) rfl ?_
        exact qJ.bret hκ rfl rfl (by omega) (by decide) (by decide) (by refine ⟨?_, rfl⟩; rw [if_neg (fun z => z (by rw [show s = 20 by omega] at v2_2; exact v2_2))])
      · show qJ YX2_isBroken κ _ (qLy u, m, y) 0 0 8 [some (qR 34), some (qI s), none] []
        refine qJ.run hκ 2 (pc' := 10) (ls' := [some (qR 34), some (qI s), some (qI 0)]) (st' := []) rfl ?_
        exact L10 21 0 (by omega) (by omega) (rfl) (by omega) (by omega)
  show qJ YX2_isBroken κ _ (qLy u, m, y) 0 0 0 [some (qR 34), none, none] []
  refine qJ.run hκ 2 (pc' := 2) (ls' := [some (qR 34), some (qI 1), none]) (st' := []) rfl ?_
  exact L2 21 1 (by omega) (by omega) (rfl) (by omega)

set_option maxRecDepth 100000 in
theorem c_gStart34 (u : qU) (m y : qM) (l gr : Int)  : qCt YX2_start 2 0 0 [qR 34, qI l, qI gr] (qLy u, m, y) (fun r h => r = none ∧ h = (qLy u, (q_row (q_up (q_up (q_up m 34 6 l) 34 7 gr) 34 5 0) 35 (sep (m 35))), y)) := by
  refine qCt.intro okX2_start (Nat.le_of_ble_eq_true rfl) (fun κ hκ => ?_)
  show qJ YX2_start κ _ (qLy u, m, y) 0 0 0 [some (qR 34), some (qI l), some (qI gr)] []
  refine qJ.run hκ 2 (pc' := 2) (ls' := [some (qR 34), some (qI l), some (qI gr)]) (st' := [qI l, qR 34]) rfl ?_
  refine qJ.putI hκ rfl rfl rfl rfl (Or.inl rfl) ?_
  show qJ YX2_start κ _ (qLy u, (q_up m 34 6 l), y) 0 0 5 [some (qR 34), some (qI l), some (qI gr)] []
  refine qJ.run hκ 2 (pc' := 7) (ls' := [some (qR 34), some (qI l), some (qI gr)]) (st' := [qI gr, qR 34]) rfl ?_
  refine qJ.putI hκ rfl rfl rfl rfl (Or.inl rfl) ?_
  show qJ YX2_start κ _ (qLy u, (q_up (q_up m 34 6 l) 34 7 gr), y) 0 0 10 [some (qR 34), some (qI l), some (qI gr)] []
  refine qJ.run hκ 2 (pc' := 12) (ls' := [some (qR 34), some (qI l), some (qI gr)]) (st' := [qI 0, qR 34]) rfl ?_
  refine qJ.putI hκ rfl rfl rfl rfl (Or.inl rfl) ?_
  show qJ YX2_start κ _ (qLy u, (q_up (q_up (q_up m 34 6 l) 34 7 gr) 34 5 0), y) 0 0 15 [some (qR 34), some (qI l), some (qI gr)] []
  refine qJ.run hκ 2 (pc' := 19) (ls' := [some (qR 34), some (qI l), some (qI gr)]) (st' := [qR 35]) rfl ?_
  refine qJ.callS (As := [qR 35]) (rest := []) hκ rfl kX2_60 (c_sep35 u (q_up (q_up (q_up m 34 6 l) 34 7 gr) 34 5 0) y) (by decide) rfl rfl (Nat.le_of_ble_eq_true rfl) (Nat.le_of_ble_eq_true rfl) (Nat.le_of_ble_eq_true rfl) (Or.inl (fun r h' e => by obtain ⟨rfl, rfl⟩ := e; rfl)) (fun r h' e => ?_)
  obtain ⟨rfl, rfl⟩ := e
  show qJ YX2_start κ _ (qLy u, (q_row (q_up (q_up (q_up m 34 6 l) 34 7 gr) 34 5 0) 35 (sep (m 35))), y) 0 0 22 [some (qR 34), some (qI l), some (qI gr)] []
  exact qJ.vret hκ rfl rfl (by decide) (by decide) (by first | exact ⟨rfl, rfl⟩ | (refine ⟨?_, rfl⟩; first | rfl | omega))

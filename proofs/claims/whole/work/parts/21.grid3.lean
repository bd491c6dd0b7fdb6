/-! printed by p21.py: Grid.build, Grid.firstBreak -/
theorem q_row_id {m : qM} {a : Nat} {f : Nat → Int} (h : f = m a) : q_row m a f = m := by subst h; exact q_row_self
theorem gSt_eq {m : qM} {g R K : Nat} {s : Nat → Int} (h1 : g ≠ R) (h2 : g ≠ K) (h3 : K ≠ R) : q_row (q_up m g 5 0) R s = q_up (q_row (q_row m R s) K (m K)) g 5 0 := by
  have e : m K = q_row (q_up m g 5 0) R s K := by
    funext j
    show _ = if K = R then s j else (if K = g ∧ j = 5 then 0 else m K j)
    rw [if_neg h3, if_neg (fun z => h2 z.1.symm)]
  rw [q_up_row_ne h2, q_up_row_ne h1, q_row_id e]
theorem jcS_c {m m' : qM} {g : Nat} {kk c0 p0 : Nat → Int} (h : ∀ w : Nat, lst m g w = lst m' g w) : ∀ n, jcS m g kk c0 p0 n = jcS m' g kk c0 p0 n
  | 0 => rfl
  | n + 1 => by
    unfold jcS
    rw [jcS_c h n, h n]
/-- alike on the signs -/
def ag (n : Nat) (f f' : Nat → Int) : Prop := ∀ s : Nat, s < n → f s = f' s
theorem jn_ag {f f' : Nat → Int} {a b : Int} (h : ag 20 f f') (ha : 0 ≤ a ∧ a < 20) (hb : 0 ≤ b ∧ b < 20) : ag 20 (jn f a b) (jn f' a b) := by
  intro s hs
  unfold jn
  rw [h s hs, h a.toNat (by omega), h b.toNat (by omega)]
theorem jcS_ag {m : qM} {g : Nat} {kk c0 p0 c1 p1 : Nat → Int} (hc : ag 20 c0 c1) (hp : ag 4 p0 p1) (hf : fc p0) : ∀ n : Nat, (∀ w : Nat, w < n → (-1 ≤ kk w ∧ kk w ≤ 3) ∧ 0 ≤ lst m g w ∧ lst m g w ≤ 20) → ag 20 (jcS m g kk c0 p0 n).1 (jcS m g kk c1 p1 n).1 ∧ ag 4 (jcS m g kk c0 p0 n).2 (jcS m g kk c1 p1 n).2 ∧ fc (jcS m g kk c0 p0 n).2
  | 0, _ => ⟨hc, hp, hf⟩
  | n + 1, hk => by
    obtain ⟨i1, i2, i3⟩ := jcS_ag hc hp hf n (fun w hw => hk w (by omega))
    have k1 := (hk n (by omega)).1
    have l1 := (hk n (by omega)).2
    unfold jcS
    by_cases e : kk n = -1 ∨ lst m g n = 20
    · rw [if_pos e, if_pos e]; exact ⟨i1, i2, i3⟩
    · rw [if_neg e, if_neg e]
      have kn : (kk n).toNat < 4 := by omega
      rw [← i2 _ kn]
      by_cases e2 : (jcS m g kk c0 p0 n).2 (kk n).toNat = -1
      · rw [if_pos e2, if_pos e2]
        refine ⟨i1, fun j hj => ?_, fc_fu i3 (by omega)⟩
        by_cases e3 : j = (kk n).toNat
        · subst e3; show q_fu _ _ _ _ = q_fu _ _ _ _; rw [q_fu_eq, q_fu_eq]
        · show q_fu _ _ _ _ = q_fu _ _ _ _; rw [q_fu_ne e3, q_fu_ne e3]; exact i2 j hj
      · rw [if_neg e2, if_neg e2]
        have f1 := i3 _ kn
        exact ⟨jn_ag i1 (by omega) (by omega), i2, i3⟩
theorem brk_ag {f f' c c' : Nat → Int} (h1 : ag 20 f f') (h2 : ag 20 c c') : brk f c ↔ brk f' c' := by
  have e : q_cnt (bro f c) 20 = q_cnt (bro f' c') 20 := by
    refine q_cnt_c 20 fun s hs => ?_
    have e2 : q_cnt (bri f c s) s = q_cnt (bri f' c' s) s := by
      refine q_cnt_c s fun o ho => ?_
      show (f s = f o ∧ c s = c o) ↔ (f' s = f' o ∧ c' s = c' o)
      rw [h1 s hs, h1 o (by omega), h2 s hs, h2 o (by omega)]
    show (¬ q_cnt (bri f c s) s = 0) ↔ ¬ q_cnt (bri f' c' s) s = 0
    rw [e2]
  show (¬ q_cnt (bro f c) 20 = 0) ↔ ¬ q_cnt (bro f' c') 20 = 0
  rw [e]
/-- columns' labels out of the cases of the first nw words -/
def gCol (m : qM) (g : Nat) (k : Nat → Int) (nw : Int) : Nat → Int := (jcS m g k (sep (fun _ => 0)) (fun _ => -1) nw.toNat).1
theorem ag_sep (f f' : Nat → Int) : ag 20 (sep f) (sep f') := fun s hs => by unfold sep; rw [if_pos hs, if_pos hs]

set_option maxRecDepth 100000 in
theorem c_gBuild29 (u : qU) (m y : qM) (hz l gr : Int) (n0 : Nat) (hp : q_pfx (m 11) hz (m 2 2).toNat = n0) (h0 : 0 ≤ m 2 0 ∧ m 2 0 ≤ 60) (hW : gW m) (h1 : qr hz) (hT : gTl m) (h2 : 0 ≤ m 2 2 ∧ m 2 2 ≤ 150) (hS11 : ∀ k : Int, 0 ≤ k → k < m 2 2 → qr (m 11 k.toNat)) (hcn : (q_cnt (fun j => m 10 j = -1) (m 2 2).toNat : Nat) ≤ m 2 0) (hg : gOK (q_up (q_up m 29 6 l) 29 7 gr) 29) : qCt YX2_build 5 0 0 [qR 29, qR 2, qI hz, qI l, qI gr] (qLy u, m, y) (fun r h => r = none ∧ ∃ m1 f k nw c p, m1 = q_up (q_up m 29 6 l) 29 7 gr ∧ (f, k, nw) = gst m1 29 (sep (m 30)) (m 32) n0 ∧ gIv m1 (n0 : Int) f k nw ∧ lb c ∧ ag 20 c (gCol m1 29 k nw) ∧ h = (qLy u, (q_up (q_row (q_row (q_up (q_row (q_row m1 30 f) 32 k) 29 5 nw) 31 c) 33 p) 29 2 (if brk f c then 1 else 0)), y)) := by
  refine qCt.intro okX2_build (Nat.le_of_ble_eq_true rfl) (fun κ hκ => ?_)
  have p0 := q_pfx_le (m 11) hz (m 2 2).toNat
  rw [hp] at p0
  obtain ⟨m1, hm1⟩ : ∃ m1, m1 = q_up (q_up m 29 6 l) 29 7 gr := ⟨_, rfl⟩
  have e0 : m1 2 0 = m 2 0 := by rw [hm1]; rfl
  have e2 : m1 2 2 = m 2 2 := by rw [hm1]; rfl
  have h01 : 0 ≤ m1 2 0 ∧ m1 2 0 ≤ 60 := by rw [e0]; exact h0
  have hW1 : gW m1 := by rw [hm1]; exact hW
  have hT1 : gTl m1 := by rw [hm1]; exact hT
  have hg1 : gOK m1 29 := by rw [hm1]; exact hg
  have hcn1 : (q_cnt (fun j => m1 10 j = -1) (m1 2 2).toNat : Nat) ≤ m1 2 0 := by rw [hm1]; exact hcn
  have hS1 : ∀ k : Int, 0 ≤ k → k < m1 2 2 → qr (m1 11 k.toNat) := by rw [hm1]; exact hS11
  have h21 : 0 ≤ m1 2 2 ∧ m1 2 2 ≤ 150 := by rw [e2]; exact h2
  have hp1 : q_pfx (m1 11) hz (m1 2 2).toNat = n0 := by rw [hm1]; exact hp
  have L17 : ∀ (n : Nat) (f : Nat → Int) (k : Nat → Int) (nw : Int) (i : Int), (0 ≤ i) → (i ≤ (n0 : Int)) → ((f, k, nw) = gst m1 29 (sep (m 30)) (m 32) i.toNat) → (gIv m1 i f k nw) → (((n0 : Int) - i).toNat) < n → qJ YX2_build κ (qFin (fun r h => r = none ∧ ∃ m1 f k nw c p, m1 = q_up (q_up m 29 6 l) 29 7 gr ∧ (f, k, nw) = gst m1 29 (sep (m 30)) (m 32) n0 ∧ gIv m1 (n0 : Int) f k nw ∧ lb c ∧ ag 20 c (gCol m1 29 k nw) ∧ h = (qLy u, (q_up (q_row (q_row (q_up (q_row (q_row m1 30 f) 32 k) 29 5 nw) 31 c) 33 p) 29 2 (if brk f c then 1 else 0)), y)) 0 0 κ) (qLy u, (q_up (q_row (q_row m1 30 f) 32 k) 29 5 nw), y) 0 0 17 [some (qR 29), some (qR 2), some (qI hz), some (qI l), some (qI gr), some (qI (n0 : Int)), some (qI i)] [] := by
    intro n
    induction n with
    | zero => intro f k nw i _ _ _ _ hz0; omega
    | succ n ih17 =>
      intro f k nw i v17_0 v17_1 v17_2 v17_3 v17_m
      refine qJ.run hκ 2 (pc' := 21) (ls' := [some (qR 29), some (qR 2), some (qI hz), some (qI l), some (qI gr), some (qI (n0 : Int)), some (qI i)]) (st' := [qI (n0 : Int), qI i]) rfl ?_
      refine qJ.icmp_ge hκ (tgt := 37) rfl rfl (by omega) (by omega) (fun c21 => ?_) (fun c21 => ?_)
      · show qJ YX2_build κ _ (qLy u, (q_up (q_row (q_row m1 30 f) 32 k) 29 5 nw), y) 0 0 37 [some (qR 29), some (qR 2), some (qI hz), some (qI l), some (qI gr), some (qI (n0 : Int)), some (qI i)] []
        have hX := v17_3
        have hXn := hX.2.1
        have hXl := hX.2.2.1
        refine qJ.run hκ 2 (pc' := 39) (ls' := [some (qR 29), some (qR 2), some (qI hz), some (qI l), some (qI gr), some (qI (n0 : Int)), some (qI i)]) (st' := [qR 2, qR 29]) rfl ?_
        refine qJ.callV (As := [qR 2]) (rest := []) hκ rfl kX2_52 (c_joinColumns29 u (q_up (q_row (q_row m1 30 f) 32 k) 29 5 nw) y h01 hW1 hg1 (show 0 ≤ nw ∧ nw ≤ m1 2 0 from ⟨by omega, hX.2.2.1⟩) hX.2.2.2) rfl rfl (by decide) rfl rfl (Nat.le_of_ble_eq_true rfl) (Nat.le_of_ble_eq_true rfl) (Nat.le_of_ble_eq_true rfl) (Or.inl (fun r h' e => by obtain ⟨rfl, rfl, hcl⟩ := e; rfl)) (fun r h' e => ?_)
        obtain ⟨rfl, rfl, hcl⟩ := e
        refine qJ.mc (m1 := (q_row (q_row (q_up (q_row (q_row m1 30 f) 32 k) 29 5 nw) 31 ((jcS (q_up (q_row (q_row m1 30 f) 32 k) 29 5 nw) 29 k (sep (m1 31)) (fun k => if k < 4 then (-1) else m1 33 k) (nw).toNat).1)) 33 ((jcS (q_up (q_row (q_row m1 30 f) 32 k) 29 5 nw) 29 k (sep (m1 31)) (fun k => if k < 4 then (-1) else m1 33 k) (nw).toNat).2))) (m2 := (q_row (q_row (q_up (q_row (q_row m1 30 f) 32 k) 29 5 nw) 31 ((jcS m1 29 k (sep (m1 31)) (fun k => if k < 4 then (-1) else m1 33 k) (nw).toNat).1)) 33 ((jcS m1 29 k (sep (m1 31)) (fun k => if k < 4 then (-1) else m1 33 k) (nw).toNat).2))) (by rw [jcS_c (m := (q_up (q_row (q_row m1 30 f) 32 k) 29 5 nw)) (m' := m1) (fun w => rfl)]) ?_
        show qJ YX2_build κ _ (qLy u, (q_row (q_row (q_up (q_row (q_row m1 30 f) 32 k) 29 5 nw) 31 ((jcS m1 29 k (sep (m1 31)) (fun k => if k < 4 then (-1) else m1 33 k) (nw).toNat).1)) 33 ((jcS m1 29 k (sep (m1 31)) (fun k => if k < 4 then (-1) else m1 33 k) (nw).toNat).2)), y) 0 0 42 [some (qR 29), some (qR 2), some (qI hz), some (qI l), some (qI gr), some (qI (n0 : Int)), some (qI i)] []
        obtain ⟨ja, -, -⟩ := jcS_ag (m := m1) (g := 29) (kk := k) (c1 := sep (fun _ => 0)) (p1 := fun _ => -1) (ag_sep (m1 31) _) (p0 := (fun k => if k < 4 then (-1) else m1 33 k)) (fun j hj => by show (if j < 4 then (-1 : Int) else _) = -1; rw [if_pos hj]) (fun j hj => by show -1 ≤ (if j < 4 then (-1 : Int) else _) ∧ (if j < 4 then (-1 : Int) else _) ≤ 19; rw [if_pos hj]; decide) nw.toNat (fun w hw => by have := hX.2.2.2 (w : Int) (by omega) (by omega); rw [show ((w : Int)).toNat = w by omega] at this; exact ⟨this, lst_r2 hW1 hg1 ⟨by omega, by omega⟩⟩)
        have hcl2 : lb (jcS m1 29 k (sep (m1 31)) (fun k => if k < 4 then (-1) else m1 33 k) nw.toNat).1 := by rw [← jcS_c (m := (q_up (q_row (q_row m1 30 f) 32 k) 29 5 nw)) (m' := m1) (fun w => rfl)]; exact hcl
        have bb := q_ite01 (brk f (jcS m1 29 k (sep (m1 31)) (fun k => if k < 4 then (-1) else m1 33 k) nw.toNat).1)
        refine qJ.run hκ 2 (pc' := 44) (ls' := [some (qR 29), some (qR 2), some (qI hz), some (qI l), some (qI gr), some (qI (n0 : Int)), some (qI i)]) (st' := [qR 29, qR 29]) rfl ?_
        refine qJ.callV (As := []) (rest := [qR 29]) hκ rfl kX2_56 (c_isBroken29 u (q_row (q_row (q_up (q_row (q_row m1 30 f) 32 k) 29 5 nw) 31 ((jcS m1 29 k (sep (m1 31)) (fun k => if k < 4 then (-1) else m1 33 k) (nw).toNat).1)) 33 ((jcS m1 29 k (sep (m1 31)) (fun k => if k < 4 then (-1) else m1 33 k) (nw).toNat).2)) y hX.1 hcl2) rfl rfl (by decide) rfl rfl (Nat.le_of_ble_eq_true rfl) (Nat.le_of_ble_eq_true rfl) (Nat.le_of_ble_eq_true rfl) (Or.inl (fun r h' e => by obtain ⟨rfl, rfl⟩ := e; rfl)) (fun r h' e => ?_)
        obtain ⟨rfl, rfl⟩ := e
        show qJ YX2_build κ _ (qLy u, (q_row (q_row (q_up (q_row (q_row m1 30 f) 32 k) 29 5 nw) 31 ((jcS m1 29 k (sep (m1 31)) (fun k => if k < 4 then (-1) else m1 33 k) (nw).toNat).1)) 33 ((jcS m1 29 k (sep (m1 31)) (fun k => if k < 4 then (-1) else m1 33 k) (nw).toNat).2)), y) 0 0 47 [some (qR 29), some (qR 2), some (qI hz), some (qI l), some (qI gr), some (qI (n0 : Int)), some (qI i)] [qI (if brk f ((jcS m1 29 k (sep (m1 31)) (fun k => if k < 4 then (-1) else m1 33 k) (nw).toNat).1) then 1 else 0), qR 29]
        refine qJ.putI hκ rfl rfl rfl rfl (Or.inr ⟨rfl, by omega⟩) ?_
        show qJ YX2_build κ _ (qLy u, (q_up (q_row (q_row (q_up (q_row (q_row m1 30 f) 32 k) 29 5 nw) 31 ((jcS m1 29 k (sep (m1 31)) (fun k => if k < 4 then (-1) else m1 33 k) (nw).toNat).1)) 33 ((jcS m1 29 k (sep (m1 31)) (fun k => if k < 4 then (-1) else m1 33 k) (nw).toNat).2)) 29 2 (if brk f ((jcS m1 29 k (sep (m1 31)) (fun k => if k < 4 then (-1) else m1 33 k) (nw).toNat).1) then 1 else 0)), y) 0 0 50 [some (qR 29), some (qR 2), some (qI hz), some (qI l), some (qI gr), some (qI (n0 : Int)), some (qI i)] []
        exact qJ.vret hκ rfl rfl (by decide) (by decide) (⟨rfl, m1, f, k, nw, _, _, hm1, by rw [v17_2, show i.toNat = n0 by omega], by rw [← show i = (n0 : Int) by omega]; exact hX, hcl2, ja, rfl⟩)
      · show qJ YX2_build κ _ (qLy u, (q_up (q_row (q_row m1 30 f) 32 k) 29 5 nw), y) 0 0 24 [some (qR 29), some (qR 2), some (qI hz), some (qI l), some (qI gr), some (qI (n0 : Int)), some (qI i)] []
        have hV := v17_3
        have hV9 := hT1 i v17_0 (by omega)
        refine qJ.run hκ 3 (pc' := 28) (ls' := [some (qR 29), some (qR 2), some (qI hz), some (qI l), some (qI gr), some (qI (n0 : Int)), some (qI i)]) (st' := [qI i, qR 2, qR 29]) rfl ?_
        refine qJ.callV (As := [qR 2, qI i]) (rest := []) hκ rfl kX2_48 (c_gTake29 u m1 y f k nw i h01 hW1 hg1 hV.1 (by omega) hV9.2.1 hV9.1) rfl rfl (by decide) rfl rfl (Nat.le_of_ble_eq_true rfl) (Nat.le_of_ble_eq_true rfl) (Nat.le_of_ble_eq_true rfl) (Or.inl (fun r h' e => by obtain ⟨rfl, rfl⟩ := e; rfl)) (fun r h' e => ?_)
        obtain ⟨rfl, rfl⟩ := e
        show qJ YX2_build κ _ (qLy u, (q_up (q_row (q_row m1 30 (tkF m1 29 i f)) 32 (q_fu k (m1 9 i.toNat).toNat (m1 10 i.toNat))) 29 5 (tkN m1 i nw)), y) 0 0 31 [some (qR 29), some (qR 2), some (qI hz), some (qI l), some (qI gr), some (qI (n0 : Int)), some (qI i)] []
        refine qJ.run hκ 2 (pc' := 17) (ls' := [some (qR 29), some (qR 2), some (qI hz), some (qI l), some (qI gr), some (qI (n0 : Int)), some (qI (i + 1))]) (st' := []) rfl ?_
        exact ih17  (tkF m1 29 i f) (q_fu k (m1 9 i.toNat).toNat (m1 10 i.toNat)) (tkN m1 i nw) (i + 1) (by omega) (by omega) (by rw [gst_s v17_0, ← v17_2]) (gIv_s h01 hW1 hg1 hT1 (by omega) v17_3) (by omega)
  show qJ YX2_build κ _ (qLy u, m, y) 0 0 0 [some (qR 29), some (qR 2), some (qI hz), some (qI l), some (qI gr), none, none] []
  refine qJ.run hκ 3 (pc' := 4) (ls' := [some (qR 29), some (qR 2), some (qI hz), some (qI l), some (qI gr), none, none]) (st' := [qI gr, qI l, qR 29]) rfl ?_
  refine qJ.callV (As := [qI l, qI gr]) (rest := []) hκ rfl kX2_38 (c_gStart29 u m y l gr) rfl rfl (by decide) rfl rfl (Nat.le_of_ble_eq_true rfl) (Nat.le_of_ble_eq_true rfl) (Nat.le_of_ble_eq_true rfl) (Or.inl (fun r h' e => by obtain ⟨rfl, rfl⟩ := e; rfl)) (fun r h' e => ?_)
  obtain ⟨rfl, rfl⟩ := e
  refine qJ.mc (m1 := (q_row (q_up (q_up (q_up m 29 6 l) 29 7 gr) 29 5 0) 30 (sep (m 30)))) (m2 := (q_up (q_row (q_row m1 30 (sep (m 30))) 32 (m 32)) 29 5 0)) (by rw [hm1]; exact gSt_eq (by decide) (by decide) (by decide)) ?_
  show qJ YX2_build κ _ (qLy u, (q_up (q_row (q_row m1 30 (sep (m 30))) 32 (m 32)) 29 5 0), y) 0 0 7 [some (qR 29), some (qR 2), some (qI hz), some (qI l), some (qI gr), none, none] []
  refine qJ.run hκ 2 (pc' := 9) (ls' := [some (qR 29), some (qR 2), some (qI hz), some (qI l), some (qI gr), none, none]) (st' := [qI hz, qR 2]) rfl ?_
  refine qJ.callV (As := [qI hz]) (rest := []) hκ rfl kX2_42 (hp1 ▸ c_seenTellings u (q_up (q_row (q_row m1 30 (sep (m 30))) 32 (m 32)) 29 5 0) y hz h21 h1 hS1) rfl rfl (by decide) rfl rfl (Nat.le_of_ble_eq_true rfl) (Nat.le_of_ble_eq_true rfl) (Nat.le_of_ble_eq_true rfl) (Or.inl (fun r h' e => by obtain ⟨rfl, rfl⟩ := e; rfl)) (fun r h' e => ?_)
  obtain ⟨rfl, rfl⟩ := e
  show qJ YX2_build κ _ (qLy u, (q_up (q_row (q_row m1 30 (sep (m 30))) 32 (m 32)) 29 5 0), y) 0 0 12 [some (qR 29), some (qR 2), some (qI hz), some (qI l), some (qI gr), none, none] [qI (n0 : Int)]
  refine qJ.run hκ 3 (pc' := 17) (ls' := [some (qR 29), some (qR 2), some (qI hz), some (qI l), some (qI gr), some (qI (n0 : Int)), some (qI 0)]) (st' := []) rfl ?_
  exact L17 (n0 + 1) (sep (m 30)) (m 32) 0 0 (by omega) (by omega) (rfl) (⟨sep_lb _, rfl, by omega, fun w g1 g2 => by omega⟩) (by omega)

set_option maxRecDepth 100000 in
theorem c_gBuild34 (u : qU) (m y : qM) (hz l gr : Int) (n0 : Nat) (hp : q_pfx (m 11) hz (m 2 2).toNat = n0) (h0 : 0 ≤ m 2 0 ∧ m 2 0 ≤ 60) (hW : gW m) (h1 : qr hz) (hT : gTl m) (h2 : 0 ≤ m 2 2 ∧ m 2 2 ≤ 150) (hS11 : ∀ k : Int, 0 ≤ k → k < m 2 2 → qr (m 11 k.toNat)) (hcn : (q_cnt (fun j => m 10 j = -1) (m 2 2).toNat : Nat) ≤ m 2 0) (hg : gOK (q_up (q_up m 34 6 l) 34 7 gr) 34) : qCt YX2_build 5 0 0 [qR 34, qR 2, qI hz, qI l, qI gr] (qLy u, m, y) (fun r h => r = none ∧ ∃ m1 f k nw c p, m1 = q_up (q_up m 34 6 l) 34 7 gr ∧ (f, k, nw) = gst m1 34 (sep (m 35)) (m 37) n0 ∧ gIv m1 (n0 : Int) f k nw ∧ lb c ∧ ag 20 c (gCol m1 34 k nw) ∧ h = (qLy u, (q_up (q_row (q_row (q_up (q_row (q_row m1 35 f) 37 k) 34 5 nw) 36 c) 38 p) 34 2 (if brk f c then 1 else 0)), y)) := by
  refine qCt.intro okX2_build (Nat.le_of_ble_eq_true rfl) (fun κ hκ => ?_)
  have p0 := q_pfx_le (m 11) hz (m 2 2).toNat
  rw [hp] at p0
  obtain ⟨m1, hm1⟩ : ∃ m1, m1 = q_up (q_up m 34 6 l) 34 7 gr := ⟨_, rfl⟩
  have e0 : m1 2 0 = m 2 0 := by rw [hm1]; rfl
  have e2 : m1 2 2 = m 2 2 := by rw [hm1]; rfl
  have h01 : 0 ≤ m1 2 0 ∧ m1 2 0 ≤ 60 := by rw [e0]; exact h0
  have hW1 : gW m1 := by rw [hm1]; exact hW
  have hT1 : gTl m1 := by rw [hm1]; exact hT
  have hg1 : gOK m1 34 := by rw [hm1]; exact hg
  have hcn1 : (q_cnt (fun j => m1 10 j = -1) (m1 2 2).toNat : Nat) ≤ m1 2 0 := by rw [hm1]; exact hcn
  have hS1 : ∀ k : Int, 0 ≤ k → k < m1 2 2 → qr (m1 11 k.toNat) := by rw [hm1]; exact hS11
  have h21 : 0 ≤ m1 2 2 ∧ m1 2 2 ≤ 150 := by rw [e2]; exact h2
  have hp1 : q_pfx (m1 11) hz (m1 2 2).toNat = n0 := by rw [hm1]; exact hp
  have L17 : ∀ (n : Nat) (f : Nat → Int) (k : Nat → Int) (nw : Int) (i : Int), (0 ≤ i) → (i ≤ (n0 : Int)) → ((f, k, nw) = gst m1 34 (sep (m 35)) (m 37) i.toNat) → (gIv m1 i f k nw) → (((n0 : Int) - i).toNat) < n → qJ YX2_build κ (qFin (fun r h => r = none ∧ ∃ m1 f k nw c p, m1 = q_up (q_up m 34 6 l) 34 7 gr ∧ (f, k, nw) = gst m1 34 (sep (m 35)) (m 37) n0 ∧ gIv m1 (n0 : Int) f k nw ∧ lb c ∧ ag 20 c (gCol m1 34 k nw) ∧ h = (qLy u, (q_up (q_row (q_row (q_up (q_row (q_row m1 35 f) 37 k) 34 5 nw) 36 c) 38 p) 34 2 (if brk f c then 1 else 0)), y)) 0 0 κ) (qLy u, (q_up (q_row (q_row m1 35 f) 37 k) 34 5 nw), y) 0 0 17 [some (qR 34), some (qR 2), some (qI hz), some (qI l), some (qI gr), some (qI (n0 : Int)), some (qI i)] [] := by
    intro n
    induction n with
    | zero => intro f k nw i _ _ _ _ hz0; omega
    | succ n ih17 =>
      intro f k nw i v17_0 v17_1 v17_2 v17_3 v17_m
      refine qJ.run hκ 2 (pc' := 21) (ls' := [some (qR 34), some (qR 2), some (qI hz), some (qI l), some (qI gr), some (qI (n0 : Int)), some (qI i)]) (st' := [qI (n0 : Int), qI i]) rfl ?_
      refine qJ.icmp_ge hκ (tgt := 37) rfl rfl (by omega) (by omega) (fun c21 => ?_) (fun c21 => ?_)
      · show qJ YX2_build κ _ (qLy u, (q_up (q_row (q_row m1 35 f) 37 k) 34 5 nw), y) 0 0 37 [some (qR 34), some (qR 2), some (qI hz), some (qI l), some (qI gr), some (qI (n0 : Int)), some (qI i)] []
        have hX := v17_3
        have hXn := hX.2.1
        have hXl := hX.2.2.1
        refine qJ.run hκ 2 (pc' := 39) (ls' := [some (qR 34), some (qR 2), some (qI hz), some (qI l), some (qI gr), some (qI (n0 : Int)), some (qI i)]) (st' := [qR 2, qR 34]) rfl ?_
        refine qJ.callV (As := [qR 2]) (rest := []) hκ rfl kX2_52 (c_joinColumns34 u (q_up (q_row (q_row m1 35 f) 37 k) 34 5 nw) y h01 hW1 hg1 (show 0 ≤ nw ∧ nw ≤ m1 2 0 from ⟨by omega, hX.2.2.1⟩) hX.2.2.2) rfl rfl (by decide) rfl rfl (Nat.le_of_ble_eq_true rfl) (Nat.le_of_ble_eq_true rfl) (Nat.le_of_ble_eq_true rfl) (Or.inl (fun r h' e => by obtain ⟨rfl, rfl, hcl⟩ := e; rfl)) (fun r h' e => ?_)
        obtain ⟨rfl, rfl, hcl⟩ := e
        refine qJ.mc (m1 := (q_row (q_row (q_up (q_row (q_row m1 35 f) 37 k) 34 5 nw) 36 ((jcS (q_up (q_row (q_row m1 35 f) 37 k) 34 5 nw) 34 k (sep (m1 36)) (fun k => if k < 4 then (-1) else m1 38 k) (nw).toNat).1)) 38 ((jcS (q_up (q_row (q_row m1 35 f) 37 k) 34 5 nw) 34 k (sep (m1 36)) (fun k => if k < 4 then (-1) else m1 38 k) (nw).toNat).2))) (m2 := (q_row (q_row (q_up (q_row (q_row m1 35 f) 37 k) 34 5 nw) 36 ((jcS m1 34 k (sep (m1 36)) (fun k => if k < 4 then (-1) else m1 38 k) (nw).toNat).1)) 38 ((jcS m1 34 k (sep (m1 36)) (fun k => if k < 4 then (-1) else m1 38 k) (nw).toNat).2))) (by rw [jcS_c (m := (q_up (q_row (q_row m1 35 f) 37 k) 34 5 nw)) (m' := m1) (fun w => rfl)]) ?_
        show qJ YX2_build κ _ (qLy u, (q_row (q_row (q_up (q_row (q_row m1 35 f) 37 k) 34 5 nw) 36 ((jcS m1 34 k (sep (m1 36)) (fun k => if k < 4 then (-1) else m1 38 k) (nw).toNat).1)) 38 ((jcS m1 34 k (sep (m1 36)) (fun k => if k < 4 then (-1) else m1 38 k) (nw).toNat).2)), y) 0 0 42 [some (qR 34), some (qR 2), some (qI hz), some (qI l), some (qI gr), some (qI (n0 : Int)), some (qI i)] []
        obtain ⟨ja, -, -⟩ := jcS_ag (m := m1) (g := 34) (kk := k) (c1 := sep (fun _ => 0)) (p1 := fun _ => -1) (ag_sep (m1 36) _) (p0 := (fun k => if k < 4 then (-1) else m1 38 k)) (fun j hj => by show (if j < 4 then (-1 : Int) else _) = -1; rw [if_pos hj]) (fun j hj => by show -1 ≤ (if j < 4 then (-1 : Int) else _) ∧ (if j < 4 then (-1 : Int) else _) ≤ 19; rw [if_pos hj]; decide) nw.toNat (fun w hw => by have := hX.2.2.2 (w : Int) (by omega) (by omega); rw [show ((w : Int)).toNat = w by omega] at this; exact ⟨this, lst_r2 hW1 hg1 ⟨by omega, by omega⟩⟩)
        have hcl2 : lb (jcS m1 34 k (sep (m1 36)) (fun k => if k < 4 then (-1) else m1 38 k) nw.toNat).1 := by rw [← jcS_c (m := (q_up (q_row (q_row m1 35 f) 37 k) 34 5 nw)) (m' := m1) (fun w => rfl)]; exact hcl
        have bb := q_ite01 (brk f (jcS m1 34 k (sep (m1 36)) (fun k => if k < 4 then (-1) else m1 38 k) nw.toNat).1)
        refine qJ.run hκ 2 (pc' := 44) (ls' := [some (qR 34), some (qR 2), some (qI hz), some (qI l), some (qI gr), some (qI (n0 : Int)), some (qI i)]) (st' := [qR 34, qR 34]) rfl ?_
        refine qJ.callV (As := []) (rest := [qR 34]) hκ rfl kX2_56 (c_isBroken34 u (q_row (q_row (q_up (q_row (q_row m1 35 f) 37 k) 34 5 nw) 36 ((jcS m1 34 k (sep (m1 36)) (fun k => if k < 4 then (-1) else m1 38 k) (nw).toNat).1)) 38 ((jcS m1 34 k (sep (m1 36)) (fun k => if k < 4 then (-1) else m1 38 k) (nw).toNat).2)) y hX.1 hcl2) rfl rfl (by decide) rfl rfl (Nat.le_of_ble_eq_true rfl) (Nat.le_of_ble_eq_true rfl) (Nat.le_of_ble_eq_true rfl) (Or.inl (fun r h' e => by obtain ⟨rfl, rfl⟩ := e; rfl)) (fun r h' e => ?_)
        obtain ⟨rfl, rfl⟩ := e
        show qJ YX2_build κ _ (qLy u, (q_row (q_row (q_up (q_row (q_row m1 35 f) 37 k) 34 5 nw) 36 ((jcS m1 34 k (sep (m1 36)) (fun k => if k < 4 then (-1) else m1 38 k) (nw).toNat).1)) 38 ((jcS m1 34 k (sep (m1 36)) (fun k => if k < 4 then (-1) else m1 38 k) (nw).toNat).2)), y) 0 0 47 [some (qR 34), some (qR 2), some (qI hz), some (qI l), some (qI gr), some (qI (n0 : Int)), some (qI i)] [qI (if brk f ((jcS m1 34 k (sep (m1 36)) (fun k => if k < 4 then (-1) else m1 38 k) (nw).toNat).1) then 1 else 0), qR 34]
        refine qJ.putI hκ rfl rfl rfl rfl (Or.inr ⟨rfl, by omega⟩) ?_
        show qJ YX2_build κ _ (qLy u, (q_up (q_row (q_row (q_up (q_row (q_row m1 35 f) 37 k) 34 5 nw) 36 ((jcS m1 34 k (sep (m1 36)) (fun k => if k < 4 then (-1) else m1 38 k) (nw).toNat).1)) 38 ((jcS m1 34 k (sep (m1 36)) (fun k => if k < 4 then (-1) else m1 38 k) (nw).toNat).2)) 34 2 (if brk f ((jcS m1 34 k (sep (m1 36)) (fun k => if k < 4 then (-1) else m1 38 k) (nw).toNat).1) then 1 else 0)), y) 0 0 50 [some (qR 34), some (qR 2), some (qI hz), some (qI l), some (qI gr), some (qI (n0 : Int)), some (qI i)] []
        exact qJ.vret hκ rfl rfl (by decide) (by decide) (⟨rfl, m1, f, k, nw, _, _, hm1, by rw [v17_2, show i.toNat = n0 by omega], by rw [← show i = (n0 : Int) by omega]; exact hX, hcl2, ja, rfl⟩)
      · show qJ YX2_build κ _ (qLy u, (q_up (q_row (q_row m1 35 f) 37 k) 34 5 nw), y) 0 0 24 [some (qR 34), some (qR 2), some (qI hz), some (qI l), some (qI gr), some (qI (n0 : Int)), some (qI i)] []
        have hV := v17_3
        have hV9 := hT1 i v17_0 (by omega)
        refine qJ.run hκ 3 (pc' := 28) (ls' := [some (qR 34), some (qR 2), some (qI hz), some (qI l), some (qI gr), some (qI (n0 : Int)), some (qI i)]) (st' := [qI i, qR 2, qR 34]) rfl ?_
        refine qJ.callV (As := [qR 2, qI i]) (rest := []) hκ rfl kX2_48 (c_gTake34 u m1 y f k nw i h01 hW1 hg1 hV.1 (by omega) hV9.2.1 hV9.1) rfl rfl (by decide) rfl rfl (Nat.le_of_ble_eq_true rfl) (Nat.le_of_ble_eq_true rfl) (Nat.le_of_ble_eq_true rfl) (Or.inl (fun r h' e => by obtain ⟨rfl, rfl⟩ := e; rfl)) (fun r h' e => ?_)
        obtain ⟨rfl, rfl⟩ := e
        show qJ YX2_build κ _ (qLy u, (q_up (q_row (q_row m1 35 (tkF m1 34 i f)) 37 (q_fu k (m1 9 i.toNat).toNat (m1 10 i.toNat))) 34 5 (tkN m1 i nw)), y) 0 0 31 [some (qR 34), some (qR 2), some (qI hz), some (qI l), some (qI gr), some (qI (n0 : Int)), some (qI i)] []
        refine qJ.run hκ 2 (pc' := 17) (ls' := [some (qR 34), some (qR 2), some (qI hz), some (qI l), some (qI gr), some (qI (n0 : Int)), some (qI (i + 1))]) (st' := []) rfl ?_
        exact ih17  (tkF m1 34 i f) (q_fu k (m1 9 i.toNat).toNat (m1 10 i.toNat)) (tkN m1 i nw) (i + 1) (by omega) (by omega) (by rw [gst_s v17_0, ← v17_2]) (gIv_s h01 hW1 hg1 hT1 (by omega) v17_3) (by omega)
  show qJ YX2_build κ _ (qLy u, m, y) 0 0 0 [some (qR 34), some (qR 2), some (qI hz), some (qI l), some (qI gr), none, none] []
  refine qJ.run hκ 3 (pc' := 4) (ls' := [some (qR 34), some (qR 2), some (qI hz), some (qI l), some (qI gr), none, none]) (st' := [qI gr, qI l, qR 34]) rfl ?_
  refine qJ.callV (As := [qI l, qI gr]) (rest := []) hκ rfl kX2_38 (c_gStart34 u m y l gr) rfl rfl (by decide) rfl rfl (Nat.le_of_ble_eq_true rfl) (Nat.le_of_ble_eq_true rfl) (Nat.le_of_ble_eq_true rfl) (Or.inl (fun r h' e => by obtain ⟨rfl, rfl⟩ := e; rfl)) (fun r h' e => ?_)
  obtain ⟨rfl, rfl⟩ := e
  refine qJ.mc (m1 := (q_row (q_up (q_up (q_up m 34 6 l) 34 7 gr) 34 5 0) 35 (sep (m 35)))) (m2 := (q_up (q_row (q_row m1 35 (sep (m 35))) 37 (m 37)) 34 5 0)) (by rw [hm1]; exact gSt_eq (by decide) (by decide) (by decide)) ?_
  show qJ YX2_build κ _ (qLy u, (q_up (q_row (q_row m1 35 (sep (m 35))) 37 (m 37)) 34 5 0), y) 0 0 7 [some (qR 34), some (qR 2), some (qI hz), some (qI l), some (qI gr), none, none] []
  refine qJ.run hκ 2 (pc' := 9) (ls' := [some (qR 34), some (qR 2), some (qI hz), some (qI l), some (qI gr), none, none]) (st' := [qI hz, qR 2]) rfl ?_
  refine qJ.callV (As := [qI hz]) (rest := []) hκ rfl kX2_42 (hp1 ▸ c_seenTellings u (q_up (q_row (q_row m1 35 (sep (m 35))) 37 (m 37)) 34 5 0) y hz h21 h1 hS1) rfl rfl (by decide) rfl rfl (Nat.le_of_ble_eq_true rfl) (Nat.le_of_ble_eq_true rfl) (Nat.le_of_ble_eq_true rfl) (Or.inl (fun r h' e => by obtain ⟨rfl, rfl⟩ := e; rfl)) (fun r h' e => ?_)
  obtain ⟨rfl, rfl⟩ := e
  show qJ YX2_build κ _ (qLy u, (q_up (q_row (q_row m1 35 (sep (m 35))) 37 (m 37)) 34 5 0), y) 0 0 12 [some (qR 34), some (qR 2), some (qI hz), some (qI l), some (qI gr), none, none] [qI (n0 : Int)]
  refine qJ.run hκ 3 (pc' := 17) (ls' := [some (qR 34), some (qR 2), some (qI hz), some (qI l), some (qI gr), some (qI (n0 : Int)), some (qI 0)]) (st' := []) rfl ?_
  exact L17 (n0 + 1) (sep (m 35)) (m 37) 0 0 (by omega) (by omega) (rfl) (⟨sep_lb _, rfl, by omega, fun w g1 g2 => by omega⟩) (by omega)

theorem stm_c {m m' : qM} {g : Nat} {w : Int} {f : Nat → Int} (h : ∀ (v : Nat) (f : Nat → Int), jst m g w v f = jst m' g w v f) : ∀ n, stm m g w f n = stm m' g w f n
  | 0 => rfl
  | n + 1 => by
    show jst m g w n (stm m g w f n) = jst m' g w n (stm m' g w f n)
    rw [stm_c h n, h]
theorem tkF_c {m m' : qM} {g : Nat} {t : Int} {f : Nat → Int} (h9 : m 9 t.toNat = m' 9 t.toNat) (h10 : m 10 t.toNat = m' 10 t.toNat) (h : ∀ (w : Int) (v : Nat) (f : Nat → Int), jst m g w v f = jst m' g w v f) : tkF m g t f = tkF m' g t f := by
  unfold tkF
  rw [h9, h10, stm_c (h _)]
/-- broken behind the first t tellings -/
abbrev gBk (m : qM) (g : Nat) (f0 k0 : Nat → Int) (t : Nat) : Prop := brk (gst m g f0 k0 t).1 (gCol m g (gst m g f0 k0 t).2.1 (gst m g f0 k0 t).2.2)

theorem gPush34 {m : qM} {f k c p x z : Nat → Int} {nw : Int} : q_row (q_row (q_up (q_row (q_row (q_row (q_row m 36 c) 38 p) 35 f) 37 k) 34 5 nw) 36 x) 38 z = q_up (q_row (q_row (q_row (q_row m 36 x) 38 z) 35 f) 37 k) 34 5 nw := by
  funext i j
  by_cases e1 : i = 38
  · subst e1; simp [q_row, q_up]
  · by_cases e2 : i = 36
    · subst e2; simp [q_row, q_up]
    · simp [q_row, q_up, e1, e2]
theorem gPull34 {m : qM} {f k : Nat → Int} {nw : Int} : q_up (q_row (q_row m 35 f) 37 k) 34 5 nw = q_up (q_row (q_row (q_row (q_row m 36 (m 36)) 38 (m 38)) 35 f) 37 k) 34 5 nw := by
  rw [q_row_self, q_row_self]

set_option maxRecDepth 100000 in
theorem c_firstBreak34 (u : qU) (m y : qM) (hz : Int) (n0 : Nat) (hp : q_pfx (m 11) hz (m 2 2).toNat = n0) (h0 : 0 ≤ m 2 0 ∧ m 2 0 ≤ 60) (hW : gW m) (h1 : qr hz) (hT : gTl m) (h2 : 0 ≤ m 2 2 ∧ m 2 2 ≤ 150) (hS11 : ∀ k : Int, 0 ≤ k → k < m 2 2 → qr (m 11 k.toNat)) (hcn : (q_cnt (fun j => m 10 j = -1) (m 2 2).toNat : Nat) ≤ m 2 0) : qCt YX2_firstBreak 5 0 0 [qR 34, qR 2, qI hz] (qLy u, m, y) (fun r h => ∃ m1 f k nw c p, m1 = q_up (q_up m 34 6 (-1)) 34 7 (-1) ∧ r = some (qI (q_fst (fun t => gBk m1 34 (sep (m 35)) (m 37) (t + 1)) n0)) ∧ h = (qLy u, (q_up (q_row (q_row (q_row (q_row m1 36 c) 38 p) 35 f) 37 k) 34 5 nw), y)) := by
  refine qCt.intro okX2_firstBreak (Nat.le_of_ble_eq_true rfl) (fun κ hκ => ?_)
  have hg : gOK (q_up (q_up m 34 6 (-1)) 34 7 (-1)) 34 := Or.inl ⟨rfl, rfl⟩
  have p0 := q_pfx_le (m 11) hz (m 2 2).toNat
  rw [hp] at p0
  obtain ⟨m1, hm1⟩ : ∃ m1, m1 = q_up (q_up m 34 6 (-1)) 34 7 (-1) := ⟨_, rfl⟩
  have e0 : m1 2 0 = m 2 0 := by rw [hm1]; rfl
  have e2 : m1 2 2 = m 2 2 := by rw [hm1]; rfl
  have h01 : 0 ≤ m1 2 0 ∧ m1 2 0 ≤ 60 := by rw [e0]; exact h0
  have hW1 : gW m1 := by rw [hm1]; exact hW
  have hT1 : gTl m1 := by rw [hm1]; exact hT
  have hg1 : gOK m1 34 := by rw [hm1]; exact hg
  have hS1 : ∀ k : Int, 0 ≤ k → k < m1 2 2 → qr (m1 11 k.toNat) := by rw [hm1]; exact hS11
  have h21 : 0 ≤ m1 2 2 ∧ m1 2 2 ≤ 150 := by rw [e2]; exact h2
  have hp1 : q_pfx (m1 11) hz (m1 2 2).toNat = n0 := by rw [hm1]; exact hp
  have L15 : ∀ (n : Nat) (c : Nat → Int) (p : Nat → Int) (f : Nat → Int) (k : Nat → Int) (nw : Int) (i : Int), (0 ≤ i) → (i ≤ (n0 : Int)) → ((f, k, nw) = gst m1 34 (sep (m 35)) (m 37) i.toNat) → (gIv m1 i f k nw) → (q_fst (fun t => gBk m1 34 (sep (m 35)) (m 37) (t + 1)) i.toNat = -1) → (((n0 : Int) - i).toNat) < n → qJ YX2_firstBreak κ (qFin (fun r h => ∃ m1 f k nw c p, m1 = q_up (q_up m 34 6 (-1)) 34 7 (-1) ∧ r = some (qI (q_fst (fun t => gBk m1 34 (sep (m 35)) (m 37) (t + 1)) n0)) ∧ h = (qLy u, (q_up (q_row (q_row (q_row (q_row m1 36 c) 38 p) 35 f) 37 k) 34 5 nw), y)) 0 0 κ) (qLy u, (q_up (q_row (q_row (q_row (q_row m1 36 c) 38 p) 35 f) 37 k) 34 5 nw), y) 0 0 15 [some (qR 34), some (qR 2), some (qI hz), some (qI (n0 : Int)), some (qI i)] [] := by
    intro n
    induction n with
    | zero => intro c p f k nw i _ _ _ _ _ hz0; omega
    | succ n ih15 =>
      intro c p f k nw i v15_0 v15_1 v15_2 v15_3 v15_4 v15_m
      refine qJ.run hκ 2 (pc' := 18) (ls' := [some (qR 34), some (qR 2), some (qI hz), some (qI (n0 : Int)), some (qI i)]) (st' := [qI (n0 : Int), qI i]) rfl ?_
      refine qJ.icmp_ge hκ (tgt := 49) rfl rfl (by omega) (by omega) (fun c18 => ?_) (fun c18 => ?_)
      · show qJ YX2_firstBreak κ _ (qLy u, (q_up (q_row (q_row (q_row (q_row m1 36 c) 38 p) 35 f) 37 k) 34 5 nw), y) 0 0 49 [some (qR 34), some (qR 2), some (qI hz), some (qI (n0 : Int)), some (qI i)] []
        refine qJ.run hκ 1 (pc' := 50) (ls' := [some (qR 34), some (qR 2), some (qI hz), some (qI (n0 : Int)), some (qI i)]) (st' := [qI (-1)]) rfl ?_
        exact qJ.iret hκ rfl rfl (by decide) (by decide) (⟨m1, _, _, _, _, _, hm1, by rw [← show i.toNat = n0 by omega, v15_4], rfl⟩)
      · show qJ YX2_firstBreak κ _ (qLy u, (q_up (q_row (q_row (q_row (q_row m1 36 c) 38 p) 35 f) 37 k) 34 5 nw), y) 0 0 21 [some (qR 34), some (qR 2), some (qI hz), some (qI (n0 : Int)), some (qI i)] []
        have hV := v15_3
        have hV9 := hT1 i v15_0 (by omega)
        refine qJ.run hκ 3 (pc' := 25) (ls' := [some (qR 34), some (qR 2), some (qI hz), some (qI (n0 : Int)), some (qI i)]) (st' := [qI i, qR 2, qR 34]) rfl ?_
        refine qJ.callV (As := [qR 2, qI i]) (rest := []) hκ rfl kX2_48 (c_gTake34 u (q_row (q_row m1 36 c) 38 p) y f k nw i h01 hW1 hg1 hV.1 (by omega) hV9.2.1 hV9.1) rfl rfl (by decide) rfl rfl (Nat.le_of_ble_eq_true rfl) (Nat.le_of_ble_eq_true rfl) (Nat.le_of_ble_eq_true rfl) (Or.inl (fun r h' e => by obtain ⟨rfl, rfl⟩ := e; rfl)) (fun r h' e => ?_)
        obtain ⟨rfl, rfl⟩ := e
        refine qJ.mc (m1 := (q_up (q_row (q_row (q_row (q_row m1 36 c) 38 p) 35 (tkF (q_row (q_row m1 36 c) 38 p) 34 i f)) 37 (q_fu k (m1 9 i.toNat).toNat (m1 10 i.toNat))) 34 5 (tkN m1 i nw))) (m2 := (q_up (q_row (q_row (q_row (q_row m1 36 c) 38 p) 35 (tkF m1 34 i f)) 37 (q_fu k (m1 9 i.toNat).toNat (m1 10 i.toNat))) 34 5 (tkN m1 i nw))) (by rw [tkF_c (m := (q_row (q_row m1 36 c) 38 p)) (m' := m1) rfl rfl (fun _ _ _ => rfl)]) ?_
        show qJ YX2_firstBreak κ _ (qLy u, (q_up (q_row (q_row (q_row (q_row m1 36 c) 38 p) 35 (tkF m1 34 i f)) 37 (q_fu k (m1 9 i.toNat).toNat (m1 10 i.toNat))) 34 5 (tkN m1 i nw)), y) 0 0 28 [some (qR 34), some (qR 2), some (qI hz), some (qI (n0 : Int)), some (qI i)] []
        have hX := gIv_s h01 hW1 hg1 hT1 (by omega) v15_3
        have hXn := hX.2.1
        have hXl := hX.2.2.1
        refine qJ.run hκ 2 (pc' := 30) (ls' := [some (qR 34), some (qR 2), some (qI hz), some (qI (n0 : Int)), some (qI i)]) (st' := [qR 2, qR 34]) rfl ?_
        refine qJ.callV (As := [qR 2]) (rest := []) hκ rfl kX2_52 (c_joinColumns34 u (q_up (q_row (q_row (q_row (q_row m1 36 c) 38 p) 35 (tkF m1 34 i f)) 37 (q_fu k (m1 9 i.toNat).toNat (m1 10 i.toNat))) 34 5 (tkN m1 i nw)) y h01 hW1 hg1 (show 0 ≤ tkN m1 i nw ∧ tkN m1 i nw ≤ m1 2 0 from ⟨by omega, hX.2.2.1⟩) hX.2.2.2) rfl rfl (by decide) rfl rfl (Nat.le_of_ble_eq_true rfl) (Nat.le_of_ble_eq_true rfl) (Nat.le_of_ble_eq_true rfl) (Or.inl (fun r h' e => by obtain ⟨rfl, rfl, hcl⟩ := e; rfl)) (fun r h' e => ?_)
        obtain ⟨rfl, rfl, hcl⟩ := e
        refine qJ.mc (m1 := (q_row (q_row (q_up (q_row (q_row (q_row (q_row m1 36 c) 38 p) 35 (tkF m1 34 i f)) 37 (q_fu k (m1 9 i.toNat).toNat (m1 10 i.toNat))) 34 5 (tkN m1 i nw)) 36 ((jcS (q_up (q_row (q_row (q_row (q_row m1 36 c) 38 p) 35 (tkF m1 34 i f)) 37 (q_fu k (m1 9 i.toNat).toNat (m1 10 i.toNat))) 34 5 (tkN m1 i nw)) 34 (q_fu k (m1 9 i.toNat).toNat (m1 10 i.toNat)) (sep c) (fun k => if k < 4 then (-1) else p k) (tkN m1 i nw).toNat).1)) 38 ((jcS (q_up (q_row (q_row (q_row (q_row m1 36 c) 38 p) 35 (tkF m1 34 i f)) 37 (q_fu k (m1 9 i.toNat).toNat (m1 10 i.toNat))) 34 5 (tkN m1 i nw)) 34 (q_fu k (m1 9 i.toNat).toNat (m1 10 i.toNat)) (sep c) (fun k => if k < 4 then (-1) else p k) (tkN m1 i nw).toNat).2))) (m2 := (q_up (q_row (q_row (q_row (q_row m1 36 ((jcS m1 34 (q_fu k (m1 9 i.toNat).toNat (m1 10 i.toNat)) (sep c) (fun k => if k < 4 then (-1) else p k) (tkN m1 i nw).toNat).1)) 38 ((jcS m1 34 (q_fu k (m1 9 i.toNat).toNat (m1 10 i.toNat)) (sep c) (fun k => if k < 4 then (-1) else p k) (tkN m1 i nw).toNat).2)) 35 (tkF m1 34 i f)) 37 (q_fu k (m1 9 i.toNat).toNat (m1 10 i.toNat))) 34 5 (tkN m1 i nw))) (by rw [jcS_c (m := (q_up (q_row (q_row (q_row (q_row m1 36 c) 38 p) 35 (tkF m1 34 i f)) 37 (q_fu k (m1 9 i.toNat).toNat (m1 10 i.toNat))) 34 5 (tkN m1 i nw))) (m' := m1) (fun w => rfl)]; exact gPush34) ?_
        show qJ YX2_firstBreak κ _ (qLy u, (q_up (q_row (q_row (q_row (q_row m1 36 ((jcS m1 34 (q_fu k (m1 9 i.toNat).toNat (m1 10 i.toNat)) (sep c) (fun k => if k < 4 then (-1) else p k) (tkN m1 i nw).toNat).1)) 38 ((jcS m1 34 (q_fu k (m1 9 i.toNat).toNat (m1 10 i.toNat)) (sep c) (fun k => if k < 4 then (-1) else p k) (tkN m1 i nw).toNat).2)) 35 (tkF m1 34 i f)) 37 (q_fu k (m1 9 i.toNat).toNat (m1 10 i.toNat))) 34 5 (tkN m1 i nw)), y) 0 0 33 [some (qR 34), some (qR 2), some (qI hz), some (qI (n0 : Int)), some (qI i)] []
        obtain ⟨ja, -, -⟩ := jcS_ag (m := m1) (g := 34) (kk := q_fu k (m1 9 i.toNat).toNat (m1 10 i.toNat)) (c1 := sep (fun _ => 0)) (p1 := fun _ => -1) (ag_sep c _) (p0 := (fun k => if k < 4 then (-1) else p k)) (fun j hj => by show (if j < 4 then (-1 : Int) else _) = -1; rw [if_pos hj]) (fun j hj => by show -1 ≤ (if j < 4 then (-1 : Int) else _) ∧ (if j < 4 then (-1 : Int) else _) ≤ 19; rw [if_pos hj]; decide) (tkN m1 i nw).toNat (fun w hw => by have := hX.2.2.2 (w : Int) (by omega) (by omega); rw [show ((w : Int)).toNat = w by omega] at this; exact ⟨this, lst_r2 hW1 hg1 ⟨by omega, by omega⟩⟩)
        have hcl2 : lb (jcS m1 34 (q_fu k (m1 9 i.toNat).toNat (m1 10 i.toNat)) (sep c) (fun k => if k < 4 then (-1) else p k) (tkN m1 i nw).toNat).1 := by rw [← jcS_c (m := (q_up (q_row (q_row (q_row (q_row m1 36 c) 38 p) 35 (tkF m1 34 i f)) 37 (q_fu k (m1 9 i.toNat).toNat (m1 10 i.toNat))) 34 5 (tkN m1 i nw))) (m' := m1) (fun w => rfl)]; exact hcl
        have hbk : brk (tkF m1 34 i f) (jcS m1 34 (q_fu k (m1 9 i.toNat).toNat (m1 10 i.toNat)) (sep c) (fun k => if k < 4 then (-1) else p k) (tkN m1 i nw).toNat).1 ↔ gBk m1 34 (sep (m 35)) (m 37) (i.toNat + 1) := by
          have e9 := gst_s (m := m1) (g := 34) (f0 := sep (m 35)) (k0 := m 37) v15_0
          rw [← v15_2, show (i + 1).toNat = i.toNat + 1 by omega] at e9
          unfold gBk
          rw [e9]
          exact brk_ag (fun _ _ => rfl) ja
        have bb := q_ite01 (brk (tkF m1 34 i f) (jcS m1 34 (q_fu k (m1 9 i.toNat).toNat (m1 10 i.toNat)) (sep c) (fun k => if k < 4 then (-1) else p k) (tkN m1 i nw).toNat).1)
        refine qJ.run hκ 1 (pc' := 34) (ls' := [some (qR 34), some (qR 2), some (qI hz), some (qI (n0 : Int)), some (qI i)]) (st' := [qR 34]) rfl ?_
        refine qJ.callV (As := []) (rest := []) hκ rfl kX2_56 (c_isBroken34 u (q_up (q_row (q_row (q_row (q_row m1 36 ((jcS m1 34 (q_fu k (m1 9 i.toNat).toNat (m1 10 i.toNat)) (sep c) (fun k => if k < 4 then (-1) else p k) (tkN m1 i nw).toNat).1)) 38 ((jcS m1 34 (q_fu k (m1 9 i.toNat).toNat (m1 10 i.toNat)) (sep c) (fun k => if k < 4 then (-1) else p k) (tkN m1 i nw).toNat).2)) 35 (tkF m1 34 i f)) 37 (q_fu k (m1 9 i.toNat).toNat (m1 10 i.toNat))) 34 5 (tkN m1 i nw)) y hX.1 hcl2) rfl rfl (by decide) rfl rfl (Nat.le_of_ble_eq_true rfl) (Nat.le_of_ble_eq_true rfl) (Nat.le_of_ble_eq_true rfl) (Or.inl (fun r h' e => by obtain ⟨rfl, rfl⟩ := e; rfl)) (fun r h' e => ?_)
        obtain ⟨rfl, rfl⟩ := e
        show qJ YX2_firstBreak κ _ (qLy u, (q_up (q_row (q_row (q_row (q_row m1 36 ((jcS m1 34 (q_fu k (m1 9 i.toNat).toNat (m1 10 i.toNat)) (sep c) (fun k => if k < 4 then (-1) else p k) (tkN m1 i nw).toNat).1)) 38 ((jcS m1 34 (q_fu k (m1 9 i.toNat).toNat (m1 10 i.toNat)) (sep c) (fun k => if k < 4 then (-1) else p k) (tkN m1 i nw).toNat).2)) 35 (tkF m1 34 i f)) 37 (q_fu k (m1 9 i.toNat).toNat (m1 10 i.toNat))) 34 5 (tkN m1 i nw)), y) 0 0 37 [some (qR 34), some (qR 2), some (qI hz), some (qI (n0 : Int)), some (qI i)] [qI (if brk (tkF m1 34 i f) ((jcS m1 34 (q_fu k (m1 9 i.toNat).toNat (m1 10 i.toNat)) (sep c) (fun k => if k < 4 then (-1) else p k) (tkN m1 i nw).toNat).1) then 1 else 0)]
        refine qJ.if_eq hκ (tgt := 43) rfl rfl (by omega) (fun c37 => ?_) (fun c37 => ?_)
        · show qJ YX2_firstBreak κ _ (qLy u, (q_up (q_row (q_row (q_row (q_row m1 36 ((jcS m1 34 (q_fu k (m1 9 i.toNat).toNat (m1 10 i.toNat)) (sep c) (fun k => if k < 4 then (-1) else p k) (tkN m1 i nw).toNat).1)) 38 ((jcS m1 34 (q_fu k (m1 9 i.toNat).toNat (m1 10 i.toNat)) (sep c) (fun k => if k < 4 then (-1) else p k) (tkN m1 i nw).toNat).2)) 35 (tkF m1 34 i f)) 37 (q_fu k (m1 9 i.toNat).toNat (m1 10 i.toNat))) 34 5 (tkN m1 i nw)), y) 0 0 43 [some (qR 34), some (qR 2), some (qI hz), some (qI (n0 : Int)), some (qI i)] []
          refine qJ.run hκ 2 (pc' := 15) (ls' := [some (qR 34), some (qR 2), some (qI hz), some (qI (n0 : Int)), some (qI (i + 1))]) (st' := []) rfl ?_
          exact ih15  ((jcS m1 34 (q_fu k (m1 9 i.toNat).toNat (m1 10 i.toNat)) (sep c) (fun k => if k < 4 then (-1) else p k) (tkN m1 i nw).toNat).1) ((jcS m1 34 (q_fu k (m1 9 i.toNat).toNat (m1 10 i.toNat)) (sep c) (fun k => if k < 4 then (-1) else p k) (tkN m1 i nw).toNat).2) (tkF m1 34 i f) (q_fu k (m1 9 i.toNat).toNat (m1 10 i.toNat)) (tkN m1 i nw) (i + 1) (by omega) (by omega) (by rw [gst_s v15_0, ← v15_2]) (hX) (q_fst_no v15_0 v15_4 (fun z => by rw [if_pos (hbk.mpr z)] at c37; omega)) (by omega)
        · show qJ YX2_firstBreak κ _ (qLy u, (q_up (q_row (q_row (q_row (q_row m1 36 ((jcS m1 34 (q_fu k (m1 9 i.toNat).toNat (m1 10 i.toNat)) (sep c) (fun k => if k < 4 then (-1) else p k) (tkN m1 i nw).toNat).1)) 38 ((jcS m1 34 (q_fu k (m1 9 i.toNat).toNat (m1 10 i.toNat)) (sep c) (fun k => if k < 4 then (-1) else p k) (tkN m1 i nw).toNat).2)) 35 (tkF m1 34 i f)) 37 (q_fu k (m1 9 i.toNat).toNat (m1 10 i.toNat))) 34 5 (tkN m1 i nw)), y) 0 0 40 [some (qR 34), some (qR 2), some (qI hz), some (qI (n0 : Int)), some (qI i)] []
          refine qJ.run hκ 1 (pc' := 42) (ls' := [some (qR 34), some (qR 2), some (qI hz), some (qI (n0 : Int)), some (qI i)]) (st' := [qI i]) rfl ?_
          exact qJ.iret hκ rfl rfl (by decide) (by decide) (⟨m1, _, _, _, _, _, hm1, by rw [q_fst_hit (p := (fun t => gBk m1 34 (sep (m 35)) (m 37) (t + 1))) (i := i) v15_0 v15_4 (hbk.mp (by by_cases z : brk (tkF m1 34 i f) (jcS m1 34 (q_fu k (m1 9 i.toNat).toNat (m1 10 i.toNat)) (sep c) (fun k => if k < 4 then (-1) else p k) (tkN m1 i nw).toNat).1; exact z; rw [if_neg z] at c37; exact absurd rfl c37)) n0 (by omega)], rfl⟩)
  show qJ YX2_firstBreak κ _ (qLy u, m, y) 0 0 0 [some (qR 34), some (qR 2), some (qI hz), none, none] []
  refine qJ.run hκ 3 (pc' := 3) (ls' := [some (qR 34), some (qR 2), some (qI hz), none, none]) (st' := [qI (-1), qI (-1), qR 34]) rfl ?_
  refine qJ.callV (As := [qI (-1), qI (-1)]) (rest := []) hκ rfl kX2_38 (c_gStart34 u m y (-1) (-1)) rfl rfl (by decide) rfl rfl (Nat.le_of_ble_eq_true rfl) (Nat.le_of_ble_eq_true rfl) (Nat.le_of_ble_eq_true rfl) (Or.inl (fun r h' e => by obtain ⟨rfl, rfl⟩ := e; rfl)) (fun r h' e => ?_)
  obtain ⟨rfl, rfl⟩ := e
  refine qJ.mc (m1 := (q_row (q_up (q_up (q_up m 34 6 (-1)) 34 7 (-1)) 34 5 0) 35 (sep (m 35)))) (m2 := (q_up (q_row (q_row (q_row (q_row m1 36 (m1 36)) 38 (m1 38)) 35 (sep (m 35))) 37 (m 37)) 34 5 0)) (by rw [← gPull34, hm1]; exact gSt_eq (by decide) (by decide) (by decide)) ?_
  show qJ YX2_firstBreak κ _ (qLy u, (q_up (q_row (q_row (q_row (q_row m1 36 (m1 36)) 38 (m1 38)) 35 (sep (m 35))) 37 (m 37)) 34 5 0), y) 0 0 6 [some (qR 34), some (qR 2), some (qI hz), none, none] []
  refine qJ.run hκ 2 (pc' := 8) (ls' := [some (qR 34), some (qR 2), some (qI hz), none, none]) (st' := [qI hz, qR 2]) rfl ?_
  refine qJ.callV (As := [qI hz]) (rest := []) hκ rfl kX2_42 (hp1 ▸ c_seenTellings u (q_up (q_row (q_row (q_row (q_row m1 36 (m1 36)) 38 (m1 38)) 35 (sep (m 35))) 37 (m 37)) 34 5 0) y hz h21 h1 hS1) rfl rfl (by decide) rfl rfl (Nat.le_of_ble_eq_true rfl) (Nat.le_of_ble_eq_true rfl) (Nat.le_of_ble_eq_true rfl) (Or.inl (fun r h' e => by obtain ⟨rfl, rfl⟩ := e; rfl)) (fun r h' e => ?_)
  obtain ⟨rfl, rfl⟩ := e
  show qJ YX2_firstBreak κ _ (qLy u, (q_up (q_row (q_row (q_row (q_row m1 36 (m1 36)) 38 (m1 38)) 35 (sep (m 35))) 37 (m 37)) 34 5 0), y) 0 0 11 [some (qR 34), some (qR 2), some (qI hz), none, none] [qI (n0 : Int)]
  refine qJ.run hκ 3 (pc' := 15) (ls' := [some (qR 34), some (qR 2), some (qI hz), some (qI (n0 : Int)), some (qI 0)]) (st' := []) rfl ?_
  exact L15 (n0 + 1) (m1 36) (m1 38) (sep (m 35)) (m 37) 0 0 (by omega) (by omega) (rfl) (⟨sep_lb _, rfl, by omega, fun w g1 g2 => by omega⟩) (rfl) (by omega)

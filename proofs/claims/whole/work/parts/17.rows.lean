/-! printed by p17.py: rows, fill, Usage -/
def q_fu (f : Nat → Int) (k : Nat) (v : Int) : Nat → Int := fun j => if j = k then v else f j
theorem q_fu_eq {f : Nat → Int} {k : Nat} {v : Int} : q_fu f k v k = v := by simp [q_fu]
theorem q_fu_ne {f : Nat → Int} {k j : Nat} {v : Int} (h : j ≠ k) : q_fu f k v j = f j := by simp [q_fu, h]
theorem q_up_row_eq {m : qM} {a k : Nat} {f : Nat → Int} {v : Int} : q_up (q_row m a f) a k v = q_row m a (q_fu f k v) := by
  funext i j
  by_cases h : i = a
  · subst h; by_cases e : j = k <;> simp [q_up, q_row, q_fu, e]
  · simp [q_up, q_row, h]
theorem q_up_row_ne {m : qM} {a b k : Nat} {f : Nat → Int} {v : Int} (h : a ≠ b) : q_up (q_row m b f) a k v = q_row (q_up m a k v) b f := by
  funext i j
  by_cases e : i = b
  · subst e; simp [q_up, q_row, h.symm]
  · simp [q_up, q_row, e]
theorem q_up_comm {m : qM} {a c k j : Nat} {v w : Int} (h : a ≠ c) : q_up (q_up m c j w) a k v = q_up (q_up m a k v) c j w := by
  funext x z
  by_cases e : x = a
  · subst e; simp [q_up, h]
  · simp [q_up, e]
theorem q_row_row {m : qM} {a : Nat} {f g : Nat → Int} : q_row (q_row m a f) a g = q_row m a g := by
  funext i j
  by_cases e : i = a <;> simp [q_row, e]
theorem q_row_comm {m : qM} {a b : Nat} {f g : Nat → Int} (h : a ≠ b) : q_row (q_row m a f) b g = q_row (q_row m b g) a f := by
  funext i j
  by_cases e : i = a
  · subst e; simp [q_row, h]
  · simp [q_row, e]
theorem q_row_self {m : qM} {a : Nat} : q_row m a (m a) = m := by
  funext i j
  by_cases e : i = a
  · subst e; simp [q_row]
  · simp [q_row, e]
theorem q_row_c {m : qM} {a : Nat} {f g : Nat → Int} (h : ∀ k, f k = g k) : q_row m a f = q_row m a g := by rw [show f = g from funext h]
theorem qJ.mc {Y : qY} {κ : qK} {fin : State → Prop} {L : List qS} {m1 m2 y : qM} {cs sl pc : Nat} {ls : List (Option qV)} {st : List qV} (e : m1 = m2) (k : qJ Y κ fin (L, m2, y) cs sl pc ls st) : qJ Y κ fin (L, m1, y) cs sl pc ls st := by subst e; exact k

set_option maxRecDepth 100000 in
theorem c_fill25 (u : qU) (m y : qM) (v : Int)  : qCt YJ7_fill_53178 1 0 0 [qR 25, qI v] (qLy u, m, y) (fun r h => r = none ∧ h = (qLy u, q_row m 25 (fun k => if k < 20 then v else m 25 k), y)) := by
  refine qCt.intro okJ7_fill_53178 (Nat.le_of_ble_eq_true rfl) (fun κ hκ => ?_)
  have L5 : ∀ (n : Nat) (f : Nat → Int) (i : Int), (0 ≤ i) → (i ≤ 20) → (∀ k : Nat, f k = if (k : Int) < i then v else m 25 k) → ((20 - i).toNat) < n → qJ YJ7_fill_53178 κ (qFin (fun r h => r = none ∧ h = (qLy u, q_row m 25 (fun k => if k < 20 then v else m 25 k), y)) 0 0 κ) (qLy u, (q_row m 25 f), y) 0 0 5 [some (qR 25), some (qI v), some (qI i), some (qI 20)] [] := by
    intro n
    induction n with
    | zero => intro f i _ _ _ hz0; omega
    | succ n ih5 =>
      intro f i v5_0 v5_1 v5_2 v5_m
      refine qJ.run hκ 2 (pc' := 7) (ls' := [some (qR 25), some (qI v), some (qI i), some (qI 20)]) (st' := [qI 20, qI i]) rfl ?_
      refine qJ.icmp_ge hκ (tgt := 20) rfl rfl (by omega) (by omega) (fun c7 => ?_) (fun c7 => ?_)
      · show qJ YJ7_fill_53178 κ _ (qLy u, (q_row m 25 f), y) 0 0 20 [some (qR 25), some (qI v), some (qI i), some (qI 20)] []
        exact qJ.vret hκ rfl rfl (by decide) (by decide) (by refine ⟨rfl, ?_⟩; rw [q_row_c (g := fun k => if k < 20 then v else m 25 k) (fun k => by rw [v5_2 k]; by_cases g : k < 20; rw [if_pos (by omega), if_pos g]; rw [if_neg (by omega), if_neg g])])
      · show qJ YJ7_fill_53178 κ _ (qLy u, (q_row m 25 f), y) 0 0 10 [some (qR 25), some (qI v), some (qI i), some (qI 20)] []
        refine qJ.run hκ 3 (pc' := 13) (ls' := [some (qR 25), some (qI v), some (qI i), some (qI 20)]) (st' := [qI v, qI i, qR 25]) rfl ?_
        refine qJ.ast hκ rfl rfl rfl (by decide) (by omega) ?_
        refine qJ.mc (m1 := (q_up (q_row m 25 f) 25 i.toNat v)) (m2 := (q_row m 25 (q_fu f i.toNat v))) (by rw [q_up_row_eq]) ?_
        show qJ YJ7_fill_53178 κ _ (qLy u, (q_row m 25 (q_fu f i.toNat v)), y) 0 0 14 [some (qR 25), some (qI v), some (qI i), some (qI 20)] []
        refine qJ.run hκ 2 (pc' := 5) (ls' := [some (qR 25), some (qI v), some (qI (i + 1)), some (qI 20)]) (st' := []) rfl ?_
        exact qJ.cast (ih5  (q_fu f i.toNat v) (i + 1) (by omega) (by omega) (fun k => by by_cases e : k = i.toNat; subst e; rw [q_fu_eq, if_pos (by omega)]; rw [q_fu_ne e, v5_2 k]; by_cases g : (k : Int) < i; rw [if_pos g, if_pos (by omega)]; rw [if_neg g, if_neg (by omega)]) (by omega)) (rfl) rfl rfl
  show qJ YJ7_fill_53178 κ _ (qLy u, m, y) 0 0 0 [some (qR 25), some (qI v), none, none] []
  refine qJ.run hκ 5 (pc' := 5) (ls' := [some (qR 25), some (qI v), some (qI 0), some (qI 20)]) (st' := []) rfl ?_
  exact qJ.cast (L5 21 (m 25) 0 (by omega) (by omega) (fun k => by rw [if_neg (by omega)]) (by omega)) (by rw [q_row_self]) rfl rfl

set_option maxRecDepth 100000 in
theorem c_fill26 (u : qU) (m y : qM) (v : Int)  : qCt YJ7_fill_53178 1 0 0 [qR 26, qI v] (qLy u, m, y) (fun r h => r = none ∧ h = (qLy u, q_row m 26 (fun k => if k < 20 then v else m 26 k), y)) := by
  refine qCt.intro okJ7_fill_53178 (Nat.le_of_ble_eq_true rfl) (fun κ hκ => ?_)
  have L5 : ∀ (n : Nat) (f : Nat → Int) (i : Int), (0 ≤ i) → (i ≤ 20) → (∀ k : Nat, f k = if (k : Int) < i then v else m 26 k) → ((20 - i).toNat) < n → qJ YJ7_fill_53178 κ (qFin (fun r h => r = none ∧ h = (qLy u, q_row m 26 (fun k => if k < 20 then v else m 26 k), y)) 0 0 κ) (qLy u, (q_row m 26 f), y) 0 0 5 [some (qR 26), some (qI v), some (qI i), some (qI 20)] [] := by
    intro n
    induction n with
    | zero => intro f i _ _ _ hz0; omega
    | succ n ih5 =>
      intro f i v5_0 v5_1 v5_2 v5_m
      refine qJ.run hκ 2 (pc' := 7) (ls' := [some (qR 26), some (qI v), some (qI i), some (qI 20)]) (st' := [qI 20, qI i]) rfl ?_
      refine qJ.icmp_ge hκ (tgt := 20) rfl rfl (by omega) (by omega) (fun c7 => ?_) (fun c7 => ?_)
      · show qJ YJ7_fill_53178 κ _ (qLy u, (q_row m 26 f), y) 0 0 20 [some (qR 26), some (qI v), some (qI i), some (qI 20)] []
        exact qJ.vret hκ rfl rfl (by decide) (by decide) (by refine ⟨rfl, ?_⟩; rw [q_row_c (g := fun k => if k < 20 then v else m 26 k) (fun k => by rw [v5_2 k]; by_cases g : k < 20; rw [if_pos (by omega), if_pos g]; rw [if_neg (by omega), if_neg g])])
      · show qJ YJ7_fill_53178 κ _ (qLy u, (q_row m 26 f), y) 0 0 10 [some (qR 26), some (qI v), some (qI i), some (qI 20)] []
        refine qJ.run hκ 3 (pc' := 13) (ls' := [some (qR 26), some (qI v), some (qI i), some (qI 20)]) (st' := [qI v, qI i, qR 26]) rfl ?_
        refine qJ.ast hκ rfl rfl rfl (by decide) (by omega) ?_
        refine qJ.mc (m1 := (q_up (q_row m 26 f) 26 i.toNat v)) (m2 := (q_row m 26 (q_fu f i.toNat v))) (by rw [q_up_row_eq]) ?_
        show qJ YJ7_fill_53178 κ _ (qLy u, (q_row m 26 (q_fu f i.toNat v)), y) 0 0 14 [some (qR 26), some (qI v), some (qI i), some (qI 20)] []
        refine qJ.run hκ 2 (pc' := 5) (ls' := [some (qR 26), some (qI v), some (qI (i + 1)), some (qI 20)]) (st' := []) rfl ?_
        exact qJ.cast (ih5  (q_fu f i.toNat v) (i + 1) (by omega) (by omega) (fun k => by by_cases e : k = i.toNat; subst e; rw [q_fu_eq, if_pos (by omega)]; rw [q_fu_ne e, v5_2 k]; by_cases g : (k : Int) < i; rw [if_pos g, if_pos (by omega)]; rw [if_neg g, if_neg (by omega)]) (by omega)) (rfl) rfl rfl
  show qJ YJ7_fill_53178 κ _ (qLy u, m, y) 0 0 0 [some (qR 26), some (qI v), none, none] []
  refine qJ.run hκ 5 (pc' := 5) (ls' := [some (qR 26), some (qI v), some (qI 0), some (qI 20)]) (st' := []) rfl ?_
  exact qJ.cast (L5 21 (m 26) 0 (by omega) (by omega) (fun k => by rw [if_neg (by omega)]) (by omega)) (by rw [q_row_self]) rfl rfl

set_option maxRecDepth 100000 in
theorem c_fill27 (u : qU) (m y : qM) (v : Int)  : qCt YJ7_fill_53178 1 0 0 [qR 27, qI v] (qLy u, m, y) (fun r h => r = none ∧ h = (qLy u, q_row m 27 (fun k => if k < 20 then v else m 27 k), y)) := by
  refine qCt.intro okJ7_fill_53178 (Nat.le_of_ble_eq_true rfl) (fun κ hκ => ?_)
  have L5 : ∀ (n : Nat) (f : Nat → Int) (i : Int), (0 ≤ i) → (i ≤ 20) → (∀ k : Nat, f k = if (k : Int) < i then v else m 27 k) → ((20 - i).toNat) < n → qJ YJ7_fill_53178 κ (qFin (fun r h => r = none ∧ h = (qLy u, q_row m 27 (fun k => if k < 20 then v else m 27 k), y)) 0 0 κ) (qLy u, (q_row m 27 f), y) 0 0 5 [some (qR 27), some (qI v), some (qI i), some (qI 20)] [] := by
    intro n
    induction n with
    | zero => intro f i _ _ _ hz0; omega
    | succ n ih5 =>
      intro f i v5_0 v5_1 v5_2 v5_m
      refine qJ.run hκ 2 (pc' := 7) (ls' := [some (qR 27), some (qI v), some (qI i), some (qI 20)]) (st' := [qI 20, qI i]) rfl ?_
      refine qJ.icmp_ge hκ (tgt := 20) rfl rfl (by omega) (by omega) (fun c7 => ?_) (fun c7 => ?_)
      · show qJ YJ7_fill_53178 κ _ (qLy u, (q_row m 27 f), y) 0 0 20 [some (qR 27), some (qI v), some (qI i), some (qI 20)] []
        exact qJ.vret hκ rfl rfl (by decide) (by decide) (by refine ⟨rfl, ?_⟩; rw [q_row_c (g := fun k => if k < 20 then v else m 27 k) (fun k => by rw [v5_2 k]; by_cases g : k < 20; rw [if_pos (by omega), if_pos g]; rw [if_neg (by omega), if_neg g])])
      · show qJ YJ7_fill_53178 κ _ (qLy u, (q_row m 27 f), y) 0 0 10 [some (qR 27), some (qI v), some (qI i), some (qI 20)] []
        refine qJ.run hκ 3 (pc' := 13) (ls' := [some (qR 27), some (qI v), some (qI i), some (qI 20)]) (st' := [qI v, qI i, qR 27]) rfl ?_
        refine qJ.ast hκ rfl rfl rfl (by decide) (by omega) ?_
        refine qJ.mc (m1 := (q_up (q_row m 27 f) 27 i.toNat v)) (m2 := (q_row m 27 (q_fu f i.toNat v))) (by rw [q_up_row_eq]) ?_
        show qJ YJ7_fill_53178 κ _ (qLy u, (q_row m 27 (q_fu f i.toNat v)), y) 0 0 14 [some (qR 27), some (qI v), some (qI i), some (qI 20)] []
        refine qJ.run hκ 2 (pc' := 5) (ls' := [some (qR 27), some (qI v), some (qI (i + 1)), some (qI 20)]) (st' := []) rfl ?_
        exact qJ.cast (ih5  (q_fu f i.toNat v) (i + 1) (by omega) (by omega) (fun k => by by_cases e : k = i.toNat; subst e; rw [q_fu_eq, if_pos (by omega)]; rw [q_fu_ne e, v5_2 k]; by_cases g : (k : Int) < i; rw [if_pos g, if_pos (by omega)]; rw [if_neg g, if_neg (by omega)]) (by omega)) (rfl) rfl rfl
  show qJ YJ7_fill_53178 κ _ (qLy u, m, y) 0 0 0 [some (qR 27), some (qI v), none, none] []
  refine qJ.run hκ 5 (pc' := 5) (ls' := [some (qR 27), some (qI v), some (qI 0), some (qI 20)]) (st' := []) rfl ?_
  exact qJ.cast (L5 21 (m 27) 0 (by omega) (by omega) (fun k => by rw [if_neg (by omega)]) (by omega)) (by rw [q_row_self]) rfl rfl

set_option maxRecDepth 100000 in
theorem c_fill28 (u : qU) (m y : qM) (v : Int)  : qCt YJ7_fill_53178 1 0 0 [qR 28, qI v] (qLy u, m, y) (fun r h => r = none ∧ h = (qLy u, q_row m 28 (fun k => if k < 20 then v else m 28 k), y)) := by
  refine qCt.intro okJ7_fill_53178 (Nat.le_of_ble_eq_true rfl) (fun κ hκ => ?_)
  have L5 : ∀ (n : Nat) (f : Nat → Int) (i : Int), (0 ≤ i) → (i ≤ 20) → (∀ k : Nat, f k = if (k : Int) < i then v else m 28 k) → ((20 - i).toNat) < n → qJ YJ7_fill_53178 κ (qFin (fun r h => r = none ∧ h = (qLy u, q_row m 28 (fun k => if k < 20 then v else m 28 k), y)) 0 0 κ) (qLy u, (q_row m 28 f), y) 0 0 5 [some (qR 28), some (qI v), some (qI i), some (qI 20)] [] := by
    intro n
    induction n with
    | zero => intro f i _ _ _ hz0; omega
    | succ n ih5 =>
      intro f i v5_0 v5_1 v5_2 v5_m
      refine qJ.run hκ 2 (pc' := 7) (ls' := [some (qR 28), some (qI v), some (qI i), some (qI 20)]) (st' := [qI 20, qI i]) rfl ?_
      refine qJ.icmp_ge hκ (tgt := 20) rfl rfl (by omega) (by omega) (fun c7 => ?_) (fun c7 => ?_)
      · show qJ YJ7_fill_53178 κ _ (qLy u, (q_row m 28 f), y) 0 0 20 [some (qR 28), some (qI v), some (qI i), some (qI 20)] []
        exact qJ.vret hκ rfl rfl (by decide) (by decide) (by refine ⟨rfl, ?_⟩; rw [q_row_c (g := fun k => if k < 20 then v else m 28 k) (fun k => by rw [v5_2 k]; by_cases g : k < 20; rw [if_pos (by omega), if_pos g]; rw [if_neg (by omega), if_neg g])])
      · show qJ YJ7_fill_53178 κ _ (qLy u, (q_row m 28 f), y) 0 0 10 [some (qR 28), some (qI v), some (qI i), some (qI 20)] []
        refine qJ.run hκ 3 (pc' := 13) (ls' := [some (qR 28), some (qI v), some (qI i), some (qI 20)]) (st' := [qI v, qI i, qR 28]) rfl ?_
        refine qJ.ast hκ rfl rfl rfl (by decide) (by omega) ?_
        refine qJ.mc (m1 := (q_up (q_row m 28 f) 28 i.toNat v)) (m2 := (q_row m 28 (q_fu f i.toNat v))) (by rw [q_up_row_eq]) ?_
        show qJ YJ7_fill_53178 κ _ (qLy u, (q_row m 28 (q_fu f i.toNat v)), y) 0 0 14 [some (qR 28), some (qI v), some (qI i), some (qI 20)] []
        refine qJ.run hκ 2 (pc' := 5) (ls' := [some (qR 28), some (qI v), some (qI (i + 1)), some (qI 20)]) (st' := []) rfl ?_
        exact qJ.cast (ih5  (q_fu f i.toNat v) (i + 1) (by omega) (by omega) (fun k => by by_cases e : k = i.toNat; subst e; rw [q_fu_eq, if_pos (by omega)]; rw [q_fu_ne e, v5_2 k]; by_cases g : (k : Int) < i; rw [if_pos g, if_pos (by omega)]; rw [if_neg g, if_neg (by omega)]) (by omega)) (rfl) rfl rfl
  show qJ YJ7_fill_53178 κ _ (qLy u, m, y) 0 0 0 [some (qR 28), some (qI v), none, none] []
  refine qJ.run hκ 5 (pc' := 5) (ls' := [some (qR 28), some (qI v), some (qI 0), some (qI 20)]) (st' := []) rfl ?_
  exact qJ.cast (L5 21 (m 28) 0 (by omega) (by omega) (fun k => by rw [if_neg (by omega)]) (by omega)) (by rw [q_row_self]) rfl rfl

set_option maxRecDepth 100000 in
theorem c_fill33 (u : qU) (m y : qM) (v : Int)  : qCt YJ7_fill_53178 1 0 0 [qR 33, qI v] (qLy u, m, y) (fun r h => r = none ∧ h = (qLy u, q_row m 33 (fun k => if k < 4 then v else m 33 k), y)) := by
  refine qCt.intro okJ7_fill_53178 (Nat.le_of_ble_eq_true rfl) (fun κ hκ => ?_)
  have L5 : ∀ (n : Nat) (f : Nat → Int) (i : Int), (0 ≤ i) → (i ≤ 4) → (∀ k : Nat, f k = if (k : Int) < i then v else m 33 k) → ((4 - i).toNat) < n → qJ YJ7_fill_53178 κ (qFin (fun r h => r = none ∧ h = (qLy u, q_row m 33 (fun k => if k < 4 then v else m 33 k), y)) 0 0 κ) (qLy u, (q_row m 33 f), y) 0 0 5 [some (qR 33), some (qI v), some (qI i), some (qI 4)] [] := by
    intro n
    induction n with
    | zero => intro f i _ _ _ hz0; omega
    | succ n ih5 =>
      intro f i v5_0 v5_1 v5_2 v5_m
      refine qJ.run hκ 2 (pc' := 7) (ls' := [some (qR 33), some (qI v), some (qI i), some (qI 4)]) (st' := [qI 4, qI i]) rfl ?_
      refine qJ.icmp_ge hκ (tgt := 20) rfl rfl (by omega) (by omega) (fun c7 => ?_) (fun c7 => ?_)
      · show qJ YJ7_fill_53178 κ _ (qLy u, (q_row m 33 f), y) 0 0 20 [some (qR 33), some (qI v), some (qI i), some (qI 4)] []
        exact qJ.vret hκ rfl rfl (by decide) (by decide) (by refine ⟨rfl, ?_⟩; rw [q_row_c (g := fun k => if k < 4 then v else m 33 k) (fun k => by rw [v5_2 k]; by_cases g : k < 4; rw [if_pos (by omega), if_pos g]; rw [if_neg (by omega), if_neg g])])
      · show qJ YJ7_fill_53178 κ _ (qLy u, (q_row m 33 f), y) 0 0 10 [some (qR 33), some (qI v), some (qI i), some (qI 4)] []
        refine qJ.run hκ 3 (pc' := 13) (ls' := [some (qR 33), some (qI v), some (qI i), some (qI 4)]) (st' := [qI v, qI i, qR 33]) rfl ?_
        refine qJ.ast hκ rfl rfl rfl (by decide) (by omega) ?_
        refine qJ.mc (m1 := (q_up (q_row m 33 f) 33 i.toNat v)) (m2 := (q_row m 33 (q_fu f i.toNat v))) (by rw [q_up_row_eq]) ?_
        show qJ YJ7_fill_53178 κ _ (qLy u, (q_row m 33 (q_fu f i.toNat v)), y) 0 0 14 [some (qR 33), some (qI v), some (qI i), some (qI 4)] []
        refine qJ.run hκ 2 (pc' := 5) (ls' := [some (qR 33), some (qI v), some (qI (i + 1)), some (qI 4)]) (st' := []) rfl ?_
        exact qJ.cast (ih5  (q_fu f i.toNat v) (i + 1) (by omega) (by omega) (fun k => by by_cases e : k = i.toNat; subst e; rw [q_fu_eq, if_pos (by omega)]; rw [q_fu_ne e, v5_2 k]; by_cases g : (k : Int) < i; rw [if_pos g, if_pos (by omega)]; rw [if_neg g, if_neg (by omega)]) (by omega)) (rfl) rfl rfl
  show qJ YJ7_fill_53178 κ _ (qLy u, m, y) 0 0 0 [some (qR 33), some (qI v), none, none] []
  refine qJ.run hκ 5 (pc' := 5) (ls' := [some (qR 33), some (qI v), some (qI 0), some (qI 4)]) (st' := []) rfl ?_
  exact qJ.cast (L5 5 (m 33) 0 (by omega) (by omega) (fun k => by rw [if_neg (by omega)]) (by omega)) (by rw [q_row_self]) rfl rfl

set_option maxRecDepth 100000 in
theorem c_fill38 (u : qU) (m y : qM) (v : Int)  : qCt YJ7_fill_53178 1 0 0 [qR 38, qI v] (qLy u, m, y) (fun r h => r = none ∧ h = (qLy u, q_row m 38 (fun k => if k < 4 then v else m 38 k), y)) := by
  refine qCt.intro okJ7_fill_53178 (Nat.le_of_ble_eq_true rfl) (fun κ hκ => ?_)
  have L5 : ∀ (n : Nat) (f : Nat → Int) (i : Int), (0 ≤ i) → (i ≤ 4) → (∀ k : Nat, f k = if (k : Int) < i then v else m 38 k) → ((4 - i).toNat) < n → qJ YJ7_fill_53178 κ (qFin (fun r h => r = none ∧ h = (qLy u, q_row m 38 (fun k => if k < 4 then v else m 38 k), y)) 0 0 κ) (qLy u, (q_row m 38 f), y) 0 0 5 [some (qR 38), some (qI v), some (qI i), some (qI 4)] [] := by
    intro n
    induction n with
    | zero => intro f i _ _ _ hz0; omega
    | succ n ih5 =>
      intro f i v5_0 v5_1 v5_2 v5_m
      refine qJ.run hκ 2 (pc' := 7) (ls' := [some (qR 38), some (qI v), some (qI i), some (qI 4)]) (st' := [qI 4, qI i]) rfl ?_
      refine qJ.icmp_ge hκ (tgt := 20) rfl rfl (by omega) (by omega) (fun c7 => ?_) (fun c7 => ?_)
      · show qJ YJ7_fill_53178 κ _ (qLy u, (q_row m 38 f), y) 0 0 20 [some (qR 38), some (qI v), some (qI i), some (qI 4)] []
        exact qJ.vret hκ rfl rfl (by decide) (by decide) (by refine ⟨rfl, ?_⟩; rw [q_row_c (g := fun k => if k < 4 then v else m 38 k) (fun k => by rw [v5_2 k]; by_cases g : k < 4; rw [if_pos (by omega), if_pos g]; rw [if_neg (by omega), if_neg g])])
      · show qJ YJ7_fill_53178 κ _ (qLy u, (q_row m 38 f), y) 0 0 10 [some (qR 38), some (qI v), some (qI i), some (qI 4)] []
        refine qJ.run hκ 3 (pc' := 13) (ls' := [some (qR 38), some (qI v), some (qI i), some (qI 4)]) (st' := [qI v, qI i, qR 38]) rfl ?_
        refine qJ.ast hκ rfl rfl rfl (by decide) (by omega) ?_
        refine qJ.mc (m1 := (q_up (q_row m 38 f) 38 i.toNat v)) (m2 := (q_row m 38 (q_fu f i.toNat v))) (by rw [q_up_row_eq]) ?_
        show qJ YJ7_fill_53178 κ _ (qLy u, (q_row m 38 (q_fu f i.toNat v)), y) 0 0 14 [some (qR 38), some (qI v), some (qI i), some (qI 4)] []
        refine qJ.run hκ 2 (pc' := 5) (ls' := [some (qR 38), some (qI v), some (qI (i + 1)), some (qI 4)]) (st' := []) rfl ?_
        exact qJ.cast (ih5  (q_fu f i.toNat v) (i + 1) (by omega) (by omega) (fun k => by by_cases e : k = i.toNat; subst e; rw [q_fu_eq, if_pos (by omega)]; rw [q_fu_ne e, v5_2 k]; by_cases g : (k : Int) < i; rw [if_pos g, if_pos (by omega)]; rw [if_neg g, if_neg (by omega)]) (by omega)) (rfl) rfl rfl
  show qJ YJ7_fill_53178 κ _ (qLy u, m, y) 0 0 0 [some (qR 38), some (qI v), none, none] []
  refine qJ.run hκ 5 (pc' := 5) (ls' := [some (qR 38), some (qI v), some (qI 0), some (qI 4)]) (st' := []) rfl ?_
  exact qJ.cast (L5 5 (m 38) 0 (by omega) (by omega) (fun k => by rw [if_neg (by omega)]) (by omega)) (by rw [q_row_self]) rfl rfl

set_option maxRecDepth 100000 in
theorem c_fill40 (u : qU) (m y : qM) (v : Int)  : qCt YJ7_fill_53178 1 0 0 [qR 40, qI v] (qLy u, m, y) (fun r h => r = none ∧ h = (qLy u, q_row m 40 (fun k => if k < 40 then v else m 40 k), y)) := by
  refine qCt.intro okJ7_fill_53178 (Nat.le_of_ble_eq_true rfl) (fun κ hκ => ?_)
  have L5 : ∀ (n : Nat) (f : Nat → Int) (i : Int), (0 ≤ i) → (i ≤ 40) → (∀ k : Nat, f k = if (k : Int) < i then v else m 40 k) → ((40 - i).toNat) < n → qJ YJ7_fill_53178 κ (qFin (fun r h => r = none ∧ h = (qLy u, q_row m 40 (fun k => if k < 40 then v else m 40 k), y)) 0 0 κ) (qLy u, (q_row m 40 f), y) 0 0 5 [some (qR 40), some (qI v), some (qI i), some (qI 40)] [] := by
    intro n
    induction n with
    | zero => intro f i _ _ _ hz0; omega
    | succ n ih5 =>
      intro f i v5_0 v5_1 v5_2 v5_m
      refine qJ.run hκ 2 (pc' := 7) (ls' := [some (qR 40), some (qI v), some (qI i), some (qI 40)]) (st' := [qI 40, qI i]) rfl ?_
      refine qJ.icmp_ge hκ (tgt := 20) rfl rfl (by omega) (by omega) (fun c7 => ?_) (fun c7 => ?_)
      · show qJ YJ7_fill_53178 κ _ (qLy u, (q_row m 40 f), y) 0 0 20 [some (qR 40), some (qI v), some (qI i), some (qI 40)] []
        exact qJ.vret hκ rfl rfl (by decide) (by decide) (by refine ⟨rfl, ?_⟩; rw [q_row_c (g := fun k => if k < 40 then v else m 40 k) (fun k => by rw [v5_2 k]; by_cases g : k < 40; rw [if_pos (by omega), if_pos g]; rw [if_neg (by omega), if_neg g])])
      · show qJ YJ7_fill_53178 κ _ (qLy u, (q_row m 40 f), y) 0 0 10 [some (qR 40), some (qI v), some (qI i), some (qI 40)] []
        refine qJ.run hκ 3 (pc' := 13) (ls' := [some (qR 40), some (qI v), some (qI i), some (qI 40)]) (st' := [qI v, qI i, qR 40]) rfl ?_
        refine qJ.ast hκ rfl rfl rfl (by decide) (by omega) ?_
        refine qJ.mc (m1 := (q_up (q_row m 40 f) 40 i.toNat v)) (m2 := (q_row m 40 (q_fu f i.toNat v))) (by rw [q_up_row_eq]) ?_
        show qJ YJ7_fill_53178 κ _ (qLy u, (q_row m 40 (q_fu f i.toNat v)), y) 0 0 14 [some (qR 40), some (qI v), some (qI i), some (qI 40)] []
        refine qJ.run hκ 2 (pc' := 5) (ls' := [some (qR 40), some (qI v), some (qI (i + 1)), some (qI 40)]) (st' := []) rfl ?_
        exact qJ.cast (ih5  (q_fu f i.toNat v) (i + 1) (by omega) (by omega) (fun k => by by_cases e : k = i.toNat; subst e; rw [q_fu_eq, if_pos (by omega)]; rw [q_fu_ne e, v5_2 k]; by_cases g : (k : Int) < i; rw [if_pos g, if_pos (by omega)]; rw [if_neg g, if_neg (by omega)]) (by omega)) (rfl) rfl rfl
  show qJ YJ7_fill_53178 κ _ (qLy u, m, y) 0 0 0 [some (qR 40), some (qI v), none, none] []
  refine qJ.run hκ 5 (pc' := 5) (ls' := [some (qR 40), some (qI v), some (qI 0), some (qI 40)]) (st' := []) rfl ?_
  exact qJ.cast (L5 41 (m 40) 0 (by omega) (by omega) (fun k => by rw [if_neg (by omega)]) (by omega)) (by rw [q_row_self]) rfl rfl

set_option maxRecDepth 100000 in
theorem c_fill46 (u : qU) (m y : qM) (v : Int)  : qCt YJ7_fill_53178 1 0 0 [qR 46, qI v] (qLy u, m, y) (fun r h => r = none ∧ h = (qLy u, q_row m 46 (fun k => if k < 3 then v else m 46 k), y)) := by
  refine qCt.intro okJ7_fill_53178 (Nat.le_of_ble_eq_true rfl) (fun κ hκ => ?_)
  have L5 : ∀ (n : Nat) (f : Nat → Int) (i : Int), (0 ≤ i) → (i ≤ 3) → (∀ k : Nat, f k = if (k : Int) < i then v else m 46 k) → ((3 - i).toNat) < n → qJ YJ7_fill_53178 κ (qFin (fun r h => r = none ∧ h = (qLy u, q_row m 46 (fun k => if k < 3 then v else m 46 k), y)) 0 0 κ) (qLy u, (q_row m 46 f), y) 0 0 5 [some (qR 46), some (qI v), some (qI i), some (qI 3)] [] := by
    intro n
    induction n with
    | zero => intro f i _ _ _ hz0; omega
    | succ n ih5 =>
      intro f i v5_0 v5_1 v5_2 v5_m
      refine qJ.run hκ 2 (pc' := 7) (ls' := [some (qR 46), some (qI v), some (qI i), some (qI 3)]) (st' := [qI 3, qI i]) rfl ?_
      refine qJ.icmp_ge hκ (tgt := 20) rfl rfl (by omega) (by omega) (fun c7 => ?_) (fun c7 => ?_)
      · show qJ YJ7_fill_53178 κ _ (qLy u, (q_row m 46 f), y) 0 0 20 [some (qR 46), some (qI v), some (qI i), some (qI 3)] []
        exact qJ.vret hκ rfl rfl (by decide) (by decide) (by refine ⟨rfl, ?_⟩; rw [q_row_c (g := fun k => if k < 3 then v else m 46 k) (fun k => by rw [v5_2 k]; by_cases g : k < 3; rw [if_pos (by omega), if_pos g]; rw [if_neg (by omega), if_neg g])])
      · show qJ YJ7_fill_53178 κ _ (qLy u, (q_row m 46 f), y) 0 0 10 [some (qR 46), some (qI v), some (qI i), some (qI 3)] []
        refine qJ.run hκ 3 (pc' := 13) (ls' := [some (qR 46), some (qI v), some (qI i), some (qI 3)]) (st' := [qI v, qI i, qR 46]) rfl ?_
        refine qJ.ast hκ rfl rfl rfl (by decide) (by omega) ?_
        refine qJ.mc (m1 := (q_up (q_row m 46 f) 46 i.toNat v)) (m2 := (q_row m 46 (q_fu f i.toNat v))) (by rw [q_up_row_eq]) ?_
        show qJ YJ7_fill_53178 κ _ (qLy u, (q_row m 46 (q_fu f i.toNat v)), y) 0 0 14 [some (qR 46), some (qI v), some (qI i), some (qI 3)] []
        refine qJ.run hκ 2 (pc' := 5) (ls' := [some (qR 46), some (qI v), some (qI (i + 1)), some (qI 3)]) (st' := []) rfl ?_
        exact qJ.cast (ih5  (q_fu f i.toNat v) (i + 1) (by omega) (by omega) (fun k => by by_cases e : k = i.toNat; subst e; rw [q_fu_eq, if_pos (by omega)]; rw [q_fu_ne e, v5_2 k]; by_cases g : (k : Int) < i; rw [if_pos g, if_pos (by omega)]; rw [if_neg g, if_neg (by omega)]) (by omega)) (rfl) rfl rfl
  show qJ YJ7_fill_53178 κ _ (qLy u, m, y) 0 0 0 [some (qR 46), some (qI v), none, none] []
  refine qJ.run hκ 5 (pc' := 5) (ls' := [some (qR 46), some (qI v), some (qI 0), some (qI 3)]) (st' := []) rfl ?_
  exact qJ.cast (L5 4 (m 46) 0 (by omega) (by omega) (fun k => by rw [if_neg (by omega)]) (by omega)) (by rw [q_row_self]) rfl rfl

set_option maxRecDepth 100000 in
theorem c_fill47 (u : qU) (m y : qM) (v : Int)  : qCt YJ7_fill_53178 1 0 0 [qR 47, qI v] (qLy u, m, y) (fun r h => r = none ∧ h = (qLy u, q_row m 47 (fun k => if k < 3 then v else m 47 k), y)) := by
  refine qCt.intro okJ7_fill_53178 (Nat.le_of_ble_eq_true rfl) (fun κ hκ => ?_)
  have L5 : ∀ (n : Nat) (f : Nat → Int) (i : Int), (0 ≤ i) → (i ≤ 3) → (∀ k : Nat, f k = if (k : Int) < i then v else m 47 k) → ((3 - i).toNat) < n → qJ YJ7_fill_53178 κ (qFin (fun r h => r = none ∧ h = (qLy u, q_row m 47 (fun k => if k < 3 then v else m 47 k), y)) 0 0 κ) (qLy u, (q_row m 47 f), y) 0 0 5 [some (qR 47), some (qI v), some (qI i), some (qI 3)] [] := by
    intro n
    induction n with
    | zero => intro f i _ _ _ hz0; omega
    | succ n ih5 =>
      intro f i v5_0 v5_1 v5_2 v5_m
      refine qJ.run hκ 2 (pc' := 7) (ls' := [some (qR 47), some (qI v), some (qI i), some (qI 3)]) (st' := [qI 3, qI i]) rfl ?_
      refine qJ.icmp_ge hκ (tgt := 20) rfl rfl (by omega) (by omega) (fun c7 => ?_) (fun c7 => ?_)
      · show qJ YJ7_fill_53178 κ _ (qLy u, (q_row m 47 f), y) 0 0 20 [some (qR 47), some (qI v), some (qI i), some (qI 3)] []
        exact qJ.vret hκ rfl rfl (by decide) (by decide) (by refine ⟨rfl, ?_⟩; rw [q_row_c (g := fun k => if k < 3 then v else m 47 k) (fun k => by rw [v5_2 k]; by_cases g : k < 3; rw [if_pos (by omega), if_pos g]; rw [if_neg (by omega), if_neg g])])
      · show qJ YJ7_fill_53178 κ _ (qLy u, (q_row m 47 f), y) 0 0 10 [some (qR 47), some (qI v), some (qI i), some (qI 3)] []
        refine qJ.run hκ 3 (pc' := 13) (ls' := [some (qR 47), some (qI v), some (qI i), some (qI 3)]) (st' := [qI v, qI i, qR 47]) rfl ?_
        refine qJ.ast hκ rfl rfl rfl (by decide) (by omega) ?_
        refine qJ.mc (m1 := (q_up (q_row m 47 f) 47 i.toNat v)) (m2 := (q_row m 47 (q_fu f i.toNat v))) (by rw [q_up_row_eq]) ?_
        show qJ YJ7_fill_53178 κ _ (qLy u, (q_row m 47 (q_fu f i.toNat v)), y) 0 0 14 [some (qR 47), some (qI v), some (qI i), some (qI 3)] []
        refine qJ.run hκ 2 (pc' := 5) (ls' := [some (qR 47), some (qI v), some (qI (i + 1)), some (qI 3)]) (st' := []) rfl ?_
        exact qJ.cast (ih5  (q_fu f i.toNat v) (i + 1) (by omega) (by omega) (fun k => by by_cases e : k = i.toNat; subst e; rw [q_fu_eq, if_pos (by omega)]; rw [q_fu_ne e, v5_2 k]; by_cases g : (k : Int) < i; rw [if_pos g, if_pos (by omega)]; rw [if_neg g, if_neg (by omega)]) (by omega)) (rfl) rfl rfl
  show qJ YJ7_fill_53178 κ _ (qLy u, m, y) 0 0 0 [some (qR 47), some (qI v), none, none] []
  refine qJ.run hκ 5 (pc' := 5) (ls' := [some (qR 47), some (qI v), some (qI 0), some (qI 3)]) (st' := []) rfl ?_
  exact qJ.cast (L5 4 (m 47) 0 (by omega) (by omega) (fun k => by rw [if_neg (by omega)]) (by omega)) (by rw [q_row_self]) rfl rfl

set_option maxRecDepth 100000 in
theorem c_fill48 (u : qU) (m y : qM) (v : Int)  : qCt YJ7_fill_53178 1 0 0 [qR 48, qI v] (qLy u, m, y) (fun r h => r = none ∧ h = (qLy u, q_row m 48 (fun k => if k < 3 then v else m 48 k), y)) := by
  refine qCt.intro okJ7_fill_53178 (Nat.le_of_ble_eq_true rfl) (fun κ hκ => ?_)
  have L5 : ∀ (n : Nat) (f : Nat → Int) (i : Int), (0 ≤ i) → (i ≤ 3) → (∀ k : Nat, f k = if (k : Int) < i then v else m 48 k) → ((3 - i).toNat) < n → qJ YJ7_fill_53178 κ (qFin (fun r h => r = none ∧ h = (qLy u, q_row m 48 (fun k => if k < 3 then v else m 48 k), y)) 0 0 κ) (qLy u, (q_row m 48 f), y) 0 0 5 [some (qR 48), some (qI v), some (qI i), some (qI 3)] [] := by
    intro n
    induction n with
    | zero => intro f i _ _ _ hz0; omega
    | succ n ih5 =>
      intro f i v5_0 v5_1 v5_2 v5_m
      refine qJ.run hκ 2 (pc' := 7) (ls' := [some (qR 48), some (qI v), some (qI i), some (qI 3)]) (st' := [qI 3, qI i]) rfl ?_
      refine qJ.icmp_ge hκ (tgt := 20) rfl rfl (by omega) (by omega) (fun c7 => ?_) (fun c7 => ?_)
      · show qJ YJ7_fill_53178 κ _ (qLy u, (q_row m 48 f), y) 0 0 20 [some (qR 48), some (qI v), some (qI i), some (qI 3)] []
        exact qJ.vret hκ rfl rfl (by decide) (by decide) (by refine ⟨rfl, ?_⟩; rw [q_row_c (g := fun k => if k < 3 then v else m 48 k) (fun k => by rw [v5_2 k]; by_cases g : k < 3; rw [if_pos (by omega), if_pos g]; rw [if_neg (by omega), if_neg g])])
      · show qJ YJ7_fill_53178 κ _ (qLy u, (q_row m 48 f), y) 0 0 10 [some (qR 48), some (qI v), some (qI i), some (qI 3)] []
        refine qJ.run hκ 3 (pc' := 13) (ls' := [some (qR 48), some (qI v), some (qI i), some (qI 3)]) (st' := [qI v, qI i, qR 48]) rfl ?_
        refine qJ.ast hκ rfl rfl rfl (by decide) (by omega) ?_
        refine qJ.mc (m1 := (q_up (q_row m 48 f) 48 i.toNat v)) (m2 := (q_row m 48 (q_fu f i.toNat v))) (by rw [q_up_row_eq]) ?_
        show qJ YJ7_fill_53178 κ _ (qLy u, (q_row m 48 (q_fu f i.toNat v)), y) 0 0 14 [some (qR 48), some (qI v), some (qI i), some (qI 3)] []
        refine qJ.run hκ 2 (pc' := 5) (ls' := [some (qR 48), some (qI v), some (qI (i + 1)), some (qI 3)]) (st' := []) rfl ?_
        exact qJ.cast (ih5  (q_fu f i.toNat v) (i + 1) (by omega) (by omega) (fun k => by by_cases e : k = i.toNat; subst e; rw [q_fu_eq, if_pos (by omega)]; rw [q_fu_ne e, v5_2 k]; by_cases g : (k : Int) < i; rw [if_pos g, if_pos (by omega)]; rw [if_neg g, if_neg (by omega)]) (by omega)) (rfl) rfl rfl
  show qJ YJ7_fill_53178 κ _ (qLy u, m, y) 0 0 0 [some (qR 48), some (qI v), none, none] []
  refine qJ.run hκ 5 (pc' := 5) (ls' := [some (qR 48), some (qI v), some (qI 0), some (qI 3)]) (st' := []) rfl ?_
  exact qJ.cast (L5 4 (m 48) 0 (by omega) (by omega) (fun k => by rw [if_neg (by omega)]) (by omega)) (by rw [q_row_self]) rfl rfl

set_option maxRecDepth 100000 in
theorem c_fill50 (u : qU) (m y : qM) (v : Int)  : qCt YJ7_fill_53178 1 0 0 [qR 50, qI v] (qLy u, m, y) (fun r h => r = none ∧ h = (qLy u, q_row m 50 (fun k => if k < 18 then v else m 50 k), y)) := by
  refine qCt.intro okJ7_fill_53178 (Nat.le_of_ble_eq_true rfl) (fun κ hκ => ?_)
  have L5 : ∀ (n : Nat) (f : Nat → Int) (i : Int), (0 ≤ i) → (i ≤ 18) → (∀ k : Nat, f k = if (k : Int) < i then v else m 50 k) → ((18 - i).toNat) < n → qJ YJ7_fill_53178 κ (qFin (fun r h => r = none ∧ h = (qLy u, q_row m 50 (fun k => if k < 18 then v else m 50 k), y)) 0 0 κ) (qLy u, (q_row m 50 f), y) 0 0 5 [some (qR 50), some (qI v), some (qI i), some (qI 18)] [] := by
    intro n
    induction n with
    | zero => intro f i _ _ _ hz0; omega
    | succ n ih5 =>
      intro f i v5_0 v5_1 v5_2 v5_m
      refine qJ.run hκ 2 (pc' := 7) (ls' := [some (qR 50), some (qI v), some (qI i), some (qI 18)]) (st' := [qI 18, qI i]) rfl ?_
      refine qJ.icmp_ge hκ (tgt := 20) rfl rfl (by omega) (by omega) (fun c7 => ?_) (fun c7 => ?_)
      · show qJ YJ7_fill_53178 κ _ (qLy u, (q_row m 50 f), y) 0 0 20 [some (qR 50), some (qI v), some (qI i), some (qI 18)] []
        exact qJ.vret hκ rfl rfl (by decide) (by decide) (by refine ⟨rfl, ?_⟩; rw [q_row_c (g := fun k => if k < 18 then v else m 50 k) (fun k => by rw [v5_2 k]; by_cases g : k < 18; rw [if_pos (by omega), if_pos g]; rw [if_neg (by omega), if_neg g])])
      · show qJ YJ7_fill_53178 κ _ (qLy u, (q_row m 50 f), y) 0 0 10 [some (qR 50), some (qI v), some (qI i), some (qI 18)] []
        refine qJ.run hκ 3 (pc' := 13) (ls' := [some (qR 50), some (qI v), some (qI i), some (qI 18)]) (st' := [qI v, qI i, qR 50]) rfl ?_
        refine qJ.ast hκ rfl rfl rfl (by decide) (by omega) ?_
        refine qJ.mc (m1 := (q_up (q_row m 50 f) 50 i.toNat v)) (m2 := (q_row m 50 (q_fu f i.toNat v))) (by rw [q_up_row_eq]) ?_
        show qJ YJ7_fill_53178 κ _ (qLy u, (q_row m 50 (q_fu f i.toNat v)), y) 0 0 14 [some (qR 50), some (qI v), some (qI i), some (qI 18)] []
        refine qJ.run hκ 2 (pc' := 5) (ls' := [some (qR 50), some (qI v), some (qI (i + 1)), some (qI 18)]) (st' := []) rfl ?_
        exact qJ.cast (ih5  (q_fu f i.toNat v) (i + 1) (by omega) (by omega) (fun k => by by_cases e : k = i.toNat; subst e; rw [q_fu_eq, if_pos (by omega)]; rw [q_fu_ne e, v5_2 k]; by_cases g : (k : Int) < i; rw [if_pos g, if_pos (by omega)]; rw [if_neg g, if_neg (by omega)]) (by omega)) (rfl) rfl rfl
  show qJ YJ7_fill_53178 κ _ (qLy u, m, y) 0 0 0 [some (qR 50), some (qI v), none, none] []
  refine qJ.run hκ 5 (pc' := 5) (ls' := [some (qR 50), some (qI v), some (qI 0), some (qI 18)]) (st' := []) rfl ?_
  exact qJ.cast (L5 19 (m 50) 0 (by omega) (by omega) (fun k => by rw [if_neg (by omega)]) (by omega)) (by rw [q_row_self]) rfl rfl

set_option maxRecDepth 100000 in
theorem c_fill51 (u : qU) (m y : qM) (v : Int)  : qCt YJ7_fill_53178 1 0 0 [qR 51, qI v] (qLy u, m, y) (fun r h => r = none ∧ h = (qLy u, q_row m 51 (fun k => if k < 18 then v else m 51 k), y)) := by
  refine qCt.intro okJ7_fill_53178 (Nat.le_of_ble_eq_true rfl) (fun κ hκ => ?_)
  have L5 : ∀ (n : Nat) (f : Nat → Int) (i : Int), (0 ≤ i) → (i ≤ 18) → (∀ k : Nat, f k = if (k : Int) < i then v else m 51 k) → ((18 - i).toNat) < n → qJ YJ7_fill_53178 κ (qFin (fun r h => r = none ∧ h = (qLy u, q_row m 51 (fun k => if k < 18 then v else m 51 k), y)) 0 0 κ) (qLy u, (q_row m 51 f), y) 0 0 5 [some (qR 51), some (qI v), some (qI i), some (qI 18)] [] := by
    intro n
    induction n with
    | zero => intro f i _ _ _ hz0; omega
    | succ n ih5 =>
      intro f i v5_0 v5_1 v5_2 v5_m
      refine qJ.run hκ 2 (pc' := 7) (ls' := [some (qR 51), some (qI v), some (qI i), some (qI 18)]) (st' := [qI 18, qI i]) rfl ?_
      refine qJ.icmp_ge hκ (tgt := 20) rfl rfl (by omega) (by omega) (fun c7 => ?_) (fun c7 => ?_)
      · show qJ YJ7_fill_53178 κ _ (qLy u, (q_row m 51 f), y) 0 0 20 [some (qR 51), some (qI v), some (qI i), some (qI 18)] []
        exact qJ.vret hκ rfl rfl (by decide) (by decide) (by refine ⟨rfl, ?_⟩; rw [q_row_c (g := fun k => if k < 18 then v else m 51 k) (fun k => by rw [v5_2 k]; by_cases g : k < 18; rw [if_pos (by omega), if_pos g]; rw [if_neg (by omega), if_neg g])])
      · show qJ YJ7_fill_53178 κ _ (qLy u, (q_row m 51 f), y) 0 0 10 [some (qR 51), some (qI v), some (qI i), some (qI 18)] []
        refine qJ.run hκ 3 (pc' := 13) (ls' := [some (qR 51), some (qI v), some (qI i), some (qI 18)]) (st' := [qI v, qI i, qR 51]) rfl ?_
        refine qJ.ast hκ rfl rfl rfl (by decide) (by omega) ?_
        refine qJ.mc (m1 := (q_up (q_row m 51 f) 51 i.toNat v)) (m2 := (q_row m 51 (q_fu f i.toNat v))) (by rw [q_up_row_eq]) ?_
        show qJ YJ7_fill_53178 κ _ (qLy u, (q_row m 51 (q_fu f i.toNat v)), y) 0 0 14 [some (qR 51), some (qI v), some (qI i), some (qI 18)] []
        refine qJ.run hκ 2 (pc' := 5) (ls' := [some (qR 51), some (qI v), some (qI (i + 1)), some (qI 18)]) (st' := []) rfl ?_
        exact qJ.cast (ih5  (q_fu f i.toNat v) (i + 1) (by omega) (by omega) (fun k => by by_cases e : k = i.toNat; subst e; rw [q_fu_eq, if_pos (by omega)]; rw [q_fu_ne e, v5_2 k]; by_cases g : (k : Int) < i; rw [if_pos g, if_pos (by omega)]; rw [if_neg g, if_neg (by omega)]) (by omega)) (rfl) rfl rfl
  show qJ YJ7_fill_53178 κ _ (qLy u, m, y) 0 0 0 [some (qR 51), some (qI v), none, none] []
  refine qJ.run hκ 5 (pc' := 5) (ls' := [some (qR 51), some (qI v), some (qI 0), some (qI 18)]) (st' := []) rfl ?_
  exact qJ.cast (L5 19 (m 51) 0 (by omega) (by omega) (fun k => by rw [if_neg (by omega)]) (by omega)) (by rw [q_row_self]) rfl rfl

set_option maxRecDepth 100000 in
theorem c_fill57 (u : qU) (m y : qM) (v : Int)  : qCt YJ7_fill_53178 1 0 0 [qR 57, qI v] (qLy u, m, y) (fun r h => r = none ∧ h = (qLy u, q_row m 57 (fun k => if k < 5 then v else m 57 k), y)) := by
  refine qCt.intro okJ7_fill_53178 (Nat.le_of_ble_eq_true rfl) (fun κ hκ => ?_)
  have L5 : ∀ (n : Nat) (f : Nat → Int) (i : Int), (0 ≤ i) → (i ≤ 5) → (∀ k : Nat, f k = if (k : Int) < i then v else m 57 k) → ((5 - i).toNat) < n → qJ YJ7_fill_53178 κ (qFin (fun r h => r = none ∧ h = (qLy u, q_row m 57 (fun k => if k < 5 then v else m 57 k), y)) 0 0 κ) (qLy u, (q_row m 57 f), y) 0 0 5 [some (qR 57), some (qI v), some (qI i), some (qI 5)] [] := by
    intro n
    induction n with
    | zero => intro f i _ _ _ hz0; omega
    | succ n ih5 =>
      intro f i v5_0 v5_1 v5_2 v5_m
      refine qJ.run hκ 2 (pc' := 7) (ls' := [some (qR 57), some (qI v), some (qI i), some (qI 5)]) (st' := [qI 5, qI i]) rfl ?_
      refine qJ.icmp_ge hκ (tgt := 20) rfl rfl (by omega) (by omega) (fun c7 => ?_) (fun c7 => ?_)
      · show qJ YJ7_fill_53178 κ _ (qLy u, (q_row m 57 f), y) 0 0 20 [some (qR 57), some (qI v), some (qI i), some (qI 5)] []
        exact qJ.vret hκ rfl rfl (by decide) (by decide) (by refine ⟨rfl, ?_⟩; rw [q_row_c (g := fun k => if k < 5 then v else m 57 k) (fun k => by rw [v5_2 k]; by_cases g : k < 5; rw [if_pos (by omega), if_pos g]; rw [if_neg (by omega), if_neg g])])
      · show qJ YJ7_fill_53178 κ _ (qLy u, (q_row m 57 f), y) 0 0 10 [some (qR 57), some (qI v), some (qI i), some (qI 5)] []
        refine qJ.run hκ 3 (pc' := 13) (ls' := [some (qR 57), some (qI v), some (qI i), some (qI 5)]) (st' := [qI v, qI i, qR 57]) rfl ?_
        refine qJ.ast hκ rfl rfl rfl (by decide) (by omega) ?_
        refine qJ.mc (m1 := (q_up (q_row m 57 f) 57 i.toNat v)) (m2 := (q_row m 57 (q_fu f i.toNat v))) (by rw [q_up_row_eq]) ?_
        show qJ YJ7_fill_53178 κ _ (qLy u, (q_row m 57 (q_fu f i.toNat v)), y) 0 0 14 [some (qR 57), some (qI v), some (qI i), some (qI 5)] []
        refine qJ.run hκ 2 (pc' := 5) (ls' := [some (qR 57), some (qI v), some (qI (i + 1)), some (qI 5)]) (st' := []) rfl ?_
        exact qJ.cast (ih5  (q_fu f i.toNat v) (i + 1) (by omega) (by omega) (fun k => by by_cases e : k = i.toNat; subst e; rw [q_fu_eq, if_pos (by omega)]; rw [q_fu_ne e, v5_2 k]; by_cases g : (k : Int) < i; rw [if_pos g, if_pos (by omega)]; rw [if_neg g, if_neg (by omega)]) (by omega)) (rfl) rfl rfl
  show qJ YJ7_fill_53178 κ _ (qLy u, m, y) 0 0 0 [some (qR 57), some (qI v), none, none] []
  refine qJ.run hκ 5 (pc' := 5) (ls' := [some (qR 57), some (qI v), some (qI 0), some (qI 5)]) (st' := []) rfl ?_
  exact qJ.cast (L5 6 (m 57) 0 (by omega) (by omega) (fun k => by rw [if_neg (by omega)]) (by omega)) (by rw [q_row_self]) rfl rfl

set_option maxRecDepth 100000 in
theorem c_fill60 (u : qU) (m y : qM) (v : Int)  : qCt YJ7_fill_53178 1 0 0 [qR 60, qI v] (qLy u, m, y) (fun r h => r = none ∧ h = (qLy u, q_row m 60 (fun k => if k < 20 then v else m 60 k), y)) := by
  refine qCt.intro okJ7_fill_53178 (Nat.le_of_ble_eq_true rfl) (fun κ hκ => ?_)
  have L5 : ∀ (n : Nat) (f : Nat → Int) (i : Int), (0 ≤ i) → (i ≤ 20) → (∀ k : Nat, f k = if (k : Int) < i then v else m 60 k) → ((20 - i).toNat) < n → qJ YJ7_fill_53178 κ (qFin (fun r h => r = none ∧ h = (qLy u, q_row m 60 (fun k => if k < 20 then v else m 60 k), y)) 0 0 κ) (qLy u, (q_row m 60 f), y) 0 0 5 [some (qR 60), some (qI v), some (qI i), some (qI 20)] [] := by
    intro n
    induction n with
    | zero => intro f i _ _ _ hz0; omega
    | succ n ih5 =>
      intro f i v5_0 v5_1 v5_2 v5_m
      refine qJ.run hκ 2 (pc' := 7) (ls' := [some (qR 60), some (qI v), some (qI i), some (qI 20)]) (st' := [qI 20, qI i]) rfl ?_
      refine qJ.icmp_ge hκ (tgt := 20) rfl rfl (by omega) (by omega) (fun c7 => ?_) (fun c7 => ?_)
      · show qJ YJ7_fill_53178 κ _ (qLy u, (q_row m 60 f), y) 0 0 20 [some (qR 60), some (qI v), some (qI i), some (qI 20)] []
        exact qJ.vret hκ rfl rfl (by decide) (by decide) (by refine ⟨rfl, ?_⟩; rw [q_row_c (g := fun k => if k < 20 then v else m 60 k) (fun k => by rw [v5_2 k]; by_cases g : k < 20; rw [if_pos (by omega), if_pos g]; rw [if_neg (by omega), if_neg g])])
      · show qJ YJ7_fill_53178 κ _ (qLy u, (q_row m 60 f), y) 0 0 10 [some (qR 60), some (qI v), some (qI i), some (qI 20)] []
        refine qJ.run hκ 3 (pc' := 13) (ls' := [some (qR 60), some (qI v), some (qI i), some (qI 20)]) (st' := [qI v, qI i, qR 60]) rfl ?_
        refine qJ.ast hκ rfl rfl rfl (by decide) (by omega) ?_
        refine qJ.mc (m1 := (q_up (q_row m 60 f) 60 i.toNat v)) (m2 := (q_row m 60 (q_fu f i.toNat v))) (by rw [q_up_row_eq]) ?_
        show qJ YJ7_fill_53178 κ _ (qLy u, (q_row m 60 (q_fu f i.toNat v)), y) 0 0 14 [some (qR 60), some (qI v), some (qI i), some (qI 20)] []
        refine qJ.run hκ 2 (pc' := 5) (ls' := [some (qR 60), some (qI v), some (qI (i + 1)), some (qI 20)]) (st' := []) rfl ?_
        exact qJ.cast (ih5  (q_fu f i.toNat v) (i + 1) (by omega) (by omega) (fun k => by by_cases e : k = i.toNat; subst e; rw [q_fu_eq, if_pos (by omega)]; rw [q_fu_ne e, v5_2 k]; by_cases g : (k : Int) < i; rw [if_pos g, if_pos (by omega)]; rw [if_neg g, if_neg (by omega)]) (by omega)) (rfl) rfl rfl
  show qJ YJ7_fill_53178 κ _ (qLy u, m, y) 0 0 0 [some (qR 60), some (qI v), none, none] []
  refine qJ.run hκ 5 (pc' := 5) (ls' := [some (qR 60), some (qI v), some (qI 0), some (qI 20)]) (st' := []) rfl ?_
  exact qJ.cast (L5 21 (m 60) 0 (by omega) (by omega) (fun k => by rw [if_neg (by omega)]) (by omega)) (by rw [q_row_self]) rfl rfl

set_option maxRecDepth 100000 in
theorem c_fill61 (u : qU) (m y : qM) (v : Int)  : qCt YJ7_fill_53178 1 0 0 [qR 61, qI v] (qLy u, m, y) (fun r h => r = none ∧ h = (qLy u, q_row m 61 (fun k => if k < 28 then v else m 61 k), y)) := by
  refine qCt.intro okJ7_fill_53178 (Nat.le_of_ble_eq_true rfl) (fun κ hκ => ?_)
  have L5 : ∀ (n : Nat) (f : Nat → Int) (i : Int), (0 ≤ i) → (i ≤ 28) → (∀ k : Nat, f k = if (k : Int) < i then v else m 61 k) → ((28 - i).toNat) < n → qJ YJ7_fill_53178 κ (qFin (fun r h => r = none ∧ h = (qLy u, q_row m 61 (fun k => if k < 28 then v else m 61 k), y)) 0 0 κ) (qLy u, (q_row m 61 f), y) 0 0 5 [some (qR 61), some (qI v), some (qI i), some (qI 28)] [] := by
    intro n
    induction n with
    | zero => intro f i _ _ _ hz0; omega
    | succ n ih5 =>
      intro f i v5_0 v5_1 v5_2 v5_m
      refine qJ.run hκ 2 (pc' := 7) (ls' := [some (qR 61), some (qI v), some (qI i), some (qI 28)]) (st' := [qI 28, qI i]) rfl ?_
      refine qJ.icmp_ge hκ (tgt := 20) rfl rfl (by omega) (by omega) (fun c7 => ?_) (fun c7 => ?_)
      · show qJ YJ7_fill_53178 κ _ (qLy u, (q_row m 61 f), y) 0 0 20 [some (qR 61), some (qI v), some (qI i), some (qI 28)] []
        exact qJ.vret hκ rfl rfl (by decide) (by decide) (by refine ⟨rfl, ?_⟩; rw [q_row_c (g := fun k => if k < 28 then v else m 61 k) (fun k => by rw [v5_2 k]; by_cases g : k < 28; rw [if_pos (by omega), if_pos g]; rw [if_neg (by omega), if_neg g])])
      · show qJ YJ7_fill_53178 κ _ (qLy u, (q_row m 61 f), y) 0 0 10 [some (qR 61), some (qI v), some (qI i), some (qI 28)] []
        refine qJ.run hκ 3 (pc' := 13) (ls' := [some (qR 61), some (qI v), some (qI i), some (qI 28)]) (st' := [qI v, qI i, qR 61]) rfl ?_
        refine qJ.ast hκ rfl rfl rfl (by decide) (by omega) ?_
        refine qJ.mc (m1 := (q_up (q_row m 61 f) 61 i.toNat v)) (m2 := (q_row m 61 (q_fu f i.toNat v))) (by rw [q_up_row_eq]) ?_
        show qJ YJ7_fill_53178 κ _ (qLy u, (q_row m 61 (q_fu f i.toNat v)), y) 0 0 14 [some (qR 61), some (qI v), some (qI i), some (qI 28)] []
        refine qJ.run hκ 2 (pc' := 5) (ls' := [some (qR 61), some (qI v), some (qI (i + 1)), some (qI 28)]) (st' := []) rfl ?_
        exact qJ.cast (ih5  (q_fu f i.toNat v) (i + 1) (by omega) (by omega) (fun k => by by_cases e : k = i.toNat; subst e; rw [q_fu_eq, if_pos (by omega)]; rw [q_fu_ne e, v5_2 k]; by_cases g : (k : Int) < i; rw [if_pos g, if_pos (by omega)]; rw [if_neg g, if_neg (by omega)]) (by omega)) (rfl) rfl rfl
  show qJ YJ7_fill_53178 κ _ (qLy u, m, y) 0 0 0 [some (qR 61), some (qI v), none, none] []
  refine qJ.run hκ 5 (pc' := 5) (ls' := [some (qR 61), some (qI v), some (qI 0), some (qI 28)]) (st' := []) rfl ?_
  exact qJ.cast (L5 29 (m 61) 0 (by omega) (by omega) (fun k => by rw [if_neg (by omega)]) (by omega)) (by rw [q_row_self]) rfl rfl

set_option maxRecDepth 100000 in
theorem c_fill62 (u : qU) (m y : qM) (v : Int)  : qCt YJ7_fill_53178 1 0 0 [qR 62, qI v] (qLy u, m, y) (fun r h => r = none ∧ h = (qLy u, q_row m 62 (fun k => if k < 20 then v else m 62 k), y)) := by
  refine qCt.intro okJ7_fill_53178 (Nat.le_of_ble_eq_true rfl) (fun κ hκ => ?_)
  have L5 : ∀ (n : Nat) (f : Nat → Int) (i : Int), (0 ≤ i) → (i ≤ 20) → (∀ k : Nat, f k = if (k : Int) < i then v else m 62 k) → ((20 - i).toNat) < n → qJ YJ7_fill_53178 κ (qFin (fun r h => r = none ∧ h = (qLy u, q_row m 62 (fun k => if k < 20 then v else m 62 k), y)) 0 0 κ) (qLy u, (q_row m 62 f), y) 0 0 5 [some (qR 62), some (qI v), some (qI i), some (qI 20)] [] := by
    intro n
    induction n with
    | zero => intro f i _ _ _ hz0; omega
    | succ n ih5 =>
      intro f i v5_0 v5_1 v5_2 v5_m
      refine qJ.run hκ 2 (pc' := 7) (ls' := [some (qR 62), some (qI v), some (qI i), some (qI 20)]) (st' := [qI 20, qI i]) rfl ?_
      refine qJ.icmp_ge hκ (tgt := 20) rfl rfl (by omega) (by omega) (fun c7 => ?_) (fun c7 => ?_)
      · show qJ YJ7_fill_53178 κ _ (qLy u, (q_row m 62 f), y) 0 0 20 [some (qR 62), some (qI v), some (qI i), some (qI 20)] []
        exact qJ.vret hκ rfl rfl (by decide) (by decide) (by refine ⟨rfl, ?_⟩; rw [q_row_c (g := fun k => if k < 20 then v else m 62 k) (fun k => by rw [v5_2 k]; by_cases g : k < 20; rw [if_pos (by omega), if_pos g]; rw [if_neg (by omega), if_neg g])])
      · show qJ YJ7_fill_53178 κ _ (qLy u, (q_row m 62 f), y) 0 0 10 [some (qR 62), some (qI v), some (qI i), some (qI 20)] []
        refine qJ.run hκ 3 (pc' := 13) (ls' := [some (qR 62), some (qI v), some (qI i), some (qI 20)]) (st' := [qI v, qI i, qR 62]) rfl ?_
        refine qJ.ast hκ rfl rfl rfl (by decide) (by omega) ?_
        refine qJ.mc (m1 := (q_up (q_row m 62 f) 62 i.toNat v)) (m2 := (q_row m 62 (q_fu f i.toNat v))) (by rw [q_up_row_eq]) ?_
        show qJ YJ7_fill_53178 κ _ (qLy u, (q_row m 62 (q_fu f i.toNat v)), y) 0 0 14 [some (qR 62), some (qI v), some (qI i), some (qI 20)] []
        refine qJ.run hκ 2 (pc' := 5) (ls' := [some (qR 62), some (qI v), some (qI (i + 1)), some (qI 20)]) (st' := []) rfl ?_
        exact qJ.cast (ih5  (q_fu f i.toNat v) (i + 1) (by omega) (by omega) (fun k => by by_cases e : k = i.toNat; subst e; rw [q_fu_eq, if_pos (by omega)]; rw [q_fu_ne e, v5_2 k]; by_cases g : (k : Int) < i; rw [if_pos g, if_pos (by omega)]; rw [if_neg g, if_neg (by omega)]) (by omega)) (rfl) rfl rfl
  show qJ YJ7_fill_53178 κ _ (qLy u, m, y) 0 0 0 [some (qR 62), some (qI v), none, none] []
  refine qJ.run hκ 5 (pc' := 5) (ls' := [some (qR 62), some (qI v), some (qI 0), some (qI 20)]) (st' := []) rfl ?_
  exact qJ.cast (L5 21 (m 62) 0 (by omega) (by omega) (fun k => by rw [if_neg (by omega)]) (by omega)) (by rw [q_row_self]) rfl rfl

set_option maxRecDepth 100000 in
theorem c_fill64 (u : qU) (m y : qM) (v : Int)  : qCt YJ7_fill_53178 1 0 0 [qR 64, qI v] (qLy u, m, y) (fun r h => r = none ∧ h = (qLy u, q_row m 64 (fun k => if k < 20 then v else m 64 k), y)) := by
  refine qCt.intro okJ7_fill_53178 (Nat.le_of_ble_eq_true rfl) (fun κ hκ => ?_)
  have L5 : ∀ (n : Nat) (f : Nat → Int) (i : Int), (0 ≤ i) → (i ≤ 20) → (∀ k : Nat, f k = if (k : Int) < i then v else m 64 k) → ((20 - i).toNat) < n → qJ YJ7_fill_53178 κ (qFin (fun r h => r = none ∧ h = (qLy u, q_row m 64 (fun k => if k < 20 then v else m 64 k), y)) 0 0 κ) (qLy u, (q_row m 64 f), y) 0 0 5 [some (qR 64), some (qI v), some (qI i), some (qI 20)] [] := by
    intro n
    induction n with
    | zero => intro f i _ _ _ hz0; omega
    | succ n ih5 =>
      intro f i v5_0 v5_1 v5_2 v5_m
      refine qJ.run hκ 2 (pc' := 7) (ls' := [some (qR 64), some (qI v), some (qI i), some (qI 20)]) (st' := [qI 20, qI i]) rfl ?_
      refine qJ.icmp_ge hκ (tgt := 20) rfl rfl (by omega) (by omega) (fun c7 => ?_) (fun c7 => ?_)
      · show qJ YJ7_fill_53178 κ _ (qLy u, (q_row m 64 f), y) 0 0 20 [some (qR 64), some (qI v), some (qI i), some (qI 20)] []
        exact qJ.vret hκ rfl rfl (by decide) (by decide) (by refine ⟨rfl, ?_⟩; rw [q_row_c (g := fun k => if k < 20 then v else m 64 k) (fun k => by rw [v5_2 k]; by_cases g : k < 20; rw [if_pos (by omega), if_pos g]; rw [if_neg (by omega), if_neg g])])
      · show qJ YJ7_fill_53178 κ _ (qLy u, (q_row m 64 f), y) 0 0 10 [some (qR 64), some (qI v), some (qI i), some (qI 20)] []
        refine qJ.run hκ 3 (pc' := 13) (ls' := [some (qR 64), some (qI v), some (qI i), some (qI 20)]) (st' := [qI v, qI i, qR 64]) rfl ?_
        refine qJ.ast hκ rfl rfl rfl (by decide) (by omega) ?_
        refine qJ.mc (m1 := (q_up (q_row m 64 f) 64 i.toNat v)) (m2 := (q_row m 64 (q_fu f i.toNat v))) (by rw [q_up_row_eq]) ?_
        show qJ YJ7_fill_53178 κ _ (qLy u, (q_row m 64 (q_fu f i.toNat v)), y) 0 0 14 [some (qR 64), some (qI v), some (qI i), some (qI 20)] []
        refine qJ.run hκ 2 (pc' := 5) (ls' := [some (qR 64), some (qI v), some (qI (i + 1)), some (qI 20)]) (st' := []) rfl ?_
        exact qJ.cast (ih5  (q_fu f i.toNat v) (i + 1) (by omega) (by omega) (fun k => by by_cases e : k = i.toNat; subst e; rw [q_fu_eq, if_pos (by omega)]; rw [q_fu_ne e, v5_2 k]; by_cases g : (k : Int) < i; rw [if_pos g, if_pos (by omega)]; rw [if_neg g, if_neg (by omega)]) (by omega)) (rfl) rfl rfl
  show qJ YJ7_fill_53178 κ _ (qLy u, m, y) 0 0 0 [some (qR 64), some (qI v), none, none] []
  refine qJ.run hκ 5 (pc' := 5) (ls' := [some (qR 64), some (qI v), some (qI 0), some (qI 20)]) (st' := []) rfl ?_
  exact qJ.cast (L5 21 (m 64) 0 (by omega) (by omega) (fun k => by rw [if_neg (by omega)]) (by omega)) (by rw [q_row_self]) rfl rfl

set_option maxRecDepth 100000 in
theorem c_fill74 (u : qU) (m y : qM) (v : Int)  : qCt YJ7_fill_53178 1 0 0 [qR 74, qI v] (qLy u, m, y) (fun r h => r = none ∧ h = (qLy u, q_row m 74 (fun k => if k < 60 then v else m 74 k), y)) := by
  refine qCt.intro okJ7_fill_53178 (Nat.le_of_ble_eq_true rfl) (fun κ hκ => ?_)
  have L5 : ∀ (n : Nat) (f : Nat → Int) (i : Int), (0 ≤ i) → (i ≤ 60) → (∀ k : Nat, f k = if (k : Int) < i then v else m 74 k) → ((60 - i).toNat) < n → qJ YJ7_fill_53178 κ (qFin (fun r h => r = none ∧ h = (qLy u, q_row m 74 (fun k => if k < 60 then v else m 74 k), y)) 0 0 κ) (qLy u, (q_row m 74 f), y) 0 0 5 [some (qR 74), some (qI v), some (qI i), some (qI 60)] [] := by
    intro n
    induction n with
    | zero => intro f i _ _ _ hz0; omega
    | succ n ih5 =>
      intro f i v5_0 v5_1 v5_2 v5_m
      refine qJ.run hκ 2 (pc' := 7) (ls' := [some (qR 74), some (qI v), some (qI i), some (qI 60)]) (st' := [qI 60, qI i]) rfl ?_
      refine qJ.icmp_ge hκ (tgt := 20) rfl rfl (by omega) (by omega) (fun c7 => ?_) (fun c7 => ?_)
      · show qJ YJ7_fill_53178 κ _ (qLy u, (q_row m 74 f), y) 0 0 20 [some (qR 74), some (qI v), some (qI i), some (qI 60)] []
        exact qJ.vret hκ rfl rfl (by decide) (by decide) (by refine ⟨rfl, ?_⟩; rw [q_row_c (g := fun k => if k < 60 then v else m 74 k) (fun k => by rw [v5_2 k]; by_cases g : k < 60; rw [if_pos (by omega), if_pos g]; rw [if_neg (by omega), if_neg g])])
      · show qJ YJ7_fill_53178 κ _ (qLy u, (q_row m 74 f), y) 0 0 10 [some (qR 74), some (qI v), some (qI i), some (qI 60)] []
        refine qJ.run hκ 3 (pc' := 13) (ls' := [some (qR 74), some (qI v), some (qI i), some (qI 60)]) (st' := [qI v, qI i, qR 74]) rfl ?_
        refine qJ.ast hκ rfl rfl rfl (by decide) (by omega) ?_
        refine qJ.mc (m1 := (q_up (q_row m 74 f) 74 i.toNat v)) (m2 := (q_row m 74 (q_fu f i.toNat v))) (by rw [q_up_row_eq]) ?_
        show qJ YJ7_fill_53178 κ _ (qLy u, (q_row m 74 (q_fu f i.toNat v)), y) 0 0 14 [some (qR 74), some (qI v), some (qI i), some (qI 60)] []
        refine qJ.run hκ 2 (pc' := 5) (ls' := [some (qR 74), some (qI v), some (qI (i + 1)), some (qI 60)]) (st' := []) rfl ?_
        exact qJ.cast (ih5  (q_fu f i.toNat v) (i + 1) (by omega) (by omega) (fun k => by by_cases e : k = i.toNat; subst e; rw [q_fu_eq, if_pos (by omega)]; rw [q_fu_ne e, v5_2 k]; by_cases g : (k : Int) < i; rw [if_pos g, if_pos (by omega)]; rw [if_neg g, if_neg (by omega)]) (by omega)) (rfl) rfl rfl
  show qJ YJ7_fill_53178 κ _ (qLy u, m, y) 0 0 0 [some (qR 74), some (qI v), none, none] []
  refine qJ.run hκ 5 (pc' := 5) (ls' := [some (qR 74), some (qI v), some (qI 0), some (qI 60)]) (st' := []) rfl ?_
  exact qJ.cast (L5 61 (m 74) 0 (by omega) (by omega) (fun k => by rw [if_neg (by omega)]) (by omega)) (by rw [q_row_self]) rfl rfl

set_option maxRecDepth 100000 in
theorem c_fill75 (u : qU) (m y : qM) (v : Int)  : qCt YJ7_fill_53178 1 0 0 [qR 75, qI v] (qLy u, m, y) (fun r h => r = none ∧ h = (qLy u, q_row m 75 (fun k => if k < 20 then v else m 75 k), y)) := by
  refine qCt.intro okJ7_fill_53178 (Nat.le_of_ble_eq_true rfl) (fun κ hκ => ?_)
  have L5 : ∀ (n : Nat) (f : Nat → Int) (i : Int), (0 ≤ i) → (i ≤ 20) → (∀ k : Nat, f k = if (k : Int) < i then v else m 75 k) → ((20 - i).toNat) < n → qJ YJ7_fill_53178 κ (qFin (fun r h => r = none ∧ h = (qLy u, q_row m 75 (fun k => if k < 20 then v else m 75 k), y)) 0 0 κ) (qLy u, (q_row m 75 f), y) 0 0 5 [some (qR 75), some (qI v), some (qI i), some (qI 20)] [] := by
    intro n
    induction n with
    | zero => intro f i _ _ _ hz0; omega
    | succ n ih5 =>
      intro f i v5_0 v5_1 v5_2 v5_m
      refine qJ.run hκ 2 (pc' := 7) (ls' := [some (qR 75), some (qI v), some (qI i), some (qI 20)]) (st' := [qI 20, qI i]) rfl ?_
      refine qJ.icmp_ge hκ (tgt := 20) rfl rfl (by omega) (by omega) (fun c7 => ?_) (fun c7 => ?_)
      · show qJ YJ7_fill_53178 κ _ (qLy u, (q_row m 75 f), y) 0 0 20 [some (qR 75), some (qI v), some (qI i), some (qI 20)] []
        exact qJ.vret hκ rfl rfl (by decide) (by decide) (by refine ⟨rfl, ?_⟩; rw [q_row_c (g := fun k => if k < 20 then v else m 75 k) (fun k => by rw [v5_2 k]; by_cases g : k < 20; rw [if_pos (by omega), if_pos g]; rw [if_neg (by omega), if_neg g])])
      · show qJ YJ7_fill_53178 κ _ (qLy u, (q_row m 75 f), y) 0 0 10 [some (qR 75), some (qI v), some (qI i), some (qI 20)] []
        refine qJ.run hκ 3 (pc' := 13) (ls' := [some (qR 75), some (qI v), some (qI i), some (qI 20)]) (st' := [qI v, qI i, qR 75]) rfl ?_
        refine qJ.ast hκ rfl rfl rfl (by decide) (by omega) ?_
        refine qJ.mc (m1 := (q_up (q_row m 75 f) 75 i.toNat v)) (m2 := (q_row m 75 (q_fu f i.toNat v))) (by rw [q_up_row_eq]) ?_
        show qJ YJ7_fill_53178 κ _ (qLy u, (q_row m 75 (q_fu f i.toNat v)), y) 0 0 14 [some (qR 75), some (qI v), some (qI i), some (qI 20)] []
        refine qJ.run hκ 2 (pc' := 5) (ls' := [some (qR 75), some (qI v), some (qI (i + 1)), some (qI 20)]) (st' := []) rfl ?_
        exact qJ.cast (ih5  (q_fu f i.toNat v) (i + 1) (by omega) (by omega) (fun k => by by_cases e : k = i.toNat; subst e; rw [q_fu_eq, if_pos (by omega)]; rw [q_fu_ne e, v5_2 k]; by_cases g : (k : Int) < i; rw [if_pos g, if_pos (by omega)]; rw [if_neg g, if_neg (by omega)]) (by omega)) (rfl) rfl rfl
  show qJ YJ7_fill_53178 κ _ (qLy u, m, y) 0 0 0 [some (qR 75), some (qI v), none, none] []
  refine qJ.run hκ 5 (pc' := 5) (ls' := [some (qR 75), some (qI v), some (qI 0), some (qI 20)]) (st' := []) rfl ?_
  exact qJ.cast (L5 21 (m 75) 0 (by omega) (by omega) (fun k => by rw [if_neg (by omega)]) (by omega)) (by rw [q_row_self]) rfl rfl

set_option maxRecDepth 100000 in
theorem c_fill76 (u : qU) (m y : qM) (v : Int)  : qCt YJ7_fill_53178 1 0 0 [qR 76, qI v] (qLy u, m, y) (fun r h => r = none ∧ h = (qLy u, q_row m 76 (fun k => if k < 20 then v else m 76 k), y)) := by
  refine qCt.intro okJ7_fill_53178 (Nat.le_of_ble_eq_true rfl) (fun κ hκ => ?_)
  have L5 : ∀ (n : Nat) (f : Nat → Int) (i : Int), (0 ≤ i) → (i ≤ 20) → (∀ k : Nat, f k = if (k : Int) < i then v else m 76 k) → ((20 - i).toNat) < n → qJ YJ7_fill_53178 κ (qFin (fun r h => r = none ∧ h = (qLy u, q_row m 76 (fun k => if k < 20 then v else m 76 k), y)) 0 0 κ) (qLy u, (q_row m 76 f), y) 0 0 5 [some (qR 76), some (qI v), some (qI i), some (qI 20)] [] := by
    intro n
    induction n with
    | zero => intro f i _ _ _ hz0; omega
    | succ n ih5 =>
      intro f i v5_0 v5_1 v5_2 v5_m
      refine qJ.run hκ 2 (pc' := 7) (ls' := [some (qR 76), some (qI v), some (qI i), some (qI 20)]) (st' := [qI 20, qI i]) rfl ?_
      refine qJ.icmp_ge hκ (tgt := 20) rfl rfl (by omega) (by omega) (fun c7 => ?_) (fun c7 => ?_)
      · show qJ YJ7_fill_53178 κ _ (qLy u, (q_row m 76 f), y) 0 0 20 [some (qR 76), some (qI v), some (qI i), some (qI 20)] []
        exact qJ.vret hκ rfl rfl (by decide) (by decide) (by refine ⟨rfl, ?_⟩; rw [q_row_c (g := fun k => if k < 20 then v else m 76 k) (fun k => by rw [v5_2 k]; by_cases g : k < 20; rw [if_pos (by omega), if_pos g]; rw [if_neg (by omega), if_neg g])])
      · show qJ YJ7_fill_53178 κ _ (qLy u, (q_row m 76 f), y) 0 0 10 [some (qR 76), some (qI v), some (qI i), some (qI 20)] []
        refine qJ.run hκ 3 (pc' := 13) (ls' := [some (qR 76), some (qI v), some (qI i), some (qI 20)]) (st' := [qI v, qI i, qR 76]) rfl ?_
        refine qJ.ast hκ rfl rfl rfl (by decide) (by omega) ?_
        refine qJ.mc (m1 := (q_up (q_row m 76 f) 76 i.toNat v)) (m2 := (q_row m 76 (q_fu f i.toNat v))) (by rw [q_up_row_eq]) ?_
        show qJ YJ7_fill_53178 κ _ (qLy u, (q_row m 76 (q_fu f i.toNat v)), y) 0 0 14 [some (qR 76), some (qI v), some (qI i), some (qI 20)] []
        refine qJ.run hκ 2 (pc' := 5) (ls' := [some (qR 76), some (qI v), some (qI (i + 1)), some (qI 20)]) (st' := []) rfl ?_
        exact qJ.cast (ih5  (q_fu f i.toNat v) (i + 1) (by omega) (by omega) (fun k => by by_cases e : k = i.toNat; subst e; rw [q_fu_eq, if_pos (by omega)]; rw [q_fu_ne e, v5_2 k]; by_cases g : (k : Int) < i; rw [if_pos g, if_pos (by omega)]; rw [if_neg g, if_neg (by omega)]) (by omega)) (rfl) rfl rfl
  show qJ YJ7_fill_53178 κ _ (qLy u, m, y) 0 0 0 [some (qR 76), some (qI v), none, none] []
  refine qJ.run hκ 5 (pc' := 5) (ls' := [some (qR 76), some (qI v), some (qI 0), some (qI 20)]) (st' := []) rfl ?_
  exact qJ.cast (L5 21 (m 76) 0 (by omega) (by omega) (fun k => by rw [if_neg (by omega)]) (by omega)) (by rw [q_row_self]) rfl rfl

/-! printed by p76.py: what the rows of actions hold behind i lines -/
abbrev yIs (t : Nat → Int) (L c w : Int) (l : Nat) : Prop := yC t L l = c ∧ yW t L l = w
theorem rw5_f {t : Nat → Int} {L : Int} {f g : Nat → Int} {c w : Int} (hc : 1 ≤ c ∧ c ≤ 6) (hw : 0 ≤ w ∧ w ≤ 2) (hf : f (sl3 c w) = -1) : ∀ i, (∀ j, j < i → (1 ≤ yC t L j ∧ yC t L j ≤ 6) ∧ (0 ≤ yW t L j ∧ yW t L j ≤ 2) ∧ ¬ yA t L j = -1) → (q_fst (yIs t L c w) i = -1 → (rw5 t L f g i).1 (sl3 c w) = -1) ∧ (¬ q_fst (yIs t L c w) i = -1 → (rw5 t L f g i).1 (sl3 c w) = yA t L (q_fst (yIs t L c w) i).toNat ∧ (rw5 t L f g i).2 (sl3 c w) = yO t L (q_fst (yIs t L c w) i).toNat)
  | 0, _ => ⟨fun _ => hf, fun z => absurd rfl z⟩
  | i + 1, h => by
    have ih := rw5_f (t := t) (L := L) (f := f) (g := g) hc hw hf i (fun j hj => h j (by omega))
    have hi := h i (by omega)
    have e : q_fst (yIs t L c w) (i + 1) = if q_fst (yIs t L c w) i = -1 ∧ yIs t L c w i then (i : Int) else q_fst (yIs t L c w) i := rfl
    by_cases y : yIs t L c w i
    · have ys : ysl t L i = sl3 c w := by unfold ysl; rw [y.1, y.2]
      by_cases q : q_fst (yIs t L c w) i = -1
      · rw [if_pos ⟨q, y⟩] at e
        rw [e]
        have r := ih.1 q
        refine ⟨fun z => by omega, fun _ => ?_⟩
        unfold rw5
        rw [ys, if_pos r]
        show q_fu _ _ _ _ = _ ∧ q_fu _ _ _ _ = _
        rw [q_fu_eq, q_fu_eq]
        exact ⟨rfl, rfl⟩
      · rw [if_neg (fun z => q z.1)] at e
        rw [e]
        have r := ih.2 q
        obtain ⟨f1, f2, -, -⟩ := fst_at (J := yIs t L c w) i q
        have ha := (h (q_fst (yIs t L c w) i).toNat (by omega)).2.2
        refine ⟨fun z => absurd z q, fun _ => ?_⟩
        unfold rw5
        rw [ys, if_neg (by rw [r.1]; exact ha)]
        exact r
    · rw [if_neg (fun z => y z.2)] at e
      rw [e]
      have ys : ¬ sl3 c w = ysl t L i := fun z => y (by
        have z2 : ((c - 1) * 3 + w).toNat = ((yC t L i - 1) * 3 + yW t L i).toNat := z
        exact ⟨by omega, by omega⟩)
      have k : (rw5 t L f g (i + 1)).1 (sl3 c w) = (rw5 t L f g i).1 (sl3 c w) ∧ (rw5 t L f g (i + 1)).2 (sl3 c w) = (rw5 t L f g i).2 (sl3 c w) := by
        show (if (rw5 t L f g i).1 (ysl t L i) = -1 then _ else _ : (Nat → Int) × (Nat → Int)).1 _ = _ ∧ (if (rw5 t L f g i).1 (ysl t L i) = -1 then _ else _ : (Nat → Int) × (Nat → Int)).2 _ = _
        split
        · exact ⟨q_fu_ne ys, q_fu_ne ys⟩
        · exact ⟨rfl, rfl⟩
      rw [k.1, k.2]
      exact ih

/-! printed by p67.py: spelling of the class -/
def fF (m : qM) : Int := if ¬ m 49 8 = -1 then 1 else m 49 9
def fPl (m : qM) : Int := if ¬ m 49 8 = -1 then m 49 8 else m 49 10
/-- how a text of lines comes out: behind i lines, fault fa at fp -/
def rOut (t : Nat → Int) (L : Int) (i : Nat) (fa fp : Int) : Prop := lOk t L i ∧ ((tK t L (lnP t L i) = 0 ∧ fa = mu9 t L i ∧ fp = mu10 t L i) ∨ (¬ tK t L (lnP t L i) = 0 ∧ ¬ lnX t L (lnP t L i) = -1 ∧ fa = 1 ∧ fp = lnX t L (lnP t L i)))
theorem rOut_1 {t : Nat → Int} {L : Int} {i j : Nat} {fa fp ga gp : Int} (h : rOut t L i fa fp) (h' : rOut t L j ga gp) : i = j ∧ fa = ga ∧ fp = gp := by
  have key : i = j := by
    by_cases q : i = j
    · exact q
    · exfalso
      by_cases w : i < j
      · have := h'.1 i w
        rcases h.2 with z | z
        · exact this.1 z.1
        · exact z.2.1 this.2
      · have := h.1 j (by omega)
        rcases h'.2 with z | z
        · exact this.1 z.1
        · exact z.2.1 this.2
  subst key
  refine ⟨rfl, ?_⟩
  rcases h.2 with ⟨a, b, c⟩ | ⟨a, b, c, d⟩
  · rcases h'.2 with ⟨a', b', c'⟩ | ⟨a', _⟩
    · exact ⟨b.trans b'.symm, c.trans c'.symm⟩
    · exact absurd a a'
  · rcases h'.2 with ⟨a', _⟩ | ⟨_, _, c', d'⟩
    · exact absurd a' a
    · exact ⟨c.trans c'.symm, d.trans d'.symm⟩
theorem rOut_of {t : Nat → Int} {L : Int} {f g : Nat → Int} {m : qM} {i : Nat} (h : (rRun t L f g m i ∧ tK t L (lnP t L i) = 0) ∨ rStk t L m i) : rOut t L i (fF m) (fPl m) := by
  rcases h with ⟨a, b⟩ | a
  · have e : m 49 8 = -1 := a.1.2.1.1
    refine ⟨a.2.2.2.2.1, Or.inl ⟨b, ?_, ?_⟩⟩
    · unfold fF; rw [if_neg (fun z => z e)]; exact a.2.2.1.1
    · unfold fPl; rw [if_neg (fun z => z e)]; exact a.2.2.1.2
  · obtain ⟨a1, a2, a3, a4, a5⟩ := a
    have e : ¬ m 49 8 = -1 := by rw [a4]; exact a3
    refine ⟨a1, Or.inr ⟨a2, a3, ?_, ?_⟩⟩
    · unfold fF; rw [if_pos e]
    · unfold fPl; rw [if_pos e]; exact a4

set_option maxRecDepth 100000 in
theorem c_ff (u : qU) (m y : qM) (h8 : qr (m 49 8)) : qCt YX5_faultFound 1 0 0 [qR 49] (qLy u, m, y) (fun r h => r = some (qI (fF m)) ∧ h = (qLy u, m, y)) := by
  refine qCt.intro okX5_faultFound (Nat.le_of_ble_eq_true rfl) (fun κ hκ => ?_)
  show qJ YX5_faultFound κ _ (qLy u, m, y) 0 0 0 [some (qR 49)] []
  refine qJ.run hκ 3 (pc' := 5) (ls' := [some (qR 49)]) (st' := [qI (-1), qI (m 49 8)]) rfl ?_
  refine qJ.icmp_eq hκ (tgt := 12) rfl rfl (by omega) (by omega) (fun c5 => ?_) (fun c5 => ?_)
  · show qJ YX5_faultFound κ _ (qLy u, m, y) 0 0 12 [some (qR 49)] []
    refine qJ.run hκ 2 (pc' := 16) (ls' := [some (qR 49)]) (st' := [qI (m 49 9)]) rfl ?_
    exact qJ.iret hκ rfl rfl (by decide) (by decide) (⟨by unfold fF; rw [if_neg (by omega)], rfl⟩)
  · show qJ YX5_faultFound κ _ (qLy u, m, y) 0 0 8 [some (qR 49)] []
    refine qJ.run hκ 2 (pc' := 16) (ls' := [some (qR 49)]) (st' := [qI 1]) rfl ?_
    exact qJ.iret hκ rfl rfl (by decide) (by decide) (⟨by unfold fF; rw [if_pos (by omega)], rfl⟩)

set_option maxRecDepth 100000 in
theorem c_fp (u : qU) (m y : qM) (h8 : qr (m 49 8)) : qCt YX5_faultPlace 1 0 0 [qR 49] (qLy u, m, y) (fun r h => r = some (qI (fPl m)) ∧ h = (qLy u, m, y)) := by
  refine qCt.intro okX5_faultPlace (Nat.le_of_ble_eq_true rfl) (fun κ hκ => ?_)
  show qJ YX5_faultPlace κ _ (qLy u, m, y) 0 0 0 [some (qR 49)] []
  refine qJ.run hκ 3 (pc' := 5) (ls' := [some (qR 49)]) (st' := [qI (-1), qI (m 49 8)]) rfl ?_
  refine qJ.icmp_eq hκ (tgt := 15) rfl rfl (by omega) (by omega) (fun c5 => ?_) (fun c5 => ?_)
  · show qJ YX5_faultPlace κ _ (qLy u, m, y) 0 0 15 [some (qR 49)] []
    refine qJ.run hκ 2 (pc' := 19) (ls' := [some (qR 49)]) (st' := [qI (m 49 10)]) rfl ?_
    exact qJ.iret hκ rfl rfl (by decide) (by decide) (⟨by unfold fPl; rw [if_neg (by omega)], rfl⟩)
  · show qJ YX5_faultPlace κ _ (qLy u, m, y) 0 0 8 [some (qR 49)] []
    refine qJ.run hκ 3 (pc' := 19) (ls' := [some (qR 49)]) (st' := [qI (m 49 8)]) rfl ?_
    exact qJ.iret hκ rfl rfl (by decide) (by decide) (⟨by unfold fPl; rw [if_pos (by omega)], rfl⟩)

set_option maxRecDepth 100000 in
theorem c_setLines (u : qU) (m y : qM) (k : Int)  : qCt YX4_setLines 2 0 0 [qR 15, qI k, qR 50, qR 51] (qLy u, m, y) (fun r h => r = none ∧ h = (qLy u, q_cpy (q_cpy (q_up m 15 4 k) 50 0 19 0 18) 51 0 20 0 18, y)) := by
  refine qCt.intro okX4_setLines (Nat.le_of_ble_eq_true rfl) (fun κ hκ => ?_)
  show qJ YX4_setLines κ _ (qLy u, m, y) 0 0 0 [some (qR 15), some (qI k), some (qR 50), some (qR 51)] []
  refine qJ.run hκ 2 (pc' := 2) (ls' := [some (qR 15), some (qI k), some (qR 50), some (qR 51)]) (st' := [qI k, qR 15]) rfl ?_
  refine qJ.putI hκ rfl rfl rfl rfl (Or.inl rfl) ?_
  show qJ YX4_setLines κ _ (qLy u, (q_up m 15 4 k), y) 0 0 5 [some (qR 15), some (qI k), some (qR 50), some (qR 51)] []
  refine qJ.run hκ 8 (pc' := 17) (ls' := [some (qR 15), some (qI k), some (qR 50), some (qR 51)]) (st' := [qI 18, qI 0, qR 19, qI 0, qR 50]) rfl ?_
  refine qJ.copy hκ rfl kX4_48 (Nat.le_of_ble_eq_true rfl) (Nat.le_of_ble_eq_true rfl) rfl rfl (by decide) (by decide) (by omega) (by omega) (by omega) (by omega) (by omega) (Or.inl rfl) ?_
  show qJ YX4_setLines κ _ (qLy u, (q_cpy (q_up m 15 4 k) 50 0 19 0 18), y) 0 0 20 [some (qR 15), some (qI k), some (qR 50), some (qR 51)] []
  refine qJ.run hκ 8 (pc' := 32) (ls' := [some (qR 15), some (qI k), some (qR 50), some (qR 51)]) (st' := [qI 18, qI 0, qR 20, qI 0, qR 51]) rfl ?_
  refine qJ.copy hκ rfl kX4_48 (Nat.le_of_ble_eq_true rfl) (Nat.le_of_ble_eq_true rfl) rfl rfl (by decide) (by decide) (by omega) (by omega) (by omega) (by omega) (by omega) (Or.inl rfl) ?_
  show qJ YX4_setLines κ _ (qLy u, (q_cpy (q_cpy (q_up m 15 4 k) 50 0 19 0 18) 51 0 20 0 18), y) 0 0 35 [some (qR 15), some (qI k), some (qR 50), some (qR 51)] []
  exact qJ.vret hκ rfl rfl (by decide) (by decide) (by first | exact ⟨rfl, rfl⟩ | (refine ⟨?_, rfl⟩; first | rfl | omega))

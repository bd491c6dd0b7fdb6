/-! printed by p43.py: Sums, solve and build; the class's answers -/
theorem setR_w {M : qM} {t : Nat} (h : setR M t) : ∀ w : Nat, w < 3 → M 48 w = rt t w := by
  intro w hw
  have : w = 0 ∨ w = 1 ∨ w = 2 := by omega
  rcases this with rfl | rfl | rfl
  · exact h.1
  · exact h.2.1
  · exact h.2.2
theorem c_stepSet2 (u : qU) (M y : qM) (t : Nat) (ht : t < 1331) (hs : setR M t) : qCt YX8_stepSet 1 0 0 [qR 39] (qLy u, M, y) (fun r h => ∃ M' z, r = some (qI z) ∧ h = (qLy u, M', y) ∧ keep (fun i _ => decide (¬ i = 48)) M' = keep (fun i _ => decide (¬ i = 48)) M ∧ ((z = 1 ∧ t + 1 < 1331 ∧ setR M' (t + 1)) ∨ (z = 0 ∧ t + 1 = 1331))) := by
  refine (c_stepSet u M y t ht hs).weak ?_
  rintro r h ⟨M', e1, e2, e3 | e3⟩
  · exact ⟨M', 1, e3.1, e1, e2, Or.inl ⟨rfl, e3.2⟩⟩
  · exact ⟨M', 0, e3.1, e1, e2, Or.inr ⟨rfl, e3.2⟩⟩
theorem SV_c {m M M' : qM} {nn t : Nat} (h39 : M' 39 0 = M 39 0) (h45 : M' 45 = M 45) (h46 : M' 46 = M 46) (h47 : M' 47 = M 47) (h : SV m M nn t) : SV m M' nn t := by
  unfold SV at *
  rw [h39, h45, h46, h47]
  exact h
theorem rmin_c {m m' : qM} (h : m 13 = m' 13) (nn w : Nat) : ∀ t, rmin m nn w t = rmin m' nn w t ∧ rmax m nn w t = rmax m' nn w t
  | 0 => ⟨rfl, rfl⟩
  | t + 1 => by
    have e : sOK m nn t ↔ sOK m' nn t := by
      unfold sOK dis cA wo xE sP nP tL isP isT
      rw [h]
    unfold rmin rmax
    rw [(rmin_c h nn w t).1, (rmin_c h nn w t).2]
    by_cases z : sOK m nn t
    · rw [if_pos z, if_pos z, if_pos (e.mp z), if_pos (e.mp z)]; exact ⟨rfl, rfl⟩
    · rw [if_neg z, if_neg z, if_neg (fun q => z (e.mpr q)), if_neg (fun q => z (e.mpr q))]; exact ⟨rfl, rfl⟩
theorem CI_r {m m' M : qM} {nn a : Nat} (h : m 13 = m' 13) (hc : CI m M nn a) : CI m' M nn a := by
  unfold CI cA xE sP nP tL isP isT at *
  rw [h] at hc
  exact hc
theorem SV_r {m m' M : qM} {nn t : Nat} (h : m 13 = m' 13) (hc : SV m M nn t) : SV m' M nn t := by
  obtain ⟨a, b, c⟩ := hc
  refine ⟨?_, fun w hw => ?_, ?_⟩
  · unfold sOK dis cA wo xE sP nP tL isP isT at *
    rw [h] at a
    exact a
  · rw [← (rmin_c h nn w t).1, ← (rmin_c h nn w t).2]; exact b w hw
  · unfold spo dis cA wo xE sP nP tL isP isT at *
    rw [h] at c
    exact c
theorem disG {m M : qM} {nn t : Nat} {F G : Int} (hc : CI m M nn 10) (hF : F = q_fst (dJ m M nn t) (q_cnt (cA m nn) 10)) (hn : ¬ F = -1) (hG : G = q_fst (fun i => F + 1 ≤ (i : Int) ∧ dJ m M nn t i) (q_cnt (cA m nn) 10)) : G = -1 ↔ q_cnt (dis m nn t) 10 = 1 := by
  obtain ⟨f1, f2, f3, f4⟩ := fst_at (J := dJ m M nn t) (q_cnt (cA m nn) 10) (by rw [← hF]; exact hn)
  rw [← hF] at f1 f2 f3 f4
  have h1 := cnt_from (J := dJ m M nn t) (a := F + 1) (q_cnt (cA m nn) 10) (by omega) (by omega)
  have h2 : q_cnt (dJ m M nn t) (F + 1).toNat = 1 := by
    rw [q_cnt_s f1, if_pos f3]; omega
  have h3 := dJ_cnt (t := t) hc
  have h4 := q_fst_0 (fun i => F + 1 ≤ (i : Int) ∧ dJ m M nn t i) (q_cnt (cA m nn) 10)
  rw [hG]
  rw [h4]
  omega

set_option maxRecDepth 100000 in
theorem c_keepSet (u : qU) (M y : qM) (hr : ∀ w : Nat, w < 3 → (2 ≤ M 46 w ∧ M 46 w ≤ 12) ∧ (2 ≤ M 47 w ∧ M 47 w ≤ 12) ∧ (2 ≤ M 48 w ∧ M 48 w ≤ 12)) : qCt YX8_keepSet 2 0 0 [qR 39] (qLy u, M, y) (fun r h => r = none ∧ ∃ M', h = (qLy u, M', y) ∧ keep (kN kS) M' = keep (kN kS) M ∧ M' 39 0 = M 39 0 + 1 ∧ (∀ w : Nat, w < 3 → M' 46 w = min (M 46 w) (M 48 w) ∧ M' 47 w = max (M 47 w) (M 48 w)) ∧ M' 45 = M 45 ∧ M' 48 = M 48 ∧ M' 39 6 = M 39 6 ∧ M' 40 = M 40 ∧ M' 41 = M 41 ∧ M' 42 = M 42 ∧ M' 43 = M 43 ∧ M' 44 = M 44) := by
  refine qCt.intro okX8_keepSet (Nat.le_of_ble_eq_true rfl) (fun κ hκ => ?_)
  have h0 := hr 0 (by decide)
  have h1 := hr 1 (by decide)
  have h2 := hr 2 (by decide)
  show qJ YX8_keepSet κ _ (qLy u, M, y) 0 0 0 [some (qR 39), none] []
  refine qJ.run hκ 5 (pc' := 7) (ls' := [some (qR 39), none]) (st' := [qI ((M 39 0) + 1), qR 39]) rfl ?_
  refine qJ.putI hκ rfl rfl rfl rfl (Or.inl rfl) ?_
  show qJ YX8_keepSet κ _ (qLy u, (q_up M 39 0 ((M 39 0) + 1)), y) 0 0 10 [some (qR 39), none] []
  refine qJ.run hκ 4 (pc' := 14) (ls' := [some (qR 39), some (qI 0)]) (st' := [qI 3, qI 0]) rfl ?_
  refine qJ.icmp_ge hκ (tgt := 65) rfl rfl (by omega) (by omega) (fun c14 => ?_) (fun c14 => ?_)
  · exact absurd c14 (by decide)
  · show qJ YX8_keepSet κ _ (qLy u, (q_up M 39 0 ((M 39 0) + 1)), y) 0 0 17 [some (qR 39), some (qI 0)] []
    refine qJ.run hκ 6 (pc' := 27) (ls' := [some (qR 39), some (qI 0)]) (st' := [qI 0, qR 46, qI 0, qR 46]) rfl ?_
    refine qJ.ald hκ rfl rfl rfl (by decide) (by omega) ?_
    show qJ YX8_keepSet κ _ (qLy u, (q_up M 39 0 ((M 39 0) + 1)), y) 0 0 28 [some (qR 39), some (qI 0)] [qI (M 46 0), qI 0, qR 46]
    refine qJ.run hκ 3 (pc' := 33) (ls' := [some (qR 39), some (qI 0)]) (st' := [qI 0, qR 48, qI (M 46 0), qI 0, qR 46]) rfl ?_
    refine qJ.ald hκ rfl rfl rfl (by decide) (by omega) ?_
    show qJ YX8_keepSet κ _ (qLy u, (q_up M 39 0 ((M 39 0) + 1)), y) 0 0 34 [some (qR 39), some (qI 0)] [qI (M 48 0), qI (M 46 0), qI 0, qR 46]
    refine qJ.min hκ rfl kX8_97 (Nat.le_of_ble_eq_true rfl) (Nat.le_of_ble_eq_true rfl) (Nat.le_of_ble_eq_true rfl) (Nat.le_of_ble_eq_true rfl) (by omega) (by omega) ?_
    show qJ YX8_keepSet κ _ (qLy u, (q_up M 39 0 ((M 39 0) + 1)), y) 0 0 37 [some (qR 39), some (qI 0)] [qI (min (M 46 0) (M 48 0)), qI 0, qR 46]
    refine qJ.ast hκ rfl rfl rfl (by decide) (by omega) ?_
    show qJ YX8_keepSet κ _ (qLy u, (q_up (q_up M 39 0 ((M 39 0) + 1)) 46 0 (min (M 46 0) (M 48 0))), y) 0 0 38 [some (qR 39), some (qI 0)] []
    refine qJ.run hκ 6 (pc' := 48) (ls' := [some (qR 39), some (qI 0)]) (st' := [qI 0, qR 47, qI 0, qR 47]) rfl ?_
    refine qJ.ald hκ rfl rfl rfl (by decide) (by omega) ?_
    show qJ YX8_keepSet κ _ (qLy u, (q_up (q_up M 39 0 ((M 39 0) + 1)) 46 0 (min (M 46 0) (M 48 0))), y) 0 0 49 [some (qR 39), some (qI 0)] [qI (M 47 0), qI 0, qR 47]
    refine qJ.run hκ 3 (pc' := 54) (ls' := [some (qR 39), some (qI 0)]) (st' := [qI 0, qR 48, qI (M 47 0), qI 0, qR 47]) rfl ?_
    refine qJ.ald hκ rfl rfl rfl (by decide) (by omega) ?_
    show qJ YX8_keepSet κ _ (qLy u, (q_up (q_up M 39 0 ((M 39 0) + 1)) 46 0 (min (M 46 0) (M 48 0))), y) 0 0 55 [some (qR 39), some (qI 0)] [qI (M 48 0), qI (M 47 0), qI 0, qR 47]
    refine qJ.max hκ rfl kX8_102 (Nat.le_of_ble_eq_true rfl) (Nat.le_of_ble_eq_true rfl) (Nat.le_of_ble_eq_true rfl) (Nat.le_of_ble_eq_true rfl) (by omega) (by omega) ?_
    show qJ YX8_keepSet κ _ (qLy u, (q_up (q_up M 39 0 ((M 39 0) + 1)) 46 0 (min (M 46 0) (M 48 0))), y) 0 0 58 [some (qR 39), some (qI 0)] [qI (max (M 47 0) (M 48 0)), qI 0, qR 47]
    refine qJ.ast hκ rfl rfl rfl (by decide) (by omega) ?_
    show qJ YX8_keepSet κ _ (qLy u, (q_up (q_up (q_up M 39 0 ((M 39 0) + 1)) 46 0 (min (M 46 0) (M 48 0))) 47 0 (max (M 47 0) (M 48 0))), y) 0 0 59 [some (qR 39), some (qI 0)] []
    refine qJ.run hκ 4 (pc' := 14) (ls' := [some (qR 39), some (qI 1)]) (st' := [qI 3, qI 1]) rfl ?_
    refine qJ.icmp_ge hκ (tgt := 65) rfl rfl (by omega) (by omega) (fun c14 => ?_) (fun c14 => ?_)
    · exact absurd c14 (by decide)
    · show qJ YX8_keepSet κ _ (qLy u, (q_up (q_up (q_up M 39 0 ((M 39 0) + 1)) 46 0 (min (M 46 0) (M 48 0))) 47 0 (max (M 47 0) (M 48 0))), y) 0 0 17 [some (qR 39), some (qI 1)] []
      refine qJ.run hκ 6 (pc' := 27) (ls' := [some (qR 39), some (qI 1)]) (st' := [qI 1, qR 46, qI 1, qR 46]) rfl ?_
      refine qJ.ald hκ rfl rfl rfl (by decide) (by omega) ?_
      show qJ YX8_keepSet κ _ (qLy u, (q_up (q_up (q_up M 39 0 ((M 39 0) + 1)) 46 0 (min (M 46 0) (M 48 0))) 47 0 (max (M 47 0) (M 48 0))), y) 0 0 28 [some (qR 39), some (qI 1)] [qI (M 46 1), qI 1, qR 46]
      refine qJ.run hκ 3 (pc' := 33) (ls' := [some (qR 39), some (qI 1)]) (st' := [qI 1, qR 48, qI (M 46 1), qI 1, qR 46]) rfl ?_
      refine qJ.ald hκ rfl rfl rfl (by decide) (by omega) ?_
      show qJ YX8_keepSet κ _ (qLy u, (q_up (q_up (q_up M 39 0 ((M 39 0) + 1)) 46 0 (min (M 46 0) (M 48 0))) 47 0 (max (M 47 0) (M 48 0))), y) 0 0 34 [some (qR 39), some (qI 1)] [qI (M 48 1), qI (M 46 1), qI 1, qR 46]
      refine qJ.min hκ rfl kX8_97 (Nat.le_of_ble_eq_true rfl) (Nat.le_of_ble_eq_true rfl) (Nat.le_of_ble_eq_true rfl) (Nat.le_of_ble_eq_true rfl) (by omega) (by omega) ?_
      show qJ YX8_keepSet κ _ (qLy u, (q_up (q_up (q_up M 39 0 ((M 39 0) + 1)) 46 0 (min (M 46 0) (M 48 0))) 47 0 (max (M 47 0) (M 48 0))), y) 0 0 37 [some (qR 39), some (qI 1)] [qI (min (M 46 1) (M 48 1)), qI 1, qR 46]
      refine qJ.ast hκ rfl rfl rfl (by decide) (by omega) ?_
      show qJ YX8_keepSet κ _ (qLy u, (q_up (q_up (q_up (q_up M 39 0 ((M 39 0) + 1)) 46 0 (min (M 46 0) (M 48 0))) 47 0 (max (M 47 0) (M 48 0))) 46 1 (min (M 46 1) (M 48 1))), y) 0 0 38 [some (qR 39), some (qI 1)] []
      refine qJ.run hκ 6 (pc' := 48) (ls' := [some (qR 39), some (qI 1)]) (st' := [qI 1, qR 47, qI 1, qR 47]) rfl ?_
      refine qJ.ald hκ rfl rfl rfl (by decide) (by omega) ?_
      show qJ YX8_keepSet κ _ (qLy u, (q_up (q_up (q_up (q_up M 39 0 ((M 39 0) + 1)) 46 0 (min (M 46 0) (M 48 0))) 47 0 (max (M 47 0) (M 48 0))) 46 1 (min (M 46 1) (M 48 1))), y) 0 0 49 [some (qR 39), some (qI 1)] [qI (M 47 1), qI 1, qR 47]
      refine qJ.run hκ 3 (pc' := 54) (ls' := [some (qR 39), some (qI 1)]) (st' := [qI 1, qR 48, qI (M 47 1), qI 1, qR 47]) rfl ?_
      refine qJ.ald hκ rfl rfl rfl (by decide) (by omega) ?_
      show qJ YX8_keepSet κ _ (qLy u, (q_up (q_up (q_up (q_up M 39 0 ((M 39 0) + 1)) 46 0 (min (M 46 0) (M 48 0))) 47 0 (max (M 47 0) (M 48 0))) 46 1 (min (M 46 1) (M 48 1))), y) 0 0 55 [some (qR 39), some (qI 1)] [qI (M 48 1), qI (M 47 1), qI 1, qR 47]
      refine qJ.max hκ rfl kX8_102 (Nat.le_of_ble_eq_true rfl) (Nat.le_of_ble_eq_true rfl) (Nat.le_of_ble_eq_true rfl) (Nat.le_of_ble_eq_true rfl) (by omega) (by omega) ?_
      show qJ YX8_keepSet κ _ (qLy u, (q_up (q_up (q_up (q_up M 39 0 ((M 39 0) + 1)) 46 0 (min (M 46 0) (M 48 0))) 47 0 (max (M 47 0) (M 48 0))) 46 1 (min (M 46 1) (M 48 1))), y) 0 0 58 [some (qR 39), some (qI 1)] [qI (max (M 47 1) (M 48 1)), qI 1, qR 47]
      refine qJ.ast hκ rfl rfl rfl (by decide) (by omega) ?_
      show qJ YX8_keepSet κ _ (qLy u, (q_up (q_up (q_up (q_up (q_up M 39 0 ((M 39 0) + 1)) 46 0 (min (M 46 0) (M 48 0))) 47 0 (max (M 47 0) (M 48 0))) 46 1 (min (M 46 1) (M 48 1))) 47 1 (max (M 47 1) (M 48 1))), y) 0 0 59 [some (qR 39), some (qI 1)] []
      refine qJ.run hκ 4 (pc' := 14) (ls' := [some (qR 39), some (qI 2)]) (st' := [qI 3, qI 2]) rfl ?_
      refine qJ.icmp_ge hκ (tgt := 65) rfl rfl (by omega) (by omega) (fun c14 => ?_) (fun c14 => ?_)
      · exact absurd c14 (by decide)
      · show qJ YX8_keepSet κ _ (qLy u, (q_up (q_up (q_up (q_up (q_up M 39 0 ((M 39 0) + 1)) 46 0 (min (M 46 0) (M 48 0))) 47 0 (max (M 47 0) (M 48 0))) 46 1 (min (M 46 1) (M 48 1))) 47 1 (max (M 47 1) (M 48 1))), y) 0 0 17 [some (qR 39), some (qI 2)] []
        refine qJ.run hκ 6 (pc' := 27) (ls' := [some (qR 39), some (qI 2)]) (st' := [qI 2, qR 46, qI 2, qR 46]) rfl ?_
        refine qJ.ald hκ rfl rfl rfl (by decide) (by omega) ?_
        show qJ YX8_keepSet κ _ (qLy u, (q_up (q_up (q_up (q_up (q_up M 39 0 ((M 39 0) + 1)) 46 0 (min (M 46 0) (M 48 0))) 47 0 (max (M 47 0) (M 48 0))) 46 1 (min (M 46 1) (M 48 1))) 47 1 (max (M 47 1) (M 48 1))), y) 0 0 28 [some (qR 39), some (qI 2)] [qI (M 46 2), qI 2, qR 46]
        refine qJ.run hκ 3 (pc' := 33) (ls' := [some (qR 39), some (qI 2)]) (st' := [qI 2, qR 48, qI (M 46 2), qI 2, qR 46]) rfl ?_
        refine qJ.ald hκ rfl rfl rfl (by decide) (by omega) ?_
        show qJ YX8_keepSet κ _ (qLy u, (q_up (q_up (q_up (q_up (q_up M 39 0 ((M 39 0) + 1)) 46 0 (min (M 46 0) (M 48 0))) 47 0 (max (M 47 0) (M 48 0))) 46 1 (min (M 46 1) (M 48 1))) 47 1 (max (M 47 1) (M 48 1))), y) 0 0 34 [some (qR 39), some (qI 2)] [qI (M 48 2), qI (M 46 2), qI 2, qR 46]
        refine qJ.min hκ rfl kX8_97 (Nat.le_of_ble_eq_true rfl) (Nat.le_of_ble_eq_true rfl) (Nat.le_of_ble_eq_true rfl) (Nat.le_of_ble_eq_true rfl) (by omega) (by omega) ?_
        show qJ YX8_keepSet κ _ (qLy u, (q_up (q_up (q_up (q_up (q_up M 39 0 ((M 39 0) + 1)) 46 0 (min (M 46 0) (M 48 0))) 47 0 (max (M 47 0) (M 48 0))) 46 1 (min (M 46 1) (M 48 1))) 47 1 (max (M 47 1) (M 48 1))), y) 0 0 37 [some (qR 39), some (qI 2)] [qI (min (M 46 2) (M 48 2)), qI 2, qR 46]
        refine qJ.ast hκ rfl rfl rfl (by decide) (by omega) ?_
        show qJ YX8_keepSet κ _ (qLy u, (q_up (q_up (q_up (q_up (q_up (q_up M 39 0 ((M 39 0) + 1)) 46 0 (min (M 46 0) (M 48 0))) 47 0 (max (M 47 0) (M 48 0))) 46 1 (min (M 46 1) (M 48 1))) 47 1 (max (M 47 1) (M 48 1))) 46 2 (min (M 46 2) (M 48 2))), y) 0 0 38 [some (qR 39), some (qI 2)] []
        refine qJ.run hκ 6 (pc' := 48) (ls' := [some (qR 39), some (qI 2)]) (st' := [qI 2, qR 47, qI 2, qR 47]) rfl ?_
        refine qJ.ald hκ rfl rfl rfl (by decide) (by omega) ?_
        show qJ YX8_keepSet κ _ (qLy u, (q_up (q_up (q_up (q_up (q_up (q_up M 39 0 ((M 39 0) + 1)) 46 0 (min (M 46 0) (M 48 0))) 47 0 (max (M 47 0) (M 48 0))) 46 1 (min (M 46 1) (M 48 1))) 47 1 (max (M 47 1) (M 48 1))) 46 2 (min (M 46 2) (M 48 2))), y) 0 0 49 [some (qR 39), some (qI 2)] [qI (M 47 2), qI 2, qR 47]
        refine qJ.run hκ 3 (pc' := 54) (ls' := [some (qR 39), some (qI 2)]) (st' := [qI 2, qR 48, qI (M 47 2), qI 2, qR 47]) rfl ?_
        refine qJ.ald hκ rfl rfl rfl (by decide) (by omega) ?_
        show qJ YX8_keepSet κ _ (qLy u, (q_up (q_up (q_up (q_up (q_up (q_up M 39 0 ((M 39 0) + 1)) 46 0 (min (M 46 0) (M 48 0))) 47 0 (max (M 47 0) (M 48 0))) 46 1 (min (M 46 1) (M 48 1))) 47 1 (max (M 47 1) (M 48 1))) 46 2 (min (M 46 2) (M 48 2))), y) 0 0 55 [some (qR 39), some (qI 2)] [qI (M 48 2), qI (M 47 2), qI 2, qR 47]
        refine qJ.max hκ rfl kX8_102 (Nat.le_of_ble_eq_true rfl) (Nat.le_of_ble_eq_true rfl) (Nat.le_of_ble_eq_true rfl) (Nat.le_of_ble_eq_true rfl) (by omega) (by omega) ?_
        show qJ YX8_keepSet κ _ (qLy u, (q_up (q_up (q_up (q_up (q_up (q_up M 39 0 ((M 39 0) + 1)) 46 0 (min (M 46 0) (M 48 0))) 47 0 (max (M 47 0) (M 48 0))) 46 1 (min (M 46 1) (M 48 1))) 47 1 (max (M 47 1) (M 48 1))) 46 2 (min (M 46 2) (M 48 2))), y) 0 0 58 [some (qR 39), some (qI 2)] [qI (max (M 47 2) (M 48 2)), qI 2, qR 47]
        refine qJ.ast hκ rfl rfl rfl (by decide) (by omega) ?_
        show qJ YX8_keepSet κ _ (qLy u, (q_up (q_up (q_up (q_up (q_up (q_up (q_up M 39 0 ((M 39 0) + 1)) 46 0 (min (M 46 0) (M 48 0))) 47 0 (max (M 47 0) (M 48 0))) 46 1 (min (M 46 1) (M 48 1))) 47 1 (max (M 47 1) (M 48 1))) 46 2 (min (M 46 2) (M 48 2))) 47 2 (max (M 47 2) (M 48 2))), y) 0 0 59 [some (qR 39), some (qI 2)] []
        refine qJ.run hκ 4 (pc' := 14) (ls' := [some (qR 39), some (qI 3)]) (st' := [qI 3, qI 3]) rfl ?_
        refine qJ.icmp_ge hκ (tgt := 65) rfl rfl (by omega) (by omega) (fun c14 => ?_) (fun c14 => ?_)
        · show qJ YX8_keepSet κ _ (qLy u, (q_up (q_up (q_up (q_up (q_up (q_up (q_up M 39 0 ((M 39 0) + 1)) 46 0 (min (M 46 0) (M 48 0))) 47 0 (max (M 47 0) (M 48 0))) 46 1 (min (M 46 1) (M 48 1))) 47 1 (max (M 47 1) (M 48 1))) 46 2 (min (M 46 2) (M 48 2))) 47 2 (max (M 47 2) (M 48 2))), y) 0 0 65 [some (qR 39), some (qI 3)] []
          exact qJ.vret hκ rfl rfl (by decide) (by decide) (⟨rfl, _, rfl, (Eq.trans (keep_up (by rfl)) (Eq.trans (keep_up (by rfl)) (Eq.trans (keep_up (by rfl)) (Eq.trans (keep_up (by rfl)) (Eq.trans (keep_up (by rfl)) (Eq.trans (keep_up (by rfl)) (Eq.trans (keep_up (by rfl)) rfl))))))), rfl, fun w hw => by have : w = 0 ∨ w = 1 ∨ w = 2 := (by omega); rcases this with rfl | rfl | rfl <;> exact ⟨rfl, rfl⟩, rfl, rfl, rfl, rfl, rfl, rfl, rfl, rfl⟩)
        · exact absurd c14 (by decide)

set_option maxRecDepth 100000 in
theorem c_solve (u : qU) (m M y : qM) (nn : Nat) (hc : CI m M nn 10) (hx : xR m nn) (hv : SV m M nn 0) : qCt YX8_solve 3 0 0 [qR 39] (qLy u, M, y) (fun r h => r = none ∧ ∃ M', h = (qLy u, M', y) ∧ keep (kN kS) M' = keep (kN kS) M ∧ CI m M' nn 10 ∧ SV m M' nn 1331) := by
  refine qCt.intro okX8_solve (Nat.le_of_ble_eq_true rfl) (fun κ hκ => ?_)
  have L8 : ∀ (n : Nat) (M1 : qM) (t : Nat) (mo : Int) (c : Int), (keep (kN kS) M1 = keep (kN kS) M) → (CI m M1 nn 10) → (SV m M1 nn t) → (c = (t : Int)) → ((mo = 1 ∧ t < 1331 ∧ setR M1 t) ∨ (mo = 0 ∧ t = 1331)) → (1331 - t) < n → qJ YX8_solve κ (qFin (fun r h => r = none ∧ ∃ M', h = (qLy u, M', y) ∧ keep (kN kS) M' = keep (kN kS) M ∧ CI m M' nn 10 ∧ SV m M' nn 1331) 0 0 κ) (qLy u, M1, y) 0 0 8 [some (qR 39), some (qI mo), some (qI c), none] [] := by
    intro n
    induction n with
    | zero => intro M1 t mo c _ _ _ _ _ hz0; omega
    | succ n ih8 =>
      intro M1 t mo c v8_0 v8_1 v8_2 v8_3 v8_4 v8_m
      have mr : mo = 0 ∨ mo = 1 := by rcases v8_4 with q | q <;> omega
      have tr : t ≤ 1331 := by rcases v8_4 with q | q <;> omega
      refine qJ.run hκ 1 (pc' := 9) (ls' := [some (qR 39), some (qI mo), some (qI c), none]) (st' := [qI mo]) rfl ?_
      refine qJ.if_eq hκ (tgt := 71) rfl rfl (by omega) (fun c9 => ?_) (fun c9 => ?_)
      · show qJ YX8_solve κ _ (qLy u, M1, y) 0 0 71 [some (qR 39), some (qI mo), some (qI c), none] []
        exact qJ.vret hκ rfl rfl (by decide) (by decide) (by first | exact ⟨rfl, M1, rfl, v8_0, v8_1, by rw [← show t = 1331 by omega]; exact v8_2⟩)
      · show qJ YX8_solve κ _ (qLy u, M1, y) 0 0 12 [some (qR 39), some (qI mo), some (qI c), none] []
        have ht : t < 1331 := by rcases v8_4 with q | q; exact q.2.1; exact absurd q.1 c9
        have hSR : setR M1 t := by rcases v8_4 with q | q; exact q.2.2; exact absurd q.1 c9
        have hCI := v8_1
        have hSV := v8_2
        have cl := q_cnt_le (cA m nn) 10
        refine qJ.run hκ 2 (pc' := 16) (ls' := [some (qR 39), some (qI mo), some (qI c), none]) (st' := [qI 2000, qI c]) rfl ?_
        refine qJ.icmp_ge hκ (tgt := 71) rfl rfl (by omega) (by omega) (fun c16 => ?_) (fun c16 => ?_)
        · show qJ YX8_solve κ _ (qLy u, M1, y) 0 0 71 [some (qR 39), some (qI mo), some (qI c), none] []
          exfalso; omega
        · show qJ YX8_solve κ _ (qLy u, M1, y) 0 0 19 [some (qR 39), some (qI mo), some (qI c), none] []
          refine qJ.run hκ 2 (pc' := 21) (ls' := [some (qR 39), some (qI mo), some (qI c), none]) (st' := [qI 0, qR 39]) rfl ?_
          refine qJ.callV (As := [qI 0]) (rest := []) hκ rfl kX8_87 (c_disag u m M1 y nn t 0 hCI hx ht hSR (by omega)) rfl rfl (by decide) rfl rfl (Nat.le_of_ble_eq_true rfl) (Nat.le_of_ble_eq_true rfl) (Nat.le_of_ble_eq_true rfl) (Or.inl (fun r h' e => by obtain ⟨rfl, rfl⟩ := e; rfl)) (fun r h' e => ?_)
          obtain ⟨rfl, rfl⟩ := e
          obtain ⟨F, hF0⟩ : ∃ F : Int, F = q_fst (fun i => 0 ≤ (i : Int) ∧ dJ m M1 nn t i) (q_cnt (cA m nn) 10) := ⟨_, rfl⟩
          rw [← hF0]
          have hF : F = q_fst (dJ m M1 nn t) (q_cnt (cA m nn) 10) := by rw [hF0]; exact q_fst_c _ (fun k _ => ⟨fun z => z.2, fun z => ⟨by omega, z⟩⟩)
          have Fr := q_fst_r (dJ m M1 nn t) (q_cnt (cA m nn) 10)
          rw [← hF] at Fr
          have F1 : F = -1 ↔ sOK m nn t := by rw [hF, q_fst_0, dJ_cnt hCI]
          show qJ YX8_solve κ _ (qLy u, M1, y) 0 0 24 [some (qR 39), some (qI mo), some (qI c), none] [qI F]
          refine qJ.run hκ 3 (pc' := 27) (ls' := [some (qR 39), some (qI mo), some (qI c), some (qI F)]) (st' := [qI (-1), qI F]) rfl ?_
          refine qJ.icmp_ne hκ (tgt := 37) rfl rfl (by omega) (by omega) (fun c27 => ?_) (fun c27 => ?_)
          · show qJ YX8_solve κ _ (qLy u, M1, y) 0 0 37 [some (qR 39), some (qI mo), some (qI c), some (qI F)] []
            refine qJ.run hκ 4 (pc' := 41) (ls' := [some (qR 39), some (qI mo), some (qI c), some (qI F)]) (st' := [qI (F + 1), qR 39]) rfl ?_
            refine qJ.callV (As := [qI (F + 1)]) (rest := []) hκ rfl kX8_87 (c_disag u m M1 y nn t (F + 1) hCI hx ht hSR (by omega)) rfl rfl (by decide) rfl rfl (Nat.le_of_ble_eq_true rfl) (Nat.le_of_ble_eq_true rfl) (Nat.le_of_ble_eq_true rfl) (Or.inl (fun r h' e => by obtain ⟨rfl, rfl⟩ := e; rfl)) (fun r h' e => ?_)
            obtain ⟨rfl, rfl⟩ := e
            obtain ⟨G, hG0⟩ : ∃ G : Int, G = q_fst (fun i => (F + 1) ≤ (i : Int) ∧ dJ m M1 nn t i) (q_cnt (cA m nn) 10) := ⟨_, rfl⟩
            rw [← hG0]
            have G1 := disG hCI hF c27 hG0
            have Gr := q_fst_r (fun i => F + 1 ≤ (i : Int) ∧ dJ m M1 nn t i) (q_cnt (cA m nn) 10)
            rw [← hG0] at Gr
            show qJ YX8_solve κ _ (qLy u, M1, y) 0 0 44 [some (qR 39), some (qI mo), some (qI c), some (qI F)] [qI G]
            refine qJ.run hκ 1 (pc' := 45) (ls' := [some (qR 39), some (qI mo), some (qI c), some (qI F)]) (st' := [qI (-1), qI G]) rfl ?_
            refine qJ.icmp_ne hκ (tgt := 60) rfl rfl (by omega) (by omega) (fun c45 => ?_) (fun c45 => ?_)
            · show qJ YX8_solve κ _ (qLy u, M1, y) 0 0 60 [some (qR 39), some (qI mo), some (qI c), some (qI F)] []
              have hK2 := v8_0
              have hCI2 := hCI
              have hSV2 := SV_same hSV (fun z => c27 (F1.mpr z)) (fun z => c45 (G1.mpr z)) rfl ⟨rfl, rfl⟩ rfl
              have hSR2 := hSR
              refine qJ.run hκ 1 (pc' := 61) (ls' := [some (qR 39), some (qI mo), some (qI c), some (qI F)]) (st' := [qR 39]) rfl ?_
              refine qJ.callV (As := []) (rest := []) hκ rfl kX8_93 (c_stepSet2 u M1 y t ht hSR2) rfl rfl (by decide) rfl rfl (Nat.le_of_ble_eq_true rfl) (Nat.le_of_ble_eq_true rfl) (Nat.le_of_ble_eq_true rfl) (Or.inl (fun r h' e => by obtain ⟨M3, z3, rfl, rfl, hk3, hst⟩ := e; rfl)) (fun r h' e => ?_)
              obtain ⟨M3, z3, rfl, rfl, hk3, hst⟩ := e
              show qJ YX8_solve κ _ (qLy u, M3, y) 0 0 64 [some (qR 39), some (qI mo), some (qI c), some (qI F)] [qI z3]
              refine qJ.run hκ 3 (pc' := 8) (ls' := [some (qR 39), some (qI z3), some (qI (c + 1)), some (qI F)]) (st' := []) rfl ?_
              refine qJ.dl [true, true, true, false] ?_
              show qJ YX8_solve κ _ (qLy u, M3, y) 0 0 8 [some (qR 39), some (qI z3), some (qI (c + 1)), none] []
              exact ih8  M3 (t + 1) z3 (c + 1) ((keep_48 hk3).trans hK2) (CI_c (congrFun (congrFun hk3 39) 6) (congrFun hk3 40) (congrFun hk3 41) (congrFun hk3 42) (congrFun hk3 43) (congrFun hk3 44) hCI2) (SV_c (congrFun (congrFun hk3 39) 0) (congrFun hk3 45) (congrFun hk3 46) (congrFun hk3 47) hSV2) (by omega) (hst) (by omega)
            · show qJ YX8_solve κ _ (qLy u, M1, y) 0 0 48 [some (qR 39), some (qI mo), some (qI c), some (qI F)] []
              obtain ⟨b0, b0l, b0e, b0d⟩ := dJ_one hCI hF c27 (G1.mp c45)
              refine qJ.run hκ 5 (pc' := 57) (ls' := [some (qR 39), some (qI mo), some (qI c), some (qI F)]) (st' := [qI F, qR 44, qR 45]) rfl ?_
              refine qJ.ald hκ rfl rfl rfl (by decide) (by omega) ?_
              show qJ YX8_solve κ _ (qLy u, M1, y) 0 0 58 [some (qR 39), some (qI mo), some (qI c), some (qI F)] [qI (M1 44 F.toNat), qR 45]
              refine qJ.run hκ 1 (pc' := 59) (ls' := [some (qR 39), some (qI mo), some (qI c), some (qI F)]) (st' := [qI 1, qI (M1 44 F.toNat), qR 45]) rfl ?_
              refine qJ.ast hκ rfl rfl rfl (by decide) (by omega) ?_
              refine qJ.mc (m1 := (q_up M1 45 ((M1 44 F.toNat).toNat) (q_nar 2 1))) (m2 := (q_up M1 45 ((M1 44 F.toNat).toNat) 1)) (by rw [q_n2 (by omega)]) ?_
              show qJ YX8_solve κ _ (qLy u, (q_up M1 45 ((M1 44 F.toNat).toNat) 1), y) 0 0 60 [some (qR 39), some (qI mo), some (qI c), some (qI F)] []
              have hK2 : keep (kN kS) (q_up M1 45 ((M1 44 F.toNat).toNat) 1) = keep (kN kS) M := Eq.trans (keep_up (by rfl)) v8_0
              have hCI2 : CI m (q_up M1 45 ((M1 44 F.toNat).toNat) 1) nn 10 := CI_c rfl rfl rfl rfl rfl rfl hCI
              have hSV2 : SV m (q_up M1 45 ((M1 44 F.toNat).toNat) 1) nn (t + 1) := SV_one hSV (G1.mp c45) b0d rfl ⟨rfl, rfl⟩ (by rw [q_up_fu, b0e, show ((b0 : Int)).toNat = b0 by omega])
              have hSR2 : setR (q_up M1 45 ((M1 44 F.toNat).toNat) 1) t := hSR
              refine qJ.run hκ 1 (pc' := 61) (ls' := [some (qR 39), some (qI mo), some (qI c), some (qI F)]) (st' := [qR 39]) rfl ?_
              refine qJ.callV (As := []) (rest := []) hκ rfl kX8_93 (c_stepSet2 u (q_up M1 45 ((M1 44 F.toNat).toNat) 1) y t ht hSR2) rfl rfl (by decide) rfl rfl (Nat.le_of_ble_eq_true rfl) (Nat.le_of_ble_eq_true rfl) (Nat.le_of_ble_eq_true rfl) (Or.inl (fun r h' e => by obtain ⟨M3, z3, rfl, rfl, hk3, hst⟩ := e; rfl)) (fun r h' e => ?_)
              obtain ⟨M3, z3, rfl, rfl, hk3, hst⟩ := e
              show qJ YX8_solve κ _ (qLy u, M3, y) 0 0 64 [some (qR 39), some (qI mo), some (qI c), some (qI F)] [qI z3]
              refine qJ.run hκ 3 (pc' := 8) (ls' := [some (qR 39), some (qI z3), some (qI (c + 1)), some (qI F)]) (st' := []) rfl ?_
              refine qJ.dl [true, true, true, false] ?_
              show qJ YX8_solve κ _ (qLy u, M3, y) 0 0 8 [some (qR 39), some (qI z3), some (qI (c + 1)), none] []
              exact ih8  M3 (t + 1) z3 (c + 1) ((keep_48 hk3).trans hK2) (CI_c (congrFun (congrFun hk3 39) 6) (congrFun hk3 40) (congrFun hk3 41) (congrFun hk3 42) (congrFun hk3 43) (congrFun hk3 44) hCI2) (SV_c (congrFun (congrFun hk3 39) 0) (congrFun hk3 45) (congrFun hk3 46) (congrFun hk3 47) hSV2) (by omega) (hst) (by omega)
          · show qJ YX8_solve κ _ (qLy u, M1, y) 0 0 30 [some (qR 39), some (qI mo), some (qI c), some (qI F)] []
            refine qJ.run hκ 1 (pc' := 31) (ls' := [some (qR 39), some (qI mo), some (qI c), some (qI F)]) (st' := [qR 39]) rfl ?_
            refine qJ.callV (As := []) (rest := []) hκ rfl kX8_90 (c_keepSet u M1 y (fun w hw => ⟨by rw [(hSV.2.1 w hw).1]; exact (rmm_r t (by omega)).1, by rw [(hSV.2.1 w hw).2]; exact (rmm_r t (by omega)).2, by rw [setR_w hSR w hw]; exact rt_r ht⟩)) rfl rfl (by decide) rfl rfl (Nat.le_of_ble_eq_true rfl) (Nat.le_of_ble_eq_true rfl) (Nat.le_of_ble_eq_true rfl) (Or.inl (fun r h' e => by obtain ⟨rfl, MK, rfl, hkK, f39, f46, f45, f48, f6, f40, f41, f42, f43, f44⟩ := e; rfl)) (fun r h' e => ?_)
            obtain ⟨rfl, MK, rfl, hkK, f39, f46, f45, f48, f6, f40, f41, f42, f43, f44⟩ := e
            show qJ YX8_solve κ _ (qLy u, MK, y) 0 0 34 [some (qR 39), some (qI mo), some (qI c), some (qI F)] []
            refine qJ.run hκ 1 (pc' := 60) (ls' := [some (qR 39), some (qI mo), some (qI c), some (qI F)]) (st' := []) rfl ?_
            have hK2 : keep (kN kS) MK = keep (kN kS) M := hkK.trans v8_0
            have hCI2 := CI_c f6 f40 f41 f42 f43 f44 hCI
            have hSV2 := SV_keep hSV (F1.mp c27) f39 (fun w hw => by rw [(f46 w hw).1, (f46 w hw).2, setR_w hSR w hw]; exact ⟨rfl, rfl⟩) f45
            have hSR2 : setR MK t := by unfold setR; rw [f48]; exact hSR
            refine qJ.run hκ 1 (pc' := 61) (ls' := [some (qR 39), some (qI mo), some (qI c), some (qI F)]) (st' := [qR 39]) rfl ?_
            refine qJ.callV (As := []) (rest := []) hκ rfl kX8_93 (c_stepSet2 u MK y t ht hSR2) rfl rfl (by decide) rfl rfl (Nat.le_of_ble_eq_true rfl) (Nat.le_of_ble_eq_true rfl) (Nat.le_of_ble_eq_true rfl) (Or.inl (fun r h' e => by obtain ⟨M3, z3, rfl, rfl, hk3, hst⟩ := e; rfl)) (fun r h' e => ?_)
            obtain ⟨M3, z3, rfl, rfl, hk3, hst⟩ := e
            show qJ YX8_solve κ _ (qLy u, M3, y) 0 0 64 [some (qR 39), some (qI mo), some (qI c), some (qI F)] [qI z3]
            refine qJ.run hκ 3 (pc' := 8) (ls' := [some (qR 39), some (qI z3), some (qI (c + 1)), some (qI F)]) (st' := []) rfl ?_
            refine qJ.dl [true, true, true, false] ?_
            show qJ YX8_solve κ _ (qLy u, M3, y) 0 0 8 [some (qR 39), some (qI z3), some (qI (c + 1)), none] []
            exact ih8  M3 (t + 1) z3 (c + 1) ((keep_48 hk3).trans hK2) (CI_c (congrFun (congrFun hk3 39) 6) (congrFun hk3 40) (congrFun hk3 41) (congrFun hk3 42) (congrFun hk3 43) (congrFun hk3 44) hCI2) (SV_c (congrFun (congrFun hk3 39) 0) (congrFun hk3 45) (congrFun hk3 46) (congrFun hk3 47) hSV2) (by omega) (hst) (by omega)
  show qJ YX8_solve κ _ (qLy u, M, y) 0 0 0 [some (qR 39), none, none, none] []
  refine qJ.run hκ 1 (pc' := 1) (ls' := [some (qR 39), none, none, none]) (st' := [qR 39]) rfl ?_
  refine qJ.callV (As := []) (rest := []) hκ rfl kX8_84 (c_startSets u M y) rfl rfl (by decide) rfl rfl (Nat.le_of_ble_eq_true rfl) (Nat.le_of_ble_eq_true rfl) (Nat.le_of_ble_eq_true rfl) (Or.inl (fun r h' e => by obtain ⟨rfl, rfl⟩ := e; rfl)) (fun r h' e => ?_)
  obtain ⟨rfl, rfl⟩ := e
  show qJ YX8_solve κ _ (qLy u, (q_row M 48 (fun k => if k < 3 then 2 else M 48 k)), y) 0 0 4 [some (qR 39), none, none, none] []
  refine qJ.run hκ 4 (pc' := 8) (ls' := [some (qR 39), some (qI 1), some (qI 0), none]) (st' := []) rfl ?_
  exact L8 1332 (q_row M 48 (fun k => if k < 3 then 2 else M 48 k)) 0 1 0 (keep_row (by intro j; rfl)) (CI_c rfl rfl rfl rfl rfl rfl hc) (SV_c rfl rfl rfl rfl hv) (rfl) (Or.inl ⟨rfl, by decide, setR_0 M⟩) (by omega)

def nR (m : qM) : Nat := nD m (gHz m)
theorem xR_of {m : qM} {D : Int} (h : rL m) : xR m (nD m D) := by
  intro a i ha hi hc
  have hl := nD_le m D
  have h0 := h.1.1
  have s := sP_r (m := m) (n := nD m D) (a := (a : Int)) h.1 (by omega) hi (nD m D) (Nat.le_refl _)
  have tl := tL_lt (m := m) (a := (a : Int)) (n := nD m D)
  have tr : -1 ≤ tL m (nD m D) a := (q_lst_r _ _).1
  have hc2 := hc.2
  have hp := lst_p (p := isT m a) (nD m D) hc2
  have hA : lA (m 13 (tL m (nD m D) a).toNat) = a := hp.1
  have rw1 := h.1.2.1 (tL m (nD m D) a) (by omega) (by omega)
  have l9 := rw1.2.2.1 i hi
  have l0 := lC_r (m 13 (tL m (nD m D) a).toNat) i
  have acc := h.2 a (by omega) (by rw [hA] at rw1; exact rw1.2.1.2)
  have n6 := acc.1.1
  have e := (acc.2 D).2.1
  have mn : mN m a D ≤ (m 97 ((a : Int)).toNat).toNat := q_cnt_le _ _
  unfold xE
  omega

set_option maxRecDepth 100000 in
theorem c_sBuild (u : qU) (m y : qM) (hz : Int) (hR : rL m) (hz1 : qr hz) : qCt YX8_build 4 0 0 [qR 39, qR 12, qI hz] (qLy u, m, y) (fun r h => r = none ∧ ∃ M', h = (qLy u, M', y) ∧ keep (kN kS) M' = keep (kN kS) m ∧ CI m M' (nD m hz) 10 ∧ SV m M' (nD m hz) 1331) := by
  refine qCt.intro okX8_build (Nat.le_of_ble_eq_true rfl) (fun κ hκ => ?_)
  have hL := hR.1
  obtain ⟨⟨l0, l1, l2⟩, l3, l4, l5⟩ := hR.1
  have l14 := nD_le m hz
  obtain ⟨nn, hnn⟩ : ∃ nn, nn = nD m hz := ⟨_, rfl⟩
  rw [← hnn] at l14
  have L35 : ∀ (n : Nat) (M1 : qM) (a : Int), (0 ≤ a) → (a ≤ 10) → (keep (kN kS) M1 = keep (kN kS) m) → (CI m M1 nn a.toNat) → (SV m M1 nn 0) → ((10 - a).toNat) < n → qJ YX8_build κ (qFin (fun r h => r = none ∧ ∃ M', h = (qLy u, M', y) ∧ keep (kN kS) M' = keep (kN kS) m ∧ CI m M' (nD m hz) 10 ∧ SV m M' (nD m hz) 1331) 0 0 κ) (qLy u, M1, y) 0 0 35 [some (qR 39), some (qR 12), some (qI hz), some (qI (nn : Int)), some (qI a)] [] := by
    intro n
    induction n with
    | zero => intro M1 a _ _ _ _ _ hz0; omega
    | succ n ih35 =>
      intro M1 a v35_0 v35_1 v35_2 v35_3 v35_4 v35_m
      refine qJ.run hκ 2 (pc' := 39) (ls' := [some (qR 39), some (qR 12), some (qI hz), some (qI (nn : Int)), some (qI a)]) (st' := [qI 10, qI a]) rfl ?_
      refine qJ.icmp_ge hκ (tgt := 95) rfl rfl (by omega) (by omega) (fun c39 => ?_) (fun c39 => ?_)
      · show qJ YX8_build κ _ (qLy u, M1, y) 0 0 95 [some (qR 39), some (qR 12), some (qI hz), some (qI (nn : Int)), some (qI a)] []
        refine qJ.run hκ 1 (pc' := 96) (ls' := [some (qR 39), some (qR 12), some (qI hz), some (qI (nn : Int)), some (qI a)]) (st' := [qR 39]) rfl ?_
        refine qJ.callV (As := []) (rest := []) hκ rfl kX8_64 (c_solve u m M1 y nn (by rw [← show a.toNat = 10 by omega]; exact v35_3) (by rw [hnn]; exact xR_of hR) v35_4) rfl rfl (by decide) rfl rfl (Nat.le_of_ble_eq_true rfl) (Nat.le_of_ble_eq_true rfl) (Nat.le_of_ble_eq_true rfl) (Or.inl (fun r h' e => by obtain ⟨rfl, M2, rfl, hk2, hC2, hV2⟩ := e; rfl)) (fun r h' e => ?_)
        obtain ⟨rfl, M2, rfl, hk2, hC2, hV2⟩ := e
        show qJ YX8_build κ _ (qLy u, M2, y) 0 0 99 [some (qR 39), some (qR 12), some (qI hz), some (qI (nn : Int)), some (qI a)] []
        exact qJ.vret hκ rfl rfl (by decide) (by decide) (⟨rfl, M2, rfl, hk2.trans v35_2, by rw [← hnn]; exact hC2, by rw [← hnn]; exact hV2⟩)
      · show qJ YX8_build κ _ (qLy u, M1, y) 0 0 42 [some (qR 39), some (qR 12), some (qI hz), some (qI (nn : Int)), some (qI a)] []
        have ca := v35_3.2.2 a.toNat (Nat.le_refl _) (by omega)
        have c42 : M1 42 a.toNat = 0 ∨ M1 42 a.toNat = 1 := by rw [ca.1]; split <;> omega
        have c43 : M1 43 a.toNat = 0 ∨ M1 43 a.toNat = 1 := by rw [ca.2.1]; split <;> omega
        have c6 := v35_3.1
        have c7 := q_cnt_le (cA m nn) a.toNat
        refine qJ.run hκ 3 (pc' := 48) (ls' := [some (qR 39), some (qR 12), some (qI hz), some (qI (nn : Int)), some (qI a)]) (st' := [qI a, qR 42]) rfl ?_
        refine qJ.ald hκ rfl rfl rfl (by decide) (by omega) ?_
        show qJ YX8_build κ _ (qLy u, M1, y) 0 0 49 [some (qR 39), some (qR 12), some (qI hz), some (qI (nn : Int)), some (qI a)] [qI (M1 42 a.toNat)]
        refine qJ.if_eq hκ (tgt := 89) rfl rfl (by omega) (fun c49 => ?_) (fun c49 => ?_)
        · show qJ YX8_build κ _ (qLy u, M1, y) 0 0 89 [some (qR 39), some (qR 12), some (qI hz), some (qI (nn : Int)), some (qI a)] []
          refine qJ.run hκ 2 (pc' := 35) (ls' := [some (qR 39), some (qR 12), some (qI hz), some (qI (nn : Int)), some (qI (a + 1))]) (st' := []) rfl ?_
          exact ih35  M1 (a + 1) (by omega) (by omega) (v35_2) (by rw [show (a + 1).toNat = a.toNat + 1 by omega]; exact CI_no v35_3 (fun z => by rw [ca.1, if_neg z.2] at c49; exact absurd c49 (by decide))) (v35_4) (by omega)
        · show qJ YX8_build κ _ (qLy u, M1, y) 0 0 52 [some (qR 39), some (qR 12), some (qI hz), some (qI (nn : Int)), some (qI a)] []
          refine qJ.run hκ 3 (pc' := 58) (ls' := [some (qR 39), some (qR 12), some (qI hz), some (qI (nn : Int)), some (qI a)]) (st' := [qI a, qR 43]) rfl ?_
          refine qJ.ald hκ rfl rfl rfl (by decide) (by omega) ?_
          show qJ YX8_build κ _ (qLy u, M1, y) 0 0 59 [some (qR 39), some (qR 12), some (qI hz), some (qI (nn : Int)), some (qI a)] [qI (M1 43 a.toNat)]
          refine qJ.if_eq hκ (tgt := 89) rfl rfl (by omega) (fun c59 => ?_) (fun c59 => ?_)
          · show qJ YX8_build κ _ (qLy u, M1, y) 0 0 89 [some (qR 39), some (qR 12), some (qI hz), some (qI (nn : Int)), some (qI a)] []
            refine qJ.run hκ 2 (pc' := 35) (ls' := [some (qR 39), some (qR 12), some (qI hz), some (qI (nn : Int)), some (qI (a + 1))]) (st' := []) rfl ?_
            exact ih35  M1 (a + 1) (by omega) (by omega) (v35_2) (by rw [show (a + 1).toNat = a.toNat + 1 by omega]; exact CI_no v35_3 (fun z => by rw [ca.2.1, if_neg z.1] at c59; exact absurd c59 (by decide))) (v35_4) (by omega)
          · show qJ YX8_build κ _ (qLy u, M1, y) 0 0 62 [some (qR 39), some (qR 12), some (qI hz), some (qI (nn : Int)), some (qI a)] []
            refine qJ.run hκ 2 (pc' := 65) (ls' := [some (qR 39), some (qR 12), some (qI hz), some (qI (nn : Int)), some (qI a)]) (st' := [qI a, qR 39]) rfl ?_
            refine qJ.callV (As := [qI a]) (rest := []) hκ rfl kX8_60 ((show qCt YX8_addTotal 1 0 0 [qR 39, qI a] (qLy u, M1, y) (fun r h => r = none ∧ h = (qLy u, q_row M1 40 (fun j => if 4 * a.toNat ≤ j ∧ j < 4 * a.toNat + 4 then M1 40 j + M1 41 j else M1 40 j), y)) from by have h := c_sAdd u M1 y a.toNat (by omega); rw [q_tn v35_0] at h; exact h)) rfl rfl (by decide) rfl rfl (Nat.le_of_ble_eq_true rfl) (Nat.le_of_ble_eq_true rfl) (Nat.le_of_ble_eq_true rfl) (Or.inl (fun r h' e => by obtain ⟨rfl, rfl⟩ := e; rfl)) (fun r h' e => ?_)
            obtain ⟨rfl, rfl⟩ := e
            show qJ YX8_build κ _ (qLy u, (q_row M1 40 (fun j => if 4 * a.toNat ≤ j ∧ j < 4 * a.toNat + 4 then M1 40 j + M1 41 j else M1 40 j)), y) 0 0 68 [some (qR 39), some (qR 12), some (qI hz), some (qI (nn : Int)), some (qI a)] []
            refine qJ.run hκ 5 (pc' := 78) (ls' := [some (qR 39), some (qR 12), some (qI hz), some (qI (nn : Int)), some (qI a)]) (st' := [qI a, qI (M1 39 6), qR 44]) rfl ?_
            refine qJ.ast hκ rfl rfl rfl (by decide) (by omega) ?_
            show qJ YX8_build κ _ (qLy u, (q_up (q_row M1 40 (fun j => if 4 * a.toNat ≤ j ∧ j < 4 * a.toNat + 4 then M1 40 j + M1 41 j else M1 40 j)) 44 ((M1 39 6).toNat) a), y) 0 0 79 [some (qR 39), some (qR 12), some (qI hz), some (qI (nn : Int)), some (qI a)] []
            refine qJ.run hκ 5 (pc' := 86) (ls' := [some (qR 39), some (qR 12), some (qI hz), some (qI (nn : Int)), some (qI a)]) (st' := [qI ((M1 39 6) + 1), qR 39]) rfl ?_
            refine qJ.putI hκ rfl rfl rfl rfl (Or.inl rfl) ?_
            show qJ YX8_build κ _ (qLy u, (q_up (q_up (q_row M1 40 (fun j => if 4 * a.toNat ≤ j ∧ j < 4 * a.toNat + 4 then M1 40 j + M1 41 j else M1 40 j)) 44 ((M1 39 6).toNat) a) 39 6 ((M1 39 6) + 1)), y) 0 0 89 [some (qR 39), some (qR 12), some (qI hz), some (qI (nn : Int)), some (qI a)] []
            refine qJ.run hκ 2 (pc' := 35) (ls' := [some (qR 39), some (qR 12), some (qI hz), some (qI (nn : Int)), some (qI (a + 1))]) (st' := []) rfl ?_
            exact ih35  (q_up (q_up (q_row M1 40 (fun j => if 4 * a.toNat ≤ j ∧ j < 4 * a.toNat + 4 then M1 40 j + M1 41 j else M1 40 j)) 44 ((M1 39 6).toNat) a) 39 6 ((M1 39 6) + 1)) (a + 1) (by omega) (by omega) (Eq.trans (keep_up (by rfl)) (Eq.trans (keep_up (by rfl)) (Eq.trans (keep_row (by intro j; rfl)) v35_2))) (by rw [show (a + 1).toNat = a.toNat + 1 by omega]; exact CI_yes v35_3 ⟨fun z => c59 (by rw [ca.2.1, if_pos z]), fun z => c49 (by rw [ca.1, if_pos z])⟩ (by omega) rfl (by rw [q_tn v35_0]; exact q_up_fu) (fun j => rfl) rfl rfl rfl) (SV_c rfl rfl rfl rfl v35_4) (by omega)
  have L13 : ∀ (n : Nat) (M1 : qM) (i : Int), (0 ≤ i) → (i ≤ (nn : Int)) → (keep (kN kS) M1 = keep (kN kS) m) → (SI m M1 i.toNat) → (SZ M1) → (((nn : Int) - i).toNat) < n → qJ YX8_build κ (qFin (fun r h => r = none ∧ ∃ M', h = (qLy u, M', y) ∧ keep (kN kS) M' = keep (kN kS) m ∧ CI m M' (nD m hz) 10 ∧ SV m M' (nD m hz) 1331) 0 0 κ) (qLy u, M1, y) 0 0 13 [some (qR 39), some (qR 12), some (qI hz), some (qI (nn : Int)), some (qI i)] [] := by
    intro n
    induction n with
    | zero => intro M1 i _ _ _ _ _ hz0; omega
    | succ n ih13 =>
      intro M1 i v13_0 v13_1 v13_2 v13_3 v13_4 v13_m
      refine qJ.run hκ 2 (pc' := 16) (ls' := [some (qR 39), some (qR 12), some (qI hz), some (qI (nn : Int)), some (qI i)]) (st' := [qI (nn : Int), qI i]) rfl ?_
      refine qJ.icmp_ge hκ (tgt := 32) rfl rfl (by omega) (by omega) (fun c16 => ?_) (fun c16 => ?_)
      · show qJ YX8_build κ _ (qLy u, M1, y) 0 0 32 [some (qR 39), some (qR 12), some (qI hz), some (qI (nn : Int)), some (qI i)] []
        refine qJ.run hκ 2 (pc' := 35) (ls' := [some (qR 39), some (qR 12), some (qI hz), some (qI (nn : Int)), some (qI 0)]) (st' := []) rfl ?_
        exact L35 11 M1 0 (by omega) (by omega) (v13_2) (CI_0 (by rw [← show i.toNat = nn by omega]; exact v13_3) v13_4.1.2) (SV_0 v13_4) (by omega)
      · show qJ YX8_build κ _ (qLy u, M1, y) 0 0 19 [some (qR 39), some (qR 12), some (qI hz), some (qI (nn : Int)), some (qI i)] []
        refine qJ.run hκ 3 (pc' := 23) (ls' := [some (qR 39), some (qR 12), some (qI hz), some (qI (nn : Int)), some (qI i)]) (st' := [qI i, qR 12, qR 39]) rfl ?_
        refine qJ.callV (As := [qR 12, qI i]) (rest := []) hκ rfl kX8_56 (c_sTake u m M1 y i hL ⟨by omega, by omega⟩ v13_2 v13_3 v13_4) rfl rfl (by decide) rfl rfl (Nat.le_of_ble_eq_true rfl) (Nat.le_of_ble_eq_true rfl) (Nat.le_of_ble_eq_true rfl) (Or.inl (fun r h' e => by obtain ⟨rfl, M2, rfl, hk2, hS2, hZ2⟩ := e; rfl)) (fun r h' e => ?_)
        obtain ⟨rfl, M2, rfl, hk2, hS2, hZ2⟩ := e
        show qJ YX8_build κ _ (qLy u, M2, y) 0 0 26 [some (qR 39), some (qR 12), some (qI hz), some (qI (nn : Int)), some (qI i)] []
        refine qJ.run hκ 2 (pc' := 13) (ls' := [some (qR 39), some (qR 12), some (qI hz), some (qI (nn : Int)), some (qI (i + 1))]) (st' := []) rfl ?_
        exact ih13  M2 (i + 1) (by omega) (by omega) (hk2.trans v13_2) (by rw [show (i + 1).toNat = i.toNat + 1 by omega]; exact hS2) (hZ2) (by omega)
  show qJ YX8_build κ _ (qLy u, m, y) 0 0 0 [some (qR 39), some (qR 12), some (qI hz), none, none] []
  refine qJ.run hκ 1 (pc' := 1) (ls' := [some (qR 39), some (qR 12), some (qI hz), none, none]) (st' := [qR 39]) rfl ?_
  refine qJ.callV (As := []) (rest := []) hκ rfl kX8_47 (c_sClear u m y m) rfl rfl (by decide) rfl rfl (Nat.le_of_ble_eq_true rfl) (Nat.le_of_ble_eq_true rfl) (Nat.le_of_ble_eq_true rfl) (Or.inl (fun r h' e => by obtain ⟨rfl, M0, rfl, hk0, hS0, hZ0⟩ := e; rfl)) (fun r h' e => ?_)
  obtain ⟨rfl, M0, rfl, hk0, hS0, hZ0⟩ := e
  show qJ YX8_build κ _ (qLy u, M0, y) 0 0 4 [some (qR 39), some (qR 12), some (qI hz), none, none] []
  refine qJ.run hκ 2 (pc' := 6) (ls' := [some (qR 39), some (qR 12), some (qI hz), none, none]) (st' := [qI hz, qR 12]) rfl ?_
  refine qJ.callV (As := [qI hz]) (rest := []) hκ rfl kX8_50 (c_seenRows u M0 y hz (by rw [show M0 12 = m 12 from congrFun hk0 12]; exact l1) hz1) rfl rfl (by decide) rfl rfl (Nat.le_of_ble_eq_true rfl) (Nat.le_of_ble_eq_true rfl) (Nat.le_of_ble_eq_true rfl) (Or.inl (fun r h' e => by obtain ⟨rfl, rfl⟩ := e; rfl)) (fun r h' e => ?_)
  obtain ⟨rfl, rfl⟩ := e
  rw [show q_pfx (fun k => q_shr (M0 13 k) 21) hz (M0 12 1).toNat = nn from by rw [hnn, show M0 12 = m 12 from congrFun hk0 12, show M0 13 = m 13 from congrFun hk0 13]; exact q_pfx_c _ (fun k hk => by have := (l3 (k : Int) (by omega) (by omega)).1; rw [show ((k : Int)).toNat = k by omega] at this; exact row_D this)]
  show qJ YX8_build κ _ (qLy u, M0, y) 0 0 9 [some (qR 39), some (qR 12), some (qI hz), none, none] [qI (nn : Int)]
  refine qJ.run hκ 3 (pc' := 13) (ls' := [some (qR 39), some (qR 12), some (qI hz), some (qI (nn : Int)), some (qI 0)]) (st' := []) rfl ?_
  exact L13 (nn + 1) M0 0 (by omega) (by omega) (hk0) (hS0) (hZ0) (by omega)

/-! printed by p84.py: the class places a word for a name -/
theorem vP_20 {D : qD} {j i : Nat} {f : Nat → Int} {k : Nat} (h : dS D j k = 20) : vP D j i f (k + 1) = vP D j i f k := by
  show (if dS D j k = 20 then _ else _) = _
  rw [if_pos h]
theorem vP_st {D : qD} {j i : Nat} {f : Nat → Int} {k : Nat} (h : ¬ dS D j k = 20) : vP D j i f (k + 1) = q_fu (vP D j i f k) (dS D j k).toNat (dV D i k) := by
  show (if dS D j k = 20 then _ else _) = _
  rw [if_neg h]
theorem vP_hit {D : qD} {j i : Nat} {f : Nat → Int} {t : Nat} : ∀ k, ¬ vP D j i f k t = f t → ∃ a, a < k ∧ ¬ dS D j a = 20 ∧ (dS D j a).toNat = t
  | 0, h => absurd rfl h
  | k + 1, h => by
    by_cases e : dS D j k = 20
    · rw [vP_20 e] at h
      obtain ⟨a, b, c⟩ := vP_hit k h
      exact ⟨a, by omega, c⟩
    · rw [vP_st e] at h
      by_cases g : t = (dS D j k).toNat
      · exact ⟨k, by omega, e, g.symm⟩
      · rw [q_fu_ne g] at h
        obtain ⟨a, b, c⟩ := vP_hit k h
        exact ⟨a, by omega, c⟩
theorem vP_keep {D : qD} {j i : Nat} {f : Nat → Int} {k : Nat} (hc : ∀ a, a < k → cfW D j i f a) {s : Nat} (hs : ¬ f s = -1) : vP D j i f k s = f s := by
  have := vP_up (n := k) hc k 0 (by omega) s hs
  rw [Nat.zero_add] at this
  exact this

theorem kLfPl : ∀ i j, kN kLf i j = true → kN kPl i j = true := by
  intro i j h
  refine kN_t.mpr fun z => kN_t.mp h ?_
  unfold kPl at z
  unfold kLf
  rw [decide_eq_true_eq] at z ⊢
  omega

set_option maxRecDepth 100000 in
theorem c_place (u : qU) (m y : qM) (D : qD) (f : Nat → Int) (Q : Nat → Prop) (l i : Int) (hD : dOk D) (hM : dM D m) (hA : aS D f m) (hU : uM m Q) (hl : 0 ≤ l ∧ l < dN D) (hi : 0 ≤ i ∧ i < dK D) (h7 : ∀ t : Nat, t < 20 → -2 ≤ m 75 t ∧ m 75 t ≤ 27) : qCt YX6_place 3 0 0 [qR 56, qI l, qI i] (qLy u, m, y) (fun r h => ∃ (z : Int) (m' : qM), r = some (qI z) ∧ h = (qLy u, m', y) ∧ keep (kN kLf) m' = keep (kN kLf) m ∧ (∀ t : Nat, t < 20 → m' 75 t = m 75 t ∧ m' 76 t = m 76 t) ∧ ((z = -1 ∧ ¬ (¬ Q i.toNat ∧ fitW D i.toNat l.toNat f) ∧ aS D f m' ∧ uM m' Q) ∨ (∃ b : Nat, z = (b : Int) ∧ b < 1048576 ∧ (¬ Q i.toNat ∧ fitW D i.toNat l.toNat f) ∧ aS D (vP D i.toNat l.toNat f (dL D i.toNat).toNat) m' ∧ uM m' (fun t => Q t ∨ t = i.toNat) ∧ ∀ t : Nat, t < 20 → (pb b t ↔ (f t = -1 ∧ ¬ vP D i.toNat l.toNat f (dL D i.toNat).toNat t = -1))))) := by
  refine qCt.intro okX6_place (Nat.le_of_ble_eq_true rfl) (fun κ hκ => ?_)
  have hM2 := hM
  obtain ⟨K0, hDm2, hDm3⟩ := hM2
  have ki := hDm2 i hi.1 hi.2
  have kl := hDm3 l hl.1 hl.2
  have dl := hD.2.1 i.toNat (by omega)
  have dw := hD.2.2.1 l.toNat (by omega)
  have kb := hD.1
  have hU2 := hU
  obtain ⟨w, w1, w2, w3⟩ := hU2
  have L48 : ∀ (n : Nat) (k : Int) (bd : Int) (b : Nat) (M6 : qM), (0 ≤ k ∧ k ≤ dL D i.toNat) → (keep (kN kPl) M6 = keep (kN kPl) m) → (aS D (vP D i.toNat l.toNat f k.toNat) M6) → (uM M6 (fun t => Q t ∨ t = i.toNat)) → (bd = (b : Int) ∧ b < 1048576) → (∀ t : Nat, t < 20 → (pb b t ↔ (f t = -1 ∧ ¬ vP D i.toNat l.toNat f k.toNat t = -1))) → (∀ j : Nat, j < k.toNat → cfW D i.toNat l.toNat f j) → (dL D i.toNat = dW D l.toNat ∧ ¬ Q i.toNat) → ((dL D i.toNat - k).toNat) < n → qJ YX6_place κ (qFin (fun r h => ∃ (z : Int) (m' : qM), r = some (qI z) ∧ h = (qLy u, m', y) ∧ keep (kN kLf) m' = keep (kN kLf) m ∧ (∀ t : Nat, t < 20 → m' 75 t = m 75 t ∧ m' 76 t = m 76 t) ∧ ((z = -1 ∧ ¬ (¬ Q i.toNat ∧ fitW D i.toNat l.toNat f) ∧ aS D f m' ∧ uM m' Q) ∨ (∃ b : Nat, z = (b : Int) ∧ b < 1048576 ∧ (¬ Q i.toNat ∧ fitW D i.toNat l.toNat f) ∧ aS D (vP D i.toNat l.toNat f (dL D i.toNat).toNat) m' ∧ uM m' (fun t => Q t ∨ t = i.toNat) ∧ ∀ t : Nat, t < 20 → (pb b t ↔ (f t = -1 ∧ ¬ vP D i.toNat l.toNat f (dL D i.toNat).toNat t = -1))))) 0 0 κ) (qLy u, M6, y) 0 0 48 [some (qR 56), some (qI l), some (qI i), some (qI (m 70 i.toNat)), some (qI bd), some (qI k), none, none] [] := by
    intro n
    induction n with
    | zero => intro k bd b M6 _ _ _ _ _ _ _ _ hz0; omega
    | succ n ih48 =>
      intro k bd b M6 v48_0 v48_1 v48_2 v48_3 v48_4 v48_5 v48_6 v48_7 v48_m
      refine qJ.run hκ 2 (pc' := 51) (ls' := [some (qR 56), some (qI l), some (qI i), some (qI (m 70 i.toNat)), some (qI bd), some (qI k), none, none]) (st' := [qI (m 70 i.toNat), qI k]) rfl ?_
      refine qJ.icmp_ge hκ (tgt := 155) rfl rfl (by omega) (by omega) (fun c51 => ?_) (fun c51 => ?_)
      · show qJ YX6_place κ _ (qLy u, M6, y) 0 0 155 [some (qR 56), some (qI l), some (qI i), some (qI (m 70 i.toNat)), some (qI bd), some (qI k), none, none] []
        refine qJ.run hκ 1 (pc' := 157) (ls' := [some (qR 56), some (qI l), some (qI i), some (qI (m 70 i.toNat)), some (qI bd), some (qI k), none, none]) (st' := [qI bd]) rfl ?_
        exact qJ.iret hκ rfl rfl (by decide) (by decide) (by
      have ke : k.toNat = (dL D i.toNat).toNat := by omega
      rw [ke] at v48_2 v48_5 v48_6
      exact ⟨bd, M6, rfl, rfl, keep_of kLfPl v48_1, fun t ht => ⟨congrFun (congrFun v48_1 75) t, congrFun (congrFun v48_1 76) t⟩, Or.inr ⟨b, v48_4.1, v48_4.2, ⟨v48_7.2, v48_7.1, fun j hj => v48_6 j (by omega), v48_2.1.2⟩, v48_2, v48_3, v48_5⟩⟩)
      · show qJ YX6_place κ _ (qLy u, M6, y) 0 0 54 [some (qR 56), some (qI l), some (qI i), some (qI (m 70 i.toNat)), some (qI bd), some (qI k), none, none] []
        refine qJ.run hκ 7 (pc' := 64) (ls' := [some (qR 56), some (qI l), some (qI i), some (qI (m 70 i.toNat)), some (qI bd), some (qI k), none, none]) (st' := [qI ((i * 5) + k), qR 69]) rfl ?_
        refine qJ.ald hκ rfl rfl rfl (by decide) (by omega) ?_
        show qJ YX6_place κ _ (qLy u, M6, y) 0 0 65 [some (qR 56), some (qI l), some (qI i), some (qI (m 70 i.toNat)), some (qI bd), some (qI k), none, none] [qI (M6 69 (((i * 5) + k).toNat))]
        refine qJ.run hκ 8 (pc' := 77) (ls' := [some (qR 56), some (qI l), some (qI i), some (qI (m 70 i.toNat)), some (qI bd), some (qI k), some (qI (M6 69 (((i * 5) + k).toNat))), none]) (st' := [qI ((l * 5) + k), qR 72]) rfl ?_
        refine qJ.ald hκ rfl rfl rfl (by decide) (by omega) ?_
        show qJ YX6_place κ _ (qLy u, M6, y) 0 0 78 [some (qR 56), some (qI l), some (qI i), some (qI (m 70 i.toNat)), some (qI bd), some (qI k), some (qI (M6 69 (((i * 5) + k).toNat))), none] [qI (M6 72 (((l * 5) + k).toNat))]
        refine qJ.run hκ 1 (pc' := 80) (ls' := [some (qR 56), some (qI l), some (qI i), some (qI (m 70 i.toNat)), some (qI bd), some (qI k), some (qI (M6 69 (((i * 5) + k).toNat))), some (qI (M6 72 (((l * 5) + k).toNat)))]) (st' := []) rfl ?_
        have m69 : M6 69 = m 69 := congrFun v48_1 69
        have m72 : M6 72 = m 72 := congrFun v48_1 72
        have sg : M6 69 (i * 5 + k).toNat = dS D i.toNat k.toNat := by rw [m69]; exact ki.2 k v48_0.1 (by omega)
        have vl : M6 72 (l * 5 + k).toNat = dV D l.toNat k.toNat := by rw [m72]; exact kl.2 k v48_0.1 (by omega)
        have sr := dl.2 k.toNat (by omega)
        have vr := dw.2 k.toNat (by omega)
        refine qJ.run hκ 2 (pc' := 84) (ls' := [some (qR 56), some (qI l), some (qI i), some (qI (m 70 i.toNat)), some (qI bd), some (qI k), some (qI (M6 69 (((i * 5) + k).toNat))), some (qI (M6 72 (((l * 5) + k).toNat)))]) (st' := [qI 20, qI (M6 69 (((i * 5) + k).toNat))]) rfl ?_
        refine qJ.icmp_eq hκ (tgt := 149) rfl rfl (by omega) (by omega) (fun c84 => ?_) (fun c84 => ?_)
        · show qJ YX6_place κ _ (qLy u, M6, y) 0 0 149 [some (qR 56), some (qI l), some (qI i), some (qI (m 70 i.toNat)), some (qI bd), some (qI k), some (qI (M6 69 (((i * 5) + k).toNat))), some (qI (M6 72 (((l * 5) + k).toNat)))] []
          refine qJ.run hκ 2 (pc' := 48) (ls' := [some (qR 56), some (qI l), some (qI i), some (qI (m 70 i.toNat)), some (qI bd), some (qI (k + 1)), some (qI (M6 69 (((i * 5) + k).toNat))), some (qI (M6 72 (((l * 5) + k).toNat)))]) (st' := []) rfl ?_
          refine qJ.dl [true, true, true, true, true, true, false, false] ?_
          show qJ YX6_place κ _ (qLy u, M6, y) 0 0 48 [some (qR 56), some (qI l), some (qI i), some (qI (m 70 i.toNat)), some (qI bd), some (qI (k + 1)), none, none] []
          exact ih48  (k + 1) bd b M6 (by omega) (v48_1) (by rw [show (k + 1).toNat = k.toNat + 1 by omega]; rw [(vP_20 (D := D) (j := i.toNat) (i := l.toNat) (f := f) (k := k.toNat) (sg.symm.trans c84))]; exact v48_2) (v48_3) (v48_4) (by rw [show (k + 1).toNat = k.toNat + 1 by omega]; rw [(vP_20 (D := D) (j := i.toNat) (i := l.toNat) (f := f) (k := k.toNat) (sg.symm.trans c84))]; exact v48_5) (fun j hj => by
          by_cases e : j = k.toNat
          · rw [e]; exact Or.inl (sg.symm.trans c84)
          · exact v48_6 j (by omega)) (v48_7) (by omega)
        · show qJ YX6_place κ _ (qLy u, M6, y) 0 0 87 [some (qR 56), some (qI l), some (qI i), some (qI (m 70 i.toNat)), some (qI bd), some (qI k), some (qI (M6 69 (((i * 5) + k).toNat))), some (qI (M6 72 (((l * 5) + k).toNat)))] []
          have s20 : M6 69 (i * 5 + k).toNat < 20 := by omega
          have b60 := (v48_2.1.1 (M6 69 (i * 5 + k).toNat).toNat (by omega)).1
          have b61 := (v48_2.1.1 (M6 69 (i * 5 + k).toNat).toNat (by omega)).2
          refine qJ.run hκ 4 (pc' := 96) (ls' := [some (qR 56), some (qI l), some (qI i), some (qI (m 70 i.toNat)), some (qI bd), some (qI k), some (qI (M6 69 (((i * 5) + k).toNat))), some (qI (M6 72 (((l * 5) + k).toNat)))]) (st' := [qI (M6 69 (((i * 5) + k).toNat)), qR 60]) rfl ?_
          refine qJ.ald hκ rfl rfl rfl (by decide) (by omega) ?_
          show qJ YX6_place κ _ (qLy u, M6, y) 0 0 97 [some (qR 56), some (qI l), some (qI i), some (qI (m 70 i.toNat)), some (qI bd), some (qI k), some (qI (M6 69 (((i * 5) + k).toNat))), some (qI (M6 72 (((l * 5) + k).toNat)))] [qI (M6 60 ((M6 69 (((i * 5) + k).toNat)).toNat))]
          refine qJ.run hκ 1 (pc' := 99) (ls' := [some (qR 56), some (qI l), some (qI i), some (qI (m 70 i.toNat)), some (qI bd), some (qI k), some (qI (M6 69 (((i * 5) + k).toNat))), some (qI (M6 72 (((l * 5) + k).toNat)))]) (st' := [qI (M6 72 (((l * 5) + k).toNat)), qI (M6 60 ((M6 69 (((i * 5) + k).toNat)).toNat))]) rfl ?_
          refine qJ.icmp_ne hκ (tgt := 105) rfl rfl (by omega) (by omega) (fun c99 => ?_) (fun c99 => ?_)
          · show qJ YX6_place κ _ (qLy u, M6, y) 0 0 105 [some (qR 56), some (qI l), some (qI i), some (qI (m 70 i.toNat)), some (qI bd), some (qI k), some (qI (M6 69 (((i * 5) + k).toNat))), some (qI (M6 72 (((l * 5) + k).toNat)))] []
            refine qJ.run hκ 4 (pc' := 113) (ls' := [some (qR 56), some (qI l), some (qI i), some (qI (m 70 i.toNat)), some (qI bd), some (qI k), some (qI (M6 69 (((i * 5) + k).toNat))), some (qI (M6 72 (((l * 5) + k).toNat)))]) (st' := [qI (M6 72 (((l * 5) + k).toNat)), qI (M6 69 (((i * 5) + k).toNat)), qR 59]) rfl ?_
            refine qJ.callV (As := [qI (M6 69 (((i * 5) + k).toNat)), qI (M6 72 (((l * 5) + k).toNat))]) (rest := []) hκ rfl kX6_159 (c_allows u M6 y D (vP D i.toNat l.toNat f k.toNat) (M6 69 (i * 5 + k).toNat) (M6 72 (l * 5 + k).toNat) hD v48_2 (by omega) (by omega)) rfl rfl (by decide) rfl rfl (Nat.le_of_ble_eq_true rfl) (Nat.le_of_ble_eq_true rfl) (Nat.le_of_ble_eq_true rfl) (Or.inl (fun r h' e => by obtain ⟨z113, rfl, B113, rfl⟩ := e; rfl)) (fun r h' e => ?_)
            obtain ⟨z113, rfl, B113, rfl⟩ := e
            show qJ YX6_place κ _ (qLy u, M6, y) 0 0 116 [some (qR 56), some (qI l), some (qI i), some (qI (m 70 i.toNat)), some (qI bd), some (qI k), some (qI (M6 69 (((i * 5) + k).toNat))), some (qI (M6 72 (((l * 5) + k).toNat)))] [qI z113]
            have zr2 : z113 = 0 ∨ z113 = 1 := by omega
            refine qJ.if_ne hκ (tgt := 129) rfl rfl (by omega) (fun c116 => ?_) (fun c116 => ?_)
            · show qJ YX6_place κ _ (qLy u, M6, y) 0 0 129 [some (qR 56), some (qI l), some (qI i), some (qI (m 70 i.toNat)), some (qI bd), some (qI k), some (qI (M6 69 (((i * 5) + k).toNat))), some (qI (M6 72 (((l * 5) + k).toNat)))] []
              have AL : vP D i.toNat l.toNat f k.toNat (M6 69 (i * 5 + k).toNat).toNat = -1 ∧ okV D (q_fu (vP D i.toNat l.toNat f k.toNat) (M6 69 (i * 5 + k).toNat).toNat (M6 72 (l * 5 + k).toNat)) := by rcases B113 with q | q; (exact q.2); (omega)
              obtain ⟨b2, e1, e2, e3⟩ := q_setb (x := b) (c := (M6 69 (i * 5 + k).toNat).toNat) (n := 20) (by omega) (by decide) v48_4.2
              refine qJ.run hκ 4 (pc' := 137) (ls' := [some (qR 56), some (qI l), some (qI i), some (qI (m 70 i.toNat)), some (qI bd), some (qI k), some (qI (M6 69 (((i * 5) + k).toNat))), some (qI (M6 72 (((l * 5) + k).toNat)))]) (st' := [qI (M6 72 (((l * 5) + k).toNat)), qI (M6 69 (((i * 5) + k).toNat)), qR 59]) rfl ?_
              refine qJ.callV (As := [qI (M6 69 (((i * 5) + k).toNat)), qI (M6 72 (((l * 5) + k).toNat))]) (rest := []) hκ rfl kX6_162 (c_bind u M6 y D (vP D i.toNat l.toNat f k.toNat) (M6 69 (i * 5 + k).toNat) (M6 72 (l * 5 + k).toNat) hD v48_2 (by omega) (by omega) AL.1 AL.2) rfl rfl (by decide) rfl rfl (Nat.le_of_ble_eq_true rfl) (Nat.le_of_ble_eq_true rfl) (Nat.le_of_ble_eq_true rfl) (Or.inl (fun r h' e => by obtain ⟨rfl, m3, rfl, N5, N6⟩ := e; rfl)) (fun r h' e => ?_)
              obtain ⟨rfl, m3, rfl, N5, N6⟩ := e
              show qJ YX6_place κ _ (qLy u, m3, y) 0 0 140 [some (qR 56), some (qI l), some (qI i), some (qI (m 70 i.toNat)), some (qI bd), some (qI k), some (qI (M6 69 (((i * 5) + k).toNat))), some (qI (M6 72 (((l * 5) + k).toNat)))] []
              refine qJ.run hκ 8 (pc' := 48) (ls' := [some (qR 56), some (qI l), some (qI i), some (qI (m 70 i.toNat)), some (qI (q_or bd (q_shl 1 (M6 69 (((i * 5) + k).toNat))))), some (qI (k + 1)), some (qI (M6 69 (((i * 5) + k).toNat))), some (qI (M6 72 (((l * 5) + k).toNat)))]) (st' := []) rfl ?_
              refine qJ.dl [true, true, true, true, true, true, false, false] ?_
              show qJ YX6_place κ _ (qLy u, m3, y) 0 0 48 [some (qR 56), some (qI l), some (qI i), some (qI (m 70 i.toNat)), some (qI (q_or bd (q_shl 1 (M6 69 (((i * 5) + k).toNat))))), some (qI (k + 1)), none, none] []
              exact ih48  (k + 1) (q_or bd (q_shl 1 (M6 69 (((i * 5) + k).toNat)))) b2 m3 (by omega) ((keep_of kPlA N5).trans v48_1) (by rw [show (k + 1).toNat = k.toNat + 1 by omega]; rw [vP_st (fun z => c84 (sg.trans z)), ← sg, ← vl]; exact N6) (uM_c v48_3 (congrFun (congrFun N5 56) 15) (fun t _ => Iff.rfl)) (⟨by rw [v48_4.1, ← e1, q_tn (show 0 ≤ M6 69 (i * 5 + k).toNat by omega)], e2⟩) (fun t ht => by
          rw [show (k + 1).toNat = k.toNat + 1 by omega]
          rw [vP_st (fun z => c84 (sg.trans z)), ← sg, ← vl, e3 t, v48_5 t ht]
          by_cases e : t = (M6 69 (i * 5 + k).toNat).toNat
          · rw [e, q_fu_eq]
            refine ⟨fun _ => ⟨?_, by omega⟩, fun _ => Or.inr rfl⟩
            by_cases z : f (M6 69 (i * 5 + k).toNat).toNat = -1
            · exact z
            · exact absurd ((vP_keep v48_6 z).symm.trans AL.1) z
          · rw [q_fu_ne e]
            exact ⟨fun z => z.elim id (fun y => absurd y e), fun z => Or.inl z⟩) (fun j hj => by
          by_cases e : j = k.toNat
          · rw [e]; exact Or.inr (Or.inl (by rw [← sg]; exact AL.1))
          · exact v48_6 j (by omega)) (v48_7) (by omega)
            · show qJ YX6_place κ _ (qLy u, M6, y) 0 0 119 [some (qR 56), some (qI l), some (qI i), some (qI (m 70 i.toNat)), some (qI bd), some (qI k), some (qI (M6 69 (((i * 5) + k).toNat))), some (qI (M6 72 (((l * 5) + k).toNat)))] []
              have NL : ¬ (vP D i.toNat l.toNat f k.toNat (M6 69 (i * 5 + k).toNat).toNat = -1 ∧ okV D (q_fu (vP D i.toNat l.toNat f k.toNat) (M6 69 (i * 5 + k).toNat).toNat (M6 72 (l * 5 + k).toNat))) := by rcases B113 with q | q; (omega); (exact q.2)
              refine qJ.run hκ 4 (pc' := 124) (ls' := [some (qR 56), some (qI l), some (qI i), some (qI (m 70 i.toNat)), some (qI bd), some (qI k), some (qI (M6 69 (((i * 5) + k).toNat))), some (qI (M6 72 (((l * 5) + k).toNat)))]) (st' := [qI 0, qI bd, qI i, qR 56]) rfl ?_
              refine qJ.callV (As := [qI i, qI bd, qI 0]) (rest := []) hκ rfl kX6_134 (c_lift u M6 y D (vP D i.toNat l.toNat f k.toNat) (fun t => Q t ∨ t = i.toNat) b i bd 0 hD (dM_k (keep_of kDP v48_1) hM) v48_2 v48_3 hi v48_4.1 v48_4.2 (by decide) (by rw [show M6 75 = m 75 from congrFun v48_1 75]; exact h7) (fun t ht p => ((v48_5 t ht).mp p).2)) rfl rfl (by decide) rfl rfl (Nat.le_of_ble_eq_true rfl) (Nat.le_of_ble_eq_true rfl) (Nat.le_of_ble_eq_true rfl) (Or.inl (fun r h' e => by obtain ⟨rfl, m2, G, rfl, N1, N2, N3, N4⟩ := e; rfl)) (fun r h' e => ?_)
              obtain ⟨rfl, m2, G, rfl, N1, N2, N3, N4⟩ := e
              show qJ YX6_place κ _ (qLy u, m2, y) 0 0 127 [some (qR 56), some (qI l), some (qI i), some (qI (m 70 i.toNat)), some (qI bd), some (qI k), some (qI (M6 69 (((i * 5) + k).toNat))), some (qI (M6 72 (((l * 5) + k).toNat)))] []
              refine qJ.run hκ 1 (pc' := 128) (ls' := [some (qR 56), some (qI l), some (qI i), some (qI (m 70 i.toNat)), some (qI bd), some (qI k), some (qI (M6 69 (((i * 5) + k).toNat))), some (qI (M6 72 (((l * 5) + k).toNat)))]) (st' := [qI (-1)]) rfl ?_
              exact qJ.iret hκ rfl rfl (by decide) (by decide) (by
      refine ⟨-1, m2, rfl, rfl, N1.trans (keep_of kLfPl v48_1), fun t ht => ?_, Or.inl ⟨rfl, fun z => ?_, aS_c (fun t ht => ?_) N2, uM_c N3 rfl (fun t ht => ?_)⟩⟩
      · have q75 : M6 75 = m 75 := congrFun v48_1 75
        have q76 : M6 76 = m 76 := congrFun v48_1 76
        have a := N4 t ht
        by_cases p : pb b t ∧ hitW D i.toNat (dL D i.toNat) t
        · have a1 := a.1 p
          rw [a1.2.1, a1.2.2, q75, q76]
          exact ⟨by unfold nV; rw [if_pos rfl], by omega⟩
        · have a1 := a.2 p
          rw [a1.2.1, a1.2.2, q75, q76]
          exact ⟨rfl, rfl⟩
      · have kk : (k.toNat : Int) < dL D i.toNat := by omega
        have c := z.2.2.1 k.toNat kk
        have o1 := fitW_ok z.2 (k.toNat + 1) (by omega)
        rw [vP_st (fun y => c84 (sg.trans y)), ← sg, ← vl] at o1
        unfold cfW at c
        rw [← sg, ← vl] at c
        rcases c with c | c | c
        · exact c84 c
        · exact NL ⟨c, o1⟩
        · exact c99 (b60.trans c)
      · have a := N4 t ht
        have v5 := v48_5 t ht
        by_cases e : f t = -1
        · by_cases g : vP D i.toNat l.toNat f k.toNat t = -1
          · exact ((a.2 (fun p => (v5.mp p.1).2 g)).1.trans g).trans e.symm
          · obtain ⟨x, x1, x2, x3⟩ := vP_hit (D := D) (j := i.toNat) (i := l.toNat) (f := f) (t := t) k.toNat (fun y => g (y.trans e))
            have xr := dl.2 x (by omega)
            exact (a.1 ⟨v5.mpr ⟨e, g⟩, x, by omega, by omega⟩).1.trans e.symm
        · rw [(a.2 (fun p => e (v5.mp p.1).1)).1]
          exact vP_keep v48_6 e
      · exact ⟨fun z => z.1.elim id (fun y => absurd y z.2), fun z => ⟨Or.inl z, fun y => v48_7.2 (by rw [← y]; exact z)⟩⟩)
          · show qJ YX6_place κ _ (qLy u, M6, y) 0 0 102 [some (qR 56), some (qI l), some (qI i), some (qI (m 70 i.toNat)), some (qI bd), some (qI k), some (qI (M6 69 (((i * 5) + k).toNat))), some (qI (M6 72 (((l * 5) + k).toNat)))] []
            refine qJ.run hκ 3 (pc' := 48) (ls' := [some (qR 56), some (qI l), some (qI i), some (qI (m 70 i.toNat)), some (qI bd), some (qI (k + 1)), some (qI (M6 69 (((i * 5) + k).toNat))), some (qI (M6 72 (((l * 5) + k).toNat)))]) (st' := []) rfl ?_
            refine qJ.dl [true, true, true, true, true, true, false, false] ?_
            show qJ YX6_place κ _ (qLy u, M6, y) 0 0 48 [some (qR 56), some (qI l), some (qI i), some (qI (m 70 i.toNat)), some (qI bd), some (qI (k + 1)), none, none] []
            exact ih48  (k + 1) bd b M6 (by omega) (v48_1) (by rw [show (k + 1).toNat = k.toNat + 1 by omega]; rw [(show vP D i.toNat l.toNat f (k.toNat + 1) = vP D i.toNat l.toNat f k.toNat from by rw [vP_st (fun z => c84 (sg.trans z)), ← sg, ← vl]; exact fu_self (b60.symm.trans c99))]; exact v48_2) (v48_3) (v48_4) (by rw [show (k + 1).toNat = k.toNat + 1 by omega]; rw [(show vP D i.toNat l.toNat f (k.toNat + 1) = vP D i.toNat l.toNat f k.toNat from by rw [vP_st (fun z => c84 (sg.trans z)), ← sg, ← vl]; exact fu_self (b60.symm.trans c99))]; exact v48_5) (fun j hj => by
          by_cases e : j = k.toNat
          · rw [e]; exact Or.inr (Or.inr (by rw [← sg, ← vl]; exact b60.symm.trans c99))
          · exact v48_6 j (by omega)) (v48_7) (by omega)
  show qJ YX6_place κ _ (qLy u, m, y) 0 0 0 [some (qR 56), some (qI l), some (qI i), none, none, none, none, none] []
  refine qJ.run hκ 3 (pc' := 5) (ls' := [some (qR 56), some (qI l), some (qI i), none, none, none, none, none]) (st' := [qI i, qR 70]) rfl ?_
  refine qJ.ald hκ rfl rfl rfl (by decide) (by omega) ?_
  show qJ YX6_place κ _ (qLy u, m, y) 0 0 6 [some (qR 56), some (qI l), some (qI i), none, none, none, none, none] [qI (m 70 i.toNat)]
  refine qJ.run hκ 5 (pc' := 13) (ls' := [some (qR 56), some (qI l), some (qI i), some (qI (m 70 i.toNat)), none, none, none, none]) (st' := [qI l, qR 73, qI (m 70 i.toNat)]) rfl ?_
  refine qJ.ald hκ rfl rfl rfl (by decide) (by omega) ?_
  show qJ YX6_place κ _ (qLy u, m, y) 0 0 14 [some (qR 56), some (qI l), some (qI i), some (qI (m 70 i.toNat)), none, none, none, none] [qI (m 73 l.toNat), qI (m 70 i.toNat)]
  refine qJ.icmp_ne hκ (tgt := 28) rfl rfl (by omega) (by omega) (fun c14 => ?_) (fun c14 => ?_)
  · show qJ YX6_place κ _ (qLy u, m, y) 0 0 28 [some (qR 56), some (qI l), some (qI i), some (qI (m 70 i.toNat)), none, none, none, none] []
    refine qJ.run hκ 1 (pc' := 29) (ls' := [some (qR 56), some (qI l), some (qI i), some (qI (m 70 i.toNat)), none, none, none, none]) (st' := [qI (-1)]) rfl ?_
    exact qJ.iret hκ rfl rfl (by decide) (by decide) (⟨-1, m, rfl, rfl, rfl, fun t ht => ⟨rfl, rfl⟩, Or.inl ⟨rfl, fun z => by first | exact absurd (ki.1.trans (z.2.1.trans kl.1.symm)) c14 | (rcases B22 with q | q; (exact z.1 ((w3 i.toNat (by omega)).mp q.2)); omega), hA, hU⟩⟩)
  · show qJ YX6_place κ _ (qLy u, m, y) 0 0 17 [some (qR 56), some (qI l), some (qI i), some (qI (m 70 i.toNat)), none, none, none, none] []
    refine qJ.run hκ 3 (pc' := 22) (ls' := [some (qR 56), some (qI l), some (qI i), some (qI (m 70 i.toNat)), none, none, none, none]) (st' := [qI i, qI (m 56 15)]) rfl ?_
    refine qJ.callSN (As := [qI (m 56 15), qI i]) (rest := []) hκ rfl kX6_155 (c_inM u m y (m 56 15) i w w1 (by omega) (by omega)) (by decide) rfl rfl (Nat.le_of_ble_eq_true rfl) (Nat.le_of_ble_eq_true rfl) (Nat.le_of_ble_eq_true rfl) (Or.inl (fun r h' e => by obtain ⟨z22, rfl, B22, rfl⟩ := e; rfl)) (fun r h' e => ?_)
    obtain ⟨z22, rfl, B22, rfl⟩ := e
    show qJ YX6_place κ _ (qLy u, m, y) 0 0 25 [some (qR 56), some (qI l), some (qI i), some (qI (m 70 i.toNat)), none, none, none, none] [qI z22]
    have zr : z22 = 0 ∨ z22 = 1 := by omega
    refine qJ.if_eq hκ (tgt := 30) rfl rfl (by omega) (fun c25 => ?_) (fun c25 => ?_)
    · show qJ YX6_place κ _ (qLy u, m, y) 0 0 30 [some (qR 56), some (qI l), some (qI i), some (qI (m 70 i.toNat)), none, none, none, none] []
      have nq : ¬ Q i.toNat := fun z => by rcases B22 with q | q; (omega); (exact q.2 ((w3 i.toNat (by omega)).mpr z))
      refine qJ.run hκ 7 (pc' := 39) (ls' := [some (qR 56), some (qI l), some (qI i), some (qI (m 70 i.toNat)), none, none, none, none]) (st' := [qI (q_or (m 56 15) (q_shl 1 i)), qR 56]) rfl ?_
      refine qJ.putI hκ rfl rfl rfl rfl (Or.inl rfl) ?_
      show qJ YX6_place κ _ (qLy u, (q_up m 56 15 (q_or (m 56 15) (q_shl 1 i))), y) 0 0 42 [some (qR 56), some (qI l), some (qI i), some (qI (m 70 i.toNat)), none, none, none, none] []
      refine qJ.run hκ 4 (pc' := 48) (ls' := [some (qR 56), some (qI l), some (qI i), some (qI (m 70 i.toNat)), some (qI 0), some (qI 0), none, none]) (st' := []) rfl ?_
      exact L48 6 0 0 0 (q_up m 56 15 (q_or (m 56 15) (q_shl 1 i))) (⟨Int.le_refl 0, by omega⟩) (keep_up (by rfl)) (hA) (uM_set hU (by omega) rfl) (⟨rfl, by decide⟩) (fun t ht => ⟨fun z => by have z2 : 0 / 2 ^ t % 2 = 1 := z; rw [Nat.zero_div] at z2; exact absurd z2 (by decide), fun z => absurd z.1 z.2⟩) (fun j hj => absurd hj (Nat.not_lt_zero j)) (⟨by omega, nq⟩) (by omega)
    · show qJ YX6_place κ _ (qLy u, m, y) 0 0 28 [some (qR 56), some (qI l), some (qI i), some (qI (m 70 i.toNat)), none, none, none, none] []
      refine qJ.run hκ 1 (pc' := 29) (ls' := [some (qR 56), some (qI l), some (qI i), some (qI (m 70 i.toNat)), none, none, none, none]) (st' := [qI (-1)]) rfl ?_
      exact qJ.iret hκ rfl rfl (by decide) (by decide) (⟨-1, m, rfl, rfl, rfl, fun t ht => ⟨rfl, rfl⟩, Or.inl ⟨rfl, fun z => by first | exact absurd (ki.1.trans (z.2.1.trans kl.1.symm)) c14 | (rcases B22 with q | q; (exact z.1 ((w3 i.toNat (by omega)).mp q.2)); omega), hA, hU⟩⟩)

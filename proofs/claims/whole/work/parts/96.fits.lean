/-! printed by p96.py: the model tries a word for a name -/
/-- the model's rows of readings hold the canon's -/
def mR (m M : qM) : Prop := keep kObs M = keep kObs m ∧ (M 77 54 = (nS m : Int) ∧ M 77 56 = (nC m : Int)) ∧ ((∀ e : Nat, e < nS m → M 119 e = sN m e) ∧ ∀ j : Nat, j < nC m → M 120 j = cW m j) ∧ (∀ e : Nat, e < nS m → M 118 (sN m e).toNat = (vL m (sN m e) : Int) ∧ ∀ k : Int, 0 ≤ k → k < (vL m (sN m e) : Int) → M 117 (10 * sN m e + k).toNat = sv m (sN m e) k) ∧ ∀ s : Nat, s < 20 → M 110 s = gF m (-1) (-1) (nT m) s ∧ M 111 s = gK m (-1) (-1) (nT m) s
def kMr : Nat → Nat → Bool := fun i j => decide (¬ (i = 77 ∧ ¬ (j = 54 ∨ j = 56)) ∧ ¬ (107 ≤ i ∧ i ≤ 109) ∧ ¬ (112 ≤ i ∧ i ≤ 116) ∧ ¬ (121 ≤ i ∧ i ≤ 123))
theorem kMrO : ∀ i j, kObs i j = true → kMr i j = true := by
  intro i j h
  unfold kObs at h
  unfold kMr
  rw [decide_eq_true_eq] at h ⊢
  omega
theorem mR_k {m M M' : qM} (h : keep kMr M' = keep kMr M) (hm : mR m M) : mR m M' := by
  obtain ⟨a, b, c, d, e⟩ := hm
  refine ⟨(keep_of kMrO h).trans a, ?_, ?_, ?_, ?_⟩
  · rw [show M' 77 54 = M 77 54 from congrFun (congrFun h 77) 54, show M' 77 56 = M 77 56 from congrFun (congrFun h 77) 56]; exact b
  · rw [show M' 119 = M 119 from congrFun h 119, show M' 120 = M 120 from congrFun h 120]; exact c
  · rw [show M' 118 = M 118 from congrFun h 118, show M' 117 = M 117 from congrFun h 117]; exact d
  · rw [show M' 110 = M 110 from congrFun h 110, show M' 111 = M 111 from congrFun h 111]; exact e
theorem okV_of {D : qD} {f g : Nat → Int} (hg : ∀ s : Nat, s < 20 → g s = f s) (h : ∀ a b : Nat, a < 20 → b < a → ¬ g a = -1 → ¬ g b = -1 → okP D g a b) : okV D f := by
  intro a b ha hb hab fa fb
  have k : ∀ a b : Nat, a < 20 → b < a → ¬ f a = -1 → ¬ f b = -1 → okP D f a b := by
    intro a b ha hb fa fb
    have := h a b ha hb (by rw [hg a ha]; exact fa) (by rw [hg b (by omega)]; exact fb)
    unfold okP at this ⊢
    rw [hg a ha, hg b (by omega)] at this
    exact this
  by_cases c : b < a
  · exact k a b ha c fa fb
  · exact okP_s (k b a hb (by omega) fb fa)

theorem vP_b {D : qD} (hD : dOk D) {j i : Nat} {f : Nat → Int} (hf : ∀ t : Nat, t < 20 → -1 ≤ f t ∧ f t ≤ 27) (hj : (j : Int) < dK D) (hi : (i : Int) < dN D) : ∀ k : Nat, (k : Int) ≤ dL D j → (k : Int) ≤ dW D i → ∀ t : Nat, t < 20 → -1 ≤ vP D j i f k t ∧ vP D j i f k t ≤ 27
  | 0, _, _ => hf
  | k + 1, h1, h2 => by
    intro t ht
    have ih := vP_b hD hf hj hi k (by omega) (by omega) t ht
    by_cases e : dS D j k = 20
    · rw [vP_20 e]; exact ih
    · rw [vP_st e]
      by_cases g : t = (dS D j k).toNat
      · rw [g, q_fu_eq]
        have := (hD.2.2.1 i hi).2 k (by omega)
        omega
      · rw [q_fu_ne g]; exact ih
theorem vP_bw {D : qD} (hD : dOk D) {j i : Nat} {f : Nat → Int} (hf : ∀ t : Nat, t < 20 → -1 ≤ f t ∧ f t ≤ 27) (hi : (i : Int) < dN D) : ∀ k : Nat, (k : Int) ≤ dW D i → ∀ t : Nat, t < 20 → -1 ≤ vP D j i f k t ∧ vP D j i f k t ≤ 27
  | 0, _ => hf
  | k + 1, h2 => by
    intro t ht
    have ih := vP_bw (j := j) hD hf hi k (by omega) t ht
    by_cases e : dS D j k = 20
    · rw [vP_20 e]; exact ih
    · rw [vP_st e]
      by_cases g : t = (dS D j k).toNat
      · rw [g, q_fu_eq]
        have := (hD.2.2.1 i hi).2 k (by omega)
        omega
      · rw [q_fu_ne g]; exact ih
theorem VM_b {D : qD} (hD : dOk D) {ch : Nat → Int} : ∀ l : Nat, (l : Int) ≤ dN D → (∀ e : Nat, e < l → 0 ≤ ch e ∧ ch e < dK D) → ∀ t : Nat, t < 20 → -1 ≤ VM D ch l t ∧ VM D ch l t ≤ 27
  | 0, _, _ => fun t _ => by show (-1 : Int) ≤ -1 ∧ (-1 : Int) ≤ 27; omega
  | l + 1, h, hc => by
    have ih := VM_b hD l (by omega) (fun e he => hc e (by omega))
    have w := (hD.2.2.1 l (by omega)).1
    exact vP_bw hD ih (by omega) (dW D l).toNat (by omega)

set_option maxRecDepth 100000 in
theorem m_fitR (u : qU) (m M y : qM) (ch : Nat → Int) (p : Int) (hR : rC m) (hX : rXn m) (hs : lxS m) (hD : dOk (DD m)) (hm : mR m M) (hp : M 77 61 = p ∧ 0 ≤ p ∧ p < (nS m : Int)) (hch : ∀ e : Nat, (e : Int) ≤ p → M 121 e = ch e ∧ 0 ≤ ch e ∧ (ch e).toNat < nC m) (hpre : ∀ e : Nat, (e : Int) < p → ftL (DD m) ch e) : qCt YX12_fitsSoFar 2 0 0 [qR 77] (qLy u, M, y) (fun r h => ∃ (z : Int) (g : Nat → Int), r = some (qI z) ∧ h = (qLy u, q_row M 122 g, y) ∧ ((z = 1 ∧ ftL (DD m) ch p.toNat ∧ ∀ s : Nat, s < 20 → g s = VM (DD m) ch (p.toNat + 1) s) ∨ (z = 0 ∧ ¬ ftL (DD m) ch p.toNat))) := by
  refine qCt.intro okX12_fitsSoFar (Nat.le_of_ble_eq_true rfl) (fun κ hκ => ?_)
  have hO := hm.1
  have k88 : M 88 = m 88 := congrFun hO 88
  have k87 : M 87 = m 87 := congrFun hO 87
  have nl := nW_le hR.1
  have ns5 := nS_le m
  have nc := nC_le hR
  have a20 := hR.1.1.1
  have L202 : ∀ (n : Nat) (a : Int) (g : Nat → Int), (0 ≤ a ∧ a ≤ 20) → (∀ s : Nat, s < 20 → g s = VM (DD m) ch (p.toNat + 1) s) → ((∀ e : Nat, (e : Int) < p → ¬ ch e = ch p.toNat) ∧ dL (DD m) (ch p.toNat).toNat = dW (DD m) p.toNat ∧ ∀ k : Nat, (k : Int) < dL (DD m) (ch p.toNat).toNat → cfW (DD m) (ch p.toNat).toNat p.toNat (VM (DD m) ch p.toNat) k) → (∀ x z : Nat, (x : Int) < a → z < x → ¬ g x = -1 → ¬ g z = -1 → okP (DD m) g x z) → ((20 - a).toNat) < n → qJ YX12_fitsSoFar κ (qFin (fun r h => ∃ (z : Int) (g : Nat → Int), r = some (qI z) ∧ h = (qLy u, q_row M 122 g, y) ∧ ((z = 1 ∧ ftL (DD m) ch p.toNat ∧ ∀ s : Nat, s < 20 → g s = VM (DD m) ch (p.toNat + 1) s) ∨ (z = 0 ∧ ¬ ftL (DD m) ch p.toNat))) 0 0 κ) (qLy u, (q_row M 122 g), y) 0 0 202 [some (qR 77), some (qI a), none, none, none, none, none] [] := by
    intro n
    induction n with
    | zero => intro a g _ _ _ _ hz0; omega
    | succ n ih202 =>
      intro a g v202_0 v202_1 v202_2 v202_3 v202_m
      have L210 : ∀ (n : Nat) (b : Int), (0 ≤ b ∧ b ≤ a) → (∀ z : Nat, (z : Int) < b → ¬ g a.toNat = -1 → ¬ g z = -1 → okP (DD m) g a.toNat z) → (a < 20) → ((a - b).toNat) < n → qJ YX12_fitsSoFar κ (qFin (fun r h => ∃ (z : Int) (g : Nat → Int), r = some (qI z) ∧ h = (qLy u, q_row M 122 g, y) ∧ ((z = 1 ∧ ftL (DD m) ch p.toNat ∧ ∀ s : Nat, s < 20 → g s = VM (DD m) ch (p.toNat + 1) s) ∨ (z = 0 ∧ ¬ ftL (DD m) ch p.toNat))) 0 0 κ) (qLy u, (q_row M 122 g), y) 0 0 210 [some (qR 77), some (qI a), some (qI b), none, none, none, none] [] := by
        intro n
        induction n with
        | zero => intro b _ _ _ hz0; omega
        | succ n ih210 =>
          intro b v210_0 v210_1 v210_2 v210_m
          have ga : ∀ s : Nat, s < 20 → -1 ≤ g s ∧ g s ≤ 27 := fun s hs2 => by rw [v202_1 s hs2]; exact VM_b hD (p.toNat + 1) (by show _ ≤ (nS m : Int); omega) (fun e he => by have := (hch e (by omega)); exact ⟨this.2.1, by show ch e < (nC m : Int); omega⟩) s hs2
          have ga1 := ga a.toNat (by omega)
          refine qJ.run hκ 2 (pc' := 212) (ls' := [some (qR 77), some (qI a), some (qI b), none, none, none, none]) (st' := [qI a, qI b]) rfl ?_
          refine qJ.icmp_ge hκ (tgt := 308) rfl rfl (by omega) (by omega) (fun c212 => ?_) (fun c212 => ?_)
          · show qJ YX12_fitsSoFar κ _ (qLy u, (q_row M 122 g), y) 0 0 308 [some (qR 77), some (qI a), some (qI b), none, none, none, none] []
            refine qJ.run hκ 2 (pc' := 202) (ls' := [some (qR 77), some (qI (a + 1)), some (qI b), none, none, none, none]) (st' := []) rfl ?_
            refine qJ.dl [true, true, false, false, false, false, false] ?_
            show qJ YX12_fitsSoFar κ _ (qLy u, (q_row M 122 g), y) 0 0 202 [some (qR 77), some (qI (a + 1)), none, none, none, none, none] []
            exact ih202  (a + 1) g (by omega) (v202_1) (v202_2) (fun x z hx hz gx gz => by
          by_cases e : x = a.toNat
          · subst e; exact v210_1 z (by omega) gx gz
          · exact v202_3 x z (by omega) hz gx gz) (by omega)
          · show qJ YX12_fitsSoFar κ _ (qLy u, (q_row M 122 g), y) 0 0 215 [some (qR 77), some (qI a), some (qI b), none, none, none, none] []
            have gb1 := ga b.toNat (by omega)
            have r1 := hm.2.2.2.2 a.toNat (by omega)
            have r2 := hm.2.2.2.2 b.toNat (by omega)
            have q1 := hD.2.2.2 a.toNat (by omega)
            have q2 := hD.2.2.2 b.toNat (by omega)
            have er : M 110 a.toNat = M 110 b.toNat ↔ dR (DD m) a.toNat = dR (DD m) b.toNat := by rw [r1.1, r2.1]; exact Iff.rfl
            have ec : M 111 a.toNat = M 111 b.toNat ↔ dC (DD m) a.toNat = dC (DD m) b.toNat := by rw [r1.2, r2.2]; exact Iff.rfl
            have z1 : qr (M 110 a.toNat) := by rw [r1.1]; have : 0 ≤ gF m (-1) (-1) (nT m) a.toNat ∧ gF m (-1) (-1) (nT m) a.toNat ≤ 19 := q1.1; omega
            have z2 : qr (M 110 b.toNat) := by rw [r2.1]; have : 0 ≤ gF m (-1) (-1) (nT m) b.toNat ∧ gF m (-1) (-1) (nT m) b.toNat ≤ 19 := q2.1; omega
            have z3 : qr (M 111 a.toNat) := by rw [r1.2]; have : 0 ≤ gK m (-1) (-1) (nT m) a.toNat ∧ gK m (-1) (-1) (nT m) a.toNat ≤ 19 := q1.2; omega
            have z4 : qr (M 111 b.toNat) := by rw [r2.2]; have : 0 ≤ gK m (-1) (-1) (nT m) b.toNat ∧ gK m (-1) (-1) (nT m) b.toNat ≤ 19 := q2.2; omega
            have d1 := q_div_r (g a.toNat) 4
            have d2 := q_div_r (g b.toNat) 4
            have d3 := q_rem_r (g a.toNat) 4
            have d4 := q_rem_r (g b.toNat) 4
            have nab : ¬ a.toNat = b.toNat := by omega
            refine qJ.run hκ 3 (pc' := 220) (ls' := [some (qR 77), some (qI a), some (qI b), none, none, none, none]) (st' := [qI a, qR 122]) rfl ?_
            refine qJ.ald hκ rfl rfl rfl (by decide) (by omega) ?_
            show qJ YX12_fitsSoFar κ _ (qLy u, (q_row M 122 g), y) 0 0 221 [some (qR 77), some (qI a), some (qI b), none, none, none, none] [qI (g a.toNat)]
            refine qJ.run hκ 4 (pc' := 227) (ls' := [some (qR 77), some (qI a), some (qI b), some (qI (g a.toNat)), none, none, none]) (st' := [qI b, qR 122]) rfl ?_
            refine qJ.ald hκ rfl rfl rfl (by decide) (by omega) ?_
            show qJ YX12_fitsSoFar κ _ (qLy u, (q_row M 122 g), y) 0 0 228 [some (qR 77), some (qI a), some (qI b), some (qI (g a.toNat)), none, none, none] [qI (g b.toNat)]
            refine qJ.run hκ 3 (pc' := 232) (ls' := [some (qR 77), some (qI a), some (qI b), some (qI (g a.toNat)), some (qI (g b.toNat)), none, none]) (st' := [qI (-1), qI (g a.toNat)]) rfl ?_
            refine qJ.icmp_eq hκ (tgt := 302) rfl rfl (by omega) (by omega) (fun c232 => ?_) (fun c232 => ?_)
            · show qJ YX12_fitsSoFar κ _ (qLy u, (q_row M 122 g), y) 0 0 302 [some (qR 77), some (qI a), some (qI b), some (qI (g a.toNat)), some (qI (g b.toNat)), none, none] []
              refine qJ.run hκ 2 (pc' := 210) (ls' := [some (qR 77), some (qI a), some (qI (b + 1)), some (qI (g a.toNat)), some (qI (g b.toNat)), none, none]) (st' := []) rfl ?_
              refine qJ.dl [true, true, true, false, false, false, false] ?_
              show qJ YX12_fitsSoFar κ _ (qLy u, (q_row M 122 g), y) 0 0 210 [some (qR 77), some (qI a), some (qI (b + 1)), none, none, none, none] []
              exact ih210  (b + 1) (by omega) (fun z hz ga gz => by
          by_cases e : (z : Int) = b
          · have ez : z = b.toNat := by omega
            subst ez
            exact absurd c232 ga
          · exact v210_1 z (by omega) ga gz) (v210_2) (by omega)
            · show qJ YX12_fitsSoFar κ _ (qLy u, (q_row M 122 g), y) 0 0 235 [some (qR 77), some (qI a), some (qI b), some (qI (g a.toNat)), some (qI (g b.toNat)), none, none] []
              refine qJ.run hκ 2 (pc' := 238) (ls' := [some (qR 77), some (qI a), some (qI b), some (qI (g a.toNat)), some (qI (g b.toNat)), none, none]) (st' := [qI (-1), qI (g b.toNat)]) rfl ?_
              refine qJ.icmp_ne hκ (tgt := 244) rfl rfl (by omega) (by omega) (fun c238 => ?_) (fun c238 => ?_)
              · show qJ YX12_fitsSoFar κ _ (qLy u, (q_row M 122 g), y) 0 0 244 [some (qR 77), some (qI a), some (qI b), some (qI (g a.toNat)), some (qI (g b.toNat)), none, none] []
                refine qJ.run hκ 2 (pc' := 247) (ls' := [some (qR 77), some (qI a), some (qI b), some (qI (g a.toNat)), some (qI (g b.toNat)), none, none]) (st' := [qI (g b.toNat), qI (g a.toNat)]) rfl ?_
                refine qJ.icmp_eq hκ (tgt := 300) rfl rfl (by omega) (by omega) (fun c247 => ?_) (fun c247 => ?_)
                · show qJ YX12_fitsSoFar κ _ (qLy u, (q_row M 122 g), y) 0 0 300 [some (qR 77), some (qI a), some (qI b), some (qI (g a.toNat)), some (qI (g b.toNat)), none, none] []
                  refine qJ.run hκ 1 (pc' := 301) (ls' := [some (qR 77), some (qI a), some (qI b), some (qI (g a.toNat)), some (qI (g b.toNat)), none, none]) (st' := [qI 0]) rfl ?_
                  exact qJ.bret hκ rfl rfl (by omega) (by decide) (by decide) (by
      refine ⟨0, g, rfl, rfl, Or.inr ⟨rfl, fun zz => ?_⟩⟩
      have ok := zz.2.2.2
      rw [zz.2.1] at ok
      have o2 : okV (DD m) (VM (DD m) ch (p.toNat + 1)) := ok
      have o3 := o2 a.toNat b.toNat (by omega) (by omega) nab (by rw [← v202_1 _ (by omega)]; exact c232) (by rw [← v202_1 _ (by omega)]; exact c238)
      unfold okP at o3
      rw [← v202_1 _ (by omega), ← v202_1 _ (by omega)] at o3
      first
      | exact o3.1 c247
      | exact c272 (o3.2.1 (er.mp c262))
      | exact c297 (o3.2.2 (ec.mp c287)))
                · show qJ YX12_fitsSoFar κ _ (qLy u, (q_row M 122 g), y) 0 0 250 [some (qR 77), some (qI a), some (qI b), some (qI (g a.toNat)), some (qI (g b.toNat)), none, none] []
                  refine qJ.run hκ 3 (pc' := 255) (ls' := [some (qR 77), some (qI a), some (qI b), some (qI (g a.toNat)), some (qI (g b.toNat)), none, none]) (st' := [qI a, qR 110]) rfl ?_
                  refine qJ.ald hκ rfl rfl rfl (by decide) (by omega) ?_
                  show qJ YX12_fitsSoFar κ _ (qLy u, (q_row M 122 g), y) 0 0 256 [some (qR 77), some (qI a), some (qI b), some (qI (g a.toNat)), some (qI (g b.toNat)), none, none] [qI (M 110 a.toNat)]
                  refine qJ.run hκ 3 (pc' := 261) (ls' := [some (qR 77), some (qI a), some (qI b), some (qI (g a.toNat)), some (qI (g b.toNat)), none, none]) (st' := [qI b, qR 110, qI (M 110 a.toNat)]) rfl ?_
                  refine qJ.ald hκ rfl rfl rfl (by decide) (by omega) ?_
                  show qJ YX12_fitsSoFar κ _ (qLy u, (q_row M 122 g), y) 0 0 262 [some (qR 77), some (qI a), some (qI b), some (qI (g a.toNat)), some (qI (g b.toNat)), none, none] [qI (M 110 b.toNat), qI (M 110 a.toNat)]
                  refine qJ.icmp_ne hκ (tgt := 275) rfl rfl (by omega) (by omega) (fun c262 => ?_) (fun c262 => ?_)
                  · show qJ YX12_fitsSoFar κ _ (qLy u, (q_row M 122 g), y) 0 0 275 [some (qR 77), some (qI a), some (qI b), some (qI (g a.toNat)), some (qI (g b.toNat)), none, none] []
                    refine qJ.run hκ 3 (pc' := 280) (ls' := [some (qR 77), some (qI a), some (qI b), some (qI (g a.toNat)), some (qI (g b.toNat)), none, none]) (st' := [qI a, qR 111]) rfl ?_
                    refine qJ.ald hκ rfl rfl rfl (by decide) (by omega) ?_
                    show qJ YX12_fitsSoFar κ _ (qLy u, (q_row M 122 g), y) 0 0 281 [some (qR 77), some (qI a), some (qI b), some (qI (g a.toNat)), some (qI (g b.toNat)), none, none] [qI (M 111 a.toNat)]
                    refine qJ.run hκ 3 (pc' := 286) (ls' := [some (qR 77), some (qI a), some (qI b), some (qI (g a.toNat)), some (qI (g b.toNat)), none, none]) (st' := [qI b, qR 111, qI (M 111 a.toNat)]) rfl ?_
                    refine qJ.ald hκ rfl rfl rfl (by decide) (by omega) ?_
                    show qJ YX12_fitsSoFar κ _ (qLy u, (q_row M 122 g), y) 0 0 287 [some (qR 77), some (qI a), some (qI b), some (qI (g a.toNat)), some (qI (g b.toNat)), none, none] [qI (M 111 b.toNat), qI (M 111 a.toNat)]
                    refine qJ.icmp_ne hκ (tgt := 302) rfl rfl (by omega) (by omega) (fun c287 => ?_) (fun c287 => ?_)
                    · show qJ YX12_fitsSoFar κ _ (qLy u, (q_row M 122 g), y) 0 0 302 [some (qR 77), some (qI a), some (qI b), some (qI (g a.toNat)), some (qI (g b.toNat)), none, none] []
                      refine qJ.run hκ 2 (pc' := 210) (ls' := [some (qR 77), some (qI a), some (qI (b + 1)), some (qI (g a.toNat)), some (qI (g b.toNat)), none, none]) (st' := []) rfl ?_
                      refine qJ.dl [true, true, true, false, false, false, false] ?_
                      show qJ YX12_fitsSoFar κ _ (qLy u, (q_row M 122 g), y) 0 0 210 [some (qR 77), some (qI a), some (qI (b + 1)), none, none, none, none] []
                      exact ih210  (b + 1) (by omega) (fun z hz ga gz => by
          by_cases e : (z : Int) = b
          · have ez : z = b.toNat := by omega
            subst ez
            exact ⟨c247, fun q => by first | exact absurd (er.mpr q) c262 | exact c272, fun q => absurd (ec.mpr q) c287⟩
          · exact v210_1 z (by omega) ga gz) (v210_2) (by omega)
                    · show qJ YX12_fitsSoFar κ _ (qLy u, (q_row M 122 g), y) 0 0 290 [some (qR 77), some (qI a), some (qI b), some (qI (g a.toNat)), some (qI (g b.toNat)), none, none] []
                      refine qJ.run hκ 6 (pc' := 297) (ls' := [some (qR 77), some (qI a), some (qI b), some (qI (g a.toNat)), some (qI (g b.toNat)), none, none]) (st' := [qI (q_rem (g b.toNat) 4), qI (q_rem (g a.toNat) 4)]) rfl ?_
                      refine qJ.icmp_eq hκ (tgt := 302) rfl rfl (by omega) (by omega) (fun c297 => ?_) (fun c297 => ?_)
                      · show qJ YX12_fitsSoFar κ _ (qLy u, (q_row M 122 g), y) 0 0 302 [some (qR 77), some (qI a), some (qI b), some (qI (g a.toNat)), some (qI (g b.toNat)), none, none] []
                        refine qJ.run hκ 2 (pc' := 210) (ls' := [some (qR 77), some (qI a), some (qI (b + 1)), some (qI (g a.toNat)), some (qI (g b.toNat)), none, none]) (st' := []) rfl ?_
                        refine qJ.dl [true, true, true, false, false, false, false] ?_
                        show qJ YX12_fitsSoFar κ _ (qLy u, (q_row M 122 g), y) 0 0 210 [some (qR 77), some (qI a), some (qI (b + 1)), none, none, none, none] []
                        exact ih210  (b + 1) (by omega) (fun z hz ga gz => by
          by_cases e : (z : Int) = b
          · have ez : z = b.toNat := by omega
            subst ez
            exact ⟨c247, fun q => by first | exact absurd (er.mpr q) c262 | exact c272, fun q => c297⟩
          · exact v210_1 z (by omega) ga gz) (v210_2) (by omega)
                      · show qJ YX12_fitsSoFar κ _ (qLy u, (q_row M 122 g), y) 0 0 300 [some (qR 77), some (qI a), some (qI b), some (qI (g a.toNat)), some (qI (g b.toNat)), none, none] []
                        refine qJ.run hκ 1 (pc' := 301) (ls' := [some (qR 77), some (qI a), some (qI b), some (qI (g a.toNat)), some (qI (g b.toNat)), none, none]) (st' := [qI 0]) rfl ?_
                        exact qJ.bret hκ rfl rfl (by omega) (by decide) (by decide) (by
      refine ⟨0, g, rfl, rfl, Or.inr ⟨rfl, fun zz => ?_⟩⟩
      have ok := zz.2.2.2
      rw [zz.2.1] at ok
      have o2 : okV (DD m) (VM (DD m) ch (p.toNat + 1)) := ok
      have o3 := o2 a.toNat b.toNat (by omega) (by omega) nab (by rw [← v202_1 _ (by omega)]; exact c232) (by rw [← v202_1 _ (by omega)]; exact c238)
      unfold okP at o3
      rw [← v202_1 _ (by omega), ← v202_1 _ (by omega)] at o3
      first
      | exact o3.1 c247
      | exact c272 (o3.2.1 (er.mp c262))
      | exact c297 (o3.2.2 (ec.mp c287)))
                  · show qJ YX12_fitsSoFar κ _ (qLy u, (q_row M 122 g), y) 0 0 265 [some (qR 77), some (qI a), some (qI b), some (qI (g a.toNat)), some (qI (g b.toNat)), none, none] []
                    refine qJ.run hκ 6 (pc' := 272) (ls' := [some (qR 77), some (qI a), some (qI b), some (qI (g a.toNat)), some (qI (g b.toNat)), none, none]) (st' := [qI (q_div (g b.toNat) 4), qI (q_div (g a.toNat) 4)]) rfl ?_
                    refine qJ.icmp_ne hκ (tgt := 300) rfl rfl (by omega) (by omega) (fun c272 => ?_) (fun c272 => ?_)
                    · show qJ YX12_fitsSoFar κ _ (qLy u, (q_row M 122 g), y) 0 0 300 [some (qR 77), some (qI a), some (qI b), some (qI (g a.toNat)), some (qI (g b.toNat)), none, none] []
                      refine qJ.run hκ 1 (pc' := 301) (ls' := [some (qR 77), some (qI a), some (qI b), some (qI (g a.toNat)), some (qI (g b.toNat)), none, none]) (st' := [qI 0]) rfl ?_
                      exact qJ.bret hκ rfl rfl (by omega) (by decide) (by decide) (by
      refine ⟨0, g, rfl, rfl, Or.inr ⟨rfl, fun zz => ?_⟩⟩
      have ok := zz.2.2.2
      rw [zz.2.1] at ok
      have o2 : okV (DD m) (VM (DD m) ch (p.toNat + 1)) := ok
      have o3 := o2 a.toNat b.toNat (by omega) (by omega) nab (by rw [← v202_1 _ (by omega)]; exact c232) (by rw [← v202_1 _ (by omega)]; exact c238)
      unfold okP at o3
      rw [← v202_1 _ (by omega), ← v202_1 _ (by omega)] at o3
      first
      | exact o3.1 c247
      | exact c272 (o3.2.1 (er.mp c262))
      | exact c297 (o3.2.2 (ec.mp c287)))
                    · show qJ YX12_fitsSoFar κ _ (qLy u, (q_row M 122 g), y) 0 0 275 [some (qR 77), some (qI a), some (qI b), some (qI (g a.toNat)), some (qI (g b.toNat)), none, none] []
                      refine qJ.run hκ 3 (pc' := 280) (ls' := [some (qR 77), some (qI a), some (qI b), some (qI (g a.toNat)), some (qI (g b.toNat)), none, none]) (st' := [qI a, qR 111]) rfl ?_
                      refine qJ.ald hκ rfl rfl rfl (by decide) (by omega) ?_
                      show qJ YX12_fitsSoFar κ _ (qLy u, (q_row M 122 g), y) 0 0 281 [some (qR 77), some (qI a), some (qI b), some (qI (g a.toNat)), some (qI (g b.toNat)), none, none] [qI (M 111 a.toNat)]
                      refine qJ.run hκ 3 (pc' := 286) (ls' := [some (qR 77), some (qI a), some (qI b), some (qI (g a.toNat)), some (qI (g b.toNat)), none, none]) (st' := [qI b, qR 111, qI (M 111 a.toNat)]) rfl ?_
                      refine qJ.ald hκ rfl rfl rfl (by decide) (by omega) ?_
                      show qJ YX12_fitsSoFar κ _ (qLy u, (q_row M 122 g), y) 0 0 287 [some (qR 77), some (qI a), some (qI b), some (qI (g a.toNat)), some (qI (g b.toNat)), none, none] [qI (M 111 b.toNat), qI (M 111 a.toNat)]
                      refine qJ.icmp_ne hκ (tgt := 302) rfl rfl (by omega) (by omega) (fun c287 => ?_) (fun c287 => ?_)
                      · show qJ YX12_fitsSoFar κ _ (qLy u, (q_row M 122 g), y) 0 0 302 [some (qR 77), some (qI a), some (qI b), some (qI (g a.toNat)), some (qI (g b.toNat)), none, none] []
                        refine qJ.run hκ 2 (pc' := 210) (ls' := [some (qR 77), some (qI a), some (qI (b + 1)), some (qI (g a.toNat)), some (qI (g b.toNat)), none, none]) (st' := []) rfl ?_
                        refine qJ.dl [true, true, true, false, false, false, false] ?_
                        show qJ YX12_fitsSoFar κ _ (qLy u, (q_row M 122 g), y) 0 0 210 [some (qR 77), some (qI a), some (qI (b + 1)), none, none, none, none] []
                        exact ih210  (b + 1) (by omega) (fun z hz ga gz => by
          by_cases e : (z : Int) = b
          · have ez : z = b.toNat := by omega
            subst ez
            exact ⟨c247, fun q => by first | exact absurd (er.mpr q) c262 | exact c272, fun q => absurd (ec.mpr q) c287⟩
          · exact v210_1 z (by omega) ga gz) (v210_2) (by omega)
                      · show qJ YX12_fitsSoFar κ _ (qLy u, (q_row M 122 g), y) 0 0 290 [some (qR 77), some (qI a), some (qI b), some (qI (g a.toNat)), some (qI (g b.toNat)), none, none] []
                        refine qJ.run hκ 6 (pc' := 297) (ls' := [some (qR 77), some (qI a), some (qI b), some (qI (g a.toNat)), some (qI (g b.toNat)), none, none]) (st' := [qI (q_rem (g b.toNat) 4), qI (q_rem (g a.toNat) 4)]) rfl ?_
                        refine qJ.icmp_eq hκ (tgt := 302) rfl rfl (by omega) (by omega) (fun c297 => ?_) (fun c297 => ?_)
                        · show qJ YX12_fitsSoFar κ _ (qLy u, (q_row M 122 g), y) 0 0 302 [some (qR 77), some (qI a), some (qI b), some (qI (g a.toNat)), some (qI (g b.toNat)), none, none] []
                          refine qJ.run hκ 2 (pc' := 210) (ls' := [some (qR 77), some (qI a), some (qI (b + 1)), some (qI (g a.toNat)), some (qI (g b.toNat)), none, none]) (st' := []) rfl ?_
                          refine qJ.dl [true, true, true, false, false, false, false] ?_
                          show qJ YX12_fitsSoFar κ _ (qLy u, (q_row M 122 g), y) 0 0 210 [some (qR 77), some (qI a), some (qI (b + 1)), none, none, none, none] []
                          exact ih210  (b + 1) (by omega) (fun z hz ga gz => by
          by_cases e : (z : Int) = b
          · have ez : z = b.toNat := by omega
            subst ez
            exact ⟨c247, fun q => by first | exact absurd (er.mpr q) c262 | exact c272, fun q => c297⟩
          · exact v210_1 z (by omega) ga gz) (v210_2) (by omega)
                        · show qJ YX12_fitsSoFar κ _ (qLy u, (q_row M 122 g), y) 0 0 300 [some (qR 77), some (qI a), some (qI b), some (qI (g a.toNat)), some (qI (g b.toNat)), none, none] []
                          refine qJ.run hκ 1 (pc' := 301) (ls' := [some (qR 77), some (qI a), some (qI b), some (qI (g a.toNat)), some (qI (g b.toNat)), none, none]) (st' := [qI 0]) rfl ?_
                          exact qJ.bret hκ rfl rfl (by omega) (by decide) (by decide) (by
      refine ⟨0, g, rfl, rfl, Or.inr ⟨rfl, fun zz => ?_⟩⟩
      have ok := zz.2.2.2
      rw [zz.2.1] at ok
      have o2 : okV (DD m) (VM (DD m) ch (p.toNat + 1)) := ok
      have o3 := o2 a.toNat b.toNat (by omega) (by omega) nab (by rw [← v202_1 _ (by omega)]; exact c232) (by rw [← v202_1 _ (by omega)]; exact c238)
      unfold okP at o3
      rw [← v202_1 _ (by omega), ← v202_1 _ (by omega)] at o3
      first
      | exact o3.1 c247
      | exact c272 (o3.2.1 (er.mp c262))
      | exact c297 (o3.2.2 (ec.mp c287)))
              · show qJ YX12_fitsSoFar κ _ (qLy u, (q_row M 122 g), y) 0 0 241 [some (qR 77), some (qI a), some (qI b), some (qI (g a.toNat)), some (qI (g b.toNat)), none, none] []
                refine qJ.run hκ 3 (pc' := 210) (ls' := [some (qR 77), some (qI a), some (qI (b + 1)), some (qI (g a.toNat)), some (qI (g b.toNat)), none, none]) (st' := []) rfl ?_
                refine qJ.dl [true, true, true, false, false, false, false] ?_
                show qJ YX12_fitsSoFar κ _ (qLy u, (q_row M 122 g), y) 0 0 210 [some (qR 77), some (qI a), some (qI (b + 1)), none, none, none, none] []
                exact ih210  (b + 1) (by omega) (fun z hz ga gz => by
          by_cases e : (z : Int) = b
          · have ez : z = b.toNat := by omega
            subst ez
            exact absurd c238 gz
          · exact v210_1 z (by omega) ga gz) (v210_2) (by omega)
      refine qJ.run hκ 2 (pc' := 205) (ls' := [some (qR 77), some (qI a), none, none, none, none, none]) (st' := [qI 20, qI a]) rfl ?_
      refine qJ.icmp_ge hκ (tgt := 314) rfl rfl (by omega) (by omega) (fun c205 => ?_) (fun c205 => ?_)
      · show qJ YX12_fitsSoFar κ _ (qLy u, (q_row M 122 g), y) 0 0 314 [some (qR 77), some (qI a), none, none, none, none, none] []
        refine qJ.run hκ 1 (pc' := 315) (ls' := [some (qR 77), some (qI a), none, none, none, none, none]) (st' := [qI 1]) rfl ?_
        exact qJ.bret hκ rfl rfl (by omega) (by decide) (by decide) (by
      have o1 : okV (DD m) (VM (DD m) ch (p.toNat + 1)) := okV_of v202_1 (fun x z hx hz => v202_3 x z (by omega) hz)
      refine ⟨1, g, rfl, rfl, Or.inl ⟨rfl, ⟨fun e he => v202_2.1 e (by omega), v202_2.2.1, v202_2.2.2, ?_⟩, v202_1⟩⟩
      rw [v202_2.2.1]
      exact o1)
      · show qJ YX12_fitsSoFar κ _ (qLy u, (q_row M 122 g), y) 0 0 208 [some (qR 77), some (qI a), none, none, none, none, none] []
        refine qJ.run hκ 2 (pc' := 210) (ls' := [some (qR 77), some (qI a), some (qI 0), none, none, none, none]) (st' := []) rfl ?_
        exact L210 21 0 (by omega) (fun z hz => by omega) (by omega) (by omega)
  have L59 : ∀ (n : Nat) (i : Int) (g : Nat → Int), (0 ≤ i ∧ i ≤ p + 1) → (∀ s : Nat, s < 20 → g s = VM (DD m) ch i.toNat s) → ((∀ e : Nat, (e : Int) < p → ¬ ch e = ch p.toNat)) → (p < i → dL (DD m) (ch p.toNat).toNat = dW (DD m) p.toNat ∧ ∀ k : Nat, (k : Int) < dL (DD m) (ch p.toNat).toNat → cfW (DD m) (ch p.toNat).toNat p.toNat (VM (DD m) ch p.toNat) k) → ((p + 1 - i).toNat) < n → qJ YX12_fitsSoFar κ (qFin (fun r h => ∃ (z : Int) (g : Nat → Int), r = some (qI z) ∧ h = (qLy u, q_row M 122 g, y) ∧ ((z = 1 ∧ ftL (DD m) ch p.toNat ∧ ∀ s : Nat, s < 20 → g s = VM (DD m) ch (p.toNat + 1) s) ∨ (z = 0 ∧ ¬ ftL (DD m) ch p.toNat))) 0 0 κ) (qLy u, (q_row M 122 g), y) 0 0 59 [some (qR 77), some (qI i), none, none, none, none, none] [] := by
    intro n
    induction n with
    | zero => intro i g _ _ _ _ hz0; omega
    | succ n ih59 =>
      intro i g v59_0 v59_1 v59_2 v59_3 v59_m
      have L106 : ∀ (n : Nat) (k : Int) (g : Nat → Int), (0 ≤ k ∧ k ≤ dL (DD m) (ch i.toNat).toNat) → (∀ s : Nat, s < 20 → g s = vP (DD m) (ch i.toNat).toNat i.toNat (VM (DD m) ch i.toNat) k.toNat s) → (∀ j : Nat, (j : Int) < k → cfW (DD m) (ch i.toNat).toNat i.toNat (VM (DD m) ch i.toNat) j) → (i ≤ p ∧ dL (DD m) (ch i.toNat).toNat = dW (DD m) i.toNat) → ((dL (DD m) (ch i.toNat).toNat - k).toNat) < n → qJ YX12_fitsSoFar κ (qFin (fun r h => ∃ (z : Int) (g : Nat → Int), r = some (qI z) ∧ h = (qLy u, q_row M 122 g, y) ∧ ((z = 1 ∧ ftL (DD m) ch p.toNat ∧ ∀ s : Nat, s < 20 → g s = VM (DD m) ch (p.toNat + 1) s) ∨ (z = 0 ∧ ¬ ftL (DD m) ch p.toNat))) 0 0 κ) (qLy u, (q_row M 122 g), y) 0 0 106 [some (qR 77), some (qI i), some (qI (M 120 (M 121 i.toNat).toNat)), some (qI (M 119 i.toNat)), some (qI k), none, none] [] := by
        intro n
        induction n with
        | zero => intro k g _ _ _ _ hz0; omega
        | succ n ih106 =>
          intro k g v106_0 v106_1 v106_2 v106_3 v106_m
          have hi := hch i.toNat (by omega)
          have cwi := cW_at hi.2.2
          have sni := sN_at (m := m) (i := i.toNat) (by omega)
          have ew : M 120 (M 121 i.toNat).toNat = cW m (ch i.toNat).toNat := by rw [hi.1]; exact hm.2.2.1.2 _ hi.2.2
          have en : M 119 i.toNat = sN m i.toNat := hm.2.2.1.1 _ (by omega)
          have vmi := hm.2.2.2.1 i.toNat (by omega)
          have wr := hR.2.1 (cW m (ch i.toNat).toNat) cwi.1 (by omega)
          have rw0 := hR.2.2.1 (cW m (ch i.toNat).toNat) cwi.1 (by omega)
          have spi := sni.2.2.1
          rw [spA, q_tn sni.1] at spi
          have dLe : dL (DD m) (ch i.toNat).toNat = m 4 (cW m (ch i.toNat).toNat).toNat := rfl
          have dWe : dW (DD m) i.toNat = (vL m (sN m i.toNat) : Int) := rfl
          have ip := v106_3.1
          have le := v106_3.2
          have k88b : M 88 (M 120 (M 121 i.toNat).toNat).toNat = m 4 (cW m (ch i.toNat).toNat).toNat := by rw [ew, k88]; exact rw0.1.1
          refine qJ.run hκ 4 (pc' := 113) (ls' := [some (qR 77), some (qI i), some (qI (M 120 (M 121 i.toNat).toNat)), some (qI (M 119 i.toNat)), some (qI k), none, none]) (st' := [qI (M 120 (M 121 i.toNat).toNat), qR 88, qI k]) rfl ?_
          refine qJ.ald hκ rfl rfl rfl (by decide) (by omega) ?_
          show qJ YX12_fitsSoFar κ _ (qLy u, (q_row M 122 g), y) 0 0 114 [some (qR 77), some (qI i), some (qI (M 120 (M 121 i.toNat).toNat)), some (qI (M 119 i.toNat)), some (qI k), none, none] [qI (M 88 ((M 120 (M 121 i.toNat).toNat).toNat)), qI k]
          refine qJ.icmp_ge hκ (tgt := 194) rfl rfl (by omega) (by omega) (fun c114 => ?_) (fun c114 => ?_)
          · show qJ YX12_fitsSoFar κ _ (qLy u, (q_row M 122 g), y) 0 0 194 [some (qR 77), some (qI i), some (qI (M 120 (M 121 i.toNat).toNat)), some (qI (M 119 i.toNat)), some (qI k), none, none] []
            refine qJ.run hκ 2 (pc' := 59) (ls' := [some (qR 77), some (qI (i + 1)), some (qI (M 120 (M 121 i.toNat).toNat)), some (qI (M 119 i.toNat)), some (qI k), none, none]) (st' := []) rfl ?_
            refine qJ.dl [true, true, false, false, false, false, false] ?_
            show qJ YX12_fitsSoFar κ _ (qLy u, (q_row M 122 g), y) 0 0 59 [some (qR 77), some (qI (i + 1)), none, none, none, none, none] []
            exact ih59  (i + 1) g (by omega) (fun s hs => by
          rw [show (i + 1).toNat = i.toNat + 1 by omega, v106_1 s hs, show k.toNat = (dW (DD m) i.toNat).toNat by omega]
          rfl) (v59_2) (fun z => by
          have ip : i = p := by omega
          rw [← ip]
          exact ⟨v106_3.2, fun j hj => v106_2 j (by omega)⟩) (by omega)
          · show qJ YX12_fitsSoFar κ _ (qLy u, (q_row M 122 g), y) 0 0 117 [some (qR 77), some (qI i), some (qI (M 120 (M 121 i.toNat).toNat)), some (qI (M 119 i.toNat)), some (qI k), none, none] []
            have sg : M 87 ((5 * (M 120 (M 121 i.toNat).toNat)) + k).toNat = dS (DD m) (ch i.toNat).toNat k.toNat := by
              rw [ew, k87]
              have := rw0.2.2 k v106_0.1 (by omega)
              rw [this]
              show m 3 _ = m 3 (cW m (ch i.toNat).toNat * 5 + ((k.toNat : Nat) : Int)).toNat
              rw [q_tn v106_0.1]
            have vl : M 117 ((10 * (M 119 i.toNat)) + k).toNat = dV (DD m) i.toNat k.toNat := by
              rw [en, vmi.2 k v106_0.1 (by omega)]
              show sv m _ k = sv m _ ((k.toNat : Nat) : Int)
              rw [q_tn v106_0.1]
            have sr := (wr.2.2 k v106_0.1 (by omega)).1
            have dSe : dS (DD m) (ch i.toNat).toNat k.toNat = m 3 (cW m (ch i.toNat).toNat * 5 + k).toNat := by
              show m 3 (cW m (ch i.toNat).toNat * 5 + ((k.toNat : Nat) : Int)).toNat = _
              rw [q_tn v106_0.1]
            have vr := sv_r hX hs sni.1 (by have := nN_le hX; omega) v106_0.1 (show k < (vL m (sN m i.toNat) : Int) by omega)
            have dVe : dV (DD m) i.toNat k.toNat = sv m (sN m i.toNat) k := by
              show sv m _ ((k.toNat : Nat) : Int) = _
              rw [q_tn v106_0.1]
            refine qJ.run hκ 7 (pc' := 127) (ls' := [some (qR 77), some (qI i), some (qI (M 120 (M 121 i.toNat).toNat)), some (qI (M 119 i.toNat)), some (qI k), none, none]) (st' := [qI ((5 * (M 120 (M 121 i.toNat).toNat)) + k), qR 87]) rfl ?_
            refine qJ.ald hκ rfl rfl rfl (by decide) (by omega) ?_
            show qJ YX12_fitsSoFar κ _ (qLy u, (q_row M 122 g), y) 0 0 128 [some (qR 77), some (qI i), some (qI (M 120 (M 121 i.toNat).toNat)), some (qI (M 119 i.toNat)), some (qI k), none, none] [qI (M 87 (((5 * (M 120 (M 121 i.toNat).toNat)) + k).toNat))]
            refine qJ.run hκ 8 (pc' := 141) (ls' := [some (qR 77), some (qI i), some (qI (M 120 (M 121 i.toNat).toNat)), some (qI (M 119 i.toNat)), some (qI k), some (qI (M 87 (((5 * (M 120 (M 121 i.toNat).toNat)) + k).toNat))), none]) (st' := [qI ((10 * (M 119 i.toNat)) + k), qR 117]) rfl ?_
            refine qJ.ald hκ rfl rfl rfl (by decide) (by omega) ?_
            show qJ YX12_fitsSoFar κ _ (qLy u, (q_row M 122 g), y) 0 0 142 [some (qR 77), some (qI i), some (qI (M 120 (M 121 i.toNat).toNat)), some (qI (M 119 i.toNat)), some (qI k), some (qI (M 87 (((5 * (M 120 (M 121 i.toNat).toNat)) + k).toNat))), none] [qI (M 117 (((10 * (M 119 i.toNat)) + k).toNat))]
            refine qJ.run hκ 3 (pc' := 148) (ls' := [some (qR 77), some (qI i), some (qI (M 120 (M 121 i.toNat).toNat)), some (qI (M 119 i.toNat)), some (qI k), some (qI (M 87 (((5 * (M 120 (M 121 i.toNat).toNat)) + k).toNat))), some (qI (M 117 (((10 * (M 119 i.toNat)) + k).toNat)))]) (st' := [qI 20, qI (M 87 (((5 * (M 120 (M 121 i.toNat).toNat)) + k).toNat))]) rfl ?_
            refine qJ.icmp_ne hκ (tgt := 154) rfl rfl (by omega) (by omega) (fun c148 => ?_) (fun c148 => ?_)
            · show qJ YX12_fitsSoFar κ _ (qLy u, (q_row M 122 g), y) 0 0 154 [some (qR 77), some (qI i), some (qI (M 120 (M 121 i.toNat).toNat)), some (qI (M 119 i.toNat)), some (qI k), some (qI (M 87 (((5 * (M 120 (M 121 i.toNat).toNat)) + k).toNat))), some (qI (M 117 (((10 * (M 119 i.toNat)) + k).toNat)))] []
              have s20 : M 87 ((5 * (M 120 (M 121 i.toNat).toNat)) + k).toNat < 20 := by omega
              have gr := v106_1 (M 87 ((5 * (M 120 (M 121 i.toNat).toNat)) + k).toNat).toNat (by omega)
              have gr2 : -1 ≤ g (M 87 ((5 * (M 120 (M 121 i.toNat).toNat)) + k).toNat).toNat ∧ g (M 87 ((5 * (M 120 (M 121 i.toNat).toNat)) + k).toNat).toNat ≤ 27 := by rw [gr]; exact vP_b hD (fun t ht => VM_b hD i.toNat (by show _ ≤ (nS m : Int); omega) (fun e he => by have := (hch e (by omega)); exact ⟨this.2.1, by show ch e < (nC m : Int); omega⟩) t ht) (by show _ < (nC m : Int); omega) (by show _ < (nS m : Int); omega) k.toNat (by omega) (by omega) _ (by omega)
              refine qJ.run hκ 3 (pc' := 160) (ls' := [some (qR 77), some (qI i), some (qI (M 120 (M 121 i.toNat).toNat)), some (qI (M 119 i.toNat)), some (qI k), some (qI (M 87 (((5 * (M 120 (M 121 i.toNat).toNat)) + k).toNat))), some (qI (M 117 (((10 * (M 119 i.toNat)) + k).toNat)))]) (st' := [qI (M 87 (((5 * (M 120 (M 121 i.toNat).toNat)) + k).toNat)), qR 122]) rfl ?_
              refine qJ.ald hκ rfl rfl rfl (by decide) (by omega) ?_
              show qJ YX12_fitsSoFar κ _ (qLy u, (q_row M 122 g), y) 0 0 161 [some (qR 77), some (qI i), some (qI (M 120 (M 121 i.toNat).toNat)), some (qI (M 119 i.toNat)), some (qI k), some (qI (M 87 (((5 * (M 120 (M 121 i.toNat).toNat)) + k).toNat))), some (qI (M 117 (((10 * (M 119 i.toNat)) + k).toNat)))] [qI (g ((M 87 (((5 * (M 120 (M 121 i.toNat).toNat)) + k).toNat)).toNat))]
              refine qJ.run hκ 1 (pc' := 162) (ls' := [some (qR 77), some (qI i), some (qI (M 120 (M 121 i.toNat).toNat)), some (qI (M 119 i.toNat)), some (qI k), some (qI (M 87 (((5 * (M 120 (M 121 i.toNat).toNat)) + k).toNat))), some (qI (M 117 (((10 * (M 119 i.toNat)) + k).toNat)))]) (st' := [qI (-1), qI (g ((M 87 (((5 * (M 120 (M 121 i.toNat).toNat)) + k).toNat)).toNat))]) rfl ?_
              refine qJ.icmp_eq hκ (tgt := 179) rfl rfl (by omega) (by omega) (fun c162 => ?_) (fun c162 => ?_)
              · show qJ YX12_fitsSoFar κ _ (qLy u, (q_row M 122 g), y) 0 0 179 [some (qR 77), some (qI i), some (qI (M 120 (M 121 i.toNat).toNat)), some (qI (M 119 i.toNat)), some (qI k), some (qI (M 87 (((5 * (M 120 (M 121 i.toNat).toNat)) + k).toNat))), some (qI (M 117 (((10 * (M 119 i.toNat)) + k).toNat)))] []
                refine qJ.run hκ 4 (pc' := 187) (ls' := [some (qR 77), some (qI i), some (qI (M 120 (M 121 i.toNat).toNat)), some (qI (M 119 i.toNat)), some (qI k), some (qI (M 87 (((5 * (M 120 (M 121 i.toNat).toNat)) + k).toNat))), some (qI (M 117 (((10 * (M 119 i.toNat)) + k).toNat)))]) (st' := [qI (M 117 (((10 * (M 119 i.toNat)) + k).toNat)), qI (M 87 (((5 * (M 120 (M 121 i.toNat).toNat)) + k).toNat)), qR 122]) rfl ?_
                refine qJ.ast hκ rfl rfl rfl (by decide) (by omega) ?_
                refine qJ.mc (m1 := (q_up (q_row M 122 g) 122 ((M 87 (((5 * (M 120 (M 121 i.toNat).toNat)) + k).toNat)).toNat) (M 117 (((10 * (M 119 i.toNat)) + k).toNat)))) (m2 := (q_row M 122 (q_fu g ((M 87 (((5 * (M 120 (M 121 i.toNat).toNat)) + k).toNat)).toNat) (M 117 (((10 * (M 119 i.toNat)) + k).toNat))))) (by rw [q_up_row_eq]) ?_
                show qJ YX12_fitsSoFar κ _ (qLy u, (q_row M 122 (q_fu g ((M 87 (((5 * (M 120 (M 121 i.toNat).toNat)) + k).toNat)).toNat) (M 117 (((10 * (M 119 i.toNat)) + k).toNat)))), y) 0 0 188 [some (qR 77), some (qI i), some (qI (M 120 (M 121 i.toNat).toNat)), some (qI (M 119 i.toNat)), some (qI k), some (qI (M 87 (((5 * (M 120 (M 121 i.toNat).toNat)) + k).toNat))), some (qI (M 117 (((10 * (M 119 i.toNat)) + k).toNat)))] []
                refine qJ.run hκ 2 (pc' := 106) (ls' := [some (qR 77), some (qI i), some (qI (M 120 (M 121 i.toNat).toNat)), some (qI (M 119 i.toNat)), some (qI (k + 1)), some (qI (M 87 (((5 * (M 120 (M 121 i.toNat).toNat)) + k).toNat))), some (qI (M 117 (((10 * (M 119 i.toNat)) + k).toNat)))]) (st' := []) rfl ?_
                refine qJ.dl [true, true, true, true, true, false, false] ?_
                show qJ YX12_fitsSoFar κ _ (qLy u, (q_row M 122 (q_fu g ((M 87 (((5 * (M 120 (M 121 i.toNat).toNat)) + k).toNat)).toNat) (M 117 (((10 * (M 119 i.toNat)) + k).toNat)))), y) 0 0 106 [some (qR 77), some (qI i), some (qI (M 120 (M 121 i.toNat).toNat)), some (qI (M 119 i.toNat)), some (qI (k + 1)), none, none] []
                exact ih106  (k + 1) (q_fu g ((M 87 (((5 * (M 120 (M 121 i.toNat).toNat)) + k).toNat)).toNat) (M 117 (((10 * (M 119 i.toNat)) + k).toNat))) (by omega) (fun s hs => by
          rw [show (k + 1).toNat = k.toNat + 1 by omega]
          rw [vP_st (fun z => c148 (sg.trans z)), ← sg, ← vl]
          by_cases e : s = (M 87 ((5 * (M 120 (M 121 i.toNat).toNat)) + k).toNat).toNat
          · rw [e, q_fu_eq, q_fu_eq]
          · rw [q_fu_ne e, q_fu_ne e]; exact v106_1 s hs) (fun j hj => by
          by_cases e : (j : Int) = k
          · rw [show j = k.toNat by omega]; exact Or.inr (Or.inl (by rw [← v106_1 _ (by omega), ← sg]; exact c162))
          · exact v106_2 j (by omega)) (v106_3) (by omega)
              · show qJ YX12_fitsSoFar κ _ (qLy u, (q_row M 122 g), y) 0 0 165 [some (qR 77), some (qI i), some (qI (M 120 (M 121 i.toNat).toNat)), some (qI (M 119 i.toNat)), some (qI k), some (qI (M 87 (((5 * (M 120 (M 121 i.toNat).toNat)) + k).toNat))), some (qI (M 117 (((10 * (M 119 i.toNat)) + k).toNat)))] []
                refine qJ.run hκ 3 (pc' := 171) (ls' := [some (qR 77), some (qI i), some (qI (M 120 (M 121 i.toNat).toNat)), some (qI (M 119 i.toNat)), some (qI k), some (qI (M 87 (((5 * (M 120 (M 121 i.toNat).toNat)) + k).toNat))), some (qI (M 117 (((10 * (M 119 i.toNat)) + k).toNat)))]) (st' := [qI (M 87 (((5 * (M 120 (M 121 i.toNat).toNat)) + k).toNat)), qR 122]) rfl ?_
                refine qJ.ald hκ rfl rfl rfl (by decide) (by omega) ?_
                show qJ YX12_fitsSoFar κ _ (qLy u, (q_row M 122 g), y) 0 0 172 [some (qR 77), some (qI i), some (qI (M 120 (M 121 i.toNat).toNat)), some (qI (M 119 i.toNat)), some (qI k), some (qI (M 87 (((5 * (M 120 (M 121 i.toNat).toNat)) + k).toNat))), some (qI (M 117 (((10 * (M 119 i.toNat)) + k).toNat)))] [qI (g ((M 87 (((5 * (M 120 (M 121 i.toNat).toNat)) + k).toNat)).toNat))]
                refine qJ.run hκ 1 (pc' := 174) (ls' := [some (qR 77), some (qI i), some (qI (M 120 (M 121 i.toNat).toNat)), some (qI (M 119 i.toNat)), some (qI k), some (qI (M 87 (((5 * (M 120 (M 121 i.toNat).toNat)) + k).toNat))), some (qI (M 117 (((10 * (M 119 i.toNat)) + k).toNat)))]) (st' := [qI (M 117 (((10 * (M 119 i.toNat)) + k).toNat)), qI (g ((M 87 (((5 * (M 120 (M 121 i.toNat).toNat)) + k).toNat)).toNat))]) rfl ?_
                refine qJ.icmp_eq hκ (tgt := 179) rfl rfl (by omega) (by omega) (fun c174 => ?_) (fun c174 => ?_)
                · show qJ YX12_fitsSoFar κ _ (qLy u, (q_row M 122 g), y) 0 0 179 [some (qR 77), some (qI i), some (qI (M 120 (M 121 i.toNat).toNat)), some (qI (M 119 i.toNat)), some (qI k), some (qI (M 87 (((5 * (M 120 (M 121 i.toNat).toNat)) + k).toNat))), some (qI (M 117 (((10 * (M 119 i.toNat)) + k).toNat)))] []
                  refine qJ.run hκ 4 (pc' := 187) (ls' := [some (qR 77), some (qI i), some (qI (M 120 (M 121 i.toNat).toNat)), some (qI (M 119 i.toNat)), some (qI k), some (qI (M 87 (((5 * (M 120 (M 121 i.toNat).toNat)) + k).toNat))), some (qI (M 117 (((10 * (M 119 i.toNat)) + k).toNat)))]) (st' := [qI (M 117 (((10 * (M 119 i.toNat)) + k).toNat)), qI (M 87 (((5 * (M 120 (M 121 i.toNat).toNat)) + k).toNat)), qR 122]) rfl ?_
                  refine qJ.ast hκ rfl rfl rfl (by decide) (by omega) ?_
                  refine qJ.mc (m1 := (q_up (q_row M 122 g) 122 ((M 87 (((5 * (M 120 (M 121 i.toNat).toNat)) + k).toNat)).toNat) (M 117 (((10 * (M 119 i.toNat)) + k).toNat)))) (m2 := (q_row M 122 (q_fu g ((M 87 (((5 * (M 120 (M 121 i.toNat).toNat)) + k).toNat)).toNat) (M 117 (((10 * (M 119 i.toNat)) + k).toNat))))) (by rw [q_up_row_eq]) ?_
                  show qJ YX12_fitsSoFar κ _ (qLy u, (q_row M 122 (q_fu g ((M 87 (((5 * (M 120 (M 121 i.toNat).toNat)) + k).toNat)).toNat) (M 117 (((10 * (M 119 i.toNat)) + k).toNat)))), y) 0 0 188 [some (qR 77), some (qI i), some (qI (M 120 (M 121 i.toNat).toNat)), some (qI (M 119 i.toNat)), some (qI k), some (qI (M 87 (((5 * (M 120 (M 121 i.toNat).toNat)) + k).toNat))), some (qI (M 117 (((10 * (M 119 i.toNat)) + k).toNat)))] []
                  refine qJ.run hκ 2 (pc' := 106) (ls' := [some (qR 77), some (qI i), some (qI (M 120 (M 121 i.toNat).toNat)), some (qI (M 119 i.toNat)), some (qI (k + 1)), some (qI (M 87 (((5 * (M 120 (M 121 i.toNat).toNat)) + k).toNat))), some (qI (M 117 (((10 * (M 119 i.toNat)) + k).toNat)))]) (st' := []) rfl ?_
                  refine qJ.dl [true, true, true, true, true, false, false] ?_
                  show qJ YX12_fitsSoFar κ _ (qLy u, (q_row M 122 (q_fu g ((M 87 (((5 * (M 120 (M 121 i.toNat).toNat)) + k).toNat)).toNat) (M 117 (((10 * (M 119 i.toNat)) + k).toNat)))), y) 0 0 106 [some (qR 77), some (qI i), some (qI (M 120 (M 121 i.toNat).toNat)), some (qI (M 119 i.toNat)), some (qI (k + 1)), none, none] []
                  exact ih106  (k + 1) (q_fu g ((M 87 (((5 * (M 120 (M 121 i.toNat).toNat)) + k).toNat)).toNat) (M 117 (((10 * (M 119 i.toNat)) + k).toNat))) (by omega) (fun s hs => by
          rw [show (k + 1).toNat = k.toNat + 1 by omega]
          rw [vP_st (fun z => c148 (sg.trans z)), ← sg, ← vl]
          by_cases e : s = (M 87 ((5 * (M 120 (M 121 i.toNat).toNat)) + k).toNat).toNat
          · rw [e, q_fu_eq, q_fu_eq]
          · rw [q_fu_ne e, q_fu_ne e]; exact v106_1 s hs) (fun j hj => by
          by_cases e : (j : Int) = k
          · rw [show j = k.toNat by omega]; exact Or.inr (Or.inr (by rw [← v106_1 _ (by omega), ← sg, ← vl]; exact c174))
          · exact v106_2 j (by omega)) (v106_3) (by omega)
                · show qJ YX12_fitsSoFar κ _ (qLy u, (q_row M 122 g), y) 0 0 177 [some (qR 77), some (qI i), some (qI (M 120 (M 121 i.toNat).toNat)), some (qI (M 119 i.toNat)), some (qI k), some (qI (M 87 (((5 * (M 120 (M 121 i.toNat).toNat)) + k).toNat))), some (qI (M 117 (((10 * (M 119 i.toNat)) + k).toNat)))] []
                  refine qJ.run hκ 1 (pc' := 178) (ls' := [some (qR 77), some (qI i), some (qI (M 120 (M 121 i.toNat).toNat)), some (qI (M 119 i.toNat)), some (qI k), some (qI (M 87 (((5 * (M 120 (M 121 i.toNat).toNat)) + k).toNat))), some (qI (M 117 (((10 * (M 119 i.toNat)) + k).toNat)))]) (st' := [qI 0]) rfl ?_
                  exact qJ.bret hκ rfl rfl (by omega) (by decide) (by decide) (by
      refine ⟨0, g, rfl, rfl, Or.inr ⟨rfl, fun zz => ?_⟩⟩
      have zf : ftL (DD m) ch i.toNat := by
        by_cases e : i = p
        · rw [e]; exact zz
        · exact hpre i.toNat (by omega)
      have cf := zf.2.2.1 k.toNat (by omega)
      unfold cfW at cf
      rw [← v106_1 _ (by omega), ← sg, ← vl] at cf
      rcases cf with cf | cf | cf
      · exact c148 cf
      · exact c162 cf
      · exact c174 cf)
            · show qJ YX12_fitsSoFar κ _ (qLy u, (q_row M 122 g), y) 0 0 151 [some (qR 77), some (qI i), some (qI (M 120 (M 121 i.toNat).toNat)), some (qI (M 119 i.toNat)), some (qI k), some (qI (M 87 (((5 * (M 120 (M 121 i.toNat).toNat)) + k).toNat))), some (qI (M 117 (((10 * (M 119 i.toNat)) + k).toNat)))] []
              refine qJ.run hκ 3 (pc' := 106) (ls' := [some (qR 77), some (qI i), some (qI (M 120 (M 121 i.toNat).toNat)), some (qI (M 119 i.toNat)), some (qI (k + 1)), some (qI (M 87 (((5 * (M 120 (M 121 i.toNat).toNat)) + k).toNat))), some (qI (M 117 (((10 * (M 119 i.toNat)) + k).toNat)))]) (st' := []) rfl ?_
              refine qJ.dl [true, true, true, true, true, false, false] ?_
              show qJ YX12_fitsSoFar κ _ (qLy u, (q_row M 122 g), y) 0 0 106 [some (qR 77), some (qI i), some (qI (M 120 (M 121 i.toNat).toNat)), some (qI (M 119 i.toNat)), some (qI (k + 1)), none, none] []
              exact ih106  (k + 1) g (by omega) (fun s hs => by rw [show (k + 1).toNat = k.toNat + 1 by omega]; rw [vP_20 (sg.symm.trans c148)]; exact v106_1 s hs) (fun j hj => by
          by_cases e : (j : Int) = k
          · rw [show j = k.toNat by omega]; exact Or.inl (sg.symm.trans c148)
          · exact v106_2 j (by omega)) (v106_3) (by omega)
      refine qJ.run hκ 3 (pc' := 64) (ls' := [some (qR 77), some (qI i), none, none, none, none, none]) (st' := [qI (M 77 61), qI i]) rfl ?_
      refine qJ.icmp_gt hκ (tgt := 200) rfl rfl (by omega) (by omega) (fun c64 => ?_) (fun c64 => ?_)
      · show qJ YX12_fitsSoFar κ _ (qLy u, (q_row M 122 g), y) 0 0 200 [some (qR 77), some (qI i), none, none, none, none, none] []
        refine qJ.run hκ 2 (pc' := 202) (ls' := [some (qR 77), some (qI 0), none, none, none, none, none]) (st' := []) rfl ?_
        exact L202 21 0 g (by omega) (fun s hs => by rw [show p.toNat + 1 = i.toNat by omega]; exact v59_1 s hs) (⟨v59_2, v59_3 (by omega)⟩) (fun x z hx => by omega) (by omega)
      · show qJ YX12_fitsSoFar κ _ (qLy u, (q_row M 122 g), y) 0 0 67 [some (qR 77), some (qI i), none, none, none, none, none] []
        have hi := hch i.toNat (by omega)
        have cwi := cW_at hi.2.2
        have sni := sN_at (m := m) (i := i.toNat) (by omega)
        have ew : M 120 (M 121 i.toNat).toNat = cW m (ch i.toNat).toNat := by rw [hi.1]; exact hm.2.2.1.2 _ hi.2.2
        have en : M 119 i.toNat = sN m i.toNat := hm.2.2.1.1 _ (by omega)
        have vmi := hm.2.2.2.1 i.toNat (by omega)
        have wr := hR.2.1 (cW m (ch i.toNat).toNat) cwi.1 (by omega)
        have rw0 := hR.2.2.1 (cW m (ch i.toNat).toNat) cwi.1 (by omega)
        have spi := sni.2.2.1
        rw [spA, q_tn sni.1] at spi
        have dLe : dL (DD m) (ch i.toNat).toNat = m 4 (cW m (ch i.toNat).toNat).toNat := rfl
        have dWe : dW (DD m) i.toNat = (vL m (sN m i.toNat) : Int) := rfl
        have k118 : M 118 (M 119 i.toNat).toNat = (vL m (sN m i.toNat) : Int) := by rw [en]; exact vmi.1
        have k88b : M 88 (M 120 (M 121 i.toNat).toNat).toNat = m 4 (cW m (ch i.toNat).toNat).toNat := by rw [ew, k88]; exact rw0.1.1
        refine qJ.run hκ 5 (pc' := 76) (ls' := [some (qR 77), some (qI i), none, none, none, none, none]) (st' := [qI i, qR 121, qR 120]) rfl ?_
        refine qJ.ald hκ rfl rfl rfl (by decide) (by omega) ?_
        show qJ YX12_fitsSoFar κ _ (qLy u, (q_row M 122 g), y) 0 0 77 [some (qR 77), some (qI i), none, none, none, none, none] [qI (M 121 i.toNat), qR 120]
        refine qJ.ald hκ rfl rfl rfl (by decide) (by omega) ?_
        show qJ YX12_fitsSoFar κ _ (qLy u, (q_row M 122 g), y) 0 0 78 [some (qR 77), some (qI i), none, none, none, none, none] [qI (M 120 ((M 121 i.toNat).toNat))]
        refine qJ.run hκ 4 (pc' := 84) (ls' := [some (qR 77), some (qI i), some (qI (M 120 ((M 121 i.toNat).toNat))), none, none, none, none]) (st' := [qI i, qR 119]) rfl ?_
        refine qJ.ald hκ rfl rfl rfl (by decide) (by omega) ?_
        show qJ YX12_fitsSoFar κ _ (qLy u, (q_row M 122 g), y) 0 0 85 [some (qR 77), some (qI i), some (qI (M 120 ((M 121 i.toNat).toNat))), none, none, none, none] [qI (M 119 i.toNat)]
        refine qJ.run hκ 4 (pc' := 91) (ls' := [some (qR 77), some (qI i), some (qI (M 120 ((M 121 i.toNat).toNat))), some (qI (M 119 i.toNat)), none, none, none]) (st' := [qI (M 120 ((M 121 i.toNat).toNat)), qR 88]) rfl ?_
        refine qJ.ald hκ rfl rfl rfl (by decide) (by omega) ?_
        show qJ YX12_fitsSoFar κ _ (qLy u, (q_row M 122 g), y) 0 0 92 [some (qR 77), some (qI i), some (qI (M 120 ((M 121 i.toNat).toNat))), some (qI (M 119 i.toNat)), none, none, none] [qI (M 88 ((M 120 ((M 121 i.toNat).toNat)).toNat))]
        refine qJ.run hκ 3 (pc' := 97) (ls' := [some (qR 77), some (qI i), some (qI (M 120 ((M 121 i.toNat).toNat))), some (qI (M 119 i.toNat)), none, none, none]) (st' := [qI (M 119 i.toNat), qR 118, qI (M 88 ((M 120 ((M 121 i.toNat).toNat)).toNat))]) rfl ?_
        refine qJ.ald hκ rfl rfl rfl (by decide) (by omega) ?_
        show qJ YX12_fitsSoFar κ _ (qLy u, (q_row M 122 g), y) 0 0 98 [some (qR 77), some (qI i), some (qI (M 120 ((M 121 i.toNat).toNat))), some (qI (M 119 i.toNat)), none, none, none] [qI (M 118 ((M 119 i.toNat).toNat)), qI (M 88 ((M 120 ((M 121 i.toNat).toNat)).toNat))]
        refine qJ.icmp_eq hκ (tgt := 103) rfl rfl (by omega) (by omega) (fun c98 => ?_) (fun c98 => ?_)
        · show qJ YX12_fitsSoFar κ _ (qLy u, (q_row M 122 g), y) 0 0 103 [some (qR 77), some (qI i), some (qI (M 120 ((M 121 i.toNat).toNat))), some (qI (M 119 i.toNat)), none, none, none] []
          refine qJ.run hκ 2 (pc' := 106) (ls' := [some (qR 77), some (qI i), some (qI (M 120 ((M 121 i.toNat).toNat))), some (qI (M 119 i.toNat)), some (qI 0), none, none]) (st' := []) rfl ?_
          exact L106 6 0 g (⟨Int.le_refl 0, by omega⟩) (fun s hs => v59_1 s hs) (fun j hj => by omega) (⟨by omega, by omega⟩) (by omega)
        · show qJ YX12_fitsSoFar κ _ (qLy u, (q_row M 122 g), y) 0 0 101 [some (qR 77), some (qI i), some (qI (M 120 ((M 121 i.toNat).toNat))), some (qI (M 119 i.toNat)), none, none, none] []
          refine qJ.run hκ 1 (pc' := 102) (ls' := [some (qR 77), some (qI i), some (qI (M 120 ((M 121 i.toNat).toNat))), some (qI (M 119 i.toNat)), none, none, none]) (st' := [qI 0]) rfl ?_
          exact qJ.bret hκ rfl rfl (by omega) (by decide) (by decide) (by
      refine ⟨0, g, rfl, rfl, Or.inr ⟨rfl, fun zz => ?_⟩⟩
      have zf : ftL (DD m) ch i.toNat := by
        by_cases e : i = p
        · rw [e]; exact zz
        · exact hpre i.toNat (by omega)
      exact c98 (k88b.trans (Eq.trans zf.2.1 k118.symm)))
  have L38 : ∀ (n : Nat) (i : Int) (g : Nat → Int), (0 ≤ i ∧ i ≤ 20) → (∀ s : Nat, (s : Int) < i → g s = -1) → ((∀ e : Nat, (e : Int) < p → ¬ ch e = ch p.toNat)) → ((20 - i).toNat) < n → qJ YX12_fitsSoFar κ (qFin (fun r h => ∃ (z : Int) (g : Nat → Int), r = some (qI z) ∧ h = (qLy u, q_row M 122 g, y) ∧ ((z = 1 ∧ ftL (DD m) ch p.toNat ∧ ∀ s : Nat, s < 20 → g s = VM (DD m) ch (p.toNat + 1) s) ∨ (z = 0 ∧ ¬ ftL (DD m) ch p.toNat))) 0 0 κ) (qLy u, (q_row M 122 g), y) 0 0 38 [some (qR 77), some (qI i), none, none, none, none, none] [] := by
    intro n
    induction n with
    | zero => intro i g _ _ _ hz0; omega
    | succ n ih38 =>
      intro i g v38_0 v38_1 v38_2 v38_m
      refine qJ.run hκ 2 (pc' := 41) (ls' := [some (qR 77), some (qI i), none, none, none, none, none]) (st' := [qI 20, qI i]) rfl ?_
      refine qJ.icmp_ge hκ (tgt := 57) rfl rfl (by omega) (by omega) (fun c41 => ?_) (fun c41 => ?_)
      · show qJ YX12_fitsSoFar κ _ (qLy u, (q_row M 122 g), y) 0 0 57 [some (qR 77), some (qI i), none, none, none, none, none] []
        refine qJ.run hκ 2 (pc' := 59) (ls' := [some (qR 77), some (qI 0), none, none, none, none, none]) (st' := []) rfl ?_
        exact L59 7 0 g (by omega) (fun s hs => v38_1 s (by omega)) (v38_2) (fun z => by omega) (by omega)
      · show qJ YX12_fitsSoFar κ _ (qLy u, (q_row M 122 g), y) 0 0 44 [some (qR 77), some (qI i), none, none, none, none, none] []
        refine qJ.run hκ 4 (pc' := 50) (ls' := [some (qR 77), some (qI i), none, none, none, none, none]) (st' := [qI (-1), qI i, qR 122]) rfl ?_
        refine qJ.ast hκ rfl rfl rfl (by decide) (by omega) ?_
        refine qJ.mc (m1 := (q_up (q_row M 122 g) 122 i.toNat (-1))) (m2 := (q_row M 122 (q_fu g i.toNat (-1)))) (by rw [q_up_row_eq]) ?_
        show qJ YX12_fitsSoFar κ _ (qLy u, (q_row M 122 (q_fu g i.toNat (-1))), y) 0 0 51 [some (qR 77), some (qI i), none, none, none, none, none] []
        refine qJ.run hκ 2 (pc' := 38) (ls' := [some (qR 77), some (qI (i + 1)), none, none, none, none, none]) (st' := []) rfl ?_
        exact qJ.cast (ih38  (i + 1) (q_fu g i.toNat (-1)) (by omega) (fun s hs => by
        by_cases q : s = i.toNat
        · rw [q, q_fu_eq]
        · rw [q_fu_ne q]; exact v38_1 s (by omega)) (v38_2) (by omega)) (rfl) rfl rfl
  have L2 : ∀ (n : Nat) (i : Int), (0 ≤ i ∧ i ≤ p) → (∀ e : Nat, (e : Int) < i → ¬ ch e = ch p.toNat) → ((p - i).toNat) < n → qJ YX12_fitsSoFar κ (qFin (fun r h => ∃ (z : Int) (g : Nat → Int), r = some (qI z) ∧ h = (qLy u, q_row M 122 g, y) ∧ ((z = 1 ∧ ftL (DD m) ch p.toNat ∧ ∀ s : Nat, s < 20 → g s = VM (DD m) ch (p.toNat + 1) s) ∨ (z = 0 ∧ ¬ ftL (DD m) ch p.toNat))) 0 0 κ) (qLy u, M, y) 0 0 2 [some (qR 77), some (qI i), none, none, none, none, none] [] := by
    intro n
    induction n with
    | zero => intro i _ _ hz0; omega
    | succ n ih2 =>
      intro i v2_0 v2_1 v2_m
      have hp0 : M 121 (M 77 61).toNat = ch p.toNat ∧ 0 ≤ ch p.toNat ∧ (ch p.toNat).toNat < nC m := by rw [hp.1]; exact hch p.toNat (by omega)
      refine qJ.run hκ 3 (pc' := 7) (ls' := [some (qR 77), some (qI i), none, none, none, none, none]) (st' := [qI (M 77 61), qI i]) rfl ?_
      refine qJ.icmp_ge hκ (tgt := 36) rfl rfl (by omega) (by omega) (fun c7 => ?_) (fun c7 => ?_)
      · show qJ YX12_fitsSoFar κ _ (qLy u, M, y) 0 0 36 [some (qR 77), some (qI i), none, none, none, none, none] []
        refine qJ.run hκ 2 (pc' := 38) (ls' := [some (qR 77), some (qI 0), none, none, none, none, none]) (st' := []) rfl ?_
        exact qJ.cast (L38 21 0 (M 122) (by omega) (fun s hs => absurd hs (by omega)) (fun e he => v2_1 e (by omega)) (by omega)) (by rw [q_row_self]) rfl rfl
      · show qJ YX12_fitsSoFar κ _ (qLy u, M, y) 0 0 10 [some (qR 77), some (qI i), none, none, none, none, none] []
        have hi0 := hch i.toNat (by omega)
        refine qJ.run hκ 3 (pc' := 15) (ls' := [some (qR 77), some (qI i), none, none, none, none, none]) (st' := [qI i, qR 121]) rfl ?_
        refine qJ.ald hκ rfl rfl rfl (by decide) (by omega) ?_
        show qJ YX12_fitsSoFar κ _ (qLy u, M, y) 0 0 16 [some (qR 77), some (qI i), none, none, none, none, none] [qI (M 121 i.toNat)]
        refine qJ.run hκ 4 (pc' := 24) (ls' := [some (qR 77), some (qI i), none, none, none, none, none]) (st' := [qI (M 77 61), qR 121, qI (M 121 i.toNat)]) rfl ?_
        refine qJ.ald hκ rfl rfl rfl (by decide) (by omega) ?_
        show qJ YX12_fitsSoFar κ _ (qLy u, M, y) 0 0 25 [some (qR 77), some (qI i), none, none, none, none, none] [qI (M 121 ((M 77 61).toNat)), qI (M 121 i.toNat)]
        refine qJ.icmp_ne hκ (tgt := 30) rfl rfl (by omega) (by omega) (fun c25 => ?_) (fun c25 => ?_)
        · show qJ YX12_fitsSoFar κ _ (qLy u, M, y) 0 0 30 [some (qR 77), some (qI i), none, none, none, none, none] []
          refine qJ.run hκ 2 (pc' := 2) (ls' := [some (qR 77), some (qI (i + 1)), none, none, none, none, none]) (st' := []) rfl ?_
          exact ih2  (i + 1) (by omega) (fun e he => by
        by_cases q : (e : Int) = i
        · intro z
          exact c25 (by rw [hi0.1, hp0.1, show i.toNat = e by omega]; exact z)
        · exact v2_1 e (by omega)) (by omega)
        · show qJ YX12_fitsSoFar κ _ (qLy u, M, y) 0 0 28 [some (qR 77), some (qI i), none, none, none, none, none] []
          refine qJ.run hκ 1 (pc' := 29) (ls' := [some (qR 77), some (qI i), none, none, none, none, none]) (st' := [qI 0]) rfl ?_
          exact qJ.bret hκ rfl rfl (by omega) (by decide) (by decide) (by
      refine ⟨0, M 122, rfl, by rw [q_row_self], Or.inr ⟨rfl, fun zz => ?_⟩⟩
      exact zz.1 i.toNat (by omega) (hi0.1.symm.trans (c25.trans hp0.1)))
  show qJ YX12_fitsSoFar κ _ (qLy u, M, y) 0 0 0 [some (qR 77), none, none, none, none, none, none] []
  refine qJ.run hκ 2 (pc' := 2) (ls' := [some (qR 77), some (qI 0), none, none, none, none, none]) (st' := []) rfl ?_
  exact L2 6 0 (by omega) (fun e he => absurd he (by omega)) (by omega)

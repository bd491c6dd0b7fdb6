/-! printed by p113.py: the law: each of its cases -/
set_option maxRecDepth 100000 in
theorem law_0 {nm : String} {κ : qK} {fin : State → Prop} {L : Nat} {xs : Nat → Int32} {c i : Int} {u : qU} {m y : qM} {cs sl : Nat} (hκ0 : qCx (YL nm tbL) 13 600000 7302250 κ) (hX : qSc κ L xs) (hL : L ≤ 3584) (hi : 0 ≤ i ∧ i + 7 ≤ L) (hc : c < 512) (hA : iA c u m) (hcs : cs + 21 ≤ 600000) (hsl : sl + 2101 ≤ 7302250) (k : ∀ (u' : qU) (m' y' : qM) (cs' sl' : Nat), iA (c + 1) u' m' → cs' ≤ cs + 21 → sl' ≤ sl + 2101 → qJ (YL nm tbL) κ fin (qLy u', m', y') cs' sl' 1246 [some (qR 1300), some (qR 0), some (qR 77), some (qI i)] []) : qJ (YL nm tbL) κ fin (qLy u, m, y) cs sl 192 [some (qR 1300), some (qR 0), some (qR 77), some (qI i)] [] := by
  refine qJ.tb (tb := tbL0) ?_
  have hκ := qCx.tb tbL0_ok hκ0
  show qJ (YL nm tbL0) κ fin (qLy u, m, y) cs sl 192 [some (qR 1300), some (qR 0), some (qR 77), some (qI i)] []
  refine qJ.run hκ 5 (pc' := 197) (ls' := [some (qR 1300), some (qR 0), some (qR 77), some (qI i)]) (st' := [qI (i + 1), qR 1300, qR 0]) rfl ?_
  refine qJ.sld hκ hX rfl (by omega) (by omega) ?_
  show qJ (YL nm tbL0) κ fin (qLy u, m, y) cs sl 198 [some (qR 1300), some (qR 0), some (qR 77), some (qI i)] [qI (sc xs (i + 1)), qR 0]
  obtain ⟨mc, ms, Q, b1, b2, hC, hQ⟩ := j_site y (sc xs (i + 1)) hA (sc_r xs _)
  refine qJ.callV (b := 0) (As := [qI (sc xs (i + 1))]) (rest := []) hκ rfl kL_13 hC rfl rfl (by decide) rfl rfl (Nat.le_of_ble_eq_true rfl) (by omega) (by omega) (Or.inr ⟨rfl, law_wf u i⟩) (fun r h e => ?_)
  obtain ⟨z, u1, m1, y1, rfl, rfl, Q2, hC2, hQ2⟩ := hQ r h e
  show qJ (YL nm tbL0) κ fin (qLy u1, m1, y1) (cs + mc) (sl + ms) 201 [some (qR 1300), some (qR 0), some (qR 77), some (qI i)] [qI z]
  refine qJ.run hκ 5 (pc' := 206) (ls' := [some (qR 1300), some (qR 0), some (qR 77), some (qI i)]) (st' := [qI (i + 1), qR 1300, qR 77, qI z]) rfl ?_
  refine qJ.sld hκ hX rfl (by omega) (by omega) ?_
  show qJ (YL nm tbL0) κ fin (qLy u1, m1, y1) (cs + mc) (sl + ms) 207 [some (qR 1300), some (qR 0), some (qR 77), some (qI i)] [qI (sc xs (i + 1)), qR 77, qI z]
  refine qJ.callV (b := 77) (As := [qI (sc xs (i + 1))]) (rest := [qI z]) hκ rfl kL_17 hC2 rfl rfl (by decide) rfl rfl (Nat.le_of_ble_eq_true rfl) (by omega) (by omega) (Or.inr ⟨rfl, law_wf u1 i⟩) (fun r2 h2 e2 => ?_)
  obtain ⟨rfl, m2, y2, rfl, hA2⟩ := hQ2 r2 h2 e2
  show qJ (YL nm tbL0) κ fin (qLy u1, m2, y2) (cs + mc + 0) (sl + ms + 0) 210 [some (qR 1300), some (qR 0), some (qR 77), some (qI i)] [qI z, qI z]
  refine qJ.icmp_same hκ (tgt := 1246) rfl rfl ?_
  exact qJ.tb (k u1 m2 y2 _ _ hA2 (by omega) (by omega))

set_option maxRecDepth 100000 in
theorem law_1 {nm : String} {κ : qK} {fin : State → Prop} {L : Nat} {xs : Nat → Int32} {c i : Int} {u : qU} {m y : qM} {cs sl : Nat} (hκ0 : qCx (YL nm tbL) 13 600000 7302250 κ) (hX : qSc κ L xs) (hL : L ≤ 3584) (hi : 0 ≤ i ∧ i + 7 ≤ L) (hc : c < 512) (hA : iA c u m) (hcs : cs + 21 ≤ 600000) (hsl : sl + 2101 ≤ 7302250) (k : ∀ (u' : qU) (m' y' : qM) (cs' sl' : Nat), iA (c + 1) u' m' → cs' ≤ cs + 21 → sl' ≤ sl + 2101 → qJ (YL nm tbL) κ fin (qLy u', m', y') cs' sl' 1246 [some (qR 1300), some (qR 0), some (qR 77), some (qI i)] []) : qJ (YL nm tbL) κ fin (qLy u, m, y) cs sl 215 [some (qR 1300), some (qR 0), some (qR 77), some (qI i)] [] := by
  refine qJ.tb (tb := tbL1) ?_
  have hκ := qCx.tb tbL1_ok hκ0
  show qJ (YL nm tbL1) κ fin (qLy u, m, y) cs sl 215 [some (qR 1300), some (qR 0), some (qR 77), some (qI i)] []
  refine qJ.run hκ 5 (pc' := 220) (ls' := [some (qR 1300), some (qR 0), some (qR 77), some (qI i)]) (st' := [qI (i + 1), qR 1300, qR 0]) rfl ?_
  refine qJ.sld hκ hX rfl (by omega) (by omega) ?_
  show qJ (YL nm tbL1) κ fin (qLy u, m, y) cs sl 221 [some (qR 1300), some (qR 0), some (qR 77), some (qI i)] [qI (sc xs (i + 1)), qR 0]
  refine qJ.if_eq hκ (tgt := 228) rfl rfl (sc_r xs _) (fun fx => ?_) (fun fx => ?_)
  · show qJ (YL nm tbL1) κ fin (qLy u, m, y) cs sl 228 [some (qR 1300), some (qR 0), some (qR 77), some (qI i)] [qR 0]
    refine qJ.run hκ 5 (pc' := 233) (ls' := [some (qR 1300), some (qR 0), some (qR 77), some (qI i)]) (st' := [qI (i + 2), qR 1300, qI 0, qR 0]) rfl ?_
    refine qJ.sld hκ hX rfl (by omega) (by omega) ?_
    show qJ (YL nm tbL1) κ fin (qLy u, m, y) cs sl 234 [some (qR 1300), some (qR 0), some (qR 77), some (qI i)] [qI (sc xs (i + 2)), qI 0, qR 0]
    refine qJ.run hκ 4 (pc' := 238) (ls' := [some (qR 1300), some (qR 0), some (qR 77), some (qI i)]) (st' := [qI (i + 3), qR 1300, qI (sc xs (i + 2)), qI 0, qR 0]) rfl ?_
    refine qJ.sld hκ hX rfl (by omega) (by omega) ?_
    show qJ (YL nm tbL1) κ fin (qLy u, m, y) cs sl 239 [some (qR 1300), some (qR 0), some (qR 77), some (qI i)] [qI (sc xs (i + 3)), qI (sc xs (i + 2)), qI 0, qR 0]
    refine qJ.run hκ 4 (pc' := 243) (ls' := [some (qR 1300), some (qR 0), some (qR 77), some (qI i)]) (st' := [qI (i + 4), qR 1300, qI (sc xs (i + 3)), qI (sc xs (i + 2)), qI 0, qR 0]) rfl ?_
    refine qJ.sld hκ hX rfl (by omega) (by omega) ?_
    show qJ (YL nm tbL1) κ fin (qLy u, m, y) cs sl 244 [some (qR 1300), some (qR 0), some (qR 77), some (qI i)] [qI (sc xs (i + 4)), qI (sc xs (i + 3)), qI (sc xs (i + 2)), qI 0, qR 0]
    refine qJ.run hκ 4 (pc' := 248) (ls' := [some (qR 1300), some (qR 0), some (qR 77), some (qI i)]) (st' := [qI (i + 5), qR 1300, qI (sc xs (i + 4)), qI (sc xs (i + 3)), qI (sc xs (i + 2)), qI 0, qR 0]) rfl ?_
    refine qJ.sld hκ hX rfl (by omega) (by omega) ?_
    show qJ (YL nm tbL1) κ fin (qLy u, m, y) cs sl 249 [some (qR 1300), some (qR 0), some (qR 77), some (qI i)] [qI (sc xs (i + 5)), qI (sc xs (i + 4)), qI (sc xs (i + 3)), qI (sc xs (i + 2)), qI 0, qR 0]
    refine qJ.run hκ 4 (pc' := 254) (ls' := [some (qR 1300), some (qR 0), some (qR 77), some (qI i)]) (st' := [qI (i + 6), qR 1300, qI (sc xs (i + 5)), qI (sc xs (i + 4)), qI (sc xs (i + 3)), qI (sc xs (i + 2)), qI 0, qR 0]) rfl ?_
    refine qJ.sld hκ hX rfl (by omega) (by omega) ?_
    show qJ (YL nm tbL1) κ fin (qLy u, m, y) cs sl 255 [some (qR 1300), some (qR 0), some (qR 77), some (qI i)] [qI (sc xs (i + 6)), qI (sc xs (i + 5)), qI (sc xs (i + 4)), qI (sc xs (i + 3)), qI (sc xs (i + 2)), qI 0, qR 0]
    obtain ⟨mc, ms, Q, b1, b2, hC, hQ⟩ := j_word y 0 (sc xs (i + 2)) (sc xs (i + 3)) (sc xs (i + 4)) (sc xs (i + 5)) (sc xs (i + 6)) hA (by omega) (sc_r xs _) (sc_r xs _) (sc_r xs _) (sc_r xs _) (sc_r xs _)
    refine qJ.callV (b := 0) (As := [qI 0, qI (sc xs (i + 2)), qI (sc xs (i + 3)), qI (sc xs (i + 4)), qI (sc xs (i + 5)), qI (sc xs (i + 6))]) (rest := []) hκ rfl kL_18 hC rfl rfl (by decide) rfl rfl (Nat.le_of_ble_eq_true rfl) (by omega) (by omega) (Or.inr ⟨rfl, law_wf u i⟩) (fun r h e => ?_)
    obtain ⟨z, u1, m1, y1, rfl, rfl, Q2, hC2, hQ2⟩ := hQ r h e
    show qJ (YL nm tbL1) κ fin (qLy u1, m1, y1) (cs + mc) (sl + ms) 258 [some (qR 1300), some (qR 0), some (qR 77), some (qI i)] [qI z]
    refine qJ.run hκ 5 (pc' := 263) (ls' := [some (qR 1300), some (qR 0), some (qR 77), some (qI i)]) (st' := [qI (i + 1), qR 1300, qR 77, qI z]) rfl ?_
    refine qJ.sld hκ hX rfl (by omega) (by omega) ?_
    show qJ (YL nm tbL1) κ fin (qLy u1, m1, y1) (cs + mc) (sl + ms) 264 [some (qR 1300), some (qR 0), some (qR 77), some (qI i)] [qI (sc xs (i + 1)), qR 77, qI z]
    refine qJ.if_eq hκ (tgt := 271) rfl rfl (sc_r xs _) (fun fm => ?_) (fun fm => ?_)
    · show qJ (YL nm tbL1) κ fin (qLy u1, m1, y1) (cs + mc) (sl + ms) 271 [some (qR 1300), some (qR 0), some (qR 77), some (qI i)] [qR 77, qI z]
      refine qJ.run hκ 5 (pc' := 276) (ls' := [some (qR 1300), some (qR 0), some (qR 77), some (qI i)]) (st' := [qI (i + 2), qR 1300, qI 0, qR 77, qI z]) rfl ?_
      refine qJ.sld hκ hX rfl (by omega) (by omega) ?_
      show qJ (YL nm tbL1) κ fin (qLy u1, m1, y1) (cs + mc) (sl + ms) 277 [some (qR 1300), some (qR 0), some (qR 77), some (qI i)] [qI (sc xs (i + 2)), qI 0, qR 77, qI z]
      refine qJ.run hκ 4 (pc' := 281) (ls' := [some (qR 1300), some (qR 0), some (qR 77), some (qI i)]) (st' := [qI (i + 3), qR 1300, qI (sc xs (i + 2)), qI 0, qR 77, qI z]) rfl ?_
      refine qJ.sld hκ hX rfl (by omega) (by omega) ?_
      show qJ (YL nm tbL1) κ fin (qLy u1, m1, y1) (cs + mc) (sl + ms) 282 [some (qR 1300), some (qR 0), some (qR 77), some (qI i)] [qI (sc xs (i + 3)), qI (sc xs (i + 2)), qI 0, qR 77, qI z]
      refine qJ.run hκ 4 (pc' := 286) (ls' := [some (qR 1300), some (qR 0), some (qR 77), some (qI i)]) (st' := [qI (i + 4), qR 1300, qI (sc xs (i + 3)), qI (sc xs (i + 2)), qI 0, qR 77, qI z]) rfl ?_
      refine qJ.sld hκ hX rfl (by omega) (by omega) ?_
      show qJ (YL nm tbL1) κ fin (qLy u1, m1, y1) (cs + mc) (sl + ms) 287 [some (qR 1300), some (qR 0), some (qR 77), some (qI i)] [qI (sc xs (i + 4)), qI (sc xs (i + 3)), qI (sc xs (i + 2)), qI 0, qR 77, qI z]
      refine qJ.run hκ 4 (pc' := 291) (ls' := [some (qR 1300), some (qR 0), some (qR 77), some (qI i)]) (st' := [qI (i + 5), qR 1300, qI (sc xs (i + 4)), qI (sc xs (i + 3)), qI (sc xs (i + 2)), qI 0, qR 77, qI z]) rfl ?_
      refine qJ.sld hκ hX rfl (by omega) (by omega) ?_
      show qJ (YL nm tbL1) κ fin (qLy u1, m1, y1) (cs + mc) (sl + ms) 292 [some (qR 1300), some (qR 0), some (qR 77), some (qI i)] [qI (sc xs (i + 5)), qI (sc xs (i + 4)), qI (sc xs (i + 3)), qI (sc xs (i + 2)), qI 0, qR 77, qI z]
      refine qJ.run hκ 4 (pc' := 297) (ls' := [some (qR 1300), some (qR 0), some (qR 77), some (qI i)]) (st' := [qI (i + 6), qR 1300, qI (sc xs (i + 5)), qI (sc xs (i + 4)), qI (sc xs (i + 3)), qI (sc xs (i + 2)), qI 0, qR 77, qI z]) rfl ?_
      refine qJ.sld hκ hX rfl (by omega) (by omega) ?_
      show qJ (YL nm tbL1) κ fin (qLy u1, m1, y1) (cs + mc) (sl + ms) 298 [some (qR 1300), some (qR 0), some (qR 77), some (qI i)] [qI (sc xs (i + 6)), qI (sc xs (i + 5)), qI (sc xs (i + 4)), qI (sc xs (i + 3)), qI (sc xs (i + 2)), qI 0, qR 77, qI z]
      refine qJ.callV (b := 77) (As := [qI 0, qI (sc xs (i + 2)), qI (sc xs (i + 3)), qI (sc xs (i + 4)), qI (sc xs (i + 5)), qI (sc xs (i + 6))]) (rest := [qI z]) hκ rfl kL_22 hC2 rfl rfl (by decide) rfl rfl (Nat.le_of_ble_eq_true rfl) (by omega) (by omega) (Or.inr ⟨rfl, law_wf u1 i⟩) (fun r2 h2 e2 => ?_)
      obtain ⟨rfl, m2, y2, rfl, hA2⟩ := hQ2 r2 h2 e2
      show qJ (YL nm tbL1) κ fin (qLy u1, m2, y2) (cs + mc + 0) (sl + ms + 0) 301 [some (qR 1300), some (qR 0), some (qR 77), some (qI i)] [qI z, qI z]
      refine qJ.icmp_same hκ (tgt := 1246) rfl rfl ?_
      exact qJ.tb (k u1 m2 y2 _ _ hA2 (by omega) (by omega))
    · exact absurd fx fm
  · show qJ (YL nm tbL1) κ fin (qLy u, m, y) cs sl 224 [some (qR 1300), some (qR 0), some (qR 77), some (qI i)] [qR 0]
    refine qJ.run hκ 6 (pc' := 233) (ls' := [some (qR 1300), some (qR 0), some (qR 77), some (qI i)]) (st' := [qI (i + 2), qR 1300, qI 1, qR 0]) rfl ?_
    refine qJ.sld hκ hX rfl (by omega) (by omega) ?_
    show qJ (YL nm tbL1) κ fin (qLy u, m, y) cs sl 234 [some (qR 1300), some (qR 0), some (qR 77), some (qI i)] [qI (sc xs (i + 2)), qI 1, qR 0]
    refine qJ.run hκ 4 (pc' := 238) (ls' := [some (qR 1300), some (qR 0), some (qR 77), some (qI i)]) (st' := [qI (i + 3), qR 1300, qI (sc xs (i + 2)), qI 1, qR 0]) rfl ?_
    refine qJ.sld hκ hX rfl (by omega) (by omega) ?_
    show qJ (YL nm tbL1) κ fin (qLy u, m, y) cs sl 239 [some (qR 1300), some (qR 0), some (qR 77), some (qI i)] [qI (sc xs (i + 3)), qI (sc xs (i + 2)), qI 1, qR 0]
    refine qJ.run hκ 4 (pc' := 243) (ls' := [some (qR 1300), some (qR 0), some (qR 77), some (qI i)]) (st' := [qI (i + 4), qR 1300, qI (sc xs (i + 3)), qI (sc xs (i + 2)), qI 1, qR 0]) rfl ?_
    refine qJ.sld hκ hX rfl (by omega) (by omega) ?_
    show qJ (YL nm tbL1) κ fin (qLy u, m, y) cs sl 244 [some (qR 1300), some (qR 0), some (qR 77), some (qI i)] [qI (sc xs (i + 4)), qI (sc xs (i + 3)), qI (sc xs (i + 2)), qI 1, qR 0]
    refine qJ.run hκ 4 (pc' := 248) (ls' := [some (qR 1300), some (qR 0), some (qR 77), some (qI i)]) (st' := [qI (i + 5), qR 1300, qI (sc xs (i + 4)), qI (sc xs (i + 3)), qI (sc xs (i + 2)), qI 1, qR 0]) rfl ?_
    refine qJ.sld hκ hX rfl (by omega) (by omega) ?_
    show qJ (YL nm tbL1) κ fin (qLy u, m, y) cs sl 249 [some (qR 1300), some (qR 0), some (qR 77), some (qI i)] [qI (sc xs (i + 5)), qI (sc xs (i + 4)), qI (sc xs (i + 3)), qI (sc xs (i + 2)), qI 1, qR 0]
    refine qJ.run hκ 4 (pc' := 254) (ls' := [some (qR 1300), some (qR 0), some (qR 77), some (qI i)]) (st' := [qI (i + 6), qR 1300, qI (sc xs (i + 5)), qI (sc xs (i + 4)), qI (sc xs (i + 3)), qI (sc xs (i + 2)), qI 1, qR 0]) rfl ?_
    refine qJ.sld hκ hX rfl (by omega) (by omega) ?_
    show qJ (YL nm tbL1) κ fin (qLy u, m, y) cs sl 255 [some (qR 1300), some (qR 0), some (qR 77), some (qI i)] [qI (sc xs (i + 6)), qI (sc xs (i + 5)), qI (sc xs (i + 4)), qI (sc xs (i + 3)), qI (sc xs (i + 2)), qI 1, qR 0]
    obtain ⟨mc, ms, Q, b1, b2, hC, hQ⟩ := j_word y 1 (sc xs (i + 2)) (sc xs (i + 3)) (sc xs (i + 4)) (sc xs (i + 5)) (sc xs (i + 6)) hA (by omega) (sc_r xs _) (sc_r xs _) (sc_r xs _) (sc_r xs _) (sc_r xs _)
    refine qJ.callV (b := 0) (As := [qI 1, qI (sc xs (i + 2)), qI (sc xs (i + 3)), qI (sc xs (i + 4)), qI (sc xs (i + 5)), qI (sc xs (i + 6))]) (rest := []) hκ rfl kL_18 hC rfl rfl (by decide) rfl rfl (Nat.le_of_ble_eq_true rfl) (by omega) (by omega) (Or.inr ⟨rfl, law_wf u i⟩) (fun r h e => ?_)
    obtain ⟨z, u1, m1, y1, rfl, rfl, Q2, hC2, hQ2⟩ := hQ r h e
    show qJ (YL nm tbL1) κ fin (qLy u1, m1, y1) (cs + mc) (sl + ms) 258 [some (qR 1300), some (qR 0), some (qR 77), some (qI i)] [qI z]
    refine qJ.run hκ 5 (pc' := 263) (ls' := [some (qR 1300), some (qR 0), some (qR 77), some (qI i)]) (st' := [qI (i + 1), qR 1300, qR 77, qI z]) rfl ?_
    refine qJ.sld hκ hX rfl (by omega) (by omega) ?_
    show qJ (YL nm tbL1) κ fin (qLy u1, m1, y1) (cs + mc) (sl + ms) 264 [some (qR 1300), some (qR 0), some (qR 77), some (qI i)] [qI (sc xs (i + 1)), qR 77, qI z]
    refine qJ.if_eq hκ (tgt := 271) rfl rfl (sc_r xs _) (fun fm => ?_) (fun fm => ?_)
    · exact absurd fm fx
    · show qJ (YL nm tbL1) κ fin (qLy u1, m1, y1) (cs + mc) (sl + ms) 267 [some (qR 1300), some (qR 0), some (qR 77), some (qI i)] [qR 77, qI z]
      refine qJ.run hκ 6 (pc' := 276) (ls' := [some (qR 1300), some (qR 0), some (qR 77), some (qI i)]) (st' := [qI (i + 2), qR 1300, qI 1, qR 77, qI z]) rfl ?_
      refine qJ.sld hκ hX rfl (by omega) (by omega) ?_
      show qJ (YL nm tbL1) κ fin (qLy u1, m1, y1) (cs + mc) (sl + ms) 277 [some (qR 1300), some (qR 0), some (qR 77), some (qI i)] [qI (sc xs (i + 2)), qI 1, qR 77, qI z]
      refine qJ.run hκ 4 (pc' := 281) (ls' := [some (qR 1300), some (qR 0), some (qR 77), some (qI i)]) (st' := [qI (i + 3), qR 1300, qI (sc xs (i + 2)), qI 1, qR 77, qI z]) rfl ?_
      refine qJ.sld hκ hX rfl (by omega) (by omega) ?_
      show qJ (YL nm tbL1) κ fin (qLy u1, m1, y1) (cs + mc) (sl + ms) 282 [some (qR 1300), some (qR 0), some (qR 77), some (qI i)] [qI (sc xs (i + 3)), qI (sc xs (i + 2)), qI 1, qR 77, qI z]
      refine qJ.run hκ 4 (pc' := 286) (ls' := [some (qR 1300), some (qR 0), some (qR 77), some (qI i)]) (st' := [qI (i + 4), qR 1300, qI (sc xs (i + 3)), qI (sc xs (i + 2)), qI 1, qR 77, qI z]) rfl ?_
      refine qJ.sld hκ hX rfl (by omega) (by omega) ?_
      show qJ (YL nm tbL1) κ fin (qLy u1, m1, y1) (cs + mc) (sl + ms) 287 [some (qR 1300), some (qR 0), some (qR 77), some (qI i)] [qI (sc xs (i + 4)), qI (sc xs (i + 3)), qI (sc xs (i + 2)), qI 1, qR 77, qI z]
      refine qJ.run hκ 4 (pc' := 291) (ls' := [some (qR 1300), some (qR 0), some (qR 77), some (qI i)]) (st' := [qI (i + 5), qR 1300, qI (sc xs (i + 4)), qI (sc xs (i + 3)), qI (sc xs (i + 2)), qI 1, qR 77, qI z]) rfl ?_
      refine qJ.sld hκ hX rfl (by omega) (by omega) ?_
      show qJ (YL nm tbL1) κ fin (qLy u1, m1, y1) (cs + mc) (sl + ms) 292 [some (qR 1300), some (qR 0), some (qR 77), some (qI i)] [qI (sc xs (i + 5)), qI (sc xs (i + 4)), qI (sc xs (i + 3)), qI (sc xs (i + 2)), qI 1, qR 77, qI z]
      refine qJ.run hκ 4 (pc' := 297) (ls' := [some (qR 1300), some (qR 0), some (qR 77), some (qI i)]) (st' := [qI (i + 6), qR 1300, qI (sc xs (i + 5)), qI (sc xs (i + 4)), qI (sc xs (i + 3)), qI (sc xs (i + 2)), qI 1, qR 77, qI z]) rfl ?_
      refine qJ.sld hκ hX rfl (by omega) (by omega) ?_
      show qJ (YL nm tbL1) κ fin (qLy u1, m1, y1) (cs + mc) (sl + ms) 298 [some (qR 1300), some (qR 0), some (qR 77), some (qI i)] [qI (sc xs (i + 6)), qI (sc xs (i + 5)), qI (sc xs (i + 4)), qI (sc xs (i + 3)), qI (sc xs (i + 2)), qI 1, qR 77, qI z]
      refine qJ.callV (b := 77) (As := [qI 1, qI (sc xs (i + 2)), qI (sc xs (i + 3)), qI (sc xs (i + 4)), qI (sc xs (i + 5)), qI (sc xs (i + 6))]) (rest := [qI z]) hκ rfl kL_22 hC2 rfl rfl (by decide) rfl rfl (Nat.le_of_ble_eq_true rfl) (by omega) (by omega) (Or.inr ⟨rfl, law_wf u1 i⟩) (fun r2 h2 e2 => ?_)
      obtain ⟨rfl, m2, y2, rfl, hA2⟩ := hQ2 r2 h2 e2
      show qJ (YL nm tbL1) κ fin (qLy u1, m2, y2) (cs + mc + 0) (sl + ms + 0) 301 [some (qR 1300), some (qR 0), some (qR 77), some (qI i)] [qI z, qI z]
      refine qJ.icmp_same hκ (tgt := 1246) rfl rfl ?_
      exact qJ.tb (k u1 m2 y2 _ _ hA2 (by omega) (by omega))

set_option maxRecDepth 100000 in
theorem law_2 {nm : String} {κ : qK} {fin : State → Prop} {L : Nat} {xs : Nat → Int32} {c i : Int} {u : qU} {m y : qM} {cs sl : Nat} (hκ0 : qCx (YL nm tbL) 13 600000 7302250 κ) (hX : qSc κ L xs) (hL : L ≤ 3584) (hi : 0 ≤ i ∧ i + 7 ≤ L) (hc : c < 512) (hA : iA c u m) (hcs : cs + 21 ≤ 600000) (hsl : sl + 2101 ≤ 7302250) (k : ∀ (u' : qU) (m' y' : qM) (cs' sl' : Nat), iA (c + 1) u' m' → cs' ≤ cs + 21 → sl' ≤ sl + 2101 → qJ (YL nm tbL) κ fin (qLy u', m', y') cs' sl' 1246 [some (qR 1300), some (qR 0), some (qR 77), some (qI i)] []) : qJ (YL nm tbL) κ fin (qLy u, m, y) cs sl 306 [some (qR 1300), some (qR 0), some (qR 77), some (qI i)] [] := by
  refine qJ.tb (tb := tbL2) ?_
  have hκ := qCx.tb tbL2_ok hκ0
  show qJ (YL nm tbL2) κ fin (qLy u, m, y) cs sl 306 [some (qR 1300), some (qR 0), some (qR 77), some (qI i)] []
  refine qJ.run hκ 5 (pc' := 311) (ls' := [some (qR 1300), some (qR 0), some (qR 77), some (qI i)]) (st' := [qI (i + 1), qR 1300, qR 0]) rfl ?_
  refine qJ.sld hκ hX rfl (by omega) (by omega) ?_
  show qJ (YL nm tbL2) κ fin (qLy u, m, y) cs sl 312 [some (qR 1300), some (qR 0), some (qR 77), some (qI i)] [qI (sc xs (i + 1)), qR 0]
  refine qJ.run hκ 4 (pc' := 316) (ls' := [some (qR 1300), some (qR 0), some (qR 77), some (qI i)]) (st' := [qI (i + 2), qR 1300, qI (sc xs (i + 1)), qR 0]) rfl ?_
  refine qJ.sld hκ hX rfl (by omega) (by omega) ?_
  show qJ (YL nm tbL2) κ fin (qLy u, m, y) cs sl 317 [some (qR 1300), some (qR 0), some (qR 77), some (qI i)] [qI (sc xs (i + 2)), qI (sc xs (i + 1)), qR 0]
  obtain ⟨mc, ms, Q, b1, b2, hC, hQ⟩ := j_tell y (sc xs (i + 1)) (sc xs (i + 2)) hA (sc_r xs _) (sc_r xs _)
  refine qJ.callV (b := 0) (As := [qI (sc xs (i + 1)), qI (sc xs (i + 2))]) (rest := []) hκ rfl kL_23 hC rfl rfl (by decide) rfl rfl (Nat.le_of_ble_eq_true rfl) (by omega) (by omega) (Or.inr ⟨rfl, law_wf u i⟩) (fun r h e => ?_)
  obtain ⟨z, u1, m1, y1, rfl, rfl, Q2, hC2, hQ2⟩ := hQ r h e
  show qJ (YL nm tbL2) κ fin (qLy u1, m1, y1) (cs + mc) (sl + ms) 320 [some (qR 1300), some (qR 0), some (qR 77), some (qI i)] [qI z]
  refine qJ.run hκ 5 (pc' := 325) (ls' := [some (qR 1300), some (qR 0), some (qR 77), some (qI i)]) (st' := [qI (i + 1), qR 1300, qR 77, qI z]) rfl ?_
  refine qJ.sld hκ hX rfl (by omega) (by omega) ?_
  show qJ (YL nm tbL2) κ fin (qLy u1, m1, y1) (cs + mc) (sl + ms) 326 [some (qR 1300), some (qR 0), some (qR 77), some (qI i)] [qI (sc xs (i + 1)), qR 77, qI z]
  refine qJ.run hκ 4 (pc' := 330) (ls' := [some (qR 1300), some (qR 0), some (qR 77), some (qI i)]) (st' := [qI (i + 2), qR 1300, qI (sc xs (i + 1)), qR 77, qI z]) rfl ?_
  refine qJ.sld hκ hX rfl (by omega) (by omega) ?_
  show qJ (YL nm tbL2) κ fin (qLy u1, m1, y1) (cs + mc) (sl + ms) 331 [some (qR 1300), some (qR 0), some (qR 77), some (qI i)] [qI (sc xs (i + 2)), qI (sc xs (i + 1)), qR 77, qI z]
  refine qJ.callV (b := 77) (As := [qI (sc xs (i + 1)), qI (sc xs (i + 2))]) (rest := [qI z]) hκ rfl kL_27 hC2 rfl rfl (by decide) rfl rfl (Nat.le_of_ble_eq_true rfl) (by omega) (by omega) (Or.inr ⟨rfl, law_wf u1 i⟩) (fun r2 h2 e2 => ?_)
  obtain ⟨rfl, m2, y2, rfl, hA2⟩ := hQ2 r2 h2 e2
  show qJ (YL nm tbL2) κ fin (qLy u1, m2, y2) (cs + mc + 0) (sl + ms + 0) 334 [some (qR 1300), some (qR 0), some (qR 77), some (qI i)] [qI z, qI z]
  refine qJ.icmp_same hκ (tgt := 1246) rfl rfl ?_
  exact qJ.tb (k u1 m2 y2 _ _ hA2 (by omega) (by omega))

set_option maxRecDepth 100000 in
theorem law_3 {nm : String} {κ : qK} {fin : State → Prop} {L : Nat} {xs : Nat → Int32} {c i : Int} {u : qU} {m y : qM} {cs sl : Nat} (hκ0 : qCx (YL nm tbL) 13 600000 7302250 κ) (hX : qSc κ L xs) (hL : L ≤ 3584) (hi : 0 ≤ i ∧ i + 7 ≤ L) (hc : c < 512) (hA : iA c u m) (hcs : cs + 21 ≤ 600000) (hsl : sl + 2101 ≤ 7302250) (k : ∀ (u' : qU) (m' y' : qM) (cs' sl' : Nat), iA (c + 1) u' m' → cs' ≤ cs + 21 → sl' ≤ sl + 2101 → qJ (YL nm tbL) κ fin (qLy u', m', y') cs' sl' 1246 [some (qR 1300), some (qR 0), some (qR 77), some (qI i)] []) : qJ (YL nm tbL) κ fin (qLy u, m, y) cs sl 339 [some (qR 1300), some (qR 0), some (qR 77), some (qI i)] [] := by
  refine qJ.tb (tb := tbL3) ?_
  have hκ := qCx.tb tbL3_ok hκ0
  show qJ (YL nm tbL3) κ fin (qLy u, m, y) cs sl 339 [some (qR 1300), some (qR 0), some (qR 77), some (qI i)] []
  refine qJ.run hκ 5 (pc' := 344) (ls' := [some (qR 1300), some (qR 0), some (qR 77), some (qI i)]) (st' := [qI (i + 1), qR 1300, qR 0]) rfl ?_
  refine qJ.sld hκ hX rfl (by omega) (by omega) ?_
  show qJ (YL nm tbL3) κ fin (qLy u, m, y) cs sl 345 [some (qR 1300), some (qR 0), some (qR 77), some (qI i)] [qI (sc xs (i + 1)), qR 0]
  refine qJ.run hκ 4 (pc' := 349) (ls' := [some (qR 1300), some (qR 0), some (qR 77), some (qI i)]) (st' := [qI (i + 2), qR 1300, qI (sc xs (i + 1)), qR 0]) rfl ?_
  refine qJ.sld hκ hX rfl (by omega) (by omega) ?_
  show qJ (YL nm tbL3) κ fin (qLy u, m, y) cs sl 350 [some (qR 1300), some (qR 0), some (qR 77), some (qI i)] [qI (sc xs (i + 2)), qI (sc xs (i + 1)), qR 0]
  obtain ⟨mc, ms, Q, b1, b2, hC, hQ⟩ := j_about y (sc xs (i + 1)) (sc xs (i + 2)) hA (sc_r xs _) (sc_r xs _)
  refine qJ.callV (b := 0) (As := [qI (sc xs (i + 1)), qI (sc xs (i + 2))]) (rest := []) hκ rfl kL_28 hC rfl rfl (by decide) rfl rfl (Nat.le_of_ble_eq_true rfl) (by omega) (by omega) (Or.inr ⟨rfl, law_wf u i⟩) (fun r h e => ?_)
  obtain ⟨z, u1, m1, y1, rfl, rfl, Q2, hC2, hQ2⟩ := hQ r h e
  show qJ (YL nm tbL3) κ fin (qLy u1, m1, y1) (cs + mc) (sl + ms) 353 [some (qR 1300), some (qR 0), some (qR 77), some (qI i)] [qI z]
  refine qJ.run hκ 5 (pc' := 358) (ls' := [some (qR 1300), some (qR 0), some (qR 77), some (qI i)]) (st' := [qI (i + 1), qR 1300, qR 77, qI z]) rfl ?_
  refine qJ.sld hκ hX rfl (by omega) (by omega) ?_
  show qJ (YL nm tbL3) κ fin (qLy u1, m1, y1) (cs + mc) (sl + ms) 359 [some (qR 1300), some (qR 0), some (qR 77), some (qI i)] [qI (sc xs (i + 1)), qR 77, qI z]
  refine qJ.run hκ 4 (pc' := 363) (ls' := [some (qR 1300), some (qR 0), some (qR 77), some (qI i)]) (st' := [qI (i + 2), qR 1300, qI (sc xs (i + 1)), qR 77, qI z]) rfl ?_
  refine qJ.sld hκ hX rfl (by omega) (by omega) ?_
  show qJ (YL nm tbL3) κ fin (qLy u1, m1, y1) (cs + mc) (sl + ms) 364 [some (qR 1300), some (qR 0), some (qR 77), some (qI i)] [qI (sc xs (i + 2)), qI (sc xs (i + 1)), qR 77, qI z]
  refine qJ.callV (b := 77) (As := [qI (sc xs (i + 1)), qI (sc xs (i + 2))]) (rest := [qI z]) hκ rfl kL_31 hC2 rfl rfl (by decide) rfl rfl (Nat.le_of_ble_eq_true rfl) (by omega) (by omega) (Or.inr ⟨rfl, law_wf u1 i⟩) (fun r2 h2 e2 => ?_)
  obtain ⟨rfl, m2, y2, rfl, hA2⟩ := hQ2 r2 h2 e2
  show qJ (YL nm tbL3) κ fin (qLy u1, m2, y2) (cs + mc + 0) (sl + ms + 0) 367 [some (qR 1300), some (qR 0), some (qR 77), some (qI i)] [qI z, qI z]
  refine qJ.icmp_same hκ (tgt := 1246) rfl rfl ?_
  exact qJ.tb (k u1 m2 y2 _ _ hA2 (by omega) (by omega))

set_option maxRecDepth 100000 in
theorem law_4 {nm : String} {κ : qK} {fin : State → Prop} {L : Nat} {xs : Nat → Int32} {c i : Int} {u : qU} {m y : qM} {cs sl : Nat} (hκ0 : qCx (YL nm tbL) 13 600000 7302250 κ) (hX : qSc κ L xs) (hL : L ≤ 3584) (hi : 0 ≤ i ∧ i + 7 ≤ L) (hc : c < 512) (hA : iA c u m) (hcs : cs + 21 ≤ 600000) (hsl : sl + 2101 ≤ 7302250) (k : ∀ (u' : qU) (m' y' : qM) (cs' sl' : Nat), iA (c + 1) u' m' → cs' ≤ cs + 21 → sl' ≤ sl + 2101 → qJ (YL nm tbL) κ fin (qLy u', m', y') cs' sl' 1246 [some (qR 1300), some (qR 0), some (qR 77), some (qI i)] []) : qJ (YL nm tbL) κ fin (qLy u, m, y) cs sl 372 [some (qR 1300), some (qR 0), some (qR 77), some (qI i)] [] := by
  refine qJ.tb (tb := tbL4) ?_
  have hκ := qCx.tb tbL4_ok hκ0
  show qJ (YL nm tbL4) κ fin (qLy u, m, y) cs sl 372 [some (qR 1300), some (qR 0), some (qR 77), some (qI i)] []
  refine qJ.run hκ 5 (pc' := 377) (ls' := [some (qR 1300), some (qR 0), some (qR 77), some (qI i)]) (st' := [qI (i + 1), qR 1300, qR 0]) rfl ?_
  refine qJ.sld hκ hX rfl (by omega) (by omega) ?_
  show qJ (YL nm tbL4) κ fin (qLy u, m, y) cs sl 378 [some (qR 1300), some (qR 0), some (qR 77), some (qI i)] [qI (sc xs (i + 1)), qR 0]
  refine qJ.run hκ 4 (pc' := 382) (ls' := [some (qR 1300), some (qR 0), some (qR 77), some (qI i)]) (st' := [qI (i + 2), qR 1300, qI (sc xs (i + 1)), qR 0]) rfl ?_
  refine qJ.sld hκ hX rfl (by omega) (by omega) ?_
  show qJ (YL nm tbL4) κ fin (qLy u, m, y) cs sl 383 [some (qR 1300), some (qR 0), some (qR 77), some (qI i)] [qI (sc xs (i + 2)), qI (sc xs (i + 1)), qR 0]
  obtain ⟨mc, ms, Q, b1, b2, hC, hQ⟩ := j_telling y (sc xs (i + 1)) (sc xs (i + 2)) hA (sc_r xs _) (sc_r xs _)
  refine qJ.callV (b := 0) (As := [qI (sc xs (i + 1)), qI (sc xs (i + 2))]) (rest := []) hκ rfl kL_32 hC rfl rfl (by decide) rfl rfl (Nat.le_of_ble_eq_true rfl) (by omega) (by omega) (Or.inr ⟨rfl, law_wf u i⟩) (fun r h e => ?_)
  obtain ⟨z, u1, m1, y1, rfl, rfl, Q2, hC2, hQ2⟩ := hQ r h e
  show qJ (YL nm tbL4) κ fin (qLy u1, m1, y1) (cs + mc) (sl + ms) 386 [some (qR 1300), some (qR 0), some (qR 77), some (qI i)] [qI z]
  refine qJ.run hκ 5 (pc' := 391) (ls' := [some (qR 1300), some (qR 0), some (qR 77), some (qI i)]) (st' := [qI (i + 1), qR 1300, qR 77, qI z]) rfl ?_
  refine qJ.sld hκ hX rfl (by omega) (by omega) ?_
  show qJ (YL nm tbL4) κ fin (qLy u1, m1, y1) (cs + mc) (sl + ms) 392 [some (qR 1300), some (qR 0), some (qR 77), some (qI i)] [qI (sc xs (i + 1)), qR 77, qI z]
  refine qJ.run hκ 4 (pc' := 396) (ls' := [some (qR 1300), some (qR 0), some (qR 77), some (qI i)]) (st' := [qI (i + 2), qR 1300, qI (sc xs (i + 1)), qR 77, qI z]) rfl ?_
  refine qJ.sld hκ hX rfl (by omega) (by omega) ?_
  show qJ (YL nm tbL4) κ fin (qLy u1, m1, y1) (cs + mc) (sl + ms) 397 [some (qR 1300), some (qR 0), some (qR 77), some (qI i)] [qI (sc xs (i + 2)), qI (sc xs (i + 1)), qR 77, qI z]
  refine qJ.callV (b := 77) (As := [qI (sc xs (i + 1)), qI (sc xs (i + 2))]) (rest := [qI z]) hκ rfl kL_35 hC2 rfl rfl (by decide) rfl rfl (Nat.le_of_ble_eq_true rfl) (by omega) (by omega) (Or.inr ⟨rfl, law_wf u1 i⟩) (fun r2 h2 e2 => ?_)
  obtain ⟨rfl, m2, y2, rfl, hA2⟩ := hQ2 r2 h2 e2
  show qJ (YL nm tbL4) κ fin (qLy u1, m2, y2) (cs + mc + 0) (sl + ms + 0) 400 [some (qR 1300), some (qR 0), some (qR 77), some (qI i)] [qI z, qI z]
  refine qJ.icmp_same hκ (tgt := 1246) rfl rfl ?_
  exact qJ.tb (k u1 m2 y2 _ _ hA2 (by omega) (by omega))

set_option maxRecDepth 100000 in
theorem law_5 {nm : String} {κ : qK} {fin : State → Prop} {L : Nat} {xs : Nat → Int32} {c i : Int} {u : qU} {m y : qM} {cs sl : Nat} (hκ0 : qCx (YL nm tbL) 13 600000 7302250 κ) (hX : qSc κ L xs) (hL : L ≤ 3584) (hi : 0 ≤ i ∧ i + 7 ≤ L) (hc : c < 512) (hA : iA c u m) (hcs : cs + 21 ≤ 600000) (hsl : sl + 2101 ≤ 7302250) (k : ∀ (u' : qU) (m' y' : qM) (cs' sl' : Nat), iA (c + 1) u' m' → cs' ≤ cs + 21 → sl' ≤ sl + 2101 → qJ (YL nm tbL) κ fin (qLy u', m', y') cs' sl' 1246 [some (qR 1300), some (qR 0), some (qR 77), some (qI i)] []) : qJ (YL nm tbL) κ fin (qLy u, m, y) cs sl 405 [some (qR 1300), some (qR 0), some (qR 77), some (qI i)] [] := by
  refine qJ.tb (tb := tbL5) ?_
  have hκ := qCx.tb tbL5_ok hκ0
  show qJ (YL nm tbL5) κ fin (qLy u, m, y) cs sl 405 [some (qR 1300), some (qR 0), some (qR 77), some (qI i)] []
  refine qJ.run hκ 5 (pc' := 410) (ls' := [some (qR 1300), some (qR 0), some (qR 77), some (qI i)]) (st' := [qI (i + 1), qR 1300, qR 0]) rfl ?_
  refine qJ.sld hκ hX rfl (by omega) (by omega) ?_
  show qJ (YL nm tbL5) κ fin (qLy u, m, y) cs sl 411 [some (qR 1300), some (qR 0), some (qR 77), some (qI i)] [qI (sc xs (i + 1)), qR 0]
  obtain ⟨mc, ms, Q, b1, b2, hC, hQ⟩ := j_day y (sc xs (i + 1)) hA (sc_r xs _)
  refine qJ.callV (b := 0) (As := [qI (sc xs (i + 1))]) (rest := []) hκ rfl kL_36 hC rfl rfl (by decide) rfl rfl (Nat.le_of_ble_eq_true rfl) (by omega) (by omega) (Or.inr ⟨rfl, law_wf u i⟩) (fun r h e => ?_)
  obtain ⟨z, u1, m1, y1, rfl, rfl, Q2, hC2, hQ2⟩ := hQ r h e
  show qJ (YL nm tbL5) κ fin (qLy u1, m1, y1) (cs + mc) (sl + ms) 414 [some (qR 1300), some (qR 0), some (qR 77), some (qI i)] [qI z]
  refine qJ.run hκ 5 (pc' := 419) (ls' := [some (qR 1300), some (qR 0), some (qR 77), some (qI i)]) (st' := [qI (i + 1), qR 1300, qR 77, qI z]) rfl ?_
  refine qJ.sld hκ hX rfl (by omega) (by omega) ?_
  show qJ (YL nm tbL5) κ fin (qLy u1, m1, y1) (cs + mc) (sl + ms) 420 [some (qR 1300), some (qR 0), some (qR 77), some (qI i)] [qI (sc xs (i + 1)), qR 77, qI z]
  refine qJ.callV (b := 77) (As := [qI (sc xs (i + 1))]) (rest := [qI z]) hκ rfl kL_39 hC2 rfl rfl (by decide) rfl rfl (Nat.le_of_ble_eq_true rfl) (by omega) (by omega) (Or.inr ⟨rfl, law_wf u1 i⟩) (fun r2 h2 e2 => ?_)
  obtain ⟨rfl, m2, y2, rfl, hA2⟩ := hQ2 r2 h2 e2
  show qJ (YL nm tbL5) κ fin (qLy u1, m2, y2) (cs + mc + 0) (sl + ms + 0) 423 [some (qR 1300), some (qR 0), some (qR 77), some (qI i)] [qI z, qI z]
  refine qJ.icmp_same hκ (tgt := 1246) rfl rfl ?_
  exact qJ.tb (k u1 m2 y2 _ _ hA2 (by omega) (by omega))

set_option maxRecDepth 100000 in
theorem law_6 {nm : String} {κ : qK} {fin : State → Prop} {L : Nat} {xs : Nat → Int32} {c i : Int} {u : qU} {m y : qM} {cs sl : Nat} (hκ0 : qCx (YL nm tbL) 13 600000 7302250 κ) (hX : qSc κ L xs) (hL : L ≤ 3584) (hi : 0 ≤ i ∧ i + 7 ≤ L) (hc : c < 512) (hA : iA c u m) (hcs : cs + 21 ≤ 600000) (hsl : sl + 2101 ≤ 7302250) (k : ∀ (u' : qU) (m' y' : qM) (cs' sl' : Nat), iA (c + 1) u' m' → cs' ≤ cs + 21 → sl' ≤ sl + 2101 → qJ (YL nm tbL) κ fin (qLy u', m', y') cs' sl' 1246 [some (qR 1300), some (qR 0), some (qR 77), some (qI i)] []) : qJ (YL nm tbL) κ fin (qLy u, m, y) cs sl 428 [some (qR 1300), some (qR 0), some (qR 77), some (qI i)] [] := by
  refine qJ.tb (tb := tbL6) ?_
  have hκ := qCx.tb tbL6_ok hκ0
  show qJ (YL nm tbL6) κ fin (qLy u, m, y) cs sl 428 [some (qR 1300), some (qR 0), some (qR 77), some (qI i)] []
  refine qJ.run hκ 5 (pc' := 433) (ls' := [some (qR 1300), some (qR 0), some (qR 77), some (qI i)]) (st' := [qI (i + 1), qR 1300, qR 0]) rfl ?_
  refine qJ.sld hκ hX rfl (by omega) (by omega) ?_
  show qJ (YL nm tbL6) κ fin (qLy u, m, y) cs sl 434 [some (qR 1300), some (qR 0), some (qR 77), some (qI i)] [qI (sc xs (i + 1)), qR 0]
  obtain ⟨mc, ms, Q, b1, b2, hC, hQ⟩ := j_view y (sc xs (i + 1)) hA (sc_r xs _)
  refine qJ.callV (b := 0) (As := [qI (sc xs (i + 1))]) (rest := []) hκ rfl kL_40 hC rfl rfl (by decide) rfl rfl (Nat.le_of_ble_eq_true rfl) (by omega) (by omega) (Or.inr ⟨rfl, law_wf u i⟩) (fun r h e => ?_)
  obtain ⟨z, u1, m1, y1, rfl, rfl, Q2, hC2, hQ2⟩ := hQ r h e
  show qJ (YL nm tbL6) κ fin (qLy u1, m1, y1) (cs + mc) (sl + ms) 437 [some (qR 1300), some (qR 0), some (qR 77), some (qI i)] [qI z]
  refine qJ.run hκ 5 (pc' := 442) (ls' := [some (qR 1300), some (qR 0), some (qR 77), some (qI i)]) (st' := [qI (i + 1), qR 1300, qR 77, qI z]) rfl ?_
  refine qJ.sld hκ hX rfl (by omega) (by omega) ?_
  show qJ (YL nm tbL6) κ fin (qLy u1, m1, y1) (cs + mc) (sl + ms) 443 [some (qR 1300), some (qR 0), some (qR 77), some (qI i)] [qI (sc xs (i + 1)), qR 77, qI z]
  refine qJ.callV (b := 77) (As := [qI (sc xs (i + 1))]) (rest := [qI z]) hκ rfl kL_43 hC2 rfl rfl (by decide) rfl rfl (Nat.le_of_ble_eq_true rfl) (by omega) (by omega) (Or.inr ⟨rfl, law_wf u1 i⟩) (fun r2 h2 e2 => ?_)
  obtain ⟨rfl, m2, y2, rfl, hA2⟩ := hQ2 r2 h2 e2
  show qJ (YL nm tbL6) κ fin (qLy u1, m2, y2) (cs + mc + 0) (sl + ms + 0) 446 [some (qR 1300), some (qR 0), some (qR 77), some (qI i)] [qI z, qI z]
  refine qJ.icmp_same hκ (tgt := 1246) rfl rfl ?_
  exact qJ.tb (k u1 m2 y2 _ _ hA2 (by omega) (by omega))

set_option maxRecDepth 100000 in
theorem law_7 {nm : String} {κ : qK} {fin : State → Prop} {L : Nat} {xs : Nat → Int32} {c i : Int} {u : qU} {m y : qM} {cs sl : Nat} (hκ0 : qCx (YL nm tbL) 13 600000 7302250 κ) (hX : qSc κ L xs) (hL : L ≤ 3584) (hi : 0 ≤ i ∧ i + 7 ≤ L) (hc : c < 512) (hA : iA c u m) (hcs : cs + 21 ≤ 600000) (hsl : sl + 2101 ≤ 7302250) (k : ∀ (u' : qU) (m' y' : qM) (cs' sl' : Nat), iA (c + 1) u' m' → cs' ≤ cs + 21 → sl' ≤ sl + 2101 → qJ (YL nm tbL) κ fin (qLy u', m', y') cs' sl' 1246 [some (qR 1300), some (qR 0), some (qR 77), some (qI i)] []) : qJ (YL nm tbL) κ fin (qLy u, m, y) cs sl 451 [some (qR 1300), some (qR 0), some (qR 77), some (qI i)] [] := by
  refine qJ.tb (tb := tbL7) ?_
  have hκ := qCx.tb tbL7_ok hκ0
  show qJ (YL nm tbL7) κ fin (qLy u, m, y) cs sl 451 [some (qR 1300), some (qR 0), some (qR 77), some (qI i)] []
  refine qJ.run hκ 5 (pc' := 456) (ls' := [some (qR 1300), some (qR 0), some (qR 77), some (qI i)]) (st' := [qI (i + 1), qR 1300, qR 0]) rfl ?_
  refine qJ.sld hκ hX rfl (by omega) (by omega) ?_
  show qJ (YL nm tbL7) κ fin (qLy u, m, y) cs sl 457 [some (qR 1300), some (qR 0), some (qR 77), some (qI i)] [qI (sc xs (i + 1)), qR 0]
  obtain ⟨mc, ms, Q, b1, b2, hC, hQ⟩ := j_row y (sc xs (i + 1)) hA (sc_r xs _)
  refine qJ.callV (b := 0) (As := [qI (sc xs (i + 1))]) (rest := []) hκ rfl kL_44 hC rfl rfl (by decide) rfl rfl (Nat.le_of_ble_eq_true rfl) (by omega) (by omega) (Or.inr ⟨rfl, law_wf u i⟩) (fun r h e => ?_)
  obtain ⟨z, u1, m1, y1, rfl, rfl, Q2, hC2, hQ2⟩ := hQ r h e
  show qJ (YL nm tbL7) κ fin (qLy u1, m1, y1) (cs + mc) (sl + ms) 460 [some (qR 1300), some (qR 0), some (qR 77), some (qI i)] [qI z]
  refine qJ.run hκ 5 (pc' := 465) (ls' := [some (qR 1300), some (qR 0), some (qR 77), some (qI i)]) (st' := [qI (i + 1), qR 1300, qR 77, qI z]) rfl ?_
  refine qJ.sld hκ hX rfl (by omega) (by omega) ?_
  show qJ (YL nm tbL7) κ fin (qLy u1, m1, y1) (cs + mc) (sl + ms) 466 [some (qR 1300), some (qR 0), some (qR 77), some (qI i)] [qI (sc xs (i + 1)), qR 77, qI z]
  refine qJ.callV (b := 77) (As := [qI (sc xs (i + 1))]) (rest := [qI z]) hκ rfl kL_48 hC2 rfl rfl (by decide) rfl rfl (Nat.le_of_ble_eq_true rfl) (by omega) (by omega) (Or.inr ⟨rfl, law_wf u1 i⟩) (fun r2 h2 e2 => ?_)
  obtain ⟨rfl, m2, y2, rfl, hA2⟩ := hQ2 r2 h2 e2
  show qJ (YL nm tbL7) κ fin (qLy u1, m2, y2) (cs + mc + 0) (sl + ms + 0) 469 [some (qR 1300), some (qR 0), some (qR 77), some (qI i)] [qI z, qI z]
  refine qJ.icmp_same hκ (tgt := 1246) rfl rfl ?_
  exact qJ.tb (k u1 m2 y2 _ _ hA2 (by omega) (by omega))

set_option maxRecDepth 100000 in
theorem law_8 {nm : String} {κ : qK} {fin : State → Prop} {L : Nat} {xs : Nat → Int32} {c i : Int} {u : qU} {m y : qM} {cs sl : Nat} (hκ0 : qCx (YL nm tbL) 13 600000 7302250 κ) (hX : qSc κ L xs) (hL : L ≤ 3584) (hi : 0 ≤ i ∧ i + 7 ≤ L) (hc : c < 512) (hA : iA c u m) (hcs : cs + 21 ≤ 600000) (hsl : sl + 2101 ≤ 7302250) (k : ∀ (u' : qU) (m' y' : qM) (cs' sl' : Nat), iA (c + 1) u' m' → cs' ≤ cs + 21 → sl' ≤ sl + 2101 → qJ (YL nm tbL) κ fin (qLy u', m', y') cs' sl' 1246 [some (qR 1300), some (qR 0), some (qR 77), some (qI i)] []) : qJ (YL nm tbL) κ fin (qLy u, m, y) cs sl 474 [some (qR 1300), some (qR 0), some (qR 77), some (qI i)] [] := by
  refine qJ.tb (tb := tbL8) ?_
  have hκ := qCx.tb tbL8_ok hκ0
  show qJ (YL nm tbL8) κ fin (qLy u, m, y) cs sl 474 [some (qR 1300), some (qR 0), some (qR 77), some (qI i)] []
  refine qJ.run hκ 5 (pc' := 479) (ls' := [some (qR 1300), some (qR 0), some (qR 77), some (qI i)]) (st' := [qI (i + 1), qR 1300, qR 0]) rfl ?_
  refine qJ.sld hκ hX rfl (by omega) (by omega) ?_
  show qJ (YL nm tbL8) κ fin (qLy u, m, y) cs sl 480 [some (qR 1300), some (qR 0), some (qR 77), some (qI i)] [qI (sc xs (i + 1)), qR 0]
  obtain ⟨mc, ms, Q, b1, b2, hC, hQ⟩ := j_column y (sc xs (i + 1)) hA (sc_r xs _)
  refine qJ.callV (b := 0) (As := [qI (sc xs (i + 1))]) (rest := []) hκ rfl kL_49 hC rfl rfl (by decide) rfl rfl (Nat.le_of_ble_eq_true rfl) (by omega) (by omega) (Or.inr ⟨rfl, law_wf u i⟩) (fun r h e => ?_)
  obtain ⟨z, u1, m1, y1, rfl, rfl, Q2, hC2, hQ2⟩ := hQ r h e
  show qJ (YL nm tbL8) κ fin (qLy u1, m1, y1) (cs + mc) (sl + ms) 483 [some (qR 1300), some (qR 0), some (qR 77), some (qI i)] [qI z]
  refine qJ.run hκ 5 (pc' := 488) (ls' := [some (qR 1300), some (qR 0), some (qR 77), some (qI i)]) (st' := [qI (i + 1), qR 1300, qR 77, qI z]) rfl ?_
  refine qJ.sld hκ hX rfl (by omega) (by omega) ?_
  show qJ (YL nm tbL8) κ fin (qLy u1, m1, y1) (cs + mc) (sl + ms) 489 [some (qR 1300), some (qR 0), some (qR 77), some (qI i)] [qI (sc xs (i + 1)), qR 77, qI z]
  refine qJ.callV (b := 77) (As := [qI (sc xs (i + 1))]) (rest := [qI z]) hκ rfl kL_52 hC2 rfl rfl (by decide) rfl rfl (Nat.le_of_ble_eq_true rfl) (by omega) (by omega) (Or.inr ⟨rfl, law_wf u1 i⟩) (fun r2 h2 e2 => ?_)
  obtain ⟨rfl, m2, y2, rfl, hA2⟩ := hQ2 r2 h2 e2
  show qJ (YL nm tbL8) κ fin (qLy u1, m2, y2) (cs + mc + 0) (sl + ms + 0) 492 [some (qR 1300), some (qR 0), some (qR 77), some (qI i)] [qI z, qI z]
  refine qJ.icmp_same hκ (tgt := 1246) rfl rfl ?_
  exact qJ.tb (k u1 m2 y2 _ _ hA2 (by omega) (by omega))

set_option maxRecDepth 100000 in
theorem law_9 {nm : String} {κ : qK} {fin : State → Prop} {L : Nat} {xs : Nat → Int32} {c i : Int} {u : qU} {m y : qM} {cs sl : Nat} (hκ0 : qCx (YL nm tbL) 13 600000 7302250 κ) (hX : qSc κ L xs) (hL : L ≤ 3584) (hi : 0 ≤ i ∧ i + 7 ≤ L) (hc : c < 512) (hA : iA c u m) (hcs : cs + 21 ≤ 600000) (hsl : sl + 2101 ≤ 7302250) (k : ∀ (u' : qU) (m' y' : qM) (cs' sl' : Nat), iA (c + 1) u' m' → cs' ≤ cs + 21 → sl' ≤ sl + 2101 → qJ (YL nm tbL) κ fin (qLy u', m', y') cs' sl' 1246 [some (qR 1300), some (qR 0), some (qR 77), some (qI i)] []) : qJ (YL nm tbL) κ fin (qLy u, m, y) cs sl 497 [some (qR 1300), some (qR 0), some (qR 77), some (qI i)] [] := by
  refine qJ.tb (tb := tbL9) ?_
  have hκ := qCx.tb tbL9_ok hκ0
  show qJ (YL nm tbL9) κ fin (qLy u, m, y) cs sl 497 [some (qR 1300), some (qR 0), some (qR 77), some (qI i)] []
  refine qJ.run hκ 1 (pc' := 498) (ls' := [some (qR 1300), some (qR 0), some (qR 77), some (qI i)]) (st' := [qR 0]) rfl ?_
  obtain ⟨mc, ms, Q, b1, b2, hC, hQ⟩ := j_breaker y  hA 
  refine qJ.callV (b := 0) (As := []) (rest := []) hκ rfl kL_53 hC rfl rfl (by decide) rfl rfl (Nat.le_of_ble_eq_true rfl) (by omega) (by omega) (Or.inr ⟨rfl, law_wf u i⟩) (fun r h e => ?_)
  obtain ⟨z, u1, m1, y1, rfl, rfl, Q2, hC2, hQ2⟩ := hQ r h e
  show qJ (YL nm tbL9) κ fin (qLy u1, m1, y1) (cs + mc) (sl + ms) 501 [some (qR 1300), some (qR 0), some (qR 77), some (qI i)] [qI z]
  refine qJ.run hκ 1 (pc' := 502) (ls' := [some (qR 1300), some (qR 0), some (qR 77), some (qI i)]) (st' := [qR 77, qI z]) rfl ?_
  refine qJ.callV (b := 77) (As := []) (rest := [qI z]) hκ rfl kL_57 hC2 rfl rfl (by decide) rfl rfl (Nat.le_of_ble_eq_true rfl) (by omega) (by omega) (Or.inr ⟨rfl, law_wf u1 i⟩) (fun r2 h2 e2 => ?_)
  obtain ⟨rfl, m2, y2, rfl, hA2⟩ := hQ2 r2 h2 e2
  show qJ (YL nm tbL9) κ fin (qLy u1, m2, y2) (cs + mc + 0) (sl + ms + 0) 505 [some (qR 1300), some (qR 0), some (qR 77), some (qI i)] [qI z, qI z]
  refine qJ.icmp_same hκ (tgt := 1246) rfl rfl ?_
  exact qJ.tb (k u1 m2 y2 _ _ hA2 (by omega) (by omega))

set_option maxRecDepth 100000 in
theorem law_10 {nm : String} {κ : qK} {fin : State → Prop} {L : Nat} {xs : Nat → Int32} {c i : Int} {u : qU} {m y : qM} {cs sl : Nat} (hκ0 : qCx (YL nm tbL) 13 600000 7302250 κ) (hX : qSc κ L xs) (hL : L ≤ 3584) (hi : 0 ≤ i ∧ i + 7 ≤ L) (hc : c < 512) (hA : iA c u m) (hcs : cs + 21 ≤ 600000) (hsl : sl + 2101 ≤ 7302250) (k : ∀ (u' : qU) (m' y' : qM) (cs' sl' : Nat), iA (c + 1) u' m' → cs' ≤ cs + 21 → sl' ≤ sl + 2101 → qJ (YL nm tbL) κ fin (qLy u', m', y') cs' sl' 1246 [some (qR 1300), some (qR 0), some (qR 77), some (qI i)] []) : qJ (YL nm tbL) κ fin (qLy u, m, y) cs sl 510 [some (qR 1300), some (qR 0), some (qR 77), some (qI i)] [] := by
  refine qJ.tb (tb := tbL10) ?_
  have hκ := qCx.tb tbL10_ok hκ0
  show qJ (YL nm tbL10) κ fin (qLy u, m, y) cs sl 510 [some (qR 1300), some (qR 0), some (qR 77), some (qI i)] []
  refine qJ.run hκ 5 (pc' := 515) (ls' := [some (qR 1300), some (qR 0), some (qR 77), some (qI i)]) (st' := [qI (i + 1), qR 1300, qR 0]) rfl ?_
  refine qJ.sld hκ hX rfl (by omega) (by omega) ?_
  show qJ (YL nm tbL10) κ fin (qLy u, m, y) cs sl 516 [some (qR 1300), some (qR 0), some (qR 77), some (qI i)] [qI (sc xs (i + 1)), qR 0]
  refine qJ.run hκ 4 (pc' := 520) (ls' := [some (qR 1300), some (qR 0), some (qR 77), some (qI i)]) (st' := [qI (i + 2), qR 1300, qI (sc xs (i + 1)), qR 0]) rfl ?_
  refine qJ.sld hκ hX rfl (by omega) (by omega) ?_
  show qJ (YL nm tbL10) κ fin (qLy u, m, y) cs sl 521 [some (qR 1300), some (qR 0), some (qR 77), some (qI i)] [qI (sc xs (i + 2)), qI (sc xs (i + 1)), qR 0]
  obtain ⟨mc, ms, Q, b1, b2, hC, hQ⟩ := j_use y (sc xs (i + 1)) (sc xs (i + 2)) hA (sc_r xs _) (sc_r xs _)
  refine qJ.callV (b := 0) (As := [qI (sc xs (i + 1)), qI (sc xs (i + 2))]) (rest := []) hκ rfl kL_58 hC rfl rfl (by decide) rfl rfl (Nat.le_of_ble_eq_true rfl) (by omega) (by omega) (Or.inr ⟨rfl, law_wf u i⟩) (fun r h e => ?_)
  obtain ⟨z, u1, m1, y1, rfl, rfl, Q2, hC2, hQ2⟩ := hQ r h e
  show qJ (YL nm tbL10) κ fin (qLy u1, m1, y1) (cs + mc) (sl + ms) 524 [some (qR 1300), some (qR 0), some (qR 77), some (qI i)] [qI z]
  refine qJ.run hκ 5 (pc' := 529) (ls' := [some (qR 1300), some (qR 0), some (qR 77), some (qI i)]) (st' := [qI (i + 1), qR 1300, qR 77, qI z]) rfl ?_
  refine qJ.sld hκ hX rfl (by omega) (by omega) ?_
  show qJ (YL nm tbL10) κ fin (qLy u1, m1, y1) (cs + mc) (sl + ms) 530 [some (qR 1300), some (qR 0), some (qR 77), some (qI i)] [qI (sc xs (i + 1)), qR 77, qI z]
  refine qJ.run hκ 4 (pc' := 534) (ls' := [some (qR 1300), some (qR 0), some (qR 77), some (qI i)]) (st' := [qI (i + 2), qR 1300, qI (sc xs (i + 1)), qR 77, qI z]) rfl ?_
  refine qJ.sld hκ hX rfl (by omega) (by omega) ?_
  show qJ (YL nm tbL10) κ fin (qLy u1, m1, y1) (cs + mc) (sl + ms) 535 [some (qR 1300), some (qR 0), some (qR 77), some (qI i)] [qI (sc xs (i + 2)), qI (sc xs (i + 1)), qR 77, qI z]
  refine qJ.callV (b := 77) (As := [qI (sc xs (i + 1)), qI (sc xs (i + 2))]) (rest := [qI z]) hκ rfl kL_61 hC2 rfl rfl (by decide) rfl rfl (Nat.le_of_ble_eq_true rfl) (by omega) (by omega) (Or.inr ⟨rfl, law_wf u1 i⟩) (fun r2 h2 e2 => ?_)
  obtain ⟨rfl, m2, y2, rfl, hA2⟩ := hQ2 r2 h2 e2
  show qJ (YL nm tbL10) κ fin (qLy u1, m2, y2) (cs + mc + 0) (sl + ms + 0) 538 [some (qR 1300), some (qR 0), some (qR 77), some (qI i)] [qI z, qI z]
  refine qJ.icmp_same hκ (tgt := 1246) rfl rfl ?_
  exact qJ.tb (k u1 m2 y2 _ _ hA2 (by omega) (by omega))

set_option maxRecDepth 100000 in
theorem law_11 {nm : String} {κ : qK} {fin : State → Prop} {L : Nat} {xs : Nat → Int32} {c i : Int} {u : qU} {m y : qM} {cs sl : Nat} (hκ0 : qCx (YL nm tbL) 13 600000 7302250 κ) (hX : qSc κ L xs) (hL : L ≤ 3584) (hi : 0 ≤ i ∧ i + 7 ≤ L) (hc : c < 512) (hA : iA c u m) (hcs : cs + 21 ≤ 600000) (hsl : sl + 2101 ≤ 7302250) (k : ∀ (u' : qU) (m' y' : qM) (cs' sl' : Nat), iA (c + 1) u' m' → cs' ≤ cs + 21 → sl' ≤ sl + 2101 → qJ (YL nm tbL) κ fin (qLy u', m', y') cs' sl' 1246 [some (qR 1300), some (qR 0), some (qR 77), some (qI i)] []) : qJ (YL nm tbL) κ fin (qLy u, m, y) cs sl 543 [some (qR 1300), some (qR 0), some (qR 77), some (qI i)] [] := by
  refine qJ.tb (tb := tbL11) ?_
  have hκ := qCx.tb tbL11_ok hκ0
  show qJ (YL nm tbL11) κ fin (qLy u, m, y) cs sl 543 [some (qR 1300), some (qR 0), some (qR 77), some (qI i)] []
  refine qJ.run hκ 5 (pc' := 548) (ls' := [some (qR 1300), some (qR 0), some (qR 77), some (qI i)]) (st' := [qI (i + 1), qR 1300, qR 0]) rfl ?_
  refine qJ.sld hκ hX rfl (by omega) (by omega) ?_
  show qJ (YL nm tbL11) κ fin (qLy u, m, y) cs sl 549 [some (qR 1300), some (qR 0), some (qR 77), some (qI i)] [qI (sc xs (i + 1)), qR 0]
  obtain ⟨mc, ms, Q, b1, b2, hC, hQ⟩ := j_initial y (sc xs (i + 1)) hA (sc_r xs _)
  refine qJ.callV (b := 0) (As := [qI (sc xs (i + 1))]) (rest := []) hκ rfl kL_62 hC rfl rfl (by decide) rfl rfl (Nat.le_of_ble_eq_true rfl) (by omega) (by omega) (Or.inr ⟨rfl, law_wf u i⟩) (fun r h e => ?_)
  obtain ⟨z, u1, m1, y1, rfl, rfl, Q2, hC2, hQ2⟩ := hQ r h e
  show qJ (YL nm tbL11) κ fin (qLy u1, m1, y1) (cs + mc) (sl + ms) 552 [some (qR 1300), some (qR 0), some (qR 77), some (qI i)] [qI z]
  refine qJ.run hκ 5 (pc' := 557) (ls' := [some (qR 1300), some (qR 0), some (qR 77), some (qI i)]) (st' := [qI (i + 1), qR 1300, qR 77, qI z]) rfl ?_
  refine qJ.sld hκ hX rfl (by omega) (by omega) ?_
  show qJ (YL nm tbL11) κ fin (qLy u1, m1, y1) (cs + mc) (sl + ms) 558 [some (qR 1300), some (qR 0), some (qR 77), some (qI i)] [qI (sc xs (i + 1)), qR 77, qI z]
  refine qJ.callV (b := 77) (As := [qI (sc xs (i + 1))]) (rest := [qI z]) hκ rfl kL_65 hC2 rfl rfl (by decide) rfl rfl (Nat.le_of_ble_eq_true rfl) (by omega) (by omega) (Or.inr ⟨rfl, law_wf u1 i⟩) (fun r2 h2 e2 => ?_)
  obtain ⟨rfl, m2, y2, rfl, hA2⟩ := hQ2 r2 h2 e2
  show qJ (YL nm tbL11) κ fin (qLy u1, m2, y2) (cs + mc + 0) (sl + ms + 0) 561 [some (qR 1300), some (qR 0), some (qR 77), some (qI i)] [qI z, qI z]
  refine qJ.icmp_same hκ (tgt := 1246) rfl rfl ?_
  exact qJ.tb (k u1 m2 y2 _ _ hA2 (by omega) (by omega))

set_option maxRecDepth 100000 in
theorem law_12 {nm : String} {κ : qK} {fin : State → Prop} {L : Nat} {xs : Nat → Int32} {c i : Int} {u : qU} {m y : qM} {cs sl : Nat} (hκ0 : qCx (YL nm tbL) 13 600000 7302250 κ) (hX : qSc κ L xs) (hL : L ≤ 3584) (hi : 0 ≤ i ∧ i + 7 ≤ L) (hc : c < 512) (hA : iA c u m) (hcs : cs + 21 ≤ 600000) (hsl : sl + 2101 ≤ 7302250) (k : ∀ (u' : qU) (m' y' : qM) (cs' sl' : Nat), iA (c + 1) u' m' → cs' ≤ cs + 21 → sl' ≤ sl + 2101 → qJ (YL nm tbL) κ fin (qLy u', m', y') cs' sl' 1246 [some (qR 1300), some (qR 0), some (qR 77), some (qI i)] []) : qJ (YL nm tbL) κ fin (qLy u, m, y) cs sl 566 [some (qR 1300), some (qR 0), some (qR 77), some (qI i)] [] := by
  refine qJ.tb (tb := tbL12) ?_
  have hκ := qCx.tb tbL12_ok hκ0
  show qJ (YL nm tbL12) κ fin (qLy u, m, y) cs sl 566 [some (qR 1300), some (qR 0), some (qR 77), some (qI i)] []
  refine qJ.run hκ 5 (pc' := 571) (ls' := [some (qR 1300), some (qR 0), some (qR 77), some (qI i)]) (st' := [qI (i + 1), qR 1300, qR 0]) rfl ?_
  refine qJ.sld hκ hX rfl (by omega) (by omega) ?_
  show qJ (YL nm tbL12) κ fin (qLy u, m, y) cs sl 572 [some (qR 1300), some (qR 0), some (qR 77), some (qI i)] [qI (sc xs (i + 1)), qR 0]
  refine qJ.run hκ 4 (pc' := 576) (ls' := [some (qR 1300), some (qR 0), some (qR 77), some (qI i)]) (st' := [qI (i + 2), qR 1300, qI (sc xs (i + 1)), qR 0]) rfl ?_
  refine qJ.sld hκ hX rfl (by omega) (by omega) ?_
  show qJ (YL nm tbL12) κ fin (qLy u, m, y) cs sl 577 [some (qR 1300), some (qR 0), some (qR 77), some (qI i)] [qI (sc xs (i + 2)), qI (sc xs (i + 1)), qR 0]
  obtain ⟨mc, ms, Q, b1, b2, hC, hQ⟩ := j_twins y (sc xs (i + 1)) (sc xs (i + 2)) hA (sc_r xs _) (sc_r xs _)
  refine qJ.callV (b := 0) (As := [qI (sc xs (i + 1)), qI (sc xs (i + 2))]) (rest := []) hκ rfl kL_66 hC rfl rfl (by decide) rfl rfl (Nat.le_of_ble_eq_true rfl) (by omega) (by omega) (Or.inr ⟨rfl, law_wf u i⟩) (fun r h e => ?_)
  obtain ⟨z, u1, m1, y1, rfl, rfl, Q2, hC2, hQ2⟩ := hQ r h e
  show qJ (YL nm tbL12) κ fin (qLy u1, m1, y1) (cs + mc) (sl + ms) 580 [some (qR 1300), some (qR 0), some (qR 77), some (qI i)] [qI z]
  refine qJ.run hκ 5 (pc' := 585) (ls' := [some (qR 1300), some (qR 0), some (qR 77), some (qI i)]) (st' := [qI (i + 1), qR 1300, qR 77, qI z]) rfl ?_
  refine qJ.sld hκ hX rfl (by omega) (by omega) ?_
  show qJ (YL nm tbL12) κ fin (qLy u1, m1, y1) (cs + mc) (sl + ms) 586 [some (qR 1300), some (qR 0), some (qR 77), some (qI i)] [qI (sc xs (i + 1)), qR 77, qI z]
  refine qJ.run hκ 4 (pc' := 590) (ls' := [some (qR 1300), some (qR 0), some (qR 77), some (qI i)]) (st' := [qI (i + 2), qR 1300, qI (sc xs (i + 1)), qR 77, qI z]) rfl ?_
  refine qJ.sld hκ hX rfl (by omega) (by omega) ?_
  show qJ (YL nm tbL12) κ fin (qLy u1, m1, y1) (cs + mc) (sl + ms) 591 [some (qR 1300), some (qR 0), some (qR 77), some (qI i)] [qI (sc xs (i + 2)), qI (sc xs (i + 1)), qR 77, qI z]
  refine qJ.callV (b := 77) (As := [qI (sc xs (i + 1)), qI (sc xs (i + 2))]) (rest := [qI z]) hκ rfl kL_69 hC2 rfl rfl (by decide) rfl rfl (Nat.le_of_ble_eq_true rfl) (by omega) (by omega) (Or.inr ⟨rfl, law_wf u1 i⟩) (fun r2 h2 e2 => ?_)
  obtain ⟨rfl, m2, y2, rfl, hA2⟩ := hQ2 r2 h2 e2
  show qJ (YL nm tbL12) κ fin (qLy u1, m2, y2) (cs + mc + 0) (sl + ms + 0) 594 [some (qR 1300), some (qR 0), some (qR 77), some (qI i)] [qI z, qI z]
  refine qJ.icmp_same hκ (tgt := 1246) rfl rfl ?_
  exact qJ.tb (k u1 m2 y2 _ _ hA2 (by omega) (by omega))

set_option maxRecDepth 100000 in
theorem law_13 {nm : String} {κ : qK} {fin : State → Prop} {L : Nat} {xs : Nat → Int32} {c i : Int} {u : qU} {m y : qM} {cs sl : Nat} (hκ0 : qCx (YL nm tbL) 13 600000 7302250 κ) (hX : qSc κ L xs) (hL : L ≤ 3584) (hi : 0 ≤ i ∧ i + 7 ≤ L) (hc : c < 512) (hA : iA c u m) (hcs : cs + 21 ≤ 600000) (hsl : sl + 2101 ≤ 7302250) (k : ∀ (u' : qU) (m' y' : qM) (cs' sl' : Nat), iA (c + 1) u' m' → cs' ≤ cs + 21 → sl' ≤ sl + 2101 → qJ (YL nm tbL) κ fin (qLy u', m', y') cs' sl' 1246 [some (qR 1300), some (qR 0), some (qR 77), some (qI i)] []) : qJ (YL nm tbL) κ fin (qLy u, m, y) cs sl 599 [some (qR 1300), some (qR 0), some (qR 77), some (qI i)] [] := by
  refine qJ.tb (tb := tbL13) ?_
  have hκ := qCx.tb tbL13_ok hκ0
  show qJ (YL nm tbL13) κ fin (qLy u, m, y) cs sl 599 [some (qR 1300), some (qR 0), some (qR 77), some (qI i)] []
  refine qJ.run hκ 5 (pc' := 604) (ls' := [some (qR 1300), some (qR 0), some (qR 77), some (qI i)]) (st' := [qI (i + 1), qR 1300, qR 0]) rfl ?_
  refine qJ.sld hκ hX rfl (by omega) (by omega) ?_
  show qJ (YL nm tbL13) κ fin (qLy u, m, y) cs sl 605 [some (qR 1300), some (qR 0), some (qR 77), some (qI i)] [qI (sc xs (i + 1)), qR 0]
  refine qJ.run hκ 4 (pc' := 609) (ls' := [some (qR 1300), some (qR 0), some (qR 77), some (qI i)]) (st' := [qI (i + 2), qR 1300, qI (sc xs (i + 1)), qR 0]) rfl ?_
  refine qJ.sld hκ hX rfl (by omega) (by omega) ?_
  show qJ (YL nm tbL13) κ fin (qLy u, m, y) cs sl 610 [some (qR 1300), some (qR 0), some (qR 77), some (qI i)] [qI (sc xs (i + 2)), qI (sc xs (i + 1)), qR 0]
  obtain ⟨mc, ms, Q, b1, b2, hC, hQ⟩ := j_one y (sc xs (i + 1)) (sc xs (i + 2)) hA (sc_r xs _) (sc_r xs _)
  refine qJ.callV (b := 0) (As := [qI (sc xs (i + 1)), qI (sc xs (i + 2))]) (rest := []) hκ rfl kL_70 hC rfl rfl (by decide) rfl rfl (Nat.le_of_ble_eq_true rfl) (by omega) (by omega) (Or.inr ⟨rfl, law_wf u i⟩) (fun r h e => ?_)
  obtain ⟨z, u1, m1, y1, rfl, rfl, Q2, hC2, hQ2⟩ := hQ r h e
  show qJ (YL nm tbL13) κ fin (qLy u1, m1, y1) (cs + mc) (sl + ms) 613 [some (qR 1300), some (qR 0), some (qR 77), some (qI i)] [qI z]
  refine qJ.run hκ 5 (pc' := 618) (ls' := [some (qR 1300), some (qR 0), some (qR 77), some (qI i)]) (st' := [qI (i + 1), qR 1300, qR 77, qI z]) rfl ?_
  refine qJ.sld hκ hX rfl (by omega) (by omega) ?_
  show qJ (YL nm tbL13) κ fin (qLy u1, m1, y1) (cs + mc) (sl + ms) 619 [some (qR 1300), some (qR 0), some (qR 77), some (qI i)] [qI (sc xs (i + 1)), qR 77, qI z]
  refine qJ.run hκ 4 (pc' := 623) (ls' := [some (qR 1300), some (qR 0), some (qR 77), some (qI i)]) (st' := [qI (i + 2), qR 1300, qI (sc xs (i + 1)), qR 77, qI z]) rfl ?_
  refine qJ.sld hκ hX rfl (by omega) (by omega) ?_
  show qJ (YL nm tbL13) κ fin (qLy u1, m1, y1) (cs + mc) (sl + ms) 624 [some (qR 1300), some (qR 0), some (qR 77), some (qI i)] [qI (sc xs (i + 2)), qI (sc xs (i + 1)), qR 77, qI z]
  refine qJ.callV (b := 77) (As := [qI (sc xs (i + 1)), qI (sc xs (i + 2))]) (rest := [qI z]) hκ rfl kL_74 hC2 rfl rfl (by decide) rfl rfl (Nat.le_of_ble_eq_true rfl) (by omega) (by omega) (Or.inr ⟨rfl, law_wf u1 i⟩) (fun r2 h2 e2 => ?_)
  obtain ⟨rfl, m2, y2, rfl, hA2⟩ := hQ2 r2 h2 e2
  show qJ (YL nm tbL13) κ fin (qLy u1, m2, y2) (cs + mc + 0) (sl + ms + 0) 627 [some (qR 1300), some (qR 0), some (qR 77), some (qI i)] [qI z, qI z]
  refine qJ.icmp_same hκ (tgt := 1246) rfl rfl ?_
  exact qJ.tb (k u1 m2 y2 _ _ hA2 (by omega) (by omega))

set_option maxRecDepth 100000 in
theorem law_14 {nm : String} {κ : qK} {fin : State → Prop} {L : Nat} {xs : Nat → Int32} {c i : Int} {u : qU} {m y : qM} {cs sl : Nat} (hκ0 : qCx (YL nm tbL) 13 600000 7302250 κ) (hX : qSc κ L xs) (hL : L ≤ 3584) (hi : 0 ≤ i ∧ i + 7 ≤ L) (hc : c < 512) (hA : iA c u m) (hcs : cs + 21 ≤ 600000) (hsl : sl + 2101 ≤ 7302250) (k : ∀ (u' : qU) (m' y' : qM) (cs' sl' : Nat), iA (c + 1) u' m' → cs' ≤ cs + 21 → sl' ≤ sl + 2101 → qJ (YL nm tbL) κ fin (qLy u', m', y') cs' sl' 1246 [some (qR 1300), some (qR 0), some (qR 77), some (qI i)] []) : qJ (YL nm tbL) κ fin (qLy u, m, y) cs sl 632 [some (qR 1300), some (qR 0), some (qR 77), some (qI i)] [] := by
  refine qJ.tb (tb := tbL14) ?_
  have hκ := qCx.tb tbL14_ok hκ0
  show qJ (YL nm tbL14) κ fin (qLy u, m, y) cs sl 632 [some (qR 1300), some (qR 0), some (qR 77), some (qI i)] []
  refine qJ.run hκ 5 (pc' := 637) (ls' := [some (qR 1300), some (qR 0), some (qR 77), some (qI i)]) (st' := [qI (i + 1), qR 1300, qR 0]) rfl ?_
  refine qJ.sld hκ hX rfl (by omega) (by omega) ?_
  show qJ (YL nm tbL14) κ fin (qLy u, m, y) cs sl 638 [some (qR 1300), some (qR 0), some (qR 77), some (qI i)] [qI (sc xs (i + 1)), qR 0]
  obtain ⟨mc, ms, Q, b1, b2, hC, hQ⟩ := j_fills y (sc xs (i + 1)) hA (sc_r xs _)
  refine qJ.callV (b := 0) (As := [qI (sc xs (i + 1))]) (rest := []) hκ rfl kL_75 hC rfl rfl (by decide) rfl rfl (Nat.le_of_ble_eq_true rfl) (by omega) (by omega) (Or.inr ⟨rfl, law_wf u i⟩) (fun r h e => ?_)
  obtain ⟨z, u1, m1, y1, rfl, rfl, Q2, hC2, hQ2⟩ := hQ r h e
  show qJ (YL nm tbL14) κ fin (qLy u1, m1, y1) (cs + mc) (sl + ms) 641 [some (qR 1300), some (qR 0), some (qR 77), some (qI i)] [qI z]
  refine qJ.run hκ 5 (pc' := 646) (ls' := [some (qR 1300), some (qR 0), some (qR 77), some (qI i)]) (st' := [qI (i + 1), qR 1300, qR 77, qI z]) rfl ?_
  refine qJ.sld hκ hX rfl (by omega) (by omega) ?_
  show qJ (YL nm tbL14) κ fin (qLy u1, m1, y1) (cs + mc) (sl + ms) 647 [some (qR 1300), some (qR 0), some (qR 77), some (qI i)] [qI (sc xs (i + 1)), qR 77, qI z]
  refine qJ.callV (b := 77) (As := [qI (sc xs (i + 1))]) (rest := [qI z]) hκ rfl kL_78 hC2 rfl rfl (by decide) rfl rfl (Nat.le_of_ble_eq_true rfl) (by omega) (by omega) (Or.inr ⟨rfl, law_wf u1 i⟩) (fun r2 h2 e2 => ?_)
  obtain ⟨rfl, m2, y2, rfl, hA2⟩ := hQ2 r2 h2 e2
  show qJ (YL nm tbL14) κ fin (qLy u1, m2, y2) (cs + mc + 0) (sl + ms + 0) 650 [some (qR 1300), some (qR 0), some (qR 77), some (qI i)] [qI z, qI z]
  refine qJ.icmp_same hκ (tgt := 1246) rfl rfl ?_
  exact qJ.tb (k u1 m2 y2 _ _ hA2 (by omega) (by omega))

set_option maxRecDepth 100000 in
theorem law_15 {nm : String} {κ : qK} {fin : State → Prop} {L : Nat} {xs : Nat → Int32} {c i : Int} {u : qU} {m y : qM} {cs sl : Nat} (hκ0 : qCx (YL nm tbL) 13 600000 7302250 κ) (hX : qSc κ L xs) (hL : L ≤ 3584) (hi : 0 ≤ i ∧ i + 7 ≤ L) (hc : c < 512) (hA : iA c u m) (hcs : cs + 21 ≤ 600000) (hsl : sl + 2101 ≤ 7302250) (k : ∀ (u' : qU) (m' y' : qM) (cs' sl' : Nat), iA (c + 1) u' m' → cs' ≤ cs + 21 → sl' ≤ sl + 2101 → qJ (YL nm tbL) κ fin (qLy u', m', y') cs' sl' 1246 [some (qR 1300), some (qR 0), some (qR 77), some (qI i)] []) : qJ (YL nm tbL) κ fin (qLy u, m, y) cs sl 655 [some (qR 1300), some (qR 0), some (qR 77), some (qI i)] [] := by
  refine qJ.tb (tb := tbL15) ?_
  have hκ := qCx.tb tbL15_ok hκ0
  show qJ (YL nm tbL15) κ fin (qLy u, m, y) cs sl 655 [some (qR 1300), some (qR 0), some (qR 77), some (qI i)] []
  refine qJ.run hκ 5 (pc' := 660) (ls' := [some (qR 1300), some (qR 0), some (qR 77), some (qI i)]) (st' := [qI (i + 1), qR 1300, qR 0]) rfl ?_
  refine qJ.sld hκ hX rfl (by omega) (by omega) ?_
  show qJ (YL nm tbL15) κ fin (qLy u, m, y) cs sl 661 [some (qR 1300), some (qR 0), some (qR 77), some (qI i)] [qI (sc xs (i + 1)), qR 0]
  refine qJ.run hκ 4 (pc' := 665) (ls' := [some (qR 1300), some (qR 0), some (qR 77), some (qI i)]) (st' := [qI (i + 2), qR 1300, qI (sc xs (i + 1)), qR 0]) rfl ?_
  refine qJ.sld hκ hX rfl (by omega) (by omega) ?_
  show qJ (YL nm tbL15) κ fin (qLy u, m, y) cs sl 666 [some (qR 1300), some (qR 0), some (qR 77), some (qI i)] [qI (sc xs (i + 2)), qI (sc xs (i + 1)), qR 0]
  obtain ⟨mc, ms, Q, b1, b2, hC, hQ⟩ := j_fill y (sc xs (i + 1)) (sc xs (i + 2)) hA (sc_r xs _) (sc_r xs _)
  refine qJ.callV (b := 0) (As := [qI (sc xs (i + 1)), qI (sc xs (i + 2))]) (rest := []) hκ rfl kL_79 hC rfl rfl (by decide) rfl rfl (Nat.le_of_ble_eq_true rfl) (by omega) (by omega) (Or.inr ⟨rfl, law_wf u i⟩) (fun r h e => ?_)
  obtain ⟨z, u1, m1, y1, rfl, rfl, Q2, hC2, hQ2⟩ := hQ r h e
  show qJ (YL nm tbL15) κ fin (qLy u1, m1, y1) (cs + mc) (sl + ms) 669 [some (qR 1300), some (qR 0), some (qR 77), some (qI i)] [qI z]
  refine qJ.run hκ 5 (pc' := 674) (ls' := [some (qR 1300), some (qR 0), some (qR 77), some (qI i)]) (st' := [qI (i + 1), qR 1300, qR 77, qI z]) rfl ?_
  refine qJ.sld hκ hX rfl (by omega) (by omega) ?_
  show qJ (YL nm tbL15) κ fin (qLy u1, m1, y1) (cs + mc) (sl + ms) 675 [some (qR 1300), some (qR 0), some (qR 77), some (qI i)] [qI (sc xs (i + 1)), qR 77, qI z]
  refine qJ.run hκ 4 (pc' := 679) (ls' := [some (qR 1300), some (qR 0), some (qR 77), some (qI i)]) (st' := [qI (i + 2), qR 1300, qI (sc xs (i + 1)), qR 77, qI z]) rfl ?_
  refine qJ.sld hκ hX rfl (by omega) (by omega) ?_
  show qJ (YL nm tbL15) κ fin (qLy u1, m1, y1) (cs + mc) (sl + ms) 680 [some (qR 1300), some (qR 0), some (qR 77), some (qI i)] [qI (sc xs (i + 2)), qI (sc xs (i + 1)), qR 77, qI z]
  refine qJ.callV (b := 77) (As := [qI (sc xs (i + 1)), qI (sc xs (i + 2))]) (rest := [qI z]) hκ rfl kL_82 hC2 rfl rfl (by decide) rfl rfl (Nat.le_of_ble_eq_true rfl) (by omega) (by omega) (Or.inr ⟨rfl, law_wf u1 i⟩) (fun r2 h2 e2 => ?_)
  obtain ⟨rfl, m2, y2, rfl, hA2⟩ := hQ2 r2 h2 e2
  show qJ (YL nm tbL15) κ fin (qLy u1, m2, y2) (cs + mc + 0) (sl + ms + 0) 683 [some (qR 1300), some (qR 0), some (qR 77), some (qI i)] [qI z, qI z]
  refine qJ.icmp_same hκ (tgt := 1246) rfl rfl ?_
  exact qJ.tb (k u1 m2 y2 _ _ hA2 (by omega) (by omega))

set_option maxRecDepth 100000 in
theorem law_16 {nm : String} {κ : qK} {fin : State → Prop} {L : Nat} {xs : Nat → Int32} {c i : Int} {u : qU} {m y : qM} {cs sl : Nat} (hκ0 : qCx (YL nm tbL) 13 600000 7302250 κ) (hX : qSc κ L xs) (hL : L ≤ 3584) (hi : 0 ≤ i ∧ i + 7 ≤ L) (hc : c < 512) (hA : iA c u m) (hcs : cs + 21 ≤ 600000) (hsl : sl + 2101 ≤ 7302250) (k : ∀ (u' : qU) (m' y' : qM) (cs' sl' : Nat), iA (c + 1) u' m' → cs' ≤ cs + 21 → sl' ≤ sl + 2101 → qJ (YL nm tbL) κ fin (qLy u', m', y') cs' sl' 1246 [some (qR 1300), some (qR 0), some (qR 77), some (qI i)] []) : qJ (YL nm tbL) κ fin (qLy u, m, y) cs sl 688 [some (qR 1300), some (qR 0), some (qR 77), some (qI i)] [] := by
  refine qJ.tb (tb := tbL16) ?_
  have hκ := qCx.tb tbL16_ok hκ0
  show qJ (YL nm tbL16) κ fin (qLy u, m, y) cs sl 688 [some (qR 1300), some (qR 0), some (qR 77), some (qI i)] []
  refine qJ.run hκ 1 (pc' := 689) (ls' := [some (qR 1300), some (qR 0), some (qR 77), some (qI i)]) (st' := [qR 0]) rfl ?_
  obtain ⟨mc, ms, Q, b1, b2, hC, hQ⟩ := j_account y  hA 
  refine qJ.callV (b := 0) (As := []) (rest := []) hκ rfl kL_83 hC rfl rfl (by decide) rfl rfl (Nat.le_of_ble_eq_true rfl) (by omega) (by omega) (Or.inr ⟨rfl, law_wf u i⟩) (fun r h e => ?_)
  obtain ⟨z, u1, m1, y1, rfl, rfl, Q2, hC2, hQ2⟩ := hQ r h e
  show qJ (YL nm tbL16) κ fin (qLy u1, m1, y1) (cs + mc) (sl + ms) 692 [some (qR 1300), some (qR 0), some (qR 77), some (qI i)] [qI z]
  refine qJ.run hκ 1 (pc' := 693) (ls' := [some (qR 1300), some (qR 0), some (qR 77), some (qI i)]) (st' := [qR 77, qI z]) rfl ?_
  refine qJ.callV (b := 77) (As := []) (rest := [qI z]) hκ rfl kL_86 hC2 rfl rfl (by decide) rfl rfl (Nat.le_of_ble_eq_true rfl) (by omega) (by omega) (Or.inr ⟨rfl, law_wf u1 i⟩) (fun r2 h2 e2 => ?_)
  obtain ⟨rfl, m2, y2, rfl, hA2⟩ := hQ2 r2 h2 e2
  show qJ (YL nm tbL16) κ fin (qLy u1, m2, y2) (cs + mc + 0) (sl + ms + 0) 696 [some (qR 1300), some (qR 0), some (qR 77), some (qI i)] [qI z, qI z]
  refine qJ.icmp_same hκ (tgt := 1246) rfl rfl ?_
  exact qJ.tb (k u1 m2 y2 _ _ hA2 (by omega) (by omega))

set_option maxRecDepth 100000 in
theorem law_17 {nm : String} {κ : qK} {fin : State → Prop} {L : Nat} {xs : Nat → Int32} {c i : Int} {u : qU} {m y : qM} {cs sl : Nat} (hκ0 : qCx (YL nm tbL) 13 600000 7302250 κ) (hX : qSc κ L xs) (hL : L ≤ 3584) (hi : 0 ≤ i ∧ i + 7 ≤ L) (hc : c < 512) (hA : iA c u m) (hcs : cs + 21 ≤ 600000) (hsl : sl + 2101 ≤ 7302250) (k : ∀ (u' : qU) (m' y' : qM) (cs' sl' : Nat), iA (c + 1) u' m' → cs' ≤ cs + 21 → sl' ≤ sl + 2101 → qJ (YL nm tbL) κ fin (qLy u', m', y') cs' sl' 1246 [some (qR 1300), some (qR 0), some (qR 77), some (qI i)] []) : qJ (YL nm tbL) κ fin (qLy u, m, y) cs sl 701 [some (qR 1300), some (qR 0), some (qR 77), some (qI i)] [] := by
  refine qJ.tb (tb := tbL17) ?_
  have hκ := qCx.tb tbL17_ok hκ0
  show qJ (YL nm tbL17) κ fin (qLy u, m, y) cs sl 701 [some (qR 1300), some (qR 0), some (qR 77), some (qI i)] []
  refine qJ.run hκ 5 (pc' := 706) (ls' := [some (qR 1300), some (qR 0), some (qR 77), some (qI i)]) (st' := [qI (i + 1), qR 1300, qR 0]) rfl ?_
  refine qJ.sld hκ hX rfl (by omega) (by omega) ?_
  show qJ (YL nm tbL17) κ fin (qLy u, m, y) cs sl 707 [some (qR 1300), some (qR 0), some (qR 77), some (qI i)] [qI (sc xs (i + 1)), qR 0]
  refine qJ.run hκ 4 (pc' := 711) (ls' := [some (qR 1300), some (qR 0), some (qR 77), some (qI i)]) (st' := [qI (i + 2), qR 1300, qI (sc xs (i + 1)), qR 0]) rfl ?_
  refine qJ.sld hκ hX rfl (by omega) (by omega) ?_
  show qJ (YL nm tbL17) κ fin (qLy u, m, y) cs sl 712 [some (qR 1300), some (qR 0), some (qR 77), some (qI i)] [qI (sc xs (i + 2)), qI (sc xs (i + 1)), qR 0]
  refine qJ.if_eq hκ (tgt := 719) rfl rfl (sc_r xs _) (fun fx => ?_) (fun fx => ?_)
  · show qJ (YL nm tbL17) κ fin (qLy u, m, y) cs sl 719 [some (qR 1300), some (qR 0), some (qR 77), some (qI i)] [qI (sc xs (i + 1)), qR 0]
    refine qJ.run hκ 5 (pc' := 724) (ls' := [some (qR 1300), some (qR 0), some (qR 77), some (qI i)]) (st' := [qI (i + 3), qR 1300, qI 0, qI (sc xs (i + 1)), qR 0]) rfl ?_
    refine qJ.sld hκ hX rfl (by omega) (by omega) ?_
    show qJ (YL nm tbL17) κ fin (qLy u, m, y) cs sl 725 [some (qR 1300), some (qR 0), some (qR 77), some (qI i)] [qI (sc xs (i + 3)), qI 0, qI (sc xs (i + 1)), qR 0]
    refine qJ.run hκ 4 (pc' := 729) (ls' := [some (qR 1300), some (qR 0), some (qR 77), some (qI i)]) (st' := [qI (i + 4), qR 1300, qI (sc xs (i + 3)), qI 0, qI (sc xs (i + 1)), qR 0]) rfl ?_
    refine qJ.sld hκ hX rfl (by omega) (by omega) ?_
    show qJ (YL nm tbL17) κ fin (qLy u, m, y) cs sl 730 [some (qR 1300), some (qR 0), some (qR 77), some (qI i)] [qI (sc xs (i + 4)), qI (sc xs (i + 3)), qI 0, qI (sc xs (i + 1)), qR 0]
    refine qJ.run hκ 4 (pc' := 734) (ls' := [some (qR 1300), some (qR 0), some (qR 77), some (qI i)]) (st' := [qI (i + 5), qR 1300, qI (sc xs (i + 4)), qI (sc xs (i + 3)), qI 0, qI (sc xs (i + 1)), qR 0]) rfl ?_
    refine qJ.sld hκ hX rfl (by omega) (by omega) ?_
    show qJ (YL nm tbL17) κ fin (qLy u, m, y) cs sl 735 [some (qR 1300), some (qR 0), some (qR 77), some (qI i)] [qI (sc xs (i + 5)), qI (sc xs (i + 4)), qI (sc xs (i + 3)), qI 0, qI (sc xs (i + 1)), qR 0]
    refine qJ.run hκ 4 (pc' := 740) (ls' := [some (qR 1300), some (qR 0), some (qR 77), some (qI i)]) (st' := [qI (i + 6), qR 1300, qI (sc xs (i + 5)), qI (sc xs (i + 4)), qI (sc xs (i + 3)), qI 0, qI (sc xs (i + 1)), qR 0]) rfl ?_
    refine qJ.sld hκ hX rfl (by omega) (by omega) ?_
    show qJ (YL nm tbL17) κ fin (qLy u, m, y) cs sl 741 [some (qR 1300), some (qR 0), some (qR 77), some (qI i)] [qI (sc xs (i + 6)), qI (sc xs (i + 5)), qI (sc xs (i + 4)), qI (sc xs (i + 3)), qI 0, qI (sc xs (i + 1)), qR 0]
    obtain ⟨mc, ms, Q, b1, b2, hC, hQ⟩ := j_count0 y (sc xs (i + 1)) (sc xs (i + 3)) (sc xs (i + 4)) (sc xs (i + 5)) (sc xs (i + 6)) hA hc (sc_r xs _) (sc_r xs _) (sc_r xs _) (sc_r xs _) (sc_r xs _)
    refine qJ.callV (b := 0) (As := [qI (sc xs (i + 1)), qI 0, qI (sc xs (i + 3)), qI (sc xs (i + 4)), qI (sc xs (i + 5)), qI (sc xs (i + 6))]) (rest := []) hκ rfl kL_87 hC rfl rfl (by decide) rfl rfl (Nat.le_of_ble_eq_true rfl) (by omega) (by omega) (Or.inr ⟨rfl, law_wf u i⟩) (fun r h e => ?_)
    obtain ⟨z, u1, m1, y1, rfl, rfl, Q2, hC2, hQ2⟩ := hQ r h e
    show qJ (YL nm tbL17) κ fin (qLy u1, m1, y1) (cs + mc) (sl + ms) 744 [some (qR 1300), some (qR 0), some (qR 77), some (qI i)] [qI z]
    refine qJ.run hκ 5 (pc' := 749) (ls' := [some (qR 1300), some (qR 0), some (qR 77), some (qI i)]) (st' := [qI (i + 1), qR 1300, qR 77, qI z]) rfl ?_
    refine qJ.sld hκ hX rfl (by omega) (by omega) ?_
    show qJ (YL nm tbL17) κ fin (qLy u1, m1, y1) (cs + mc) (sl + ms) 750 [some (qR 1300), some (qR 0), some (qR 77), some (qI i)] [qI (sc xs (i + 1)), qR 77, qI z]
    refine qJ.run hκ 4 (pc' := 754) (ls' := [some (qR 1300), some (qR 0), some (qR 77), some (qI i)]) (st' := [qI (i + 2), qR 1300, qI (sc xs (i + 1)), qR 77, qI z]) rfl ?_
    refine qJ.sld hκ hX rfl (by omega) (by omega) ?_
    show qJ (YL nm tbL17) κ fin (qLy u1, m1, y1) (cs + mc) (sl + ms) 755 [some (qR 1300), some (qR 0), some (qR 77), some (qI i)] [qI (sc xs (i + 2)), qI (sc xs (i + 1)), qR 77, qI z]
    refine qJ.if_eq hκ (tgt := 762) rfl rfl (sc_r xs _) (fun fm => ?_) (fun fm => ?_)
    · show qJ (YL nm tbL17) κ fin (qLy u1, m1, y1) (cs + mc) (sl + ms) 762 [some (qR 1300), some (qR 0), some (qR 77), some (qI i)] [qI (sc xs (i + 1)), qR 77, qI z]
      refine qJ.run hκ 5 (pc' := 767) (ls' := [some (qR 1300), some (qR 0), some (qR 77), some (qI i)]) (st' := [qI (i + 3), qR 1300, qI 0, qI (sc xs (i + 1)), qR 77, qI z]) rfl ?_
      refine qJ.sld hκ hX rfl (by omega) (by omega) ?_
      show qJ (YL nm tbL17) κ fin (qLy u1, m1, y1) (cs + mc) (sl + ms) 768 [some (qR 1300), some (qR 0), some (qR 77), some (qI i)] [qI (sc xs (i + 3)), qI 0, qI (sc xs (i + 1)), qR 77, qI z]
      refine qJ.run hκ 4 (pc' := 772) (ls' := [some (qR 1300), some (qR 0), some (qR 77), some (qI i)]) (st' := [qI (i + 4), qR 1300, qI (sc xs (i + 3)), qI 0, qI (sc xs (i + 1)), qR 77, qI z]) rfl ?_
      refine qJ.sld hκ hX rfl (by omega) (by omega) ?_
      show qJ (YL nm tbL17) κ fin (qLy u1, m1, y1) (cs + mc) (sl + ms) 773 [some (qR 1300), some (qR 0), some (qR 77), some (qI i)] [qI (sc xs (i + 4)), qI (sc xs (i + 3)), qI 0, qI (sc xs (i + 1)), qR 77, qI z]
      refine qJ.run hκ 4 (pc' := 777) (ls' := [some (qR 1300), some (qR 0), some (qR 77), some (qI i)]) (st' := [qI (i + 5), qR 1300, qI (sc xs (i + 4)), qI (sc xs (i + 3)), qI 0, qI (sc xs (i + 1)), qR 77, qI z]) rfl ?_
      refine qJ.sld hκ hX rfl (by omega) (by omega) ?_
      show qJ (YL nm tbL17) κ fin (qLy u1, m1, y1) (cs + mc) (sl + ms) 778 [some (qR 1300), some (qR 0), some (qR 77), some (qI i)] [qI (sc xs (i + 5)), qI (sc xs (i + 4)), qI (sc xs (i + 3)), qI 0, qI (sc xs (i + 1)), qR 77, qI z]
      refine qJ.run hκ 4 (pc' := 783) (ls' := [some (qR 1300), some (qR 0), some (qR 77), some (qI i)]) (st' := [qI (i + 6), qR 1300, qI (sc xs (i + 5)), qI (sc xs (i + 4)), qI (sc xs (i + 3)), qI 0, qI (sc xs (i + 1)), qR 77, qI z]) rfl ?_
      refine qJ.sld hκ hX rfl (by omega) (by omega) ?_
      show qJ (YL nm tbL17) κ fin (qLy u1, m1, y1) (cs + mc) (sl + ms) 784 [some (qR 1300), some (qR 0), some (qR 77), some (qI i)] [qI (sc xs (i + 6)), qI (sc xs (i + 5)), qI (sc xs (i + 4)), qI (sc xs (i + 3)), qI 0, qI (sc xs (i + 1)), qR 77, qI z]
      refine qJ.callV (b := 77) (As := [qI (sc xs (i + 1)), qI 0, qI (sc xs (i + 3)), qI (sc xs (i + 4)), qI (sc xs (i + 5)), qI (sc xs (i + 6))]) (rest := [qI z]) hκ rfl kL_91 hC2 rfl rfl (by decide) rfl rfl (Nat.le_of_ble_eq_true rfl) (by omega) (by omega) (Or.inr ⟨rfl, law_wf u1 i⟩) (fun r2 h2 e2 => ?_)
      obtain ⟨rfl, m2, y2, rfl, hA2⟩ := hQ2 r2 h2 e2
      show qJ (YL nm tbL17) κ fin (qLy u1, m2, y2) (cs + mc + 0) (sl + ms + 0) 787 [some (qR 1300), some (qR 0), some (qR 77), some (qI i)] [qI z, qI z]
      refine qJ.icmp_same hκ (tgt := 1246) rfl rfl ?_
      exact qJ.tb (k u1 m2 y2 _ _ hA2 (by omega) (by omega))
    · exact absurd fx fm
  · show qJ (YL nm tbL17) κ fin (qLy u, m, y) cs sl 715 [some (qR 1300), some (qR 0), some (qR 77), some (qI i)] [qI (sc xs (i + 1)), qR 0]
    refine qJ.run hκ 6 (pc' := 724) (ls' := [some (qR 1300), some (qR 0), some (qR 77), some (qI i)]) (st' := [qI (i + 3), qR 1300, qI 1, qI (sc xs (i + 1)), qR 0]) rfl ?_
    refine qJ.sld hκ hX rfl (by omega) (by omega) ?_
    show qJ (YL nm tbL17) κ fin (qLy u, m, y) cs sl 725 [some (qR 1300), some (qR 0), some (qR 77), some (qI i)] [qI (sc xs (i + 3)), qI 1, qI (sc xs (i + 1)), qR 0]
    refine qJ.run hκ 4 (pc' := 729) (ls' := [some (qR 1300), some (qR 0), some (qR 77), some (qI i)]) (st' := [qI (i + 4), qR 1300, qI (sc xs (i + 3)), qI 1, qI (sc xs (i + 1)), qR 0]) rfl ?_
    refine qJ.sld hκ hX rfl (by omega) (by omega) ?_
    show qJ (YL nm tbL17) κ fin (qLy u, m, y) cs sl 730 [some (qR 1300), some (qR 0), some (qR 77), some (qI i)] [qI (sc xs (i + 4)), qI (sc xs (i + 3)), qI 1, qI (sc xs (i + 1)), qR 0]
    refine qJ.run hκ 4 (pc' := 734) (ls' := [some (qR 1300), some (qR 0), some (qR 77), some (qI i)]) (st' := [qI (i + 5), qR 1300, qI (sc xs (i + 4)), qI (sc xs (i + 3)), qI 1, qI (sc xs (i + 1)), qR 0]) rfl ?_
    refine qJ.sld hκ hX rfl (by omega) (by omega) ?_
    show qJ (YL nm tbL17) κ fin (qLy u, m, y) cs sl 735 [some (qR 1300), some (qR 0), some (qR 77), some (qI i)] [qI (sc xs (i + 5)), qI (sc xs (i + 4)), qI (sc xs (i + 3)), qI 1, qI (sc xs (i + 1)), qR 0]
    refine qJ.run hκ 4 (pc' := 740) (ls' := [some (qR 1300), some (qR 0), some (qR 77), some (qI i)]) (st' := [qI (i + 6), qR 1300, qI (sc xs (i + 5)), qI (sc xs (i + 4)), qI (sc xs (i + 3)), qI 1, qI (sc xs (i + 1)), qR 0]) rfl ?_
    refine qJ.sld hκ hX rfl (by omega) (by omega) ?_
    show qJ (YL nm tbL17) κ fin (qLy u, m, y) cs sl 741 [some (qR 1300), some (qR 0), some (qR 77), some (qI i)] [qI (sc xs (i + 6)), qI (sc xs (i + 5)), qI (sc xs (i + 4)), qI (sc xs (i + 3)), qI 1, qI (sc xs (i + 1)), qR 0]
    obtain ⟨mc, ms, Q, b1, b2, hC, hQ⟩ := j_count1 y (sc xs (i + 1)) (sc xs (i + 3)) (sc xs (i + 4)) (sc xs (i + 5)) (sc xs (i + 6)) hA hc (sc_r xs _) (sc_r xs _) (sc_r xs _) (sc_r xs _) (sc_r xs _)
    refine qJ.callV (b := 0) (As := [qI (sc xs (i + 1)), qI 1, qI (sc xs (i + 3)), qI (sc xs (i + 4)), qI (sc xs (i + 5)), qI (sc xs (i + 6))]) (rest := []) hκ rfl kL_87 hC rfl rfl (by decide) rfl rfl (Nat.le_of_ble_eq_true rfl) (by omega) (by omega) (Or.inr ⟨rfl, law_wf u i⟩) (fun r h e => ?_)
    obtain ⟨z, u1, m1, y1, rfl, rfl, Q2, hC2, hQ2⟩ := hQ r h e
    show qJ (YL nm tbL17) κ fin (qLy u1, m1, y1) (cs + mc) (sl + ms) 744 [some (qR 1300), some (qR 0), some (qR 77), some (qI i)] [qI z]
    refine qJ.run hκ 5 (pc' := 749) (ls' := [some (qR 1300), some (qR 0), some (qR 77), some (qI i)]) (st' := [qI (i + 1), qR 1300, qR 77, qI z]) rfl ?_
    refine qJ.sld hκ hX rfl (by omega) (by omega) ?_
    show qJ (YL nm tbL17) κ fin (qLy u1, m1, y1) (cs + mc) (sl + ms) 750 [some (qR 1300), some (qR 0), some (qR 77), some (qI i)] [qI (sc xs (i + 1)), qR 77, qI z]
    refine qJ.run hκ 4 (pc' := 754) (ls' := [some (qR 1300), some (qR 0), some (qR 77), some (qI i)]) (st' := [qI (i + 2), qR 1300, qI (sc xs (i + 1)), qR 77, qI z]) rfl ?_
    refine qJ.sld hκ hX rfl (by omega) (by omega) ?_
    show qJ (YL nm tbL17) κ fin (qLy u1, m1, y1) (cs + mc) (sl + ms) 755 [some (qR 1300), some (qR 0), some (qR 77), some (qI i)] [qI (sc xs (i + 2)), qI (sc xs (i + 1)), qR 77, qI z]
    refine qJ.if_eq hκ (tgt := 762) rfl rfl (sc_r xs _) (fun fm => ?_) (fun fm => ?_)
    · exact absurd fm fx
    · show qJ (YL nm tbL17) κ fin (qLy u1, m1, y1) (cs + mc) (sl + ms) 758 [some (qR 1300), some (qR 0), some (qR 77), some (qI i)] [qI (sc xs (i + 1)), qR 77, qI z]
      refine qJ.run hκ 6 (pc' := 767) (ls' := [some (qR 1300), some (qR 0), some (qR 77), some (qI i)]) (st' := [qI (i + 3), qR 1300, qI 1, qI (sc xs (i + 1)), qR 77, qI z]) rfl ?_
      refine qJ.sld hκ hX rfl (by omega) (by omega) ?_
      show qJ (YL nm tbL17) κ fin (qLy u1, m1, y1) (cs + mc) (sl + ms) 768 [some (qR 1300), some (qR 0), some (qR 77), some (qI i)] [qI (sc xs (i + 3)), qI 1, qI (sc xs (i + 1)), qR 77, qI z]
      refine qJ.run hκ 4 (pc' := 772) (ls' := [some (qR 1300), some (qR 0), some (qR 77), some (qI i)]) (st' := [qI (i + 4), qR 1300, qI (sc xs (i + 3)), qI 1, qI (sc xs (i + 1)), qR 77, qI z]) rfl ?_
      refine qJ.sld hκ hX rfl (by omega) (by omega) ?_
      show qJ (YL nm tbL17) κ fin (qLy u1, m1, y1) (cs + mc) (sl + ms) 773 [some (qR 1300), some (qR 0), some (qR 77), some (qI i)] [qI (sc xs (i + 4)), qI (sc xs (i + 3)), qI 1, qI (sc xs (i + 1)), qR 77, qI z]
      refine qJ.run hκ 4 (pc' := 777) (ls' := [some (qR 1300), some (qR 0), some (qR 77), some (qI i)]) (st' := [qI (i + 5), qR 1300, qI (sc xs (i + 4)), qI (sc xs (i + 3)), qI 1, qI (sc xs (i + 1)), qR 77, qI z]) rfl ?_
      refine qJ.sld hκ hX rfl (by omega) (by omega) ?_
      show qJ (YL nm tbL17) κ fin (qLy u1, m1, y1) (cs + mc) (sl + ms) 778 [some (qR 1300), some (qR 0), some (qR 77), some (qI i)] [qI (sc xs (i + 5)), qI (sc xs (i + 4)), qI (sc xs (i + 3)), qI 1, qI (sc xs (i + 1)), qR 77, qI z]
      refine qJ.run hκ 4 (pc' := 783) (ls' := [some (qR 1300), some (qR 0), some (qR 77), some (qI i)]) (st' := [qI (i + 6), qR 1300, qI (sc xs (i + 5)), qI (sc xs (i + 4)), qI (sc xs (i + 3)), qI 1, qI (sc xs (i + 1)), qR 77, qI z]) rfl ?_
      refine qJ.sld hκ hX rfl (by omega) (by omega) ?_
      show qJ (YL nm tbL17) κ fin (qLy u1, m1, y1) (cs + mc) (sl + ms) 784 [some (qR 1300), some (qR 0), some (qR 77), some (qI i)] [qI (sc xs (i + 6)), qI (sc xs (i + 5)), qI (sc xs (i + 4)), qI (sc xs (i + 3)), qI 1, qI (sc xs (i + 1)), qR 77, qI z]
      refine qJ.callV (b := 77) (As := [qI (sc xs (i + 1)), qI 1, qI (sc xs (i + 3)), qI (sc xs (i + 4)), qI (sc xs (i + 5)), qI (sc xs (i + 6))]) (rest := [qI z]) hκ rfl kL_91 hC2 rfl rfl (by decide) rfl rfl (Nat.le_of_ble_eq_true rfl) (by omega) (by omega) (Or.inr ⟨rfl, law_wf u1 i⟩) (fun r2 h2 e2 => ?_)
      obtain ⟨rfl, m2, y2, rfl, hA2⟩ := hQ2 r2 h2 e2
      show qJ (YL nm tbL17) κ fin (qLy u1, m2, y2) (cs + mc + 0) (sl + ms + 0) 787 [some (qR 1300), some (qR 0), some (qR 77), some (qI i)] [qI z, qI z]
      refine qJ.icmp_same hκ (tgt := 1246) rfl rfl ?_
      exact qJ.tb (k u1 m2 y2 _ _ hA2 (by omega) (by omega))

set_option maxRecDepth 100000 in
theorem law_18 {nm : String} {κ : qK} {fin : State → Prop} {L : Nat} {xs : Nat → Int32} {c i : Int} {u : qU} {m y : qM} {cs sl : Nat} (hκ0 : qCx (YL nm tbL) 13 600000 7302250 κ) (hX : qSc κ L xs) (hL : L ≤ 3584) (hi : 0 ≤ i ∧ i + 7 ≤ L) (hc : c < 512) (hA : iA c u m) (hcs : cs + 21 ≤ 600000) (hsl : sl + 2101 ≤ 7302250) (k : ∀ (u' : qU) (m' y' : qM) (cs' sl' : Nat), iA (c + 1) u' m' → cs' ≤ cs + 21 → sl' ≤ sl + 2101 → qJ (YL nm tbL) κ fin (qLy u', m', y') cs' sl' 1246 [some (qR 1300), some (qR 0), some (qR 77), some (qI i)] []) : qJ (YL nm tbL) κ fin (qLy u, m, y) cs sl 792 [some (qR 1300), some (qR 0), some (qR 77), some (qI i)] [] := by
  refine qJ.tb (tb := tbL18) ?_
  have hκ := qCx.tb tbL18_ok hκ0
  show qJ (YL nm tbL18) κ fin (qLy u, m, y) cs sl 792 [some (qR 1300), some (qR 0), some (qR 77), some (qI i)] []
  refine qJ.run hκ 1 (pc' := 793) (ls' := [some (qR 1300), some (qR 0), some (qR 77), some (qI i)]) (st' := [qR 0]) rfl ?_
  obtain ⟨mc, ms, Q, b1, b2, hC, hQ⟩ := j_sets y  hA 
  refine qJ.callV (b := 0) (As := []) (rest := []) hκ rfl kL_92 hC rfl rfl (by decide) rfl rfl (Nat.le_of_ble_eq_true rfl) (by omega) (by omega) (Or.inr ⟨rfl, law_wf u i⟩) (fun r h e => ?_)
  obtain ⟨z, u1, m1, y1, rfl, rfl, Q2, hC2, hQ2⟩ := hQ r h e
  show qJ (YL nm tbL18) κ fin (qLy u1, m1, y1) (cs + mc) (sl + ms) 796 [some (qR 1300), some (qR 0), some (qR 77), some (qI i)] [qI z]
  refine qJ.run hκ 1 (pc' := 797) (ls' := [some (qR 1300), some (qR 0), some (qR 77), some (qI i)]) (st' := [qR 77, qI z]) rfl ?_
  refine qJ.callV (b := 77) (As := []) (rest := [qI z]) hκ rfl kL_95 hC2 rfl rfl (by decide) rfl rfl (Nat.le_of_ble_eq_true rfl) (by omega) (by omega) (Or.inr ⟨rfl, law_wf u1 i⟩) (fun r2 h2 e2 => ?_)
  obtain ⟨rfl, m2, y2, rfl, hA2⟩ := hQ2 r2 h2 e2
  show qJ (YL nm tbL18) κ fin (qLy u1, m2, y2) (cs + mc + 0) (sl + ms + 0) 800 [some (qR 1300), some (qR 0), some (qR 77), some (qI i)] [qI z, qI z]
  refine qJ.icmp_same hκ (tgt := 1246) rfl rfl ?_
  exact qJ.tb (k u1 m2 y2 _ _ hA2 (by omega) (by omega))

set_option maxRecDepth 100000 in
theorem law_19 {nm : String} {κ : qK} {fin : State → Prop} {L : Nat} {xs : Nat → Int32} {c i : Int} {u : qU} {m y : qM} {cs sl : Nat} (hκ0 : qCx (YL nm tbL) 13 600000 7302250 κ) (hX : qSc κ L xs) (hL : L ≤ 3584) (hi : 0 ≤ i ∧ i + 7 ≤ L) (hc : c < 512) (hA : iA c u m) (hcs : cs + 21 ≤ 600000) (hsl : sl + 2101 ≤ 7302250) (k : ∀ (u' : qU) (m' y' : qM) (cs' sl' : Nat), iA (c + 1) u' m' → cs' ≤ cs + 21 → sl' ≤ sl + 2101 → qJ (YL nm tbL) κ fin (qLy u', m', y') cs' sl' 1246 [some (qR 1300), some (qR 0), some (qR 77), some (qI i)] []) : qJ (YL nm tbL) κ fin (qLy u, m, y) cs sl 805 [some (qR 1300), some (qR 0), some (qR 77), some (qI i)] [] := by
  refine qJ.tb (tb := tbL19) ?_
  have hκ := qCx.tb tbL19_ok hκ0
  show qJ (YL nm tbL19) κ fin (qLy u, m, y) cs sl 805 [some (qR 1300), some (qR 0), some (qR 77), some (qI i)] []
  refine qJ.run hκ 5 (pc' := 810) (ls' := [some (qR 1300), some (qR 0), some (qR 77), some (qI i)]) (st' := [qI (i + 1), qR 1300, qR 0]) rfl ?_
  refine qJ.sld hκ hX rfl (by omega) (by omega) ?_
  show qJ (YL nm tbL19) κ fin (qLy u, m, y) cs sl 811 [some (qR 1300), some (qR 0), some (qR 77), some (qI i)] [qI (sc xs (i + 1)), qR 0]
  refine qJ.run hκ 4 (pc' := 815) (ls' := [some (qR 1300), some (qR 0), some (qR 77), some (qI i)]) (st' := [qI (i + 2), qR 1300, qI (sc xs (i + 1)), qR 0]) rfl ?_
  refine qJ.sld hκ hX rfl (by omega) (by omega) ?_
  show qJ (YL nm tbL19) κ fin (qLy u, m, y) cs sl 816 [some (qR 1300), some (qR 0), some (qR 77), some (qI i)] [qI (sc xs (i + 2)), qI (sc xs (i + 1)), qR 0]
  obtain ⟨mc, ms, Q, b1, b2, hC, hQ⟩ := j_ratio y (sc xs (i + 1)) (sc xs (i + 2)) hA (sc_r xs _) (sc_r xs _)
  refine qJ.callV (b := 0) (As := [qI (sc xs (i + 1)), qI (sc xs (i + 2))]) (rest := []) hκ rfl kL_96 hC rfl rfl (by decide) rfl rfl (Nat.le_of_ble_eq_true rfl) (by omega) (by omega) (Or.inr ⟨rfl, law_wf u i⟩) (fun r h e => ?_)
  obtain ⟨z, u1, m1, y1, rfl, rfl, Q2, hC2, hQ2⟩ := hQ r h e
  show qJ (YL nm tbL19) κ fin (qLy u1, m1, y1) (cs + mc) (sl + ms) 819 [some (qR 1300), some (qR 0), some (qR 77), some (qI i)] [qI z]
  refine qJ.run hκ 5 (pc' := 824) (ls' := [some (qR 1300), some (qR 0), some (qR 77), some (qI i)]) (st' := [qI (i + 1), qR 1300, qR 77, qI z]) rfl ?_
  refine qJ.sld hκ hX rfl (by omega) (by omega) ?_
  show qJ (YL nm tbL19) κ fin (qLy u1, m1, y1) (cs + mc) (sl + ms) 825 [some (qR 1300), some (qR 0), some (qR 77), some (qI i)] [qI (sc xs (i + 1)), qR 77, qI z]
  refine qJ.run hκ 4 (pc' := 829) (ls' := [some (qR 1300), some (qR 0), some (qR 77), some (qI i)]) (st' := [qI (i + 2), qR 1300, qI (sc xs (i + 1)), qR 77, qI z]) rfl ?_
  refine qJ.sld hκ hX rfl (by omega) (by omega) ?_
  show qJ (YL nm tbL19) κ fin (qLy u1, m1, y1) (cs + mc) (sl + ms) 830 [some (qR 1300), some (qR 0), some (qR 77), some (qI i)] [qI (sc xs (i + 2)), qI (sc xs (i + 1)), qR 77, qI z]
  refine qJ.callV (b := 77) (As := [qI (sc xs (i + 1)), qI (sc xs (i + 2))]) (rest := [qI z]) hκ rfl kL_99 hC2 rfl rfl (by decide) rfl rfl (Nat.le_of_ble_eq_true rfl) (by omega) (by omega) (Or.inr ⟨rfl, law_wf u1 i⟩) (fun r2 h2 e2 => ?_)
  obtain ⟨rfl, m2, y2, rfl, hA2⟩ := hQ2 r2 h2 e2
  show qJ (YL nm tbL19) κ fin (qLy u1, m2, y2) (cs + mc + 0) (sl + ms + 0) 833 [some (qR 1300), some (qR 0), some (qR 77), some (qI i)] [qI z, qI z]
  refine qJ.icmp_same hκ (tgt := 1246) rfl rfl ?_
  exact qJ.tb (k u1 m2 y2 _ _ hA2 (by omega) (by omega))

set_option maxRecDepth 100000 in
theorem law_20 {nm : String} {κ : qK} {fin : State → Prop} {L : Nat} {xs : Nat → Int32} {c i : Int} {u : qU} {m y : qM} {cs sl : Nat} (hκ0 : qCx (YL nm tbL) 13 600000 7302250 κ) (hX : qSc κ L xs) (hL : L ≤ 3584) (hi : 0 ≤ i ∧ i + 7 ≤ L) (hc : c < 512) (hA : iA c u m) (hcs : cs + 21 ≤ 600000) (hsl : sl + 2101 ≤ 7302250) (k : ∀ (u' : qU) (m' y' : qM) (cs' sl' : Nat), iA (c + 1) u' m' → cs' ≤ cs + 21 → sl' ≤ sl + 2101 → qJ (YL nm tbL) κ fin (qLy u', m', y') cs' sl' 1246 [some (qR 1300), some (qR 0), some (qR 77), some (qI i)] []) : qJ (YL nm tbL) κ fin (qLy u, m, y) cs sl 838 [some (qR 1300), some (qR 0), some (qR 77), some (qI i)] [] := by
  refine qJ.tb (tb := tbL20) ?_
  have hκ := qCx.tb tbL20_ok hκ0
  show qJ (YL nm tbL20) κ fin (qLy u, m, y) cs sl 838 [some (qR 1300), some (qR 0), some (qR 77), some (qI i)] []
  refine qJ.run hκ 5 (pc' := 843) (ls' := [some (qR 1300), some (qR 0), some (qR 77), some (qI i)]) (st' := [qI (i + 1), qR 1300, qR 0]) rfl ?_
  refine qJ.sld hκ hX rfl (by omega) (by omega) ?_
  show qJ (YL nm tbL20) κ fin (qLy u, m, y) cs sl 844 [some (qR 1300), some (qR 0), some (qR 77), some (qI i)] [qI (sc xs (i + 1)), qR 0]
  obtain ⟨mc, ms, Q, b1, b2, hC, hQ⟩ := j_sureRatio y (sc xs (i + 1)) hA (sc_r xs _)
  refine qJ.callV (b := 0) (As := [qI (sc xs (i + 1))]) (rest := []) hκ rfl kL_100 hC rfl rfl (by decide) rfl rfl (Nat.le_of_ble_eq_true rfl) (by omega) (by omega) (Or.inr ⟨rfl, law_wf u i⟩) (fun r h e => ?_)
  obtain ⟨z, u1, m1, y1, rfl, rfl, Q2, hC2, hQ2⟩ := hQ r h e
  show qJ (YL nm tbL20) κ fin (qLy u1, m1, y1) (cs + mc) (sl + ms) 847 [some (qR 1300), some (qR 0), some (qR 77), some (qI i)] [qI z]
  refine qJ.run hκ 5 (pc' := 852) (ls' := [some (qR 1300), some (qR 0), some (qR 77), some (qI i)]) (st' := [qI (i + 1), qR 1300, qR 77, qI z]) rfl ?_
  refine qJ.sld hκ hX rfl (by omega) (by omega) ?_
  show qJ (YL nm tbL20) κ fin (qLy u1, m1, y1) (cs + mc) (sl + ms) 853 [some (qR 1300), some (qR 0), some (qR 77), some (qI i)] [qI (sc xs (i + 1)), qR 77, qI z]
  refine qJ.callV (b := 77) (As := [qI (sc xs (i + 1))]) (rest := [qI z]) hκ rfl kL_103 hC2 rfl rfl (by decide) rfl rfl (Nat.le_of_ble_eq_true rfl) (by omega) (by omega) (Or.inr ⟨rfl, law_wf u1 i⟩) (fun r2 h2 e2 => ?_)
  obtain ⟨rfl, m2, y2, rfl, hA2⟩ := hQ2 r2 h2 e2
  show qJ (YL nm tbL20) κ fin (qLy u1, m2, y2) (cs + mc + 0) (sl + ms + 0) 856 [some (qR 1300), some (qR 0), some (qR 77), some (qI i)] [qI z, qI z]
  refine qJ.icmp_same hκ (tgt := 1246) rfl rfl ?_
  exact qJ.tb (k u1 m2 y2 _ _ hA2 (by omega) (by omega))

set_option maxRecDepth 100000 in
theorem law_21 {nm : String} {κ : qK} {fin : State → Prop} {L : Nat} {xs : Nat → Int32} {c i : Int} {u : qU} {m y : qM} {cs sl : Nat} (hκ0 : qCx (YL nm tbL) 13 600000 7302250 κ) (hX : qSc κ L xs) (hL : L ≤ 3584) (hi : 0 ≤ i ∧ i + 7 ≤ L) (hc : c < 512) (hA : iA c u m) (hcs : cs + 21 ≤ 600000) (hsl : sl + 2101 ≤ 7302250) (k : ∀ (u' : qU) (m' y' : qM) (cs' sl' : Nat), iA (c + 1) u' m' → cs' ≤ cs + 21 → sl' ≤ sl + 2101 → qJ (YL nm tbL) κ fin (qLy u', m', y') cs' sl' 1246 [some (qR 1300), some (qR 0), some (qR 77), some (qI i)] []) : qJ (YL nm tbL) κ fin (qLy u, m, y) cs sl 861 [some (qR 1300), some (qR 0), some (qR 77), some (qI i)] [] := by
  refine qJ.tb (tb := tbL21) ?_
  have hκ := qCx.tb tbL21_ok hκ0
  show qJ (YL nm tbL21) κ fin (qLy u, m, y) cs sl 861 [some (qR 1300), some (qR 0), some (qR 77), some (qI i)] []
  refine qJ.run hκ 5 (pc' := 866) (ls' := [some (qR 1300), some (qR 0), some (qR 77), some (qI i)]) (st' := [qI (i + 1), qR 1300, qR 0]) rfl ?_
  refine qJ.sld hκ hX rfl (by omega) (by omega) ?_
  show qJ (YL nm tbL21) κ fin (qLy u, m, y) cs sl 867 [some (qR 1300), some (qR 0), some (qR 77), some (qI i)] [qI (sc xs (i + 1)), qR 0]
  obtain ⟨mc, ms, Q, b1, b2, hC, hQ⟩ := j_odd y (sc xs (i + 1)) hA (sc_r xs _)
  refine qJ.callV (b := 0) (As := [qI (sc xs (i + 1))]) (rest := []) hκ rfl kL_104 hC rfl rfl (by decide) rfl rfl (Nat.le_of_ble_eq_true rfl) (by omega) (by omega) (Or.inr ⟨rfl, law_wf u i⟩) (fun r h e => ?_)
  obtain ⟨z, u1, m1, y1, rfl, rfl, Q2, hC2, hQ2⟩ := hQ r h e
  show qJ (YL nm tbL21) κ fin (qLy u1, m1, y1) (cs + mc) (sl + ms) 870 [some (qR 1300), some (qR 0), some (qR 77), some (qI i)] [qI z]
  refine qJ.run hκ 5 (pc' := 875) (ls' := [some (qR 1300), some (qR 0), some (qR 77), some (qI i)]) (st' := [qI (i + 1), qR 1300, qR 77, qI z]) rfl ?_
  refine qJ.sld hκ hX rfl (by omega) (by omega) ?_
  show qJ (YL nm tbL21) κ fin (qLy u1, m1, y1) (cs + mc) (sl + ms) 876 [some (qR 1300), some (qR 0), some (qR 77), some (qI i)] [qI (sc xs (i + 1)), qR 77, qI z]
  refine qJ.callV (b := 77) (As := [qI (sc xs (i + 1))]) (rest := [qI z]) hκ rfl kL_107 hC2 rfl rfl (by decide) rfl rfl (Nat.le_of_ble_eq_true rfl) (by omega) (by omega) (Or.inr ⟨rfl, law_wf u1 i⟩) (fun r2 h2 e2 => ?_)
  obtain ⟨rfl, m2, y2, rfl, hA2⟩ := hQ2 r2 h2 e2
  show qJ (YL nm tbL21) κ fin (qLy u1, m2, y2) (cs + mc + 0) (sl + ms + 0) 879 [some (qR 1300), some (qR 0), some (qR 77), some (qI i)] [qI z, qI z]
  refine qJ.icmp_same hκ (tgt := 1246) rfl rfl ?_
  exact qJ.tb (k u1 m2 y2 _ _ hA2 (by omega) (by omega))

set_option maxRecDepth 100000 in
theorem law_22 {nm : String} {κ : qK} {fin : State → Prop} {L : Nat} {xs : Nat → Int32} {c i : Int} {u : qU} {m y : qM} {cs sl : Nat} (hκ0 : qCx (YL nm tbL) 13 600000 7302250 κ) (hX : qSc κ L xs) (hL : L ≤ 3584) (hi : 0 ≤ i ∧ i + 7 ≤ L) (hc : c < 512) (hA : iA c u m) (hcs : cs + 21 ≤ 600000) (hsl : sl + 2101 ≤ 7302250) (k : ∀ (u' : qU) (m' y' : qM) (cs' sl' : Nat), iA (c + 1) u' m' → cs' ≤ cs + 21 → sl' ≤ sl + 2101 → qJ (YL nm tbL) κ fin (qLy u', m', y') cs' sl' 1246 [some (qR 1300), some (qR 0), some (qR 77), some (qI i)] []) : qJ (YL nm tbL) κ fin (qLy u, m, y) cs sl 884 [some (qR 1300), some (qR 0), some (qR 77), some (qI i)] [] := by
  refine qJ.tb (tb := tbL22) ?_
  have hκ := qCx.tb tbL22_ok hκ0
  show qJ (YL nm tbL22) κ fin (qLy u, m, y) cs sl 884 [some (qR 1300), some (qR 0), some (qR 77), some (qI i)] []
  refine qJ.run hκ 5 (pc' := 889) (ls' := [some (qR 1300), some (qR 0), some (qR 77), some (qI i)]) (st' := [qI (i + 1), qR 1300, qR 0]) rfl ?_
  refine qJ.sld hκ hX rfl (by omega) (by omega) ?_
  show qJ (YL nm tbL22) κ fin (qLy u, m, y) cs sl 890 [some (qR 1300), some (qR 0), some (qR 77), some (qI i)] [qI (sc xs (i + 1)), qR 0]
  refine qJ.run hκ 4 (pc' := 894) (ls' := [some (qR 1300), some (qR 0), some (qR 77), some (qI i)]) (st' := [qI (i + 2), qR 1300, qI (sc xs (i + 1)), qR 0]) rfl ?_
  refine qJ.sld hκ hX rfl (by omega) (by omega) ?_
  show qJ (YL nm tbL22) κ fin (qLy u, m, y) cs sl 895 [some (qR 1300), some (qR 0), some (qR 77), some (qI i)] [qI (sc xs (i + 2)), qI (sc xs (i + 1)), qR 0]
  refine qJ.run hκ 4 (pc' := 899) (ls' := [some (qR 1300), some (qR 0), some (qR 77), some (qI i)]) (st' := [qI (i + 3), qR 1300, qI (sc xs (i + 2)), qI (sc xs (i + 1)), qR 0]) rfl ?_
  refine qJ.sld hκ hX rfl (by omega) (by omega) ?_
  show qJ (YL nm tbL22) κ fin (qLy u, m, y) cs sl 900 [some (qR 1300), some (qR 0), some (qR 77), some (qI i)] [qI (sc xs (i + 3)), qI (sc xs (i + 2)), qI (sc xs (i + 1)), qR 0]
  refine qJ.run hκ 4 (pc' := 904) (ls' := [some (qR 1300), some (qR 0), some (qR 77), some (qI i)]) (st' := [qI (i + 4), qR 1300, qI (sc xs (i + 3)), qI (sc xs (i + 2)), qI (sc xs (i + 1)), qR 0]) rfl ?_
  refine qJ.sld hκ hX rfl (by omega) (by omega) ?_
  show qJ (YL nm tbL22) κ fin (qLy u, m, y) cs sl 905 [some (qR 1300), some (qR 0), some (qR 77), some (qI i)] [qI (sc xs (i + 4)), qI (sc xs (i + 3)), qI (sc xs (i + 2)), qI (sc xs (i + 1)), qR 0]
  refine qJ.run hκ 4 (pc' := 909) (ls' := [some (qR 1300), some (qR 0), some (qR 77), some (qI i)]) (st' := [qI (i + 5), qR 1300, qI (sc xs (i + 4)), qI (sc xs (i + 3)), qI (sc xs (i + 2)), qI (sc xs (i + 1)), qR 0]) rfl ?_
  refine qJ.sld hκ hX rfl (by omega) (by omega) ?_
  show qJ (YL nm tbL22) κ fin (qLy u, m, y) cs sl 910 [some (qR 1300), some (qR 0), some (qR 77), some (qI i)] [qI (sc xs (i + 5)), qI (sc xs (i + 4)), qI (sc xs (i + 3)), qI (sc xs (i + 2)), qI (sc xs (i + 1)), qR 0]
  obtain ⟨mc, ms, Q, b1, b2, hC, hQ⟩ := j_feed y (sc xs (i + 1)) (sc xs (i + 2)) (sc xs (i + 3)) (sc xs (i + 4)) (sc xs (i + 5)) hA
  refine qJ.callV (b := 0) (As := [qI (sc xs (i + 1)), qI (sc xs (i + 2)), qI (sc xs (i + 3)), qI (sc xs (i + 4)), qI (sc xs (i + 5))]) (rest := []) hκ rfl kL_108 hC rfl rfl (by decide) rfl rfl (Nat.le_of_ble_eq_true rfl) (by omega) (by omega) (Or.inr ⟨rfl, law_wf u i⟩) (fun r h e => ?_)
  obtain ⟨z, u1, m1, y1, rfl, rfl, Q2, hC2, hQ2⟩ := hQ r h e
  show qJ (YL nm tbL22) κ fin (qLy u1, m1, y1) (cs + mc) (sl + ms) 913 [some (qR 1300), some (qR 0), some (qR 77), some (qI i)] [qI z]
  refine qJ.run hκ 5 (pc' := 918) (ls' := [some (qR 1300), some (qR 0), some (qR 77), some (qI i)]) (st' := [qI (i + 1), qR 1300, qR 77, qI z]) rfl ?_
  refine qJ.sld hκ hX rfl (by omega) (by omega) ?_
  show qJ (YL nm tbL22) κ fin (qLy u1, m1, y1) (cs + mc) (sl + ms) 919 [some (qR 1300), some (qR 0), some (qR 77), some (qI i)] [qI (sc xs (i + 1)), qR 77, qI z]
  refine qJ.run hκ 4 (pc' := 923) (ls' := [some (qR 1300), some (qR 0), some (qR 77), some (qI i)]) (st' := [qI (i + 2), qR 1300, qI (sc xs (i + 1)), qR 77, qI z]) rfl ?_
  refine qJ.sld hκ hX rfl (by omega) (by omega) ?_
  show qJ (YL nm tbL22) κ fin (qLy u1, m1, y1) (cs + mc) (sl + ms) 924 [some (qR 1300), some (qR 0), some (qR 77), some (qI i)] [qI (sc xs (i + 2)), qI (sc xs (i + 1)), qR 77, qI z]
  refine qJ.run hκ 4 (pc' := 928) (ls' := [some (qR 1300), some (qR 0), some (qR 77), some (qI i)]) (st' := [qI (i + 3), qR 1300, qI (sc xs (i + 2)), qI (sc xs (i + 1)), qR 77, qI z]) rfl ?_
  refine qJ.sld hκ hX rfl (by omega) (by omega) ?_
  show qJ (YL nm tbL22) κ fin (qLy u1, m1, y1) (cs + mc) (sl + ms) 929 [some (qR 1300), some (qR 0), some (qR 77), some (qI i)] [qI (sc xs (i + 3)), qI (sc xs (i + 2)), qI (sc xs (i + 1)), qR 77, qI z]
  refine qJ.run hκ 4 (pc' := 933) (ls' := [some (qR 1300), some (qR 0), some (qR 77), some (qI i)]) (st' := [qI (i + 4), qR 1300, qI (sc xs (i + 3)), qI (sc xs (i + 2)), qI (sc xs (i + 1)), qR 77, qI z]) rfl ?_
  refine qJ.sld hκ hX rfl (by omega) (by omega) ?_
  show qJ (YL nm tbL22) κ fin (qLy u1, m1, y1) (cs + mc) (sl + ms) 934 [some (qR 1300), some (qR 0), some (qR 77), some (qI i)] [qI (sc xs (i + 4)), qI (sc xs (i + 3)), qI (sc xs (i + 2)), qI (sc xs (i + 1)), qR 77, qI z]
  refine qJ.run hκ 4 (pc' := 938) (ls' := [some (qR 1300), some (qR 0), some (qR 77), some (qI i)]) (st' := [qI (i + 5), qR 1300, qI (sc xs (i + 4)), qI (sc xs (i + 3)), qI (sc xs (i + 2)), qI (sc xs (i + 1)), qR 77, qI z]) rfl ?_
  refine qJ.sld hκ hX rfl (by omega) (by omega) ?_
  show qJ (YL nm tbL22) κ fin (qLy u1, m1, y1) (cs + mc) (sl + ms) 939 [some (qR 1300), some (qR 0), some (qR 77), some (qI i)] [qI (sc xs (i + 5)), qI (sc xs (i + 4)), qI (sc xs (i + 3)), qI (sc xs (i + 2)), qI (sc xs (i + 1)), qR 77, qI z]
  refine qJ.callV (b := 77) (As := [qI (sc xs (i + 1)), qI (sc xs (i + 2)), qI (sc xs (i + 3)), qI (sc xs (i + 4)), qI (sc xs (i + 5))]) (rest := [qI z]) hκ rfl kL_112 hC2 rfl rfl (by decide) rfl rfl (Nat.le_of_ble_eq_true rfl) (by omega) (by omega) (Or.inr ⟨rfl, law_wf u1 i⟩) (fun r2 h2 e2 => ?_)
  obtain ⟨rfl, m2, y2, rfl, hA2⟩ := hQ2 r2 h2 e2
  show qJ (YL nm tbL22) κ fin (qLy u1, m2, y2) (cs + mc + 0) (sl + ms + 0) 942 [some (qR 1300), some (qR 0), some (qR 77), some (qI i)] [qI z, qI z]
  refine qJ.icmp_same hκ (tgt := 1246) rfl rfl ?_
  exact qJ.tb (k u1 m2 y2 _ _ hA2 (by omega) (by omega))

set_option maxRecDepth 100000 in
theorem law_23 {nm : String} {κ : qK} {fin : State → Prop} {L : Nat} {xs : Nat → Int32} {c i : Int} {u : qU} {m y : qM} {cs sl : Nat} (hκ0 : qCx (YL nm tbL) 13 600000 7302250 κ) (hX : qSc κ L xs) (hL : L ≤ 3584) (hi : 0 ≤ i ∧ i + 7 ≤ L) (hc : c < 512) (hA : iA c u m) (hcs : cs + 21 ≤ 600000) (hsl : sl + 2101 ≤ 7302250) (k : ∀ (u' : qU) (m' y' : qM) (cs' sl' : Nat), iA (c + 1) u' m' → cs' ≤ cs + 21 → sl' ≤ sl + 2101 → qJ (YL nm tbL) κ fin (qLy u', m', y') cs' sl' 1246 [some (qR 1300), some (qR 0), some (qR 77), some (qI i)] []) : qJ (YL nm tbL) κ fin (qLy u, m, y) cs sl 947 [some (qR 1300), some (qR 0), some (qR 77), some (qI i)] [] := by
  refine qJ.tb (tb := tbL23) ?_
  have hκ := qCx.tb tbL23_ok hκ0
  show qJ (YL nm tbL23) κ fin (qLy u, m, y) cs sl 947 [some (qR 1300), some (qR 0), some (qR 77), some (qI i)] []
  refine qJ.run hκ 5 (pc' := 952) (ls' := [some (qR 1300), some (qR 0), some (qR 77), some (qI i)]) (st' := [qI (i + 1), qR 1300, qR 0]) rfl ?_
  refine qJ.sld hκ hX rfl (by omega) (by omega) ?_
  show qJ (YL nm tbL23) κ fin (qLy u, m, y) cs sl 953 [some (qR 1300), some (qR 0), some (qR 77), some (qI i)] [qI (sc xs (i + 1)), qR 0]
  obtain ⟨mc, ms, Q, b1, b2, hC, hQ⟩ := j_end y (sc xs (i + 1)) hA (sc_r xs _)
  refine qJ.callV (b := 0) (As := [qI (sc xs (i + 1))]) (rest := []) hκ rfl kL_113 hC rfl rfl (by decide) rfl rfl (Nat.le_of_ble_eq_true rfl) (by omega) (by omega) (Or.inr ⟨rfl, law_wf u i⟩) (fun r h e => ?_)
  obtain ⟨z, u1, m1, y1, rfl, rfl, Q2, hC2, hQ2⟩ := hQ r h e
  show qJ (YL nm tbL23) κ fin (qLy u1, m1, y1) (cs + mc) (sl + ms) 956 [some (qR 1300), some (qR 0), some (qR 77), some (qI i)] [qI z]
  refine qJ.run hκ 5 (pc' := 961) (ls' := [some (qR 1300), some (qR 0), some (qR 77), some (qI i)]) (st' := [qI (i + 1), qR 1300, qR 77, qI z]) rfl ?_
  refine qJ.sld hκ hX rfl (by omega) (by omega) ?_
  show qJ (YL nm tbL23) κ fin (qLy u1, m1, y1) (cs + mc) (sl + ms) 962 [some (qR 1300), some (qR 0), some (qR 77), some (qI i)] [qI (sc xs (i + 1)), qR 77, qI z]
  refine qJ.callV (b := 77) (As := [qI (sc xs (i + 1))]) (rest := [qI z]) hκ rfl kL_116 hC2 rfl rfl (by decide) rfl rfl (Nat.le_of_ble_eq_true rfl) (by omega) (by omega) (Or.inr ⟨rfl, law_wf u1 i⟩) (fun r2 h2 e2 => ?_)
  obtain ⟨rfl, m2, y2, rfl, hA2⟩ := hQ2 r2 h2 e2
  show qJ (YL nm tbL23) κ fin (qLy u1, m2, y2) (cs + mc + 0) (sl + ms + 0) 965 [some (qR 1300), some (qR 0), some (qR 77), some (qI i)] [qI z, qI z]
  refine qJ.icmp_same hκ (tgt := 1246) rfl rfl ?_
  exact qJ.tb (k u1 m2 y2 _ _ hA2 (by omega) (by omega))

set_option maxRecDepth 100000 in
theorem law_24 {nm : String} {κ : qK} {fin : State → Prop} {L : Nat} {xs : Nat → Int32} {c i : Int} {u : qU} {m y : qM} {cs sl : Nat} (hκ0 : qCx (YL nm tbL) 13 600000 7302250 κ) (hX : qSc κ L xs) (hL : L ≤ 3584) (hi : 0 ≤ i ∧ i + 7 ≤ L) (hc : c < 512) (hA : iA c u m) (hcs : cs + 21 ≤ 600000) (hsl : sl + 2101 ≤ 7302250) (k : ∀ (u' : qU) (m' y' : qM) (cs' sl' : Nat), iA (c + 1) u' m' → cs' ≤ cs + 21 → sl' ≤ sl + 2101 → qJ (YL nm tbL) κ fin (qLy u', m', y') cs' sl' 1246 [some (qR 1300), some (qR 0), some (qR 77), some (qI i)] []) : qJ (YL nm tbL) κ fin (qLy u, m, y) cs sl 970 [some (qR 1300), some (qR 0), some (qR 77), some (qI i)] [] := by
  refine qJ.tb (tb := tbL24) ?_
  have hκ := qCx.tb tbL24_ok hκ0
  show qJ (YL nm tbL24) κ fin (qLy u, m, y) cs sl 970 [some (qR 1300), some (qR 0), some (qR 77), some (qI i)] []
  refine qJ.run hκ 1 (pc' := 971) (ls' := [some (qR 1300), some (qR 0), some (qR 77), some (qI i)]) (st' := [qR 0]) rfl ?_
  obtain ⟨mc, ms, Q, b1, b2, hC, hQ⟩ := j_name y  hA 
  refine qJ.callV (b := 0) (As := []) (rest := []) hκ rfl kL_117 hC rfl rfl (by decide) rfl rfl (Nat.le_of_ble_eq_true rfl) (by omega) (by omega) (Or.inr ⟨rfl, law_wf u i⟩) (fun r h e => ?_)
  obtain ⟨z, u1, m1, y1, rfl, rfl, Q2, hC2, hQ2⟩ := hQ r h e
  show qJ (YL nm tbL24) κ fin (qLy u1, m1, y1) (cs + mc) (sl + ms) 974 [some (qR 1300), some (qR 0), some (qR 77), some (qI i)] [qI z]
  refine qJ.run hκ 1 (pc' := 975) (ls' := [some (qR 1300), some (qR 0), some (qR 77), some (qI i)]) (st' := [qR 77, qI z]) rfl ?_
  refine qJ.callV (b := 77) (As := []) (rest := [qI z]) hκ rfl kL_120 hC2 rfl rfl (by decide) rfl rfl (Nat.le_of_ble_eq_true rfl) (by omega) (by omega) (Or.inr ⟨rfl, law_wf u1 i⟩) (fun r2 h2 e2 => ?_)
  obtain ⟨rfl, m2, y2, rfl, hA2⟩ := hQ2 r2 h2 e2
  show qJ (YL nm tbL24) κ fin (qLy u1, m2, y2) (cs + mc + 0) (sl + ms + 0) 978 [some (qR 1300), some (qR 0), some (qR 77), some (qI i)] [qI z, qI z]
  refine qJ.icmp_same hκ (tgt := 1246) rfl rfl ?_
  exact qJ.tb (k u1 m2 y2 _ _ hA2 (by omega) (by omega))

set_option maxRecDepth 100000 in
theorem law_25 {nm : String} {κ : qK} {fin : State → Prop} {L : Nat} {xs : Nat → Int32} {c i : Int} {u : qU} {m y : qM} {cs sl : Nat} (hκ0 : qCx (YL nm tbL) 13 600000 7302250 κ) (hX : qSc κ L xs) (hL : L ≤ 3584) (hi : 0 ≤ i ∧ i + 7 ≤ L) (hc : c < 512) (hA : iA c u m) (hcs : cs + 21 ≤ 600000) (hsl : sl + 2101 ≤ 7302250) (k : ∀ (u' : qU) (m' y' : qM) (cs' sl' : Nat), iA (c + 1) u' m' → cs' ≤ cs + 21 → sl' ≤ sl + 2101 → qJ (YL nm tbL) κ fin (qLy u', m', y') cs' sl' 1246 [some (qR 1300), some (qR 0), some (qR 77), some (qI i)] []) : qJ (YL nm tbL) κ fin (qLy u, m, y) cs sl 983 [some (qR 1300), some (qR 0), some (qR 77), some (qI i)] [] := by
  refine qJ.tb (tb := tbL25) ?_
  have hκ := qCx.tb tbL25_ok hκ0
  show qJ (YL nm tbL25) κ fin (qLy u, m, y) cs sl 983 [some (qR 1300), some (qR 0), some (qR 77), some (qI i)] []
  refine qJ.run hκ 1 (pc' := 984) (ls' := [some (qR 1300), some (qR 0), some (qR 77), some (qI i)]) (st' := [qR 0]) rfl ?_
  obtain ⟨mc, ms, Q, b1, b2, hC, hQ⟩ := j_spelling y  hA 
  refine qJ.callV (b := 0) (As := []) (rest := []) hκ rfl kL_121 hC rfl rfl (by decide) rfl rfl (Nat.le_of_ble_eq_true rfl) (by omega) (by omega) (Or.inr ⟨rfl, law_wf u i⟩) (fun r h e => ?_)
  obtain ⟨z, u1, m1, y1, rfl, rfl, Q2, hC2, hQ2⟩ := hQ r h e
  show qJ (YL nm tbL25) κ fin (qLy u1, m1, y1) (cs + mc) (sl + ms) 987 [some (qR 1300), some (qR 0), some (qR 77), some (qI i)] [qI z]
  refine qJ.run hκ 1 (pc' := 988) (ls' := [some (qR 1300), some (qR 0), some (qR 77), some (qI i)]) (st' := [qR 77, qI z]) rfl ?_
  refine qJ.callV (b := 77) (As := []) (rest := [qI z]) hκ rfl kL_124 hC2 rfl rfl (by decide) rfl rfl (Nat.le_of_ble_eq_true rfl) (by omega) (by omega) (Or.inr ⟨rfl, law_wf u1 i⟩) (fun r2 h2 e2 => ?_)
  obtain ⟨rfl, m2, y2, rfl, hA2⟩ := hQ2 r2 h2 e2
  show qJ (YL nm tbL25) κ fin (qLy u1, m2, y2) (cs + mc + 0) (sl + ms + 0) 991 [some (qR 1300), some (qR 0), some (qR 77), some (qI i)] [qI z, qI z]
  refine qJ.icmp_same hκ (tgt := 1246) rfl rfl ?_
  exact qJ.tb (k u1 m2 y2 _ _ hA2 (by omega) (by omega))

set_option maxRecDepth 100000 in
theorem law_26 {nm : String} {κ : qK} {fin : State → Prop} {L : Nat} {xs : Nat → Int32} {c i : Int} {u : qU} {m y : qM} {cs sl : Nat} (hκ0 : qCx (YL nm tbL) 13 600000 7302250 κ) (hX : qSc κ L xs) (hL : L ≤ 3584) (hi : 0 ≤ i ∧ i + 7 ≤ L) (hc : c < 512) (hA : iA c u m) (hcs : cs + 21 ≤ 600000) (hsl : sl + 2101 ≤ 7302250) (k : ∀ (u' : qU) (m' y' : qM) (cs' sl' : Nat), iA (c + 1) u' m' → cs' ≤ cs + 21 → sl' ≤ sl + 2101 → qJ (YL nm tbL) κ fin (qLy u', m', y') cs' sl' 1246 [some (qR 1300), some (qR 0), some (qR 77), some (qI i)] []) : qJ (YL nm tbL) κ fin (qLy u, m, y) cs sl 996 [some (qR 1300), some (qR 0), some (qR 77), some (qI i)] [] := by
  refine qJ.tb (tb := tbL26) ?_
  have hκ := qCx.tb tbL26_ok hκ0
  show qJ (YL nm tbL26) κ fin (qLy u, m, y) cs sl 996 [some (qR 1300), some (qR 0), some (qR 77), some (qI i)] []
  refine qJ.run hκ 5 (pc' := 1001) (ls' := [some (qR 1300), some (qR 0), some (qR 77), some (qI i)]) (st' := [qI (i + 1), qR 1300, qR 0]) rfl ?_
  refine qJ.sld hκ hX rfl (by omega) (by omega) ?_
  show qJ (YL nm tbL26) κ fin (qLy u, m, y) cs sl 1002 [some (qR 1300), some (qR 0), some (qR 77), some (qI i)] [qI (sc xs (i + 1)), qR 0]
  obtain ⟨mc, ms, Q, b1, b2, hC, hQ⟩ := j_fault y (sc xs (i + 1)) hA (sc_r xs _)
  refine qJ.callV (b := 0) (As := [qI (sc xs (i + 1))]) (rest := []) hκ rfl kL_125 hC rfl rfl (by decide) rfl rfl (Nat.le_of_ble_eq_true rfl) (by omega) (by omega) (Or.inr ⟨rfl, law_wf u i⟩) (fun r h e => ?_)
  obtain ⟨z, u1, m1, y1, rfl, rfl, Q2, hC2, hQ2⟩ := hQ r h e
  show qJ (YL nm tbL26) κ fin (qLy u1, m1, y1) (cs + mc) (sl + ms) 1005 [some (qR 1300), some (qR 0), some (qR 77), some (qI i)] [qI z]
  refine qJ.run hκ 5 (pc' := 1010) (ls' := [some (qR 1300), some (qR 0), some (qR 77), some (qI i)]) (st' := [qI (i + 1), qR 1300, qR 77, qI z]) rfl ?_
  refine qJ.sld hκ hX rfl (by omega) (by omega) ?_
  show qJ (YL nm tbL26) κ fin (qLy u1, m1, y1) (cs + mc) (sl + ms) 1011 [some (qR 1300), some (qR 0), some (qR 77), some (qI i)] [qI (sc xs (i + 1)), qR 77, qI z]
  refine qJ.callV (b := 77) (As := [qI (sc xs (i + 1))]) (rest := [qI z]) hκ rfl kL_128 hC2 rfl rfl (by decide) rfl rfl (Nat.le_of_ble_eq_true rfl) (by omega) (by omega) (Or.inr ⟨rfl, law_wf u1 i⟩) (fun r2 h2 e2 => ?_)
  obtain ⟨rfl, m2, y2, rfl, hA2⟩ := hQ2 r2 h2 e2
  show qJ (YL nm tbL26) κ fin (qLy u1, m2, y2) (cs + mc + 0) (sl + ms + 0) 1014 [some (qR 1300), some (qR 0), some (qR 77), some (qI i)] [qI z, qI z]
  refine qJ.icmp_same hκ (tgt := 1246) rfl rfl ?_
  exact qJ.tb (k u1 m2 y2 _ _ hA2 (by omega) (by omega))

set_option maxRecDepth 100000 in
theorem law_27 {nm : String} {κ : qK} {fin : State → Prop} {L : Nat} {xs : Nat → Int32} {c i : Int} {u : qU} {m y : qM} {cs sl : Nat} (hκ0 : qCx (YL nm tbL) 13 600000 7302250 κ) (hX : qSc κ L xs) (hL : L ≤ 3584) (hi : 0 ≤ i ∧ i + 7 ≤ L) (hc : c < 512) (hA : iA c u m) (hcs : cs + 21 ≤ 600000) (hsl : sl + 2101 ≤ 7302250) (k : ∀ (u' : qU) (m' y' : qM) (cs' sl' : Nat), iA (c + 1) u' m' → cs' ≤ cs + 21 → sl' ≤ sl + 2101 → qJ (YL nm tbL) κ fin (qLy u', m', y') cs' sl' 1246 [some (qR 1300), some (qR 0), some (qR 77), some (qI i)] []) : qJ (YL nm tbL) κ fin (qLy u, m, y) cs sl 1019 [some (qR 1300), some (qR 0), some (qR 77), some (qI i)] [] := by
  refine qJ.tb (tb := tbL27) ?_
  have hκ := qCx.tb tbL27_ok hκ0
  show qJ (YL nm tbL27) κ fin (qLy u, m, y) cs sl 1019 [some (qR 1300), some (qR 0), some (qR 77), some (qI i)] []
  refine qJ.run hκ 5 (pc' := 1024) (ls' := [some (qR 1300), some (qR 0), some (qR 77), some (qI i)]) (st' := [qI (i + 1), qR 1300, qR 0]) rfl ?_
  refine qJ.sld hκ hX rfl (by omega) (by omega) ?_
  show qJ (YL nm tbL27) κ fin (qLy u, m, y) cs sl 1025 [some (qR 1300), some (qR 0), some (qR 77), some (qI i)] [qI (sc xs (i + 1)), qR 0]
  refine qJ.run hκ 4 (pc' := 1029) (ls' := [some (qR 1300), some (qR 0), some (qR 77), some (qI i)]) (st' := [qI (i + 2), qR 1300, qI (sc xs (i + 1)), qR 0]) rfl ?_
  refine qJ.sld hκ hX rfl (by omega) (by omega) ?_
  show qJ (YL nm tbL27) κ fin (qLy u, m, y) cs sl 1030 [some (qR 1300), some (qR 0), some (qR 77), some (qI i)] [qI (sc xs (i + 2)), qI (sc xs (i + 1)), qR 0]
  obtain ⟨mc, ms, Q, b1, b2, hC, hQ⟩ := j_spelled y (sc xs (i + 1)) (sc xs (i + 2)) hA (sc_r xs _) (sc_r xs _)
  refine qJ.callV (b := 0) (As := [qI (sc xs (i + 1)), qI (sc xs (i + 2))]) (rest := []) hκ rfl kL_129 hC rfl rfl (by decide) rfl rfl (Nat.le_of_ble_eq_true rfl) (by omega) (by omega) (Or.inr ⟨rfl, law_wf u i⟩) (fun r h e => ?_)
  obtain ⟨z, u1, m1, y1, rfl, rfl, Q2, hC2, hQ2⟩ := hQ r h e
  show qJ (YL nm tbL27) κ fin (qLy u1, m1, y1) (cs + mc) (sl + ms) 1033 [some (qR 1300), some (qR 0), some (qR 77), some (qI i)] [qI z]
  refine qJ.run hκ 5 (pc' := 1038) (ls' := [some (qR 1300), some (qR 0), some (qR 77), some (qI i)]) (st' := [qI (i + 1), qR 1300, qR 77, qI z]) rfl ?_
  refine qJ.sld hκ hX rfl (by omega) (by omega) ?_
  show qJ (YL nm tbL27) κ fin (qLy u1, m1, y1) (cs + mc) (sl + ms) 1039 [some (qR 1300), some (qR 0), some (qR 77), some (qI i)] [qI (sc xs (i + 1)), qR 77, qI z]
  refine qJ.run hκ 4 (pc' := 1043) (ls' := [some (qR 1300), some (qR 0), some (qR 77), some (qI i)]) (st' := [qI (i + 2), qR 1300, qI (sc xs (i + 1)), qR 77, qI z]) rfl ?_
  refine qJ.sld hκ hX rfl (by omega) (by omega) ?_
  show qJ (YL nm tbL27) κ fin (qLy u1, m1, y1) (cs + mc) (sl + ms) 1044 [some (qR 1300), some (qR 0), some (qR 77), some (qI i)] [qI (sc xs (i + 2)), qI (sc xs (i + 1)), qR 77, qI z]
  refine qJ.callV (b := 77) (As := [qI (sc xs (i + 1)), qI (sc xs (i + 2))]) (rest := [qI z]) hκ rfl kL_132 hC2 rfl rfl (by decide) rfl rfl (Nat.le_of_ble_eq_true rfl) (by omega) (by omega) (Or.inr ⟨rfl, law_wf u1 i⟩) (fun r2 h2 e2 => ?_)
  obtain ⟨rfl, m2, y2, rfl, hA2⟩ := hQ2 r2 h2 e2
  show qJ (YL nm tbL27) κ fin (qLy u1, m2, y2) (cs + mc + 0) (sl + ms + 0) 1047 [some (qR 1300), some (qR 0), some (qR 77), some (qI i)] [qI z, qI z]
  refine qJ.icmp_same hκ (tgt := 1246) rfl rfl ?_
  exact qJ.tb (k u1 m2 y2 _ _ hA2 (by omega) (by omega))

set_option maxRecDepth 100000 in
theorem law_28 {nm : String} {κ : qK} {fin : State → Prop} {L : Nat} {xs : Nat → Int32} {c i : Int} {u : qU} {m y : qM} {cs sl : Nat} (hκ0 : qCx (YL nm tbL) 13 600000 7302250 κ) (hX : qSc κ L xs) (hL : L ≤ 3584) (hi : 0 ≤ i ∧ i + 7 ≤ L) (hc : c < 512) (hA : iA c u m) (hcs : cs + 21 ≤ 600000) (hsl : sl + 2101 ≤ 7302250) (k : ∀ (u' : qU) (m' y' : qM) (cs' sl' : Nat), iA (c + 1) u' m' → cs' ≤ cs + 21 → sl' ≤ sl + 2101 → qJ (YL nm tbL) κ fin (qLy u', m', y') cs' sl' 1246 [some (qR 1300), some (qR 0), some (qR 77), some (qI i)] []) : qJ (YL nm tbL) κ fin (qLy u, m, y) cs sl 1052 [some (qR 1300), some (qR 0), some (qR 77), some (qI i)] [] := by
  refine qJ.tb (tb := tbL28) ?_
  have hκ := qCx.tb tbL28_ok hκ0
  show qJ (YL nm tbL28) κ fin (qLy u, m, y) cs sl 1052 [some (qR 1300), some (qR 0), some (qR 77), some (qI i)] []
  refine qJ.run hκ 1 (pc' := 1053) (ls' := [some (qR 1300), some (qR 0), some (qR 77), some (qI i)]) (st' := [qR 0]) rfl ?_
  obtain ⟨mc, ms, Q, b1, b2, hC, hQ⟩ := j_readings y  hA 
  refine qJ.callV (b := 0) (As := []) (rest := []) hκ rfl kL_133 hC rfl rfl (by decide) rfl rfl (Nat.le_of_ble_eq_true rfl) (by omega) (by omega) (Or.inr ⟨rfl, law_wf u i⟩) (fun r h e => ?_)
  obtain ⟨z, u1, m1, y1, rfl, rfl, Q2, hC2, hQ2⟩ := hQ r h e
  show qJ (YL nm tbL28) κ fin (qLy u1, m1, y1) (cs + mc) (sl + ms) 1056 [some (qR 1300), some (qR 0), some (qR 77), some (qI i)] [qI z]
  refine qJ.run hκ 1 (pc' := 1057) (ls' := [some (qR 1300), some (qR 0), some (qR 77), some (qI i)]) (st' := [qR 77, qI z]) rfl ?_
  refine qJ.callV (b := 77) (As := []) (rest := [qI z]) hκ rfl kL_136 hC2 rfl rfl (by decide) rfl rfl (Nat.le_of_ble_eq_true rfl) (by omega) (by omega) (Or.inr ⟨rfl, law_wf u1 i⟩) (fun r2 h2 e2 => ?_)
  obtain ⟨rfl, m2, y2, rfl, hA2⟩ := hQ2 r2 h2 e2
  show qJ (YL nm tbL28) κ fin (qLy u1, m2, y2) (cs + mc + 0) (sl + ms + 0) 1060 [some (qR 1300), some (qR 0), some (qR 77), some (qI i)] [qI z, qI z]
  refine qJ.icmp_same hκ (tgt := 1246) rfl rfl ?_
  exact qJ.tb (k u1 m2 y2 _ _ hA2 (by omega) (by omega))

set_option maxRecDepth 100000 in
theorem law_29 {nm : String} {κ : qK} {fin : State → Prop} {L : Nat} {xs : Nat → Int32} {c i : Int} {u : qU} {m y : qM} {cs sl : Nat} (hκ0 : qCx (YL nm tbL) 13 600000 7302250 κ) (hX : qSc κ L xs) (hL : L ≤ 3584) (hi : 0 ≤ i ∧ i + 7 ≤ L) (hc : c < 512) (hA : iA c u m) (hcs : cs + 21 ≤ 600000) (hsl : sl + 2101 ≤ 7302250) (k : ∀ (u' : qU) (m' y' : qM) (cs' sl' : Nat), iA (c + 1) u' m' → cs' ≤ cs + 21 → sl' ≤ sl + 2101 → qJ (YL nm tbL) κ fin (qLy u', m', y') cs' sl' 1246 [some (qR 1300), some (qR 0), some (qR 77), some (qI i)] []) : qJ (YL nm tbL) κ fin (qLy u, m, y) cs sl 1065 [some (qR 1300), some (qR 0), some (qR 77), some (qI i)] [] := by
  refine qJ.tb (tb := tbL29) ?_
  have hκ := qCx.tb tbL29_ok hκ0
  show qJ (YL nm tbL29) κ fin (qLy u, m, y) cs sl 1065 [some (qR 1300), some (qR 0), some (qR 77), some (qI i)] []
  refine qJ.run hκ 5 (pc' := 1070) (ls' := [some (qR 1300), some (qR 0), some (qR 77), some (qI i)]) (st' := [qI (i + 1), qR 1300, qR 0]) rfl ?_
  refine qJ.sld hκ hX rfl (by omega) (by omega) ?_
  show qJ (YL nm tbL29) κ fin (qLy u, m, y) cs sl 1071 [some (qR 1300), some (qR 0), some (qR 77), some (qI i)] [qI (sc xs (i + 1)), qR 0]
  refine qJ.run hκ 4 (pc' := 1075) (ls' := [some (qR 1300), some (qR 0), some (qR 77), some (qI i)]) (st' := [qI (i + 2), qR 1300, qI (sc xs (i + 1)), qR 0]) rfl ?_
  refine qJ.sld hκ hX rfl (by omega) (by omega) ?_
  show qJ (YL nm tbL29) κ fin (qLy u, m, y) cs sl 1076 [some (qR 1300), some (qR 0), some (qR 77), some (qI i)] [qI (sc xs (i + 2)), qI (sc xs (i + 1)), qR 0]
  obtain ⟨mc, ms, Q, b1, b2, hC, hQ⟩ := j_reading y (sc xs (i + 1)) (sc xs (i + 2)) hA (sc_r xs _) (sc_r xs _)
  refine qJ.callV (b := 0) (As := [qI (sc xs (i + 1)), qI (sc xs (i + 2))]) (rest := []) hκ rfl kL_137 hC rfl rfl (by decide) rfl rfl (Nat.le_of_ble_eq_true rfl) (by omega) (by omega) (Or.inr ⟨rfl, law_wf u i⟩) (fun r h e => ?_)
  obtain ⟨z, u1, m1, y1, rfl, rfl, Q2, hC2, hQ2⟩ := hQ r h e
  show qJ (YL nm tbL29) κ fin (qLy u1, m1, y1) (cs + mc) (sl + ms) 1079 [some (qR 1300), some (qR 0), some (qR 77), some (qI i)] [qI z]
  refine qJ.run hκ 5 (pc' := 1084) (ls' := [some (qR 1300), some (qR 0), some (qR 77), some (qI i)]) (st' := [qI (i + 1), qR 1300, qR 77, qI z]) rfl ?_
  refine qJ.sld hκ hX rfl (by omega) (by omega) ?_
  show qJ (YL nm tbL29) κ fin (qLy u1, m1, y1) (cs + mc) (sl + ms) 1085 [some (qR 1300), some (qR 0), some (qR 77), some (qI i)] [qI (sc xs (i + 1)), qR 77, qI z]
  refine qJ.run hκ 4 (pc' := 1089) (ls' := [some (qR 1300), some (qR 0), some (qR 77), some (qI i)]) (st' := [qI (i + 2), qR 1300, qI (sc xs (i + 1)), qR 77, qI z]) rfl ?_
  refine qJ.sld hκ hX rfl (by omega) (by omega) ?_
  show qJ (YL nm tbL29) κ fin (qLy u1, m1, y1) (cs + mc) (sl + ms) 1090 [some (qR 1300), some (qR 0), some (qR 77), some (qI i)] [qI (sc xs (i + 2)), qI (sc xs (i + 1)), qR 77, qI z]
  refine qJ.callV (b := 77) (As := [qI (sc xs (i + 1)), qI (sc xs (i + 2))]) (rest := [qI z]) hκ rfl kL_140 hC2 rfl rfl (by decide) rfl rfl (Nat.le_of_ble_eq_true rfl) (by omega) (by omega) (Or.inr ⟨rfl, law_wf u1 i⟩) (fun r2 h2 e2 => ?_)
  obtain ⟨rfl, m2, y2, rfl, hA2⟩ := hQ2 r2 h2 e2
  show qJ (YL nm tbL29) κ fin (qLy u1, m2, y2) (cs + mc + 0) (sl + ms + 0) 1093 [some (qR 1300), some (qR 0), some (qR 77), some (qI i)] [qI z, qI z]
  refine qJ.icmp_same hκ (tgt := 1246) rfl rfl ?_
  exact qJ.tb (k u1 m2 y2 _ _ hA2 (by omega) (by omega))

set_option maxRecDepth 100000 in
theorem law_30 {nm : String} {κ : qK} {fin : State → Prop} {L : Nat} {xs : Nat → Int32} {c i : Int} {u : qU} {m y : qM} {cs sl : Nat} (hκ0 : qCx (YL nm tbL) 13 600000 7302250 κ) (hX : qSc κ L xs) (hL : L ≤ 3584) (hi : 0 ≤ i ∧ i + 7 ≤ L) (hc : c < 512) (hA : iA c u m) (hcs : cs + 21 ≤ 600000) (hsl : sl + 2101 ≤ 7302250) (k : ∀ (u' : qU) (m' y' : qM) (cs' sl' : Nat), iA (c + 1) u' m' → cs' ≤ cs + 21 → sl' ≤ sl + 2101 → qJ (YL nm tbL) κ fin (qLy u', m', y') cs' sl' 1246 [some (qR 1300), some (qR 0), some (qR 77), some (qI i)] []) : qJ (YL nm tbL) κ fin (qLy u, m, y) cs sl 1098 [some (qR 1300), some (qR 0), some (qR 77), some (qI i)] [] := by
  refine qJ.tb (tb := tbL30) ?_
  have hκ := qCx.tb tbL30_ok hκ0
  show qJ (YL nm tbL30) κ fin (qLy u, m, y) cs sl 1098 [some (qR 1300), some (qR 0), some (qR 77), some (qI i)] []
  refine qJ.run hκ 5 (pc' := 1103) (ls' := [some (qR 1300), some (qR 0), some (qR 77), some (qI i)]) (st' := [qI (i + 1), qR 1300, qR 0]) rfl ?_
  refine qJ.sld hκ hX rfl (by omega) (by omega) ?_
  show qJ (YL nm tbL30) κ fin (qLy u, m, y) cs sl 1104 [some (qR 1300), some (qR 0), some (qR 77), some (qI i)] [qI (sc xs (i + 1)), qR 0]
  refine qJ.run hκ 4 (pc' := 1108) (ls' := [some (qR 1300), some (qR 0), some (qR 77), some (qI i)]) (st' := [qI (i + 2), qR 1300, qI (sc xs (i + 1)), qR 0]) rfl ?_
  refine qJ.sld hκ hX rfl (by omega) (by omega) ?_
  show qJ (YL nm tbL30) κ fin (qLy u, m, y) cs sl 1109 [some (qR 1300), some (qR 0), some (qR 77), some (qI i)] [qI (sc xs (i + 2)), qI (sc xs (i + 1)), qR 0]
  obtain ⟨mc, ms, Q, b1, b2, hC, hQ⟩ := j_value y (sc xs (i + 1)) (sc xs (i + 2)) hA (sc_r xs _) (sc_r xs _)
  refine qJ.callV (b := 0) (As := [qI (sc xs (i + 1)), qI (sc xs (i + 2))]) (rest := []) hκ rfl kL_141 hC rfl rfl (by decide) rfl rfl (Nat.le_of_ble_eq_true rfl) (by omega) (by omega) (Or.inr ⟨rfl, law_wf u i⟩) (fun r h e => ?_)
  obtain ⟨z, u1, m1, y1, rfl, rfl, Q2, hC2, hQ2⟩ := hQ r h e
  show qJ (YL nm tbL30) κ fin (qLy u1, m1, y1) (cs + mc) (sl + ms) 1112 [some (qR 1300), some (qR 0), some (qR 77), some (qI i)] [qI z]
  refine qJ.run hκ 5 (pc' := 1117) (ls' := [some (qR 1300), some (qR 0), some (qR 77), some (qI i)]) (st' := [qI (i + 1), qR 1300, qR 77, qI z]) rfl ?_
  refine qJ.sld hκ hX rfl (by omega) (by omega) ?_
  show qJ (YL nm tbL30) κ fin (qLy u1, m1, y1) (cs + mc) (sl + ms) 1118 [some (qR 1300), some (qR 0), some (qR 77), some (qI i)] [qI (sc xs (i + 1)), qR 77, qI z]
  refine qJ.run hκ 4 (pc' := 1122) (ls' := [some (qR 1300), some (qR 0), some (qR 77), some (qI i)]) (st' := [qI (i + 2), qR 1300, qI (sc xs (i + 1)), qR 77, qI z]) rfl ?_
  refine qJ.sld hκ hX rfl (by omega) (by omega) ?_
  show qJ (YL nm tbL30) κ fin (qLy u1, m1, y1) (cs + mc) (sl + ms) 1123 [some (qR 1300), some (qR 0), some (qR 77), some (qI i)] [qI (sc xs (i + 2)), qI (sc xs (i + 1)), qR 77, qI z]
  refine qJ.callV (b := 77) (As := [qI (sc xs (i + 1)), qI (sc xs (i + 2))]) (rest := [qI z]) hκ rfl kL_144 hC2 rfl rfl (by decide) rfl rfl (Nat.le_of_ble_eq_true rfl) (by omega) (by omega) (Or.inr ⟨rfl, law_wf u1 i⟩) (fun r2 h2 e2 => ?_)
  obtain ⟨rfl, m2, y2, rfl, hA2⟩ := hQ2 r2 h2 e2
  show qJ (YL nm tbL30) κ fin (qLy u1, m2, y2) (cs + mc + 0) (sl + ms + 0) 1126 [some (qR 1300), some (qR 0), some (qR 77), some (qI i)] [qI z, qI z]
  refine qJ.icmp_same hκ (tgt := 1246) rfl rfl ?_
  exact qJ.tb (k u1 m2 y2 _ _ hA2 (by omega) (by omega))

set_option maxRecDepth 100000 in
theorem law_31 {nm : String} {κ : qK} {fin : State → Prop} {L : Nat} {xs : Nat → Int32} {c i : Int} {u : qU} {m y : qM} {cs sl : Nat} (hκ0 : qCx (YL nm tbL) 13 600000 7302250 κ) (hX : qSc κ L xs) (hL : L ≤ 3584) (hi : 0 ≤ i ∧ i + 7 ≤ L) (hc : c < 512) (hA : iA c u m) (hcs : cs + 21 ≤ 600000) (hsl : sl + 2101 ≤ 7302250) (k : ∀ (u' : qU) (m' y' : qM) (cs' sl' : Nat), iA (c + 1) u' m' → cs' ≤ cs + 21 → sl' ≤ sl + 2101 → qJ (YL nm tbL) κ fin (qLy u', m', y') cs' sl' 1246 [some (qR 1300), some (qR 0), some (qR 77), some (qI i)] []) : qJ (YL nm tbL) κ fin (qLy u, m, y) cs sl 1131 [some (qR 1300), some (qR 0), some (qR 77), some (qI i)] [] := by
  refine qJ.tb (tb := tbL31) ?_
  have hκ := qCx.tb tbL31_ok hκ0
  show qJ (YL nm tbL31) κ fin (qLy u, m, y) cs sl 1131 [some (qR 1300), some (qR 0), some (qR 77), some (qI i)] []
  refine qJ.run hκ 5 (pc' := 1136) (ls' := [some (qR 1300), some (qR 0), some (qR 77), some (qI i)]) (st' := [qI (i + 1), qR 1300, qR 0]) rfl ?_
  refine qJ.sld hκ hX rfl (by omega) (by omega) ?_
  show qJ (YL nm tbL31) κ fin (qLy u, m, y) cs sl 1137 [some (qR 1300), some (qR 0), some (qR 77), some (qI i)] [qI (sc xs (i + 1)), qR 0]
  obtain ⟨mc, ms, Q, b1, b2, hC, hQ⟩ := j_sure y (sc xs (i + 1)) hA (sc_r xs _)
  refine qJ.callV (b := 0) (As := [qI (sc xs (i + 1))]) (rest := []) hκ rfl kL_145 hC rfl rfl (by decide) rfl rfl (Nat.le_of_ble_eq_true rfl) (by omega) (by omega) (Or.inr ⟨rfl, law_wf u i⟩) (fun r h e => ?_)
  obtain ⟨z, u1, m1, y1, rfl, rfl, Q2, hC2, hQ2⟩ := hQ r h e
  show qJ (YL nm tbL31) κ fin (qLy u1, m1, y1) (cs + mc) (sl + ms) 1140 [some (qR 1300), some (qR 0), some (qR 77), some (qI i)] [qI z]
  refine qJ.run hκ 5 (pc' := 1145) (ls' := [some (qR 1300), some (qR 0), some (qR 77), some (qI i)]) (st' := [qI (i + 1), qR 1300, qR 77, qI z]) rfl ?_
  refine qJ.sld hκ hX rfl (by omega) (by omega) ?_
  show qJ (YL nm tbL31) κ fin (qLy u1, m1, y1) (cs + mc) (sl + ms) 1146 [some (qR 1300), some (qR 0), some (qR 77), some (qI i)] [qI (sc xs (i + 1)), qR 77, qI z]
  refine qJ.callV (b := 77) (As := [qI (sc xs (i + 1))]) (rest := [qI z]) hκ rfl kL_148 hC2 rfl rfl (by decide) rfl rfl (Nat.le_of_ble_eq_true rfl) (by omega) (by omega) (Or.inr ⟨rfl, law_wf u1 i⟩) (fun r2 h2 e2 => ?_)
  obtain ⟨rfl, m2, y2, rfl, hA2⟩ := hQ2 r2 h2 e2
  show qJ (YL nm tbL31) κ fin (qLy u1, m2, y2) (cs + mc + 0) (sl + ms + 0) 1149 [some (qR 1300), some (qR 0), some (qR 77), some (qI i)] [qI z, qI z]
  refine qJ.icmp_same hκ (tgt := 1246) rfl rfl ?_
  exact qJ.tb (k u1 m2 y2 _ _ hA2 (by omega) (by omega))

set_option maxRecDepth 100000 in
theorem law_32 {nm : String} {κ : qK} {fin : State → Prop} {L : Nat} {xs : Nat → Int32} {c i : Int} {u : qU} {m y : qM} {cs sl : Nat} (hκ0 : qCx (YL nm tbL) 13 600000 7302250 κ) (hX : qSc κ L xs) (hL : L ≤ 3584) (hi : 0 ≤ i ∧ i + 7 ≤ L) (hc : c < 512) (hA : iA c u m) (hcs : cs + 21 ≤ 600000) (hsl : sl + 2101 ≤ 7302250) (k : ∀ (u' : qU) (m' y' : qM) (cs' sl' : Nat), iA (c + 1) u' m' → cs' ≤ cs + 21 → sl' ≤ sl + 2101 → qJ (YL nm tbL) κ fin (qLy u', m', y') cs' sl' 1246 [some (qR 1300), some (qR 0), some (qR 77), some (qI i)] []) : qJ (YL nm tbL) κ fin (qLy u, m, y) cs sl 1154 [some (qR 1300), some (qR 0), some (qR 77), some (qI i)] [] := by
  refine qJ.tb (tb := tbL32) ?_
  have hκ := qCx.tb tbL32_ok hκ0
  show qJ (YL nm tbL32) κ fin (qLy u, m, y) cs sl 1154 [some (qR 1300), some (qR 0), some (qR 77), some (qI i)] []
  refine qJ.run hκ 5 (pc' := 1159) (ls' := [some (qR 1300), some (qR 0), some (qR 77), some (qI i)]) (st' := [qI (i + 1), qR 1300, qR 0]) rfl ?_
  refine qJ.sld hκ hX rfl (by omega) (by omega) ?_
  show qJ (YL nm tbL32) κ fin (qLy u, m, y) cs sl 1160 [some (qR 1300), some (qR 0), some (qR 77), some (qI i)] [qI (sc xs (i + 1)), qR 0]
  obtain ⟨mc, ms, Q, b1, b2, hC, hQ⟩ := j_next y (sc xs (i + 1)) hA (sc_r xs _)
  refine qJ.callV (b := 0) (As := [qI (sc xs (i + 1))]) (rest := []) hκ rfl kL_149 hC rfl rfl (by decide) rfl rfl (Nat.le_of_ble_eq_true rfl) (by omega) (by omega) (Or.inr ⟨rfl, law_wf u i⟩) (fun r h e => ?_)
  obtain ⟨z, u1, m1, y1, rfl, rfl, Q2, hC2, hQ2⟩ := hQ r h e
  show qJ (YL nm tbL32) κ fin (qLy u1, m1, y1) (cs + mc) (sl + ms) 1163 [some (qR 1300), some (qR 0), some (qR 77), some (qI i)] [qI z]
  refine qJ.run hκ 5 (pc' := 1168) (ls' := [some (qR 1300), some (qR 0), some (qR 77), some (qI i)]) (st' := [qI (i + 1), qR 1300, qR 77, qI z]) rfl ?_
  refine qJ.sld hκ hX rfl (by omega) (by omega) ?_
  show qJ (YL nm tbL32) κ fin (qLy u1, m1, y1) (cs + mc) (sl + ms) 1169 [some (qR 1300), some (qR 0), some (qR 77), some (qI i)] [qI (sc xs (i + 1)), qR 77, qI z]
  refine qJ.callV (b := 77) (As := [qI (sc xs (i + 1))]) (rest := [qI z]) hκ rfl kL_152 hC2 rfl rfl (by decide) rfl rfl (Nat.le_of_ble_eq_true rfl) (by omega) (by omega) (Or.inr ⟨rfl, law_wf u1 i⟩) (fun r2 h2 e2 => ?_)
  obtain ⟨rfl, m2, y2, rfl, hA2⟩ := hQ2 r2 h2 e2
  show qJ (YL nm tbL32) κ fin (qLy u1, m2, y2) (cs + mc + 0) (sl + ms + 0) 1172 [some (qR 1300), some (qR 0), some (qR 77), some (qI i)] [qI z, qI z]
  refine qJ.icmp_same hκ (tgt := 1246) rfl rfl ?_
  exact qJ.tb (k u1 m2 y2 _ _ hA2 (by omega) (by omega))

set_option maxRecDepth 100000 in
theorem law_33 {nm : String} {κ : qK} {fin : State → Prop} {L : Nat} {xs : Nat → Int32} {c i : Int} {u : qU} {m y : qM} {cs sl : Nat} (hκ0 : qCx (YL nm tbL) 13 600000 7302250 κ) (hX : qSc κ L xs) (hL : L ≤ 3584) (hi : 0 ≤ i ∧ i + 7 ≤ L) (hc : c < 512) (hA : iA c u m) (hcs : cs + 21 ≤ 600000) (hsl : sl + 2101 ≤ 7302250) (k : ∀ (u' : qU) (m' y' : qM) (cs' sl' : Nat), iA (c + 1) u' m' → cs' ≤ cs + 21 → sl' ≤ sl + 2101 → qJ (YL nm tbL) κ fin (qLy u', m', y') cs' sl' 1246 [some (qR 1300), some (qR 0), some (qR 77), some (qI i)] []) : qJ (YL nm tbL) κ fin (qLy u, m, y) cs sl 1177 [some (qR 1300), some (qR 0), some (qR 77), some (qI i)] [] := by
  refine qJ.tb (tb := tbL33) ?_
  have hκ := qCx.tb tbL33_ok hκ0
  show qJ (YL nm tbL33) κ fin (qLy u, m, y) cs sl 1177 [some (qR 1300), some (qR 0), some (qR 77), some (qI i)] []
  refine qJ.run hκ 5 (pc' := 1182) (ls' := [some (qR 1300), some (qR 0), some (qR 77), some (qI i)]) (st' := [qI (i + 1), qR 1300, qR 0]) rfl ?_
  refine qJ.sld hκ hX rfl (by omega) (by omega) ?_
  show qJ (YL nm tbL33) κ fin (qLy u, m, y) cs sl 1183 [some (qR 1300), some (qR 0), some (qR 77), some (qI i)] [qI (sc xs (i + 1)), qR 0]
  obtain ⟨mc, ms, Q, b1, b2, hC, hQ⟩ := j_many y (sc xs (i + 1)) hA (sc_r xs _)
  refine qJ.callV (b := 0) (As := [qI (sc xs (i + 1))]) (rest := []) hκ rfl kL_153 hC rfl rfl (by decide) rfl rfl (Nat.le_of_ble_eq_true rfl) (by omega) (by omega) (Or.inr ⟨rfl, law_wf u i⟩) (fun r h e => ?_)
  obtain ⟨z, u1, m1, y1, rfl, rfl, Q2, hC2, hQ2⟩ := hQ r h e
  show qJ (YL nm tbL33) κ fin (qLy u1, m1, y1) (cs + mc) (sl + ms) 1186 [some (qR 1300), some (qR 0), some (qR 77), some (qI i)] [qI z]
  refine qJ.run hκ 5 (pc' := 1191) (ls' := [some (qR 1300), some (qR 0), some (qR 77), some (qI i)]) (st' := [qI (i + 1), qR 1300, qR 77, qI z]) rfl ?_
  refine qJ.sld hκ hX rfl (by omega) (by omega) ?_
  show qJ (YL nm tbL33) κ fin (qLy u1, m1, y1) (cs + mc) (sl + ms) 1192 [some (qR 1300), some (qR 0), some (qR 77), some (qI i)] [qI (sc xs (i + 1)), qR 77, qI z]
  refine qJ.callV (b := 77) (As := [qI (sc xs (i + 1))]) (rest := [qI z]) hκ rfl kL_156 hC2 rfl rfl (by decide) rfl rfl (Nat.le_of_ble_eq_true rfl) (by omega) (by omega) (Or.inr ⟨rfl, law_wf u1 i⟩) (fun r2 h2 e2 => ?_)
  obtain ⟨rfl, m2, y2, rfl, hA2⟩ := hQ2 r2 h2 e2
  show qJ (YL nm tbL33) κ fin (qLy u1, m2, y2) (cs + mc + 0) (sl + ms + 0) 1195 [some (qR 1300), some (qR 0), some (qR 77), some (qI i)] [qI z, qI z]
  refine qJ.icmp_same hκ (tgt := 1246) rfl rfl ?_
  exact qJ.tb (k u1 m2 y2 _ _ hA2 (by omega) (by omega))

set_option maxRecDepth 100000 in
theorem law_34 {nm : String} {κ : qK} {fin : State → Prop} {L : Nat} {xs : Nat → Int32} {c i : Int} {u : qU} {m y : qM} {cs sl : Nat} (hκ0 : qCx (YL nm tbL) 13 600000 7302250 κ) (hX : qSc κ L xs) (hL : L ≤ 3584) (hi : 0 ≤ i ∧ i + 7 ≤ L) (hc : c < 512) (hA : iA c u m) (hcs : cs + 21 ≤ 600000) (hsl : sl + 2101 ≤ 7302250) (k : ∀ (u' : qU) (m' y' : qM) (cs' sl' : Nat), iA (c + 1) u' m' → cs' ≤ cs + 21 → sl' ≤ sl + 2101 → qJ (YL nm tbL) κ fin (qLy u', m', y') cs' sl' 1246 [some (qR 1300), some (qR 0), some (qR 77), some (qI i)] []) : qJ (YL nm tbL) κ fin (qLy u, m, y) cs sl 1200 [some (qR 1300), some (qR 0), some (qR 77), some (qI i)] [] := by
  refine qJ.tb (tb := tbL34) ?_
  have hκ := qCx.tb tbL34_ok hκ0
  show qJ (YL nm tbL34) κ fin (qLy u, m, y) cs sl 1200 [some (qR 1300), some (qR 0), some (qR 77), some (qI i)] []
  refine qJ.run hκ 5 (pc' := 1205) (ls' := [some (qR 1300), some (qR 0), some (qR 77), some (qI i)]) (st' := [qI (i + 1), qR 1300, qR 0]) rfl ?_
  refine qJ.sld hκ hX rfl (by omega) (by omega) ?_
  show qJ (YL nm tbL34) κ fin (qLy u, m, y) cs sl 1206 [some (qR 1300), some (qR 0), some (qR 77), some (qI i)] [qI (sc xs (i + 1)), qR 0]
  obtain ⟨mc, ms, Q, b1, b2, hC, hQ⟩ := j_image y (sc xs (i + 1)) hA (sc_r xs _)
  refine qJ.callV (b := 0) (As := [qI (sc xs (i + 1))]) (rest := []) hκ rfl kL_157 hC rfl rfl (by decide) rfl rfl (Nat.le_of_ble_eq_true rfl) (by omega) (by omega) (Or.inr ⟨rfl, law_wf u i⟩) (fun r h e => ?_)
  obtain ⟨z, u1, m1, y1, rfl, rfl, Q2, hC2, hQ2⟩ := hQ r h e
  show qJ (YL nm tbL34) κ fin (qLy u1, m1, y1) (cs + mc) (sl + ms) 1209 [some (qR 1300), some (qR 0), some (qR 77), some (qI i)] [qI z]
  refine qJ.run hκ 5 (pc' := 1214) (ls' := [some (qR 1300), some (qR 0), some (qR 77), some (qI i)]) (st' := [qI (i + 1), qR 1300, qR 77, qI z]) rfl ?_
  refine qJ.sld hκ hX rfl (by omega) (by omega) ?_
  show qJ (YL nm tbL34) κ fin (qLy u1, m1, y1) (cs + mc) (sl + ms) 1215 [some (qR 1300), some (qR 0), some (qR 77), some (qI i)] [qI (sc xs (i + 1)), qR 77, qI z]
  refine qJ.callV (b := 77) (As := [qI (sc xs (i + 1))]) (rest := [qI z]) hκ rfl kL_160 hC2 rfl rfl (by decide) rfl rfl (Nat.le_of_ble_eq_true rfl) (by omega) (by omega) (Or.inr ⟨rfl, law_wf u1 i⟩) (fun r2 h2 e2 => ?_)
  obtain ⟨rfl, m2, y2, rfl, hA2⟩ := hQ2 r2 h2 e2
  show qJ (YL nm tbL34) κ fin (qLy u1, m2, y2) (cs + mc + 0) (sl + ms + 0) 1218 [some (qR 1300), some (qR 0), some (qR 77), some (qI i)] [qI z, qI z]
  refine qJ.icmp_same hκ (tgt := 1246) rfl rfl ?_
  exact qJ.tb (k u1 m2 y2 _ _ hA2 (by omega) (by omega))

set_option maxRecDepth 100000 in
theorem law_35 {nm : String} {κ : qK} {fin : State → Prop} {L : Nat} {xs : Nat → Int32} {c i : Int} {u : qU} {m y : qM} {cs sl : Nat} (hκ0 : qCx (YL nm tbL) 13 600000 7302250 κ) (hX : qSc κ L xs) (hL : L ≤ 3584) (hi : 0 ≤ i ∧ i + 7 ≤ L) (hc : c < 512) (hA : iA c u m) (hcs : cs + 21 ≤ 600000) (hsl : sl + 2101 ≤ 7302250) (k : ∀ (u' : qU) (m' y' : qM) (cs' sl' : Nat), iA (c + 1) u' m' → cs' ≤ cs + 21 → sl' ≤ sl + 2101 → qJ (YL nm tbL) κ fin (qLy u', m', y') cs' sl' 1246 [some (qR 1300), some (qR 0), some (qR 77), some (qI i)] []) : qJ (YL nm tbL) κ fin (qLy u, m, y) cs sl 1223 [some (qR 1300), some (qR 0), some (qR 77), some (qI i)] [] := by
  refine qJ.tb (tb := tbL35) ?_
  have hκ := qCx.tb tbL35_ok hκ0
  show qJ (YL nm tbL35) κ fin (qLy u, m, y) cs sl 1223 [some (qR 1300), some (qR 0), some (qR 77), some (qI i)] []
  refine qJ.run hκ 5 (pc' := 1228) (ls' := [some (qR 1300), some (qR 0), some (qR 77), some (qI i)]) (st' := [qI (i + 1), qR 1300, qR 0]) rfl ?_
  refine qJ.sld hκ hX rfl (by omega) (by omega) ?_
  show qJ (YL nm tbL35) κ fin (qLy u, m, y) cs sl 1229 [some (qR 1300), some (qR 0), some (qR 77), some (qI i)] [qI (sc xs (i + 1)), qR 0]
  obtain ⟨mc, ms, Q, b1, b2, hC, hQ⟩ := j_again y (sc xs (i + 1)) hA (sc_r xs _)
  refine qJ.callV (b := 0) (As := [qI (sc xs (i + 1))]) (rest := []) hκ rfl kL_161 hC rfl rfl (by decide) rfl rfl (Nat.le_of_ble_eq_true rfl) (by omega) (by omega) (Or.inr ⟨rfl, law_wf u i⟩) (fun r h e => ?_)
  obtain ⟨z, u1, m1, y1, rfl, rfl, Q2, hC2, hQ2⟩ := hQ r h e
  show qJ (YL nm tbL35) κ fin (qLy u1, m1, y1) (cs + mc) (sl + ms) 1232 [some (qR 1300), some (qR 0), some (qR 77), some (qI i)] [qI z]
  refine qJ.run hκ 5 (pc' := 1237) (ls' := [some (qR 1300), some (qR 0), some (qR 77), some (qI i)]) (st' := [qI (i + 1), qR 1300, qR 77, qI z]) rfl ?_
  refine qJ.sld hκ hX rfl (by omega) (by omega) ?_
  show qJ (YL nm tbL35) κ fin (qLy u1, m1, y1) (cs + mc) (sl + ms) 1238 [some (qR 1300), some (qR 0), some (qR 77), some (qI i)] [qI (sc xs (i + 1)), qR 77, qI z]
  refine qJ.callV (b := 77) (As := [qI (sc xs (i + 1))]) (rest := [qI z]) hκ rfl kL_164 hC2 rfl rfl (by decide) rfl rfl (Nat.le_of_ble_eq_true rfl) (by omega) (by omega) (Or.inr ⟨rfl, law_wf u1 i⟩) (fun r2 h2 e2 => ?_)
  obtain ⟨rfl, m2, y2, rfl, hA2⟩ := hQ2 r2 h2 e2
  show qJ (YL nm tbL35) κ fin (qLy u1, m2, y2) (cs + mc + 0) (sl + ms + 0) 1241 [some (qR 1300), some (qR 0), some (qR 77), some (qI i)] [qI z, qI z]
  refine qJ.icmp_same hκ (tgt := 1246) rfl rfl ?_
  exact qJ.tb (k u1 m2 y2 _ _ hA2 (by omega) (by omega))

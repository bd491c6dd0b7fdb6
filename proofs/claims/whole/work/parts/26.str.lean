/-! THE ENGINE, 9: texts that are only read -/
/-- a text's byte -/
def qB (i j : Nat) : Int := ((qSb.getD i []).getD j 0).toInt
section QS
variable {Y : qY} {d MC MS : Nat} {κ : qK} {fin : State → Prop} {h : qH} {cs sl pc : Nat} {ls : List (Option qV)} {st : List qV}
theorem qJ.ldcS {idx i : Nat} {tx : String} (hκ : qCx Y d MC MS κ) (hat : q_at Y.tb pc = some (.ldc idx, 2)) (hr0 : (Y.own, idx, tx, i) ∈ qSr) (k : qJ Y κ fin h cs sl (pc + 2) ls (qR (1000 + i) :: st)) : qJ Y κ fin h cs sl pc ls st := by
  obtain ⟨p, l, e, R, s, m, args, below, meth, c, D, tc, A, φ0, n0⟩ := κ
  obtain ⟨hx, hb, hml, hr, hlk, hnm, hown, hts, hK, hNW, hA, hRO, hR, hY⟩ := hκ
  have hdg := qOKd.dec hY hat
  intro H locs φ lc hP hD hS hag hn hl hll
  have e1 : φ (1000 + i) = φ0 (1000 + i) := hag _ (Or.inr (by omega))
  exact va_ldcS hx hb hown (tx := tx) (q := φ (1000 + i)) (by rw [e1]; exact hRO.2.1 _ hr0) hdg (k H locs φ lc hP hD hS hag hn hl hll)
theorem qJ.getSV {idx i : Nat} (hκ : qCx Y d MC MS κ) (hat : q_at Y.tb pc = some (.getfield idx, 3)) (hw : Jvm.Cond.fieldLink Y.own idx "java/lang/String" "value" "[B" ∈ qT) (hi : i < 8) (k : qJ Y κ fin h cs sl (pc + 3) ls (qR (1100 + i) :: st)) : qJ Y κ fin h cs sl pc ls (qR (1000 + i) :: st) := by
  obtain ⟨p, l, e, R, s, m, args, below, meth, c, D, tc, A, φ0, n0⟩ := κ
  obtain ⟨hx, hb, hml, hr, hlk, hnm, hown, hts, hK, hNW, hA, hRO, hR, hY⟩ := hκ
  have hdg := qOKd.dec hY hat
  intro H locs φ lc hP hD hS hag hn hl hll
  have e1 : φ (1000 + i) = φ0 (1000 + i) := hag _ (Or.inr (by omega))
  have e2 : φ (1100 + i) = φ0 (1100 + i) := hag _ (Or.inr (by omega))
  exact vk_getf hx hb (o := "java/lang/String") (n := "value") (d := "[B") (v := .ref (φ (1100 + i))) (by rw [e1, e2]; exact (hRO.1.1 i hi).2.2.1) hS hown (hts _ hw) (fun _ g => g) hdg (k H locs φ lc hP hD hS hag hn hl hll)
theorem qJ.getSC {idx i : Nat} (hκ : qCx Y d MC MS κ) (hat : q_at Y.tb pc = some (.getfield idx, 3)) (hw : Jvm.Cond.fieldLink Y.own idx "java/lang/String" "coder" "B" ∈ qT) (hi : i < 8) (k : qJ Y κ fin h cs sl (pc + 3) ls (qI 0 :: st)) : qJ Y κ fin h cs sl pc ls (qR (1000 + i) :: st) := by
  obtain ⟨p, l, e, R, s, m, args, below, meth, c, D, tc, A, φ0, n0⟩ := κ
  obtain ⟨hx, hb, hml, hr, hlk, hnm, hown, hts, hK, hNW, hA, hRO, hR, hY⟩ := hκ
  have hdg := qOKd.dec hY hat
  intro H locs φ lc hP hD hS hag hn hl hll
  have e1 : φ (1000 + i) = φ0 (1000 + i) := hag _ (Or.inr (by omega))
  exact vk_getf hx hb (o := "java/lang/String") (n := "coder") (d := "B") (v := .int 0) (by rw [e1]; exact (hRO.1.1 i hi).2.1) hS hown (hts _ hw) (fun _ g => g) hdg (k H locs φ lc hP hD hS hag hn hl hll)
theorem qJ.getsC {idx : Nat} (hκ : qCx Y d MC MS κ) (hat : q_at Y.tb pc = some (.getstatic idx, 3)) (hw : Jvm.Cond.fieldLink Y.own idx "java/lang/String" "COMPACT_STRINGS" "Z" ∈ qT) (k : qJ Y κ fin h cs sl (pc + 3) ls (qI 1 :: st)) : qJ Y κ fin h cs sl pc ls st := by
  obtain ⟨p, l, e, R, s, m, args, below, meth, c, D, tc, A, φ0, n0⟩ := κ
  obtain ⟨hx, hb, hml, hr, hlk, hnm, hown, hts, hK, hNW, hA, hRO, hR, hY⟩ := hκ
  have hdg := qOKd.dec hY hat
  intro H locs φ lc hP hD hS hag hn hl hll
  exact va_gets hx hb (C := "java/lang/String") (n := "COMPACT_STRINGS") (d := "Z") (v := .int 1) hRO.2.2.1 hS hown (hts _ hw) (fun _ g => g) hdg (k H locs φ lc hP hD hS hag hn hl hll)
theorem qJ.getsF {idx : Nat} (hκ : qCx Y d MC MS κ) (hat : q_at Y.tb pc = some (.getstatic idx, 3)) (hw : Jvm.Cond.fieldLink Y.own idx "jdk/internal/util/Preconditions" "SIOOBE_FORMATTER" "Ljava/util/function/BiFunction;" ∈ qT) (k1 : qJ Y κ fin h cs sl (pc + 3) ls (qN :: st)) (k2 : qJ Y κ fin h cs sl (pc + 3) ls (qR 1200 :: st)) : qJ Y κ fin h cs sl pc ls st := by
  obtain ⟨p, l, e, R, s, m, args, below, meth, c, D, tc, A, φ0, n0⟩ := κ
  obtain ⟨hx, hb, hml, hr, hlk, hnm, hown, hts, hK, hNW, hA, hRO, hR, hY⟩ := hκ
  have hdg := qOKd.dec hY hat
  intro H locs φ lc hP hD hS hag hn hl hll
  have e1 : φ 1200 = φ0 1200 := hag _ (Or.inr (by omega))
  obtain ⟨v, hv, hZ⟩ := hRO.2.2.2
  refine va_gets hx hb (C := "jdk/internal/util/Preconditions") (n := "SIOOBE_FORMATTER") (d := "Ljava/util/function/BiFunction;") (v := v) hZ hS hown (hts _ hw) (fun _ g => g) hdg ?_
  rcases hv with rfl | rfl
  · exact k1 H locs φ lc hP hD hS hag hn hl hll
  · rw [← e1]; exact k2 H locs φ lc hP hD hS hag hn hl hll
theorem qJ.lenS {i : Nat} (hκ : qCx Y d MC MS κ) (hat : q_at Y.tb pc = some (.arraylength, 1)) (hi : i < 8) (k : qJ Y κ fin h cs sl (pc + 1) ls (qI ((qSl.getD i 0 : Nat) : Int) :: st)) : qJ Y κ fin h cs sl pc ls (qR (1100 + i) :: st) := by
  obtain ⟨p, l, e, R, s, m, args, below, meth, c, D, tc, A, φ0, n0⟩ := κ
  obtain ⟨hx, hb, hml, hr, hlk, hnm, hown, hts, hK, hNW, hA, hRO, hR, hY⟩ := hκ
  have hdg := qOKd.dec hY hat
  intro H locs φ lc hP hD hS hag hn hl hll
  have e2 : φ (1100 + i) = φ0 (1100 + i) := hag _ (Or.inr (by omega))
  exact va_tlen (t := φ (1100 + i)) hx hb (by rw [e2]; exact (hRO.1.1 i hi).2.2.2) hS rfl hdg (k H locs φ lc hP hD hS hag hn hl hll)
theorem qJ.aldS {i : Nat} {x : Int} (hκ : qCx Y d MC MS κ) (hat : q_at Y.tb pc = some (.baload, 1)) (hi : i < 8) (h0 : 0 ≤ x ∧ x < (qSl.getD i 0 : Nat)) (hn0 : qSl.getD i 0 < 2147483648) (k : qJ Y κ fin h cs sl (pc + 1) ls (qI (qB i x.toNat) :: st)) : qJ Y κ fin h cs sl pc ls (qI x :: qR (1100 + i) :: st) := by
  obtain ⟨p, l, e, R, s, m, args, below, meth, c, D, tc, A, φ0, n0⟩ := κ
  obtain ⟨hx, hb, hml, hr, hlk, hnm, hown, hts, hK, hNW, hA, hRO, hR, hY⟩ := hκ
  have hdg := qOKd.dec hY hat
  intro H locs φ lc hP hD hS hag hn hl hll
  have e2 : φ (1100 + i) = φ0 (1100 + i) := hag _ (Or.inr (by omega))
  obtain ⟨g1, g2⟩ := q_ix h0.1 h0.2 hn0
  exact va_tb (t := φ (1100 + i)) (v := .int (Int32.ofInt (qB i x.toNat))) hx hb (by rw [e2]; exact (hRO.1.1 i hi).2.2.2) hS g1 (by rw [g2]; show Value.int ((qSb.getD i []).getD x.toNat 0) = _; rw [qB, Int32.ofInt_toInt]) hdg (k H locs φ lc hP hD hS hag hn hl hll)
theorem qJ.callVS {Y' : qY} {d' mc ms i idx : Nat} {As rest : List qV} {Q : Option qV → qH → Prop} (hκ : qCx Y d MC MS κ) (hat : q_at Y.tb pc = some (.invokevirtual idx, 3)) (hk : qCV Y.own idx Y') (hC : qCt Y' d' mc ms (qR (1000 + i) :: As) h Q) (hi : i < 8) (ho : Y'.own = "java/lang/String") (hd : d' + 1 ≤ d) (hst : st = As.reverse ++ qR (1000 + i) :: rest) (hlen : As.length = Y'.np) (hrest : q_cats rest ≤ 8) (hmc : cs + mc ≤ MC) (hms : sl + ms ≤ MS)
    (hw : (∀ r h', Q r h' → h'.1.length = h.1.length) ∨ (rest.all (q_wf h.1.length) = true ∧ ls.all (fun o => o.all (q_wf h.1.length)) = true)) (k : ∀ r h', Q r h' → qJ Y κ fin h' (cs + mc) (sl + ms) (pc + 3) ls (r.toList ++ rest)) : qJ Y κ fin h cs sl pc ls st := by
  obtain ⟨p, l, e, R, s, m, args, below, meth, c, D, tc, A, φ0, n0⟩ := κ
  obtain ⟨hx, hb, hml, hr, hlk, hnm, hown, hts, hK, hNW, hA, hRO, hR, hY⟩ := hκ
  have hdg := qOKd.dec hY hat
  intro H locs φ lc hP hD hS hag hn hl hll
  subst hst
  obtain ⟨hkb, hki, hks⟩ := hk
  have e1 : φ (1000 + i) = φ0 (1000 + i) := hag _ (Or.inr (by omega))
  have hrv : ∃ cellB : Cell, H[φ (1000 + i)]? = some cellB ∧ cellB.vm.isStatics = false ∧ s.vm.findClass Y'.own = some cellB.cls := by
    rw [e1, ho]
    exact vk_recv (i := i) (adK := fun i => φ0 (1000 + i)) hRO.1 hi hS
  refine q_back (rest := rest) (va_runV (C := Y'.own) (As := As.map (qc φ)) (b := φ (1000 + i)) ⟨hx, hb, hml, hown, hts⟩ (hC l D tc φ H.size) ⟨q_CallB hkb hts ⟨hR.1, hR.2.1⟩ hd, hts _ hki, hts _ hks⟩ ⟨q_P.blind, hrv, fun U hU hW => q_P.pre (as := qR (1000 + i) :: As) hP hD hK hNW hRO hag hn hS hA hU hW⟩ rfl (by rw [List.length_map]; exact hlen) hl.1 (by simp [qc]) ?_ hdg ⟨Nat.le_trans hmc hR.2.2.1, Nat.le_trans hms hR.2.2.2⟩) hD hS hA hag hn hl hll hw k
  show 2 * 0 + _ ≤ 8
  rw [q_cats_s]
  omega
end QS

/-- a letter's place among the ten; -1 if it is none -/
def lcode (c : Int) : Int := if c = 97 then 0 else if c = 101 then 1 else if c = 105 then 2 else if c = 111 then 3 else if c = 107 then 4 else if c = 116 then 5 else if c = 112 then 6 else if c = 115 then 7 else if c = 110 then 8 else if c = 114 then 9 else -1
set_option maxRecDepth 100000 in
theorem lcode_fst : ∀ c : Fin 256, q_fst (fun j => qB 0 j = q_i2b (c.val : Int)) 10 = lcode (c.val : Int) := by decide +kernel
theorem lcode_i {c : Int} (h : 0 ≤ c ∧ c ≤ 255) : q_fst (fun j => qB 0 j = q_i2b c) 10 = lcode c := by
  have := lcode_fst ⟨c.toNat, by omega⟩
  simp only [] at this
  rw [show ((c.toNat : Nat) : Int) = c by omega] at this
  exact this
set_option maxRecDepth 100000 in
theorem qB_f : ∀ i : Fin 8, ∀ k : Fin 10, q_i2c (q_and (qB i.val k.val) 255) = qB i.val k.val ∧ (narrow .char (.int (Int32.ofInt (qB i.val k.val))) = .int (Int32.ofInt (qB i.val k.val))) ∧ 0 ≤ qB i.val k.val ∧ qB i.val k.val ≤ 122 := by decide +kernel
theorem qB_r {i k : Nat} (hi : i < 8) (hk : k < 10) : q_i2c (q_and (qB i k) 255) = qB i k ∧ (narrow .char (.int (Int32.ofInt (qB i k))) = .int (Int32.ofInt (qB i k))) ∧ 0 ≤ qB i k ∧ qB i k ≤ 122 := qB_f ⟨i, hi⟩ ⟨k, hk⟩
theorem q_i2b_r (x : Int) : qr (q_i2b x) := q_r32 _

set_option maxRecDepth 100000 in
theorem c_coder0 (u : qU) (m y : qM)  : qCt YJ0_coder_7d493 1 0 0 [qR 1000] (qLy u, m, y) (fun r h => r = some (qI 0) ∧ h = (qLy u, m, y)) := by
  refine qCt.intro okJ0_coder_7d493 (Nat.le_of_ble_eq_true rfl) (fun κ hκ => ?_)
  show qJ YJ0_coder_7d493 κ _ (qLy u, m, y) 0 0 0 [some (qR 1000)] []
  refine qJ.getsC hκ rfl (qT_t4 174 rfl rfl) ?_
  show qJ YJ0_coder_7d493 κ _ (qLy u, m, y) 0 0 3 [some (qR 1000)] [qI 1]
  refine qJ.if_eq hκ (tgt := 13) rfl rfl (by omega) (fun c3 => ?_) (fun c3 => ?_)
  · exact absurd c3 (by decide)
  · show qJ YJ0_coder_7d493 κ _ (qLy u, m, y) 0 0 6 [some (qR 1000)] []
    refine qJ.run hκ 1 (pc' := 7) (ls' := [some (qR 1000)]) (st' := [qR 1000]) rfl ?_
    refine qJ.getSC (i := 0) hκ rfl (qT_t8 131 rfl rfl) (by decide) ?_
    show qJ YJ0_coder_7d493 κ _ (qLy u, m, y) 0 0 10 [some (qR 1000)] [qI 0]
    refine qJ.run hκ 1 (pc' := 14) (ls' := [some (qR 1000)]) (st' := [qI 0]) rfl ?_
    exact qJ.zret hκ rfl rfl (rfl) (by decide) (by decide) (by first | exact ⟨rfl, rfl⟩ | (refine ⟨?_, rfl⟩; first | rfl | omega))

set_option maxRecDepth 100000 in
theorem c_coder1 (u : qU) (m y : qM)  : qCt YJ0_coder_7d493 1 0 0 [qR 1001] (qLy u, m, y) (fun r h => r = some (qI 0) ∧ h = (qLy u, m, y)) := by
  refine qCt.intro okJ0_coder_7d493 (Nat.le_of_ble_eq_true rfl) (fun κ hκ => ?_)
  show qJ YJ0_coder_7d493 κ _ (qLy u, m, y) 0 0 0 [some (qR 1001)] []
  refine qJ.getsC hκ rfl (qT_t4 174 rfl rfl) ?_
  show qJ YJ0_coder_7d493 κ _ (qLy u, m, y) 0 0 3 [some (qR 1001)] [qI 1]
  refine qJ.if_eq hκ (tgt := 13) rfl rfl (by omega) (fun c3 => ?_) (fun c3 => ?_)
  · exact absurd c3 (by decide)
  · show qJ YJ0_coder_7d493 κ _ (qLy u, m, y) 0 0 6 [some (qR 1001)] []
    refine qJ.run hκ 1 (pc' := 7) (ls' := [some (qR 1001)]) (st' := [qR 1001]) rfl ?_
    refine qJ.getSC (i := 1) hκ rfl (qT_t8 131 rfl rfl) (by decide) ?_
    show qJ YJ0_coder_7d493 κ _ (qLy u, m, y) 0 0 10 [some (qR 1001)] [qI 0]
    refine qJ.run hκ 1 (pc' := 14) (ls' := [some (qR 1001)]) (st' := [qI 0]) rfl ?_
    exact qJ.zret hκ rfl rfl (rfl) (by decide) (by decide) (by first | exact ⟨rfl, rfl⟩ | (refine ⟨?_, rfl⟩; first | rfl | omega))

set_option maxRecDepth 100000 in
theorem c_coder2 (u : qU) (m y : qM)  : qCt YJ0_coder_7d493 1 0 0 [qR 1002] (qLy u, m, y) (fun r h => r = some (qI 0) ∧ h = (qLy u, m, y)) := by
  refine qCt.intro okJ0_coder_7d493 (Nat.le_of_ble_eq_true rfl) (fun κ hκ => ?_)
  show qJ YJ0_coder_7d493 κ _ (qLy u, m, y) 0 0 0 [some (qR 1002)] []
  refine qJ.getsC hκ rfl (qT_t4 174 rfl rfl) ?_
  show qJ YJ0_coder_7d493 κ _ (qLy u, m, y) 0 0 3 [some (qR 1002)] [qI 1]
  refine qJ.if_eq hκ (tgt := 13) rfl rfl (by omega) (fun c3 => ?_) (fun c3 => ?_)
  · exact absurd c3 (by decide)
  · show qJ YJ0_coder_7d493 κ _ (qLy u, m, y) 0 0 6 [some (qR 1002)] []
    refine qJ.run hκ 1 (pc' := 7) (ls' := [some (qR 1002)]) (st' := [qR 1002]) rfl ?_
    refine qJ.getSC (i := 2) hκ rfl (qT_t8 131 rfl rfl) (by decide) ?_
    show qJ YJ0_coder_7d493 κ _ (qLy u, m, y) 0 0 10 [some (qR 1002)] [qI 0]
    refine qJ.run hκ 1 (pc' := 14) (ls' := [some (qR 1002)]) (st' := [qI 0]) rfl ?_
    exact qJ.zret hκ rfl rfl (rfl) (by decide) (by decide) (by first | exact ⟨rfl, rfl⟩ | (refine ⟨?_, rfl⟩; first | rfl | omega))

set_option maxRecDepth 100000 in
theorem c_coder3 (u : qU) (m y : qM)  : qCt YJ0_coder_7d493 1 0 0 [qR 1003] (qLy u, m, y) (fun r h => r = some (qI 0) ∧ h = (qLy u, m, y)) := by
  refine qCt.intro okJ0_coder_7d493 (Nat.le_of_ble_eq_true rfl) (fun κ hκ => ?_)
  show qJ YJ0_coder_7d493 κ _ (qLy u, m, y) 0 0 0 [some (qR 1003)] []
  refine qJ.getsC hκ rfl (qT_t4 174 rfl rfl) ?_
  show qJ YJ0_coder_7d493 κ _ (qLy u, m, y) 0 0 3 [some (qR 1003)] [qI 1]
  refine qJ.if_eq hκ (tgt := 13) rfl rfl (by omega) (fun c3 => ?_) (fun c3 => ?_)
  · exact absurd c3 (by decide)
  · show qJ YJ0_coder_7d493 κ _ (qLy u, m, y) 0 0 6 [some (qR 1003)] []
    refine qJ.run hκ 1 (pc' := 7) (ls' := [some (qR 1003)]) (st' := [qR 1003]) rfl ?_
    refine qJ.getSC (i := 3) hκ rfl (qT_t8 131 rfl rfl) (by decide) ?_
    show qJ YJ0_coder_7d493 κ _ (qLy u, m, y) 0 0 10 [some (qR 1003)] [qI 0]
    refine qJ.run hκ 1 (pc' := 14) (ls' := [some (qR 1003)]) (st' := [qI 0]) rfl ?_
    exact qJ.zret hκ rfl rfl (rfl) (by decide) (by decide) (by first | exact ⟨rfl, rfl⟩ | (refine ⟨?_, rfl⟩; first | rfl | omega))

set_option maxRecDepth 100000 in
theorem c_coder4 (u : qU) (m y : qM)  : qCt YJ0_coder_7d493 1 0 0 [qR 1004] (qLy u, m, y) (fun r h => r = some (qI 0) ∧ h = (qLy u, m, y)) := by
  refine qCt.intro okJ0_coder_7d493 (Nat.le_of_ble_eq_true rfl) (fun κ hκ => ?_)
  show qJ YJ0_coder_7d493 κ _ (qLy u, m, y) 0 0 0 [some (qR 1004)] []
  refine qJ.getsC hκ rfl (qT_t4 174 rfl rfl) ?_
  show qJ YJ0_coder_7d493 κ _ (qLy u, m, y) 0 0 3 [some (qR 1004)] [qI 1]
  refine qJ.if_eq hκ (tgt := 13) rfl rfl (by omega) (fun c3 => ?_) (fun c3 => ?_)
  · exact absurd c3 (by decide)
  · show qJ YJ0_coder_7d493 κ _ (qLy u, m, y) 0 0 6 [some (qR 1004)] []
    refine qJ.run hκ 1 (pc' := 7) (ls' := [some (qR 1004)]) (st' := [qR 1004]) rfl ?_
    refine qJ.getSC (i := 4) hκ rfl (qT_t8 131 rfl rfl) (by decide) ?_
    show qJ YJ0_coder_7d493 κ _ (qLy u, m, y) 0 0 10 [some (qR 1004)] [qI 0]
    refine qJ.run hκ 1 (pc' := 14) (ls' := [some (qR 1004)]) (st' := [qI 0]) rfl ?_
    exact qJ.zret hκ rfl rfl (rfl) (by decide) (by decide) (by first | exact ⟨rfl, rfl⟩ | (refine ⟨?_, rfl⟩; first | rfl | omega))

set_option maxRecDepth 100000 in
theorem c_coder5 (u : qU) (m y : qM)  : qCt YJ0_coder_7d493 1 0 0 [qR 1005] (qLy u, m, y) (fun r h => r = some (qI 0) ∧ h = (qLy u, m, y)) := by
  refine qCt.intro okJ0_coder_7d493 (Nat.le_of_ble_eq_true rfl) (fun κ hκ => ?_)
  show qJ YJ0_coder_7d493 κ _ (qLy u, m, y) 0 0 0 [some (qR 1005)] []
  refine qJ.getsC hκ rfl (qT_t4 174 rfl rfl) ?_
  show qJ YJ0_coder_7d493 κ _ (qLy u, m, y) 0 0 3 [some (qR 1005)] [qI 1]
  refine qJ.if_eq hκ (tgt := 13) rfl rfl (by omega) (fun c3 => ?_) (fun c3 => ?_)
  · exact absurd c3 (by decide)
  · show qJ YJ0_coder_7d493 κ _ (qLy u, m, y) 0 0 6 [some (qR 1005)] []
    refine qJ.run hκ 1 (pc' := 7) (ls' := [some (qR 1005)]) (st' := [qR 1005]) rfl ?_
    refine qJ.getSC (i := 5) hκ rfl (qT_t8 131 rfl rfl) (by decide) ?_
    show qJ YJ0_coder_7d493 κ _ (qLy u, m, y) 0 0 10 [some (qR 1005)] [qI 0]
    refine qJ.run hκ 1 (pc' := 14) (ls' := [some (qR 1005)]) (st' := [qI 0]) rfl ?_
    exact qJ.zret hκ rfl rfl (rfl) (by decide) (by decide) (by first | exact ⟨rfl, rfl⟩ | (refine ⟨?_, rfl⟩; first | rfl | omega))

set_option maxRecDepth 100000 in
theorem c_coder6 (u : qU) (m y : qM)  : qCt YJ0_coder_7d493 1 0 0 [qR 1006] (qLy u, m, y) (fun r h => r = some (qI 0) ∧ h = (qLy u, m, y)) := by
  refine qCt.intro okJ0_coder_7d493 (Nat.le_of_ble_eq_true rfl) (fun κ hκ => ?_)
  show qJ YJ0_coder_7d493 κ _ (qLy u, m, y) 0 0 0 [some (qR 1006)] []
  refine qJ.getsC hκ rfl (qT_t4 174 rfl rfl) ?_
  show qJ YJ0_coder_7d493 κ _ (qLy u, m, y) 0 0 3 [some (qR 1006)] [qI 1]
  refine qJ.if_eq hκ (tgt := 13) rfl rfl (by omega) (fun c3 => ?_) (fun c3 => ?_)
  · exact absurd c3 (by decide)
  · show qJ YJ0_coder_7d493 κ _ (qLy u, m, y) 0 0 6 [some (qR 1006)] []
    refine qJ.run hκ 1 (pc' := 7) (ls' := [some (qR 1006)]) (st' := [qR 1006]) rfl ?_
    refine qJ.getSC (i := 6) hκ rfl (qT_t8 131 rfl rfl) (by decide) ?_
    show qJ YJ0_coder_7d493 κ _ (qLy u, m, y) 0 0 10 [some (qR 1006)] [qI 0]
    refine qJ.run hκ 1 (pc' := 14) (ls' := [some (qR 1006)]) (st' := [qI 0]) rfl ?_
    exact qJ.zret hκ rfl rfl (rfl) (by decide) (by decide) (by first | exact ⟨rfl, rfl⟩ | (refine ⟨?_, rfl⟩; first | rfl | omega))

set_option maxRecDepth 100000 in
theorem c_coder7 (u : qU) (m y : qM)  : qCt YJ0_coder_7d493 1 0 0 [qR 1007] (qLy u, m, y) (fun r h => r = some (qI 0) ∧ h = (qLy u, m, y)) := by
  refine qCt.intro okJ0_coder_7d493 (Nat.le_of_ble_eq_true rfl) (fun κ hκ => ?_)
  show qJ YJ0_coder_7d493 κ _ (qLy u, m, y) 0 0 0 [some (qR 1007)] []
  refine qJ.getsC hκ rfl (qT_t4 174 rfl rfl) ?_
  show qJ YJ0_coder_7d493 κ _ (qLy u, m, y) 0 0 3 [some (qR 1007)] [qI 1]
  refine qJ.if_eq hκ (tgt := 13) rfl rfl (by omega) (fun c3 => ?_) (fun c3 => ?_)
  · exact absurd c3 (by decide)
  · show qJ YJ0_coder_7d493 κ _ (qLy u, m, y) 0 0 6 [some (qR 1007)] []
    refine qJ.run hκ 1 (pc' := 7) (ls' := [some (qR 1007)]) (st' := [qR 1007]) rfl ?_
    refine qJ.getSC (i := 7) hκ rfl (qT_t8 131 rfl rfl) (by decide) ?_
    show qJ YJ0_coder_7d493 κ _ (qLy u, m, y) 0 0 10 [some (qR 1007)] [qI 0]
    refine qJ.run hκ 1 (pc' := 14) (ls' := [some (qR 1007)]) (st' := [qI 0]) rfl ?_
    exact qJ.zret hκ rfl rfl (rfl) (by decide) (by decide) (by first | exact ⟨rfl, rfl⟩ | (refine ⟨?_, rfl⟩; first | rfl | omega))

set_option maxRecDepth 100000 in
theorem c_isLatin1_0 (u : qU) (m y : qM)  : qCt YJ0_isLatin1_aae02 1 0 0 [qR 1000] (qLy u, m, y) (fun r h => r = some (qI 1) ∧ h = (qLy u, m, y)) := by
  refine qCt.intro okJ0_isLatin1_aae02 (Nat.le_of_ble_eq_true rfl) (fun κ hκ => ?_)
  show qJ YJ0_isLatin1_aae02 κ _ (qLy u, m, y) 0 0 0 [some (qR 1000)] []
  refine qJ.getsC hκ rfl (qT_t4 174 rfl rfl) ?_
  show qJ YJ0_isLatin1_aae02 κ _ (qLy u, m, y) 0 0 3 [some (qR 1000)] [qI 1]
  refine qJ.if_eq hκ (tgt := 17) rfl rfl (by omega) (fun c3 => ?_) (fun c3 => ?_)
  · exact absurd c3 (by decide)
  · show qJ YJ0_isLatin1_aae02 κ _ (qLy u, m, y) 0 0 6 [some (qR 1000)] []
    refine qJ.run hκ 1 (pc' := 7) (ls' := [some (qR 1000)]) (st' := [qR 1000]) rfl ?_
    refine qJ.getSC (i := 0) hκ rfl (qT_t8 131 rfl rfl) (by decide) ?_
    show qJ YJ0_isLatin1_aae02 κ _ (qLy u, m, y) 0 0 10 [some (qR 1000)] [qI 0]
    refine qJ.if_ne hκ (tgt := 17) rfl rfl (by omega) (fun c10 => ?_) (fun c10 => ?_)
    · exact absurd c10 (by decide)
    · show qJ YJ0_isLatin1_aae02 κ _ (qLy u, m, y) 0 0 13 [some (qR 1000)] []
      refine qJ.run hκ 2 (pc' := 18) (ls' := [some (qR 1000)]) (st' := [qI 1]) rfl ?_
      exact qJ.bret hκ rfl rfl (by omega) (by decide) (by decide) (by first | exact ⟨rfl, rfl⟩ | (refine ⟨?_, rfl⟩; first | rfl | omega))

set_option maxRecDepth 100000 in
theorem c_isLatin1_1 (u : qU) (m y : qM)  : qCt YJ0_isLatin1_aae02 1 0 0 [qR 1001] (qLy u, m, y) (fun r h => r = some (qI 1) ∧ h = (qLy u, m, y)) := by
  refine qCt.intro okJ0_isLatin1_aae02 (Nat.le_of_ble_eq_true rfl) (fun κ hκ => ?_)
  show qJ YJ0_isLatin1_aae02 κ _ (qLy u, m, y) 0 0 0 [some (qR 1001)] []
  refine qJ.getsC hκ rfl (qT_t4 174 rfl rfl) ?_
  show qJ YJ0_isLatin1_aae02 κ _ (qLy u, m, y) 0 0 3 [some (qR 1001)] [qI 1]
  refine qJ.if_eq hκ (tgt := 17) rfl rfl (by omega) (fun c3 => ?_) (fun c3 => ?_)
  · exact absurd c3 (by decide)
  · show qJ YJ0_isLatin1_aae02 κ _ (qLy u, m, y) 0 0 6 [some (qR 1001)] []
    refine qJ.run hκ 1 (pc' := 7) (ls' := [some (qR 1001)]) (st' := [qR 1001]) rfl ?_
    refine qJ.getSC (i := 1) hκ rfl (qT_t8 131 rfl rfl) (by decide) ?_
    show qJ YJ0_isLatin1_aae02 κ _ (qLy u, m, y) 0 0 10 [some (qR 1001)] [qI 0]
    refine qJ.if_ne hκ (tgt := 17) rfl rfl (by omega) (fun c10 => ?_) (fun c10 => ?_)
    · exact absurd c10 (by decide)
    · show qJ YJ0_isLatin1_aae02 κ _ (qLy u, m, y) 0 0 13 [some (qR 1001)] []
      refine qJ.run hκ 2 (pc' := 18) (ls' := [some (qR 1001)]) (st' := [qI 1]) rfl ?_
      exact qJ.bret hκ rfl rfl (by omega) (by decide) (by decide) (by first | exact ⟨rfl, rfl⟩ | (refine ⟨?_, rfl⟩; first | rfl | omega))

set_option maxRecDepth 100000 in
theorem c_isLatin1_2 (u : qU) (m y : qM)  : qCt YJ0_isLatin1_aae02 1 0 0 [qR 1002] (qLy u, m, y) (fun r h => r = some (qI 1) ∧ h = (qLy u, m, y)) := by
  refine qCt.intro okJ0_isLatin1_aae02 (Nat.le_of_ble_eq_true rfl) (fun κ hκ => ?_)
  show qJ YJ0_isLatin1_aae02 κ _ (qLy u, m, y) 0 0 0 [some (qR 1002)] []
  refine qJ.getsC hκ rfl (qT_t4 174 rfl rfl) ?_
  show qJ YJ0_isLatin1_aae02 κ _ (qLy u, m, y) 0 0 3 [some (qR 1002)] [qI 1]
  refine qJ.if_eq hκ (tgt := 17) rfl rfl (by omega) (fun c3 => ?_) (fun c3 => ?_)
  · exact absurd c3 (by decide)
  · show qJ YJ0_isLatin1_aae02 κ _ (qLy u, m, y) 0 0 6 [some (qR 1002)] []
    refine qJ.run hκ 1 (pc' := 7) (ls' := [some (qR 1002)]) (st' := [qR 1002]) rfl ?_
    refine qJ.getSC (i := 2) hκ rfl (qT_t8 131 rfl rfl) (by decide) ?_
    show qJ YJ0_isLatin1_aae02 κ _ (qLy u, m, y) 0 0 10 [some (qR 1002)] [qI 0]
    refine qJ.if_ne hκ (tgt := 17) rfl rfl (by omega) (fun c10 => ?_) (fun c10 => ?_)
    · exact absurd c10 (by decide)
    · show qJ YJ0_isLatin1_aae02 κ _ (qLy u, m, y) 0 0 13 [some (qR 1002)] []
      refine qJ.run hκ 2 (pc' := 18) (ls' := [some (qR 1002)]) (st' := [qI 1]) rfl ?_
      exact qJ.bret hκ rfl rfl (by omega) (by decide) (by decide) (by first | exact ⟨rfl, rfl⟩ | (refine ⟨?_, rfl⟩; first | rfl | omega))

set_option maxRecDepth 100000 in
theorem c_isLatin1_3 (u : qU) (m y : qM)  : qCt YJ0_isLatin1_aae02 1 0 0 [qR 1003] (qLy u, m, y) (fun r h => r = some (qI 1) ∧ h = (qLy u, m, y)) := by
  refine qCt.intro okJ0_isLatin1_aae02 (Nat.le_of_ble_eq_true rfl) (fun κ hκ => ?_)
  show qJ YJ0_isLatin1_aae02 κ _ (qLy u, m, y) 0 0 0 [some (qR 1003)] []
  refine qJ.getsC hκ rfl (qT_t4 174 rfl rfl) ?_
  show qJ YJ0_isLatin1_aae02 κ _ (qLy u, m, y) 0 0 3 [some (qR 1003)] [qI 1]
  refine qJ.if_eq hκ (tgt := 17) rfl rfl (by omega) (fun c3 => ?_) (fun c3 => ?_)
  · exact absurd c3 (by decide)
  · show qJ YJ0_isLatin1_aae02 κ _ (qLy u, m, y) 0 0 6 [some (qR 1003)] []
    refine qJ.run hκ 1 (pc' := 7) (ls' := [some (qR 1003)]) (st' := [qR 1003]) rfl ?_
    refine qJ.getSC (i := 3) hκ rfl (qT_t8 131 rfl rfl) (by decide) ?_
    show qJ YJ0_isLatin1_aae02 κ _ (qLy u, m, y) 0 0 10 [some (qR 1003)] [qI 0]
    refine qJ.if_ne hκ (tgt := 17) rfl rfl (by omega) (fun c10 => ?_) (fun c10 => ?_)
    · exact absurd c10 (by decide)
    · show qJ YJ0_isLatin1_aae02 κ _ (qLy u, m, y) 0 0 13 [some (qR 1003)] []
      refine qJ.run hκ 2 (pc' := 18) (ls' := [some (qR 1003)]) (st' := [qI 1]) rfl ?_
      exact qJ.bret hκ rfl rfl (by omega) (by decide) (by decide) (by first | exact ⟨rfl, rfl⟩ | (refine ⟨?_, rfl⟩; first | rfl | omega))

set_option maxRecDepth 100000 in
theorem c_isLatin1_4 (u : qU) (m y : qM)  : qCt YJ0_isLatin1_aae02 1 0 0 [qR 1004] (qLy u, m, y) (fun r h => r = some (qI 1) ∧ h = (qLy u, m, y)) := by
  refine qCt.intro okJ0_isLatin1_aae02 (Nat.le_of_ble_eq_true rfl) (fun κ hκ => ?_)
  show qJ YJ0_isLatin1_aae02 κ _ (qLy u, m, y) 0 0 0 [some (qR 1004)] []
  refine qJ.getsC hκ rfl (qT_t4 174 rfl rfl) ?_
  show qJ YJ0_isLatin1_aae02 κ _ (qLy u, m, y) 0 0 3 [some (qR 1004)] [qI 1]
  refine qJ.if_eq hκ (tgt := 17) rfl rfl (by omega) (fun c3 => ?_) (fun c3 => ?_)
  · exact absurd c3 (by decide)
  · show qJ YJ0_isLatin1_aae02 κ _ (qLy u, m, y) 0 0 6 [some (qR 1004)] []
    refine qJ.run hκ 1 (pc' := 7) (ls' := [some (qR 1004)]) (st' := [qR 1004]) rfl ?_
    refine qJ.getSC (i := 4) hκ rfl (qT_t8 131 rfl rfl) (by decide) ?_
    show qJ YJ0_isLatin1_aae02 κ _ (qLy u, m, y) 0 0 10 [some (qR 1004)] [qI 0]
    refine qJ.if_ne hκ (tgt := 17) rfl rfl (by omega) (fun c10 => ?_) (fun c10 => ?_)
    · exact absurd c10 (by decide)
    · show qJ YJ0_isLatin1_aae02 κ _ (qLy u, m, y) 0 0 13 [some (qR 1004)] []
      refine qJ.run hκ 2 (pc' := 18) (ls' := [some (qR 1004)]) (st' := [qI 1]) rfl ?_
      exact qJ.bret hκ rfl rfl (by omega) (by decide) (by decide) (by first | exact ⟨rfl, rfl⟩ | (refine ⟨?_, rfl⟩; first | rfl | omega))

set_option maxRecDepth 100000 in
theorem c_isLatin1_5 (u : qU) (m y : qM)  : qCt YJ0_isLatin1_aae02 1 0 0 [qR 1005] (qLy u, m, y) (fun r h => r = some (qI 1) ∧ h = (qLy u, m, y)) := by
  refine qCt.intro okJ0_isLatin1_aae02 (Nat.le_of_ble_eq_true rfl) (fun κ hκ => ?_)
  show qJ YJ0_isLatin1_aae02 κ _ (qLy u, m, y) 0 0 0 [some (qR 1005)] []
  refine qJ.getsC hκ rfl (qT_t4 174 rfl rfl) ?_
  show qJ YJ0_isLatin1_aae02 κ _ (qLy u, m, y) 0 0 3 [some (qR 1005)] [qI 1]
  refine qJ.if_eq hκ (tgt := 17) rfl rfl (by omega) (fun c3 => ?_) (fun c3 => ?_)
  · exact absurd c3 (by decide)
  · show qJ YJ0_isLatin1_aae02 κ _ (qLy u, m, y) 0 0 6 [some (qR 1005)] []
    refine qJ.run hκ 1 (pc' := 7) (ls' := [some (qR 1005)]) (st' := [qR 1005]) rfl ?_
    refine qJ.getSC (i := 5) hκ rfl (qT_t8 131 rfl rfl) (by decide) ?_
    show qJ YJ0_isLatin1_aae02 κ _ (qLy u, m, y) 0 0 10 [some (qR 1005)] [qI 0]
    refine qJ.if_ne hκ (tgt := 17) rfl rfl (by omega) (fun c10 => ?_) (fun c10 => ?_)
    · exact absurd c10 (by decide)
    · show qJ YJ0_isLatin1_aae02 κ _ (qLy u, m, y) 0 0 13 [some (qR 1005)] []
      refine qJ.run hκ 2 (pc' := 18) (ls' := [some (qR 1005)]) (st' := [qI 1]) rfl ?_
      exact qJ.bret hκ rfl rfl (by omega) (by decide) (by decide) (by first | exact ⟨rfl, rfl⟩ | (refine ⟨?_, rfl⟩; first | rfl | omega))

set_option maxRecDepth 100000 in
theorem c_isLatin1_6 (u : qU) (m y : qM)  : qCt YJ0_isLatin1_aae02 1 0 0 [qR 1006] (qLy u, m, y) (fun r h => r = some (qI 1) ∧ h = (qLy u, m, y)) := by
  refine qCt.intro okJ0_isLatin1_aae02 (Nat.le_of_ble_eq_true rfl) (fun κ hκ => ?_)
  show qJ YJ0_isLatin1_aae02 κ _ (qLy u, m, y) 0 0 0 [some (qR 1006)] []
  refine qJ.getsC hκ rfl (qT_t4 174 rfl rfl) ?_
  show qJ YJ0_isLatin1_aae02 κ _ (qLy u, m, y) 0 0 3 [some (qR 1006)] [qI 1]
  refine qJ.if_eq hκ (tgt := 17) rfl rfl (by omega) (fun c3 => ?_) (fun c3 => ?_)
  · exact absurd c3 (by decide)
  · show qJ YJ0_isLatin1_aae02 κ _ (qLy u, m, y) 0 0 6 [some (qR 1006)] []
    refine qJ.run hκ 1 (pc' := 7) (ls' := [some (qR 1006)]) (st' := [qR 1006]) rfl ?_
    refine qJ.getSC (i := 6) hκ rfl (qT_t8 131 rfl rfl) (by decide) ?_
    show qJ YJ0_isLatin1_aae02 κ _ (qLy u, m, y) 0 0 10 [some (qR 1006)] [qI 0]
    refine qJ.if_ne hκ (tgt := 17) rfl rfl (by omega) (fun c10 => ?_) (fun c10 => ?_)
    · exact absurd c10 (by decide)
    · show qJ YJ0_isLatin1_aae02 κ _ (qLy u, m, y) 0 0 13 [some (qR 1006)] []
      refine qJ.run hκ 2 (pc' := 18) (ls' := [some (qR 1006)]) (st' := [qI 1]) rfl ?_
      exact qJ.bret hκ rfl rfl (by omega) (by decide) (by decide) (by first | exact ⟨rfl, rfl⟩ | (refine ⟨?_, rfl⟩; first | rfl | omega))

set_option maxRecDepth 100000 in
theorem c_isLatin1_7 (u : qU) (m y : qM)  : qCt YJ0_isLatin1_aae02 1 0 0 [qR 1007] (qLy u, m, y) (fun r h => r = some (qI 1) ∧ h = (qLy u, m, y)) := by
  refine qCt.intro okJ0_isLatin1_aae02 (Nat.le_of_ble_eq_true rfl) (fun κ hκ => ?_)
  show qJ YJ0_isLatin1_aae02 κ _ (qLy u, m, y) 0 0 0 [some (qR 1007)] []
  refine qJ.getsC hκ rfl (qT_t4 174 rfl rfl) ?_
  show qJ YJ0_isLatin1_aae02 κ _ (qLy u, m, y) 0 0 3 [some (qR 1007)] [qI 1]
  refine qJ.if_eq hκ (tgt := 17) rfl rfl (by omega) (fun c3 => ?_) (fun c3 => ?_)
  · exact absurd c3 (by decide)
  · show qJ YJ0_isLatin1_aae02 κ _ (qLy u, m, y) 0 0 6 [some (qR 1007)] []
    refine qJ.run hκ 1 (pc' := 7) (ls' := [some (qR 1007)]) (st' := [qR 1007]) rfl ?_
    refine qJ.getSC (i := 7) hκ rfl (qT_t8 131 rfl rfl) (by decide) ?_
    show qJ YJ0_isLatin1_aae02 κ _ (qLy u, m, y) 0 0 10 [some (qR 1007)] [qI 0]
    refine qJ.if_ne hκ (tgt := 17) rfl rfl (by omega) (fun c10 => ?_) (fun c10 => ?_)
    · exact absurd c10 (by decide)
    · show qJ YJ0_isLatin1_aae02 κ _ (qLy u, m, y) 0 0 13 [some (qR 1007)] []
      refine qJ.run hκ 2 (pc' := 18) (ls' := [some (qR 1007)]) (st' := [qI 1]) rfl ?_
      exact qJ.bret hκ rfl rfl (by omega) (by decide) (by decide) (by first | exact ⟨rfl, rfl⟩ | (refine ⟨?_, rfl⟩; first | rfl | omega))

set_option maxRecDepth 100000 in
theorem c_slen0 (u : qU) (m y : qM)  : qCt YJ0_length_8abf5 2 0 0 [qR 1000] (qLy u, m, y) (fun r h => r = some (qI 10) ∧ h = (qLy u, m, y)) := by
  refine qCt.intro okJ0_length_8abf5 (Nat.le_of_ble_eq_true rfl) (fun κ hκ => ?_)
  show qJ YJ0_length_8abf5 κ _ (qLy u, m, y) 0 0 0 [some (qR 1000)] []
  refine qJ.run hκ 1 (pc' := 1) (ls' := [some (qR 1000)]) (st' := [qR 1000]) rfl ?_
  refine qJ.getSV (i := 0) hκ rfl (qT_t8 132 rfl rfl) (by decide) ?_
  show qJ YJ0_length_8abf5 κ _ (qLy u, m, y) 0 0 4 [some (qR 1000)] [qR 1100]
  refine qJ.lenS (i := 0) hκ rfl (by decide) ?_
  show qJ YJ0_length_8abf5 κ _ (qLy u, m, y) 0 0 5 [some (qR 1000)] [qI 10]
  refine qJ.run hκ 1 (pc' := 6) (ls' := [some (qR 1000)]) (st' := [qR 1000, qI 10]) rfl ?_
  refine qJ.callVS (i := 0) (As := []) (rest := [qI 10]) hκ rfl kJ0_335 (c_coder0 u m y) (by decide) rfl (by decide) rfl rfl (Nat.le_of_ble_eq_true rfl) (Nat.le_of_ble_eq_true rfl) (Nat.le_of_ble_eq_true rfl) (Or.inl (fun r h' e => by obtain ⟨rfl, rfl⟩ := e; rfl)) (fun r h' e => ?_)
  obtain ⟨rfl, rfl⟩ := e
  show qJ YJ0_length_8abf5 κ _ (qLy u, m, y) 0 0 9 [some (qR 1000)] [qI 0, qI 10]
  refine qJ.run hκ 1 (pc' := 10) (ls' := [some (qR 1000)]) (st' := [qI (q_shr 10 0)]) rfl ?_
  exact qJ.iret hκ rfl rfl (by decide) (by decide) (⟨congrArg (fun z => some (qI z)) (show q_shr 10 0 = 10 by decide +kernel), rfl⟩)

set_option maxRecDepth 100000 in
theorem c_slen1 (u : qU) (m y : qM)  : qCt YJ0_length_8abf5 2 0 0 [qR 1001] (qLy u, m, y) (fun r h => r = some (qI 4) ∧ h = (qLy u, m, y)) := by
  refine qCt.intro okJ0_length_8abf5 (Nat.le_of_ble_eq_true rfl) (fun κ hκ => ?_)
  show qJ YJ0_length_8abf5 κ _ (qLy u, m, y) 0 0 0 [some (qR 1001)] []
  refine qJ.run hκ 1 (pc' := 1) (ls' := [some (qR 1001)]) (st' := [qR 1001]) rfl ?_
  refine qJ.getSV (i := 1) hκ rfl (qT_t8 132 rfl rfl) (by decide) ?_
  show qJ YJ0_length_8abf5 κ _ (qLy u, m, y) 0 0 4 [some (qR 1001)] [qR 1101]
  refine qJ.lenS (i := 1) hκ rfl (by decide) ?_
  show qJ YJ0_length_8abf5 κ _ (qLy u, m, y) 0 0 5 [some (qR 1001)] [qI 4]
  refine qJ.run hκ 1 (pc' := 6) (ls' := [some (qR 1001)]) (st' := [qR 1001, qI 4]) rfl ?_
  refine qJ.callVS (i := 1) (As := []) (rest := [qI 4]) hκ rfl kJ0_335 (c_coder1 u m y) (by decide) rfl (by decide) rfl rfl (Nat.le_of_ble_eq_true rfl) (Nat.le_of_ble_eq_true rfl) (Nat.le_of_ble_eq_true rfl) (Or.inl (fun r h' e => by obtain ⟨rfl, rfl⟩ := e; rfl)) (fun r h' e => ?_)
  obtain ⟨rfl, rfl⟩ := e
  show qJ YJ0_length_8abf5 κ _ (qLy u, m, y) 0 0 9 [some (qR 1001)] [qI 0, qI 4]
  refine qJ.run hκ 1 (pc' := 10) (ls' := [some (qR 1001)]) (st' := [qI (q_shr 4 0)]) rfl ?_
  exact qJ.iret hκ rfl rfl (by decide) (by decide) (⟨congrArg (fun z => some (qI z)) (show q_shr 4 0 = 4 by decide +kernel), rfl⟩)

set_option maxRecDepth 100000 in
theorem c_slen2 (u : qU) (m y : qM)  : qCt YJ0_length_8abf5 2 0 0 [qR 1002] (qLy u, m, y) (fun r h => r = some (qI 7) ∧ h = (qLy u, m, y)) := by
  refine qCt.intro okJ0_length_8abf5 (Nat.le_of_ble_eq_true rfl) (fun κ hκ => ?_)
  show qJ YJ0_length_8abf5 κ _ (qLy u, m, y) 0 0 0 [some (qR 1002)] []
  refine qJ.run hκ 1 (pc' := 1) (ls' := [some (qR 1002)]) (st' := [qR 1002]) rfl ?_
  refine qJ.getSV (i := 2) hκ rfl (qT_t8 132 rfl rfl) (by decide) ?_
  show qJ YJ0_length_8abf5 κ _ (qLy u, m, y) 0 0 4 [some (qR 1002)] [qR 1102]
  refine qJ.lenS (i := 2) hκ rfl (by decide) ?_
  show qJ YJ0_length_8abf5 κ _ (qLy u, m, y) 0 0 5 [some (qR 1002)] [qI 7]
  refine qJ.run hκ 1 (pc' := 6) (ls' := [some (qR 1002)]) (st' := [qR 1002, qI 7]) rfl ?_
  refine qJ.callVS (i := 2) (As := []) (rest := [qI 7]) hκ rfl kJ0_335 (c_coder2 u m y) (by decide) rfl (by decide) rfl rfl (Nat.le_of_ble_eq_true rfl) (Nat.le_of_ble_eq_true rfl) (Nat.le_of_ble_eq_true rfl) (Or.inl (fun r h' e => by obtain ⟨rfl, rfl⟩ := e; rfl)) (fun r h' e => ?_)
  obtain ⟨rfl, rfl⟩ := e
  show qJ YJ0_length_8abf5 κ _ (qLy u, m, y) 0 0 9 [some (qR 1002)] [qI 0, qI 7]
  refine qJ.run hκ 1 (pc' := 10) (ls' := [some (qR 1002)]) (st' := [qI (q_shr 7 0)]) rfl ?_
  exact qJ.iret hκ rfl rfl (by decide) (by decide) (⟨congrArg (fun z => some (qI z)) (show q_shr 7 0 = 7 by decide +kernel), rfl⟩)

set_option maxRecDepth 100000 in
theorem c_slen3 (u : qU) (m y : qM)  : qCt YJ0_length_8abf5 2 0 0 [qR 1003] (qLy u, m, y) (fun r h => r = some (qI 3) ∧ h = (qLy u, m, y)) := by
  refine qCt.intro okJ0_length_8abf5 (Nat.le_of_ble_eq_true rfl) (fun κ hκ => ?_)
  show qJ YJ0_length_8abf5 κ _ (qLy u, m, y) 0 0 0 [some (qR 1003)] []
  refine qJ.run hκ 1 (pc' := 1) (ls' := [some (qR 1003)]) (st' := [qR 1003]) rfl ?_
  refine qJ.getSV (i := 3) hκ rfl (qT_t8 132 rfl rfl) (by decide) ?_
  show qJ YJ0_length_8abf5 κ _ (qLy u, m, y) 0 0 4 [some (qR 1003)] [qR 1103]
  refine qJ.lenS (i := 3) hκ rfl (by decide) ?_
  show qJ YJ0_length_8abf5 κ _ (qLy u, m, y) 0 0 5 [some (qR 1003)] [qI 3]
  refine qJ.run hκ 1 (pc' := 6) (ls' := [some (qR 1003)]) (st' := [qR 1003, qI 3]) rfl ?_
  refine qJ.callVS (i := 3) (As := []) (rest := [qI 3]) hκ rfl kJ0_335 (c_coder3 u m y) (by decide) rfl (by decide) rfl rfl (Nat.le_of_ble_eq_true rfl) (Nat.le_of_ble_eq_true rfl) (Nat.le_of_ble_eq_true rfl) (Or.inl (fun r h' e => by obtain ⟨rfl, rfl⟩ := e; rfl)) (fun r h' e => ?_)
  obtain ⟨rfl, rfl⟩ := e
  show qJ YJ0_length_8abf5 κ _ (qLy u, m, y) 0 0 9 [some (qR 1003)] [qI 0, qI 3]
  refine qJ.run hκ 1 (pc' := 10) (ls' := [some (qR 1003)]) (st' := [qI (q_shr 3 0)]) rfl ?_
  exact qJ.iret hκ rfl rfl (by decide) (by decide) (⟨congrArg (fun z => some (qI z)) (show q_shr 3 0 = 3 by decide +kernel), rfl⟩)

set_option maxRecDepth 100000 in
theorem c_slen4 (u : qU) (m y : qM)  : qCt YJ0_length_8abf5 2 0 0 [qR 1004] (qLy u, m, y) (fun r h => r = some (qI 4) ∧ h = (qLy u, m, y)) := by
  refine qCt.intro okJ0_length_8abf5 (Nat.le_of_ble_eq_true rfl) (fun κ hκ => ?_)
  show qJ YJ0_length_8abf5 κ _ (qLy u, m, y) 0 0 0 [some (qR 1004)] []
  refine qJ.run hκ 1 (pc' := 1) (ls' := [some (qR 1004)]) (st' := [qR 1004]) rfl ?_
  refine qJ.getSV (i := 4) hκ rfl (qT_t8 132 rfl rfl) (by decide) ?_
  show qJ YJ0_length_8abf5 κ _ (qLy u, m, y) 0 0 4 [some (qR 1004)] [qR 1104]
  refine qJ.lenS (i := 4) hκ rfl (by decide) ?_
  show qJ YJ0_length_8abf5 κ _ (qLy u, m, y) 0 0 5 [some (qR 1004)] [qI 4]
  refine qJ.run hκ 1 (pc' := 6) (ls' := [some (qR 1004)]) (st' := [qR 1004, qI 4]) rfl ?_
  refine qJ.callVS (i := 4) (As := []) (rest := [qI 4]) hκ rfl kJ0_335 (c_coder4 u m y) (by decide) rfl (by decide) rfl rfl (Nat.le_of_ble_eq_true rfl) (Nat.le_of_ble_eq_true rfl) (Nat.le_of_ble_eq_true rfl) (Or.inl (fun r h' e => by obtain ⟨rfl, rfl⟩ := e; rfl)) (fun r h' e => ?_)
  obtain ⟨rfl, rfl⟩ := e
  show qJ YJ0_length_8abf5 κ _ (qLy u, m, y) 0 0 9 [some (qR 1004)] [qI 0, qI 4]
  refine qJ.run hκ 1 (pc' := 10) (ls' := [some (qR 1004)]) (st' := [qI (q_shr 4 0)]) rfl ?_
  exact qJ.iret hκ rfl rfl (by decide) (by decide) (⟨congrArg (fun z => some (qI z)) (show q_shr 4 0 = 4 by decide +kernel), rfl⟩)

set_option maxRecDepth 100000 in
theorem c_slen5 (u : qU) (m y : qM)  : qCt YJ0_length_8abf5 2 0 0 [qR 1005] (qLy u, m, y) (fun r h => r = some (qI 4) ∧ h = (qLy u, m, y)) := by
  refine qCt.intro okJ0_length_8abf5 (Nat.le_of_ble_eq_true rfl) (fun κ hκ => ?_)
  show qJ YJ0_length_8abf5 κ _ (qLy u, m, y) 0 0 0 [some (qR 1005)] []
  refine qJ.run hκ 1 (pc' := 1) (ls' := [some (qR 1005)]) (st' := [qR 1005]) rfl ?_
  refine qJ.getSV (i := 5) hκ rfl (qT_t8 132 rfl rfl) (by decide) ?_
  show qJ YJ0_length_8abf5 κ _ (qLy u, m, y) 0 0 4 [some (qR 1005)] [qR 1105]
  refine qJ.lenS (i := 5) hκ rfl (by decide) ?_
  show qJ YJ0_length_8abf5 κ _ (qLy u, m, y) 0 0 5 [some (qR 1005)] [qI 4]
  refine qJ.run hκ 1 (pc' := 6) (ls' := [some (qR 1005)]) (st' := [qR 1005, qI 4]) rfl ?_
  refine qJ.callVS (i := 5) (As := []) (rest := [qI 4]) hκ rfl kJ0_335 (c_coder5 u m y) (by decide) rfl (by decide) rfl rfl (Nat.le_of_ble_eq_true rfl) (Nat.le_of_ble_eq_true rfl) (Nat.le_of_ble_eq_true rfl) (Or.inl (fun r h' e => by obtain ⟨rfl, rfl⟩ := e; rfl)) (fun r h' e => ?_)
  obtain ⟨rfl, rfl⟩ := e
  show qJ YJ0_length_8abf5 κ _ (qLy u, m, y) 0 0 9 [some (qR 1005)] [qI 0, qI 4]
  refine qJ.run hκ 1 (pc' := 10) (ls' := [some (qR 1005)]) (st' := [qI (q_shr 4 0)]) rfl ?_
  exact qJ.iret hκ rfl rfl (by decide) (by decide) (⟨congrArg (fun z => some (qI z)) (show q_shr 4 0 = 4 by decide +kernel), rfl⟩)

set_option maxRecDepth 100000 in
theorem c_slen6 (u : qU) (m y : qM)  : qCt YJ0_length_8abf5 2 0 0 [qR 1006] (qLy u, m, y) (fun r h => r = some (qI 4) ∧ h = (qLy u, m, y)) := by
  refine qCt.intro okJ0_length_8abf5 (Nat.le_of_ble_eq_true rfl) (fun κ hκ => ?_)
  show qJ YJ0_length_8abf5 κ _ (qLy u, m, y) 0 0 0 [some (qR 1006)] []
  refine qJ.run hκ 1 (pc' := 1) (ls' := [some (qR 1006)]) (st' := [qR 1006]) rfl ?_
  refine qJ.getSV (i := 6) hκ rfl (qT_t8 132 rfl rfl) (by decide) ?_
  show qJ YJ0_length_8abf5 κ _ (qLy u, m, y) 0 0 4 [some (qR 1006)] [qR 1106]
  refine qJ.lenS (i := 6) hκ rfl (by decide) ?_
  show qJ YJ0_length_8abf5 κ _ (qLy u, m, y) 0 0 5 [some (qR 1006)] [qI 4]
  refine qJ.run hκ 1 (pc' := 6) (ls' := [some (qR 1006)]) (st' := [qR 1006, qI 4]) rfl ?_
  refine qJ.callVS (i := 6) (As := []) (rest := [qI 4]) hκ rfl kJ0_335 (c_coder6 u m y) (by decide) rfl (by decide) rfl rfl (Nat.le_of_ble_eq_true rfl) (Nat.le_of_ble_eq_true rfl) (Nat.le_of_ble_eq_true rfl) (Or.inl (fun r h' e => by obtain ⟨rfl, rfl⟩ := e; rfl)) (fun r h' e => ?_)
  obtain ⟨rfl, rfl⟩ := e
  show qJ YJ0_length_8abf5 κ _ (qLy u, m, y) 0 0 9 [some (qR 1006)] [qI 0, qI 4]
  refine qJ.run hκ 1 (pc' := 10) (ls' := [some (qR 1006)]) (st' := [qI (q_shr 4 0)]) rfl ?_
  exact qJ.iret hκ rfl rfl (by decide) (by decide) (⟨congrArg (fun z => some (qI z)) (show q_shr 4 0 = 4 by decide +kernel), rfl⟩)

set_option maxRecDepth 100000 in
theorem c_slen7 (u : qU) (m y : qM)  : qCt YJ0_length_8abf5 2 0 0 [qR 1007] (qLy u, m, y) (fun r h => r = some (qI 2) ∧ h = (qLy u, m, y)) := by
  refine qCt.intro okJ0_length_8abf5 (Nat.le_of_ble_eq_true rfl) (fun κ hκ => ?_)
  show qJ YJ0_length_8abf5 κ _ (qLy u, m, y) 0 0 0 [some (qR 1007)] []
  refine qJ.run hκ 1 (pc' := 1) (ls' := [some (qR 1007)]) (st' := [qR 1007]) rfl ?_
  refine qJ.getSV (i := 7) hκ rfl (qT_t8 132 rfl rfl) (by decide) ?_
  show qJ YJ0_length_8abf5 κ _ (qLy u, m, y) 0 0 4 [some (qR 1007)] [qR 1107]
  refine qJ.lenS (i := 7) hκ rfl (by decide) ?_
  show qJ YJ0_length_8abf5 κ _ (qLy u, m, y) 0 0 5 [some (qR 1007)] [qI 2]
  refine qJ.run hκ 1 (pc' := 6) (ls' := [some (qR 1007)]) (st' := [qR 1007, qI 2]) rfl ?_
  refine qJ.callVS (i := 7) (As := []) (rest := [qI 2]) hκ rfl kJ0_335 (c_coder7 u m y) (by decide) rfl (by decide) rfl rfl (Nat.le_of_ble_eq_true rfl) (Nat.le_of_ble_eq_true rfl) (Nat.le_of_ble_eq_true rfl) (Or.inl (fun r h' e => by obtain ⟨rfl, rfl⟩ := e; rfl)) (fun r h' e => ?_)
  obtain ⟨rfl, rfl⟩ := e
  show qJ YJ0_length_8abf5 κ _ (qLy u, m, y) 0 0 9 [some (qR 1007)] [qI 0, qI 2]
  refine qJ.run hκ 1 (pc' := 10) (ls' := [some (qR 1007)]) (st' := [qI (q_shr 2 0)]) rfl ?_
  exact qJ.iret hκ rfl rfl (by decide) (by decide) (⟨congrArg (fun z => some (qI z)) (show q_shr 2 0 = 2 by decide +kernel), rfl⟩)

set_option maxRecDepth 100000 in
theorem c_canEncode (u : qU) (m y : qM) (c : Int) (h0 : 0 ≤ c ∧ c ≤ 255) : qCt YJ1_canEncode_9a6ad 1 0 0 [qI c] (qLy u, m, y) (fun r h => r = some (qI 1) ∧ h = (qLy u, m, y)) := by
  refine qCt.intro okJ1_canEncode_9a6ad (Nat.le_of_ble_eq_true rfl) (fun κ hκ => ?_)
  show qJ YJ1_canEncode_9a6ad κ _ (qLy u, m, y) 0 0 0 [some (qI c)] []
  refine qJ.run hκ 1 (pc' := 1) (ls' := [some (qI c)]) (st' := [qI c]) rfl ?_
  refine qJ.if_lt hκ (tgt := 15) rfl rfl (by omega) (fun c1 => ?_) (fun c1 => ?_)
  · show qJ YJ1_canEncode_9a6ad κ _ (qLy u, m, y) 0 0 15 [some (qI c)] []
    refine qJ.run hκ 1 (pc' := 16) (ls' := [some (qI c)]) (st' := [qI 0]) rfl ?_
    exact qJ.bret hκ rfl rfl (by omega) (by decide) (by decide) (by first | exact ⟨rfl, rfl⟩ | (exfalso; omega))
  · show qJ YJ1_canEncode_9a6ad κ _ (qLy u, m, y) 0 0 4 [some (qI c)] []
    refine qJ.run hκ 2 (pc' := 8) (ls' := [some (qI c)]) (st' := [qI 255, qI c]) rfl ?_
    refine qJ.icmp_gt hκ (tgt := 15) rfl rfl (by omega) (by omega) (fun c8 => ?_) (fun c8 => ?_)
    · show qJ YJ1_canEncode_9a6ad κ _ (qLy u, m, y) 0 0 15 [some (qI c)] []
      refine qJ.run hκ 1 (pc' := 16) (ls' := [some (qI c)]) (st' := [qI 0]) rfl ?_
      exact qJ.bret hκ rfl rfl (by omega) (by decide) (by decide) (by first | exact ⟨rfl, rfl⟩ | (exfalso; omega))
    · show qJ YJ1_canEncode_9a6ad κ _ (qLy u, m, y) 0 0 11 [some (qI c)] []
      refine qJ.run hκ 2 (pc' := 16) (ls' := [some (qI c)]) (st' := [qI 1]) rfl ?_
      exact qJ.bret hκ rfl rfl (by omega) (by decide) (by decide) (by first | exact ⟨rfl, rfl⟩ | (exfalso; omega))

set_option maxRecDepth 100000 in
theorem c_indexOfChar (u : qU) (m y : qM) (c : Int)  : qCt YJ1_indexOfChar_4cfef 1 0 0 [qR 1100, qI c, qI 0, qI 10] (qLy u, m, y) (fun r h => r = some (qI (q_fst (fun j => qB 0 j = q_i2b c) 10)) ∧ h = (qLy u, m, y)) := by
  refine qCt.intro okJ1_indexOfChar_4cfef (Nat.le_of_ble_eq_true rfl) (fun κ hκ => ?_)
  have L7 : ∀ (n : Nat) (i : Int), (0 ≤ i) → (i ≤ 10) → (q_fst (fun j => qB 0 j = q_i2b c) i.toNat = -1) → ((10 - i).toNat) < n → qJ YJ1_indexOfChar_4cfef κ (qFin (fun r h => r = some (qI (q_fst (fun j => qB 0 j = q_i2b c) 10)) ∧ h = (qLy u, m, y)) 0 0 κ) (qLy u, m, y) 0 0 7 [some (qR 1100), some (qI c), some (qI 0), some (qI 10), some (qI (q_i2b c)), some (qI i)] [] := by
    intro n
    induction n with
    | zero => intro i _ _ _ hz0; omega
    | succ n ih7 =>
      intro i v7_0 v7_1 v7_2 v7_m
      refine qJ.run hκ 2 (pc' := 10) (ls' := [some (qR 1100), some (qI c), some (qI 0), some (qI 10), some (qI (q_i2b c)), some (qI i)]) (st' := [qI 10, qI i]) rfl ?_
      refine qJ.icmp_ge hκ (tgt := 31) rfl rfl (by omega) (by omega) (fun c10 => ?_) (fun c10 => ?_)
      · show qJ YJ1_indexOfChar_4cfef κ _ (qLy u, m, y) 0 0 31 [some (qR 1100), some (qI c), some (qI 0), some (qI 10), some (qI (q_i2b c)), some (qI i)] []
        refine qJ.run hκ 1 (pc' := 32) (ls' := [some (qR 1100), some (qI c), some (qI 0), some (qI 10), some (qI (q_i2b c)), some (qI i)]) (st' := [qI (-1)]) rfl ?_
        exact qJ.iret hκ rfl rfl (by decide) (by decide) (by refine ⟨?_, rfl⟩; rw [show i = 10 by omega] at v7_2; rw [← v7_2]; rfl)
      · show qJ YJ1_indexOfChar_4cfef κ _ (qLy u, m, y) 0 0 13 [some (qR 1100), some (qI c), some (qI 0), some (qI 10), some (qI (q_i2b c)), some (qI i)] []
        refine qJ.run hκ 2 (pc' := 16) (ls' := [some (qR 1100), some (qI c), some (qI 0), some (qI 10), some (qI (q_i2b c)), some (qI i)]) (st' := [qI i, qR 1100]) rfl ?_
        refine qJ.aldS (i := 0) hκ rfl (by decide) (show 0 ≤ i ∧ i < 10 from by omega) (by decide) ?_
        show qJ YJ1_indexOfChar_4cfef κ _ (qLy u, m, y) 0 0 17 [some (qR 1100), some (qI c), some (qI 0), some (qI 10), some (qI (q_i2b c)), some (qI i)] [qI (qB 0 i.toNat)]
        refine qJ.run hκ 1 (pc' := 19) (ls' := [some (qR 1100), some (qI c), some (qI 0), some (qI 10), some (qI (q_i2b c)), some (qI i)]) (st' := [qI (q_i2b c), qI (qB 0 i.toNat)]) rfl ?_
        have q1 := qB_r (i := 0) (k := i.toNat) (by omega) (by omega)
        have q2 := q_i2b_r c
        refine qJ.icmp_ne hκ (tgt := 25) rfl rfl (by omega) (by omega) (fun c19 => ?_) (fun c19 => ?_)
        · show qJ YJ1_indexOfChar_4cfef κ _ (qLy u, m, y) 0 0 25 [some (qR 1100), some (qI c), some (qI 0), some (qI 10), some (qI (q_i2b c)), some (qI i)] []
          refine qJ.run hκ 2 (pc' := 7) (ls' := [some (qR 1100), some (qI c), some (qI 0), some (qI 10), some (qI (q_i2b c)), some (qI (i + 1))]) (st' := []) rfl ?_
          exact ih7  (i + 1) (by omega) (by omega) (q_fst_no v7_0 v7_2 (fun z => c19 z)) (by omega)
        · show qJ YJ1_indexOfChar_4cfef κ _ (qLy u, m, y) 0 0 22 [some (qR 1100), some (qI c), some (qI 0), some (qI 10), some (qI (q_i2b c)), some (qI i)] []
          refine qJ.run hκ 1 (pc' := 24) (ls' := [some (qR 1100), some (qI c), some (qI 0), some (qI 10), some (qI (q_i2b c)), some (qI i)]) (st' := [qI i]) rfl ?_
          exact qJ.iret hκ rfl rfl (by decide) (by decide) (by refine ⟨?_, rfl⟩; rw [q_fst_hit v7_0 v7_2 c19 10 (by omega)])
  show qJ YJ1_indexOfChar_4cfef κ _ (qLy u, m, y) 0 0 0 [some (qR 1100), some (qI c), some (qI 0), some (qI 10), none, none] []
  refine qJ.run hκ 5 (pc' := 7) (ls' := [some (qR 1100), some (qI c), some (qI 0), some (qI 10), some (qI (q_i2b c)), some (qI 0)]) (st' := []) rfl ?_
  exact L7 11 0 (by omega) (by omega) (rfl) (by omega)

set_option maxRecDepth 100000 in
theorem c_l1indexOf (u : qU) (m y : qM) (c : Int) (h0 : 0 ≤ c ∧ c ≤ 255) : qCt YJ1_indexOf_4cfef 2 0 0 [qR 1100, qI c, qI 0, qI 10] (qLy u, m, y) (fun r h => r = some (qI (lcode c)) ∧ h = (qLy u, m, y)) := by
  refine qCt.intro okJ1_indexOf_4cfef (Nat.le_of_ble_eq_true rfl) (fun κ hκ => ?_)
  show qJ YJ1_indexOf_4cfef κ _ (qLy u, m, y) 0 0 0 [some (qR 1100), some (qI c), some (qI 0), some (qI 10)] []
  refine qJ.run hκ 1 (pc' := 1) (ls' := [some (qR 1100), some (qI c), some (qI 0), some (qI 10)]) (st' := [qI c]) rfl ?_
  refine qJ.callS (As := [qI c]) (rest := []) hκ rfl kJ1_88 (c_canEncode u m y c h0) (by decide) rfl rfl (Nat.le_of_ble_eq_true rfl) (Nat.le_of_ble_eq_true rfl) (Nat.le_of_ble_eq_true rfl) (Or.inl (fun r h' e => by obtain ⟨rfl, rfl⟩ := e; rfl)) (fun r h' e => ?_)
  obtain ⟨rfl, rfl⟩ := e
  show qJ YJ1_indexOf_4cfef κ _ (qLy u, m, y) 0 0 4 [some (qR 1100), some (qI c), some (qI 0), some (qI 10)] [qI 1]
  refine qJ.if_ne hκ (tgt := 9) rfl rfl (by omega) (fun c4 => ?_) (fun c4 => ?_)
  · show qJ YJ1_indexOf_4cfef κ _ (qLy u, m, y) 0 0 9 [some (qR 1100), some (qI c), some (qI 0), some (qI 10)] []
    refine qJ.run hκ 2 (pc' := 11) (ls' := [some (qR 1100), some (qI c), some (qI 0), some (qI 10)]) (st' := [qI 0, qI 0]) rfl ?_
    refine qJ.max hκ rfl kJ1_92 (Nat.le_of_ble_eq_true rfl) (Nat.le_of_ble_eq_true rfl) (Nat.le_of_ble_eq_true rfl) (Nat.le_of_ble_eq_true rfl) (by omega) (by omega) ?_
    show qJ YJ1_indexOf_4cfef κ _ (qLy u, m, y) 0 0 14 [some (qR 1100), some (qI c), some (qI 0), some (qI 10)] [qI 0]
    refine qJ.run hκ 3 (pc' := 17) (ls' := [some (qR 1100), some (qI c), some (qI 0), some (qI 10)]) (st' := [qR 1100, qI 10]) rfl ?_
    refine qJ.lenS (i := 0) hκ rfl (by decide) ?_
    show qJ YJ1_indexOf_4cfef κ _ (qLy u, m, y) 0 0 18 [some (qR 1100), some (qI c), some (qI 0), some (qI 10)] [qI 10, qI 10]
    refine qJ.min hκ rfl kJ1_38 (Nat.le_of_ble_eq_true rfl) (Nat.le_of_ble_eq_true rfl) (Nat.le_of_ble_eq_true rfl) (Nat.le_of_ble_eq_true rfl) (by omega) (by omega) ?_
    show qJ YJ1_indexOf_4cfef κ _ (qLy u, m, y) 0 0 21 [some (qR 1100), some (qI c), some (qI 0), some (qI 10)] [qI 10]
    refine qJ.run hκ 3 (pc' := 24) (ls' := [some (qR 1100), some (qI c), some (qI 0), some (qI 10)]) (st' := [qI 10, qI 0]) rfl ?_
    refine qJ.icmp_lt hκ (tgt := 29) rfl rfl (by omega) (by omega) (fun c24 => ?_) (fun c24 => ?_)
    · show qJ YJ1_indexOf_4cfef κ _ (qLy u, m, y) 0 0 29 [some (qR 1100), some (qI c), some (qI 0), some (qI 10)] []
      refine qJ.run hκ 4 (pc' := 33) (ls' := [some (qR 1100), some (qI c), some (qI 0), some (qI 10)]) (st' := [qI 10, qI 0, qI c, qR 1100]) rfl ?_
      refine qJ.callS (As := [qR 1100, qI c, qI 0, qI 10]) (rest := []) hκ rfl kJ1_95 (c_indexOfChar u m y c) (by decide) rfl rfl (Nat.le_of_ble_eq_true rfl) (Nat.le_of_ble_eq_true rfl) (Nat.le_of_ble_eq_true rfl) (Or.inl (fun r h' e => by obtain ⟨rfl, rfl⟩ := e; rfl)) (fun r h' e => ?_)
      obtain ⟨rfl, rfl⟩ := e
      show qJ YJ1_indexOf_4cfef κ _ (qLy u, m, y) 0 0 36 [some (qR 1100), some (qI c), some (qI 0), some (qI 10)] [qI (q_fst (fun j => qB 0 j = q_i2b c) 10)]
      exact qJ.iret hκ rfl rfl (by decide) (by decide) (⟨by rw [lcode_i h0], rfl⟩)
    · exact absurd c24 (by decide)
  · exact absurd c4 (by decide)

set_option maxRecDepth 100000 in
theorem c_indexOf2 (u : qU) (m y : qM) (c : Int) (h0 : 0 ≤ c ∧ c ≤ 255) : qCt YJ0_indexOf_7cf53 3 0 0 [qR 1000, qI c, qI 0] (qLy u, m, y) (fun r h => r = some (qI (lcode c)) ∧ h = (qLy u, m, y)) := by
  refine qCt.intro okJ0_indexOf_7cf53 (Nat.le_of_ble_eq_true rfl) (fun κ hκ => ?_)
  show qJ YJ0_indexOf_7cf53 κ _ (qLy u, m, y) 0 0 0 [some (qR 1000), some (qI c), some (qI 0)] []
  refine qJ.run hκ 1 (pc' := 1) (ls' := [some (qR 1000), some (qI c), some (qI 0)]) (st' := [qR 1000]) rfl ?_
  refine qJ.callVS (i := 0) (As := []) (rest := []) hκ rfl kJ0_492 (c_isLatin1_0 u m y) (by decide) rfl (by decide) rfl rfl (Nat.le_of_ble_eq_true rfl) (Nat.le_of_ble_eq_true rfl) (Nat.le_of_ble_eq_true rfl) (Or.inl (fun r h' e => by obtain ⟨rfl, rfl⟩ := e; rfl)) (fun r h' e => ?_)
  obtain ⟨rfl, rfl⟩ := e
  show qJ YJ0_indexOf_7cf53 κ _ (qLy u, m, y) 0 0 4 [some (qR 1000), some (qI c), some (qI 0)] [qI 1]
  refine qJ.if_eq hκ (tgt := 23) rfl rfl (by omega) (fun c4 => ?_) (fun c4 => ?_)
  · exact absurd c4 (by decide)
  · show qJ YJ0_indexOf_7cf53 κ _ (qLy u, m, y) 0 0 7 [some (qR 1000), some (qI c), some (qI 0)] []
    refine qJ.run hκ 1 (pc' := 8) (ls' := [some (qR 1000), some (qI c), some (qI 0)]) (st' := [qR 1000]) rfl ?_
    refine qJ.getSV (i := 0) hκ rfl (qT_t8 132 rfl rfl) (by decide) ?_
    show qJ YJ0_indexOf_7cf53 κ _ (qLy u, m, y) 0 0 11 [some (qR 1000), some (qI c), some (qI 0)] [qR 1100]
    refine qJ.run hκ 3 (pc' := 14) (ls' := [some (qR 1000), some (qI c), some (qI 0)]) (st' := [qR 1000, qI 0, qI c, qR 1100]) rfl ?_
    refine qJ.callVS (i := 0) (As := []) (rest := [qI 0, qI c, qR 1100]) hκ rfl kJ0_505 (c_slen0 u m y) (by decide) rfl (by decide) rfl rfl (Nat.le_of_ble_eq_true rfl) (Nat.le_of_ble_eq_true rfl) (Nat.le_of_ble_eq_true rfl) (Or.inl (fun r h' e => by obtain ⟨rfl, rfl⟩ := e; rfl)) (fun r h' e => ?_)
    obtain ⟨rfl, rfl⟩ := e
    show qJ YJ0_indexOf_7cf53 κ _ (qLy u, m, y) 0 0 17 [some (qR 1000), some (qI c), some (qI 0)] [qI 10, qI 0, qI c, qR 1100]
    refine qJ.callS (As := [qR 1100, qI c, qI 0, qI 10]) (rest := []) hκ rfl kJ0_637 (c_l1indexOf u m y c h0) (by decide) rfl rfl (Nat.le_of_ble_eq_true rfl) (Nat.le_of_ble_eq_true rfl) (Nat.le_of_ble_eq_true rfl) (Or.inl (fun r h' e => by obtain ⟨rfl, rfl⟩ := e; rfl)) (fun r h' e => ?_)
    obtain ⟨rfl, rfl⟩ := e
    show qJ YJ0_indexOf_7cf53 κ _ (qLy u, m, y) 0 0 20 [some (qR 1000), some (qI c), some (qI 0)] [qI (lcode c)]
    refine qJ.run hκ 1 (pc' := 36) (ls' := [some (qR 1000), some (qI c), some (qI 0)]) (st' := [qI (lcode c)]) rfl ?_
    exact qJ.iret hκ rfl rfl (by decide) (by decide) (by first | exact ⟨rfl, rfl⟩ | (refine ⟨?_, rfl⟩; first | rfl | omega))

set_option maxRecDepth 100000 in
theorem c_indexOf (u : qU) (m y : qM) (c : Int) (h0 : 0 ≤ c ∧ c ≤ 255) : qCt YJ0_indexOf_0f7a4 4 0 0 [qR 1000, qI c] (qLy u, m, y) (fun r h => r = some (qI (lcode c)) ∧ h = (qLy u, m, y)) := by
  refine qCt.intro okJ0_indexOf_0f7a4 (Nat.le_of_ble_eq_true rfl) (fun κ hκ => ?_)
  show qJ YJ0_indexOf_0f7a4 κ _ (qLy u, m, y) 0 0 0 [some (qR 1000), some (qI c)] []
  refine qJ.run hκ 3 (pc' := 3) (ls' := [some (qR 1000), some (qI c)]) (st' := [qI 0, qI c, qR 1000]) rfl ?_
  refine qJ.callVS (i := 0) (As := [qI c, qI 0]) (rest := []) hκ rfl kJ0_633 (c_indexOf2 u m y c h0) (by decide) rfl (by decide) rfl rfl (Nat.le_of_ble_eq_true rfl) (Nat.le_of_ble_eq_true rfl) (Nat.le_of_ble_eq_true rfl) (Or.inl (fun r h' e => by obtain ⟨rfl, rfl⟩ := e; rfl)) (fun r h' e => ?_)
  obtain ⟨rfl, rfl⟩ := e
  show qJ YJ0_indexOf_0f7a4 κ _ (qLy u, m, y) 0 0 6 [some (qR 1000), some (qI c)] [qI (lcode c)]
  exact qJ.iret hκ rfl rfl (by decide) (by decide) (by first | exact ⟨rfl, rfl⟩ | (refine ⟨?_, rfl⟩; first | rfl | omega))

set_option maxRecDepth 100000 in
theorem c_preCheckN (u : qU) (m y : qM) (k len : Int) (h0 : 0 ≤ k ∧ k < len) (h1 : len ≤ 10) : qCt YJ3_checkIndex_8e157 1 0 0 [qI k, qI len, qN] (qLy u, m, y) (fun r h => r = some (qI k) ∧ h = (qLy u, m, y)) := by
  refine qCt.intro okJ3_checkIndex_8e157 (Nat.le_of_ble_eq_true rfl) (fun κ hκ => ?_)
  show qJ YJ3_checkIndex_8e157 κ _ (qLy u, m, y) 0 0 0 [some (qI k), some (qI len), some (qN)] []
  refine qJ.run hκ 1 (pc' := 1) (ls' := [some (qI k), some (qI len), some (qN)]) (st' := [qI k]) rfl ?_
  refine qJ.if_lt hκ (tgt := 9) rfl rfl (by omega) (fun c1 => ?_) (fun c1 => ?_)
  · show qJ YJ3_checkIndex_8e157 κ _ (qLy u, m, y) 0 0 9 [some (qI k), some (qI len), some (qN)] []
    exfalso; omega
  · show qJ YJ3_checkIndex_8e157 κ _ (qLy u, m, y) 0 0 4 [some (qI k), some (qI len), some (qN)] []
    refine qJ.run hκ 2 (pc' := 6) (ls' := [some (qI k), some (qI len), some (qN)]) (st' := [qI len, qI k]) rfl ?_
    refine qJ.icmp_lt hκ (tgt := 16) rfl rfl (by omega) (by omega) (fun c6 => ?_) (fun c6 => ?_)
    · show qJ YJ3_checkIndex_8e157 κ _ (qLy u, m, y) 0 0 16 [some (qI k), some (qI len), some (qN)] []
      refine qJ.run hκ 1 (pc' := 17) (ls' := [some (qI k), some (qI len), some (qN)]) (st' := [qI k]) rfl ?_
      exact qJ.iret hκ rfl rfl (by decide) (by decide) (by first | exact ⟨rfl, rfl⟩ | (refine ⟨?_, rfl⟩; first | rfl | omega))
    · show qJ YJ3_checkIndex_8e157 κ _ (qLy u, m, y) 0 0 9 [some (qI k), some (qI len), some (qN)] []
      exfalso; omega

set_option maxRecDepth 100000 in
theorem c_preCheckR (u : qU) (m y : qM) (k len : Int) (h0 : 0 ≤ k ∧ k < len) (h1 : len ≤ 10) : qCt YJ3_checkIndex_8e157 1 0 0 [qI k, qI len, qR 1200] (qLy u, m, y) (fun r h => r = some (qI k) ∧ h = (qLy u, m, y)) := by
  refine qCt.intro okJ3_checkIndex_8e157 (Nat.le_of_ble_eq_true rfl) (fun κ hκ => ?_)
  show qJ YJ3_checkIndex_8e157 κ _ (qLy u, m, y) 0 0 0 [some (qI k), some (qI len), some (qR 1200)] []
  refine qJ.run hκ 1 (pc' := 1) (ls' := [some (qI k), some (qI len), some (qR 1200)]) (st' := [qI k]) rfl ?_
  refine qJ.if_lt hκ (tgt := 9) rfl rfl (by omega) (fun c1 => ?_) (fun c1 => ?_)
  · show qJ YJ3_checkIndex_8e157 κ _ (qLy u, m, y) 0 0 9 [some (qI k), some (qI len), some (qR 1200)] []
    exfalso; omega
  · show qJ YJ3_checkIndex_8e157 κ _ (qLy u, m, y) 0 0 4 [some (qI k), some (qI len), some (qR 1200)] []
    refine qJ.run hκ 2 (pc' := 6) (ls' := [some (qI k), some (qI len), some (qR 1200)]) (st' := [qI len, qI k]) rfl ?_
    refine qJ.icmp_lt hκ (tgt := 16) rfl rfl (by omega) (by omega) (fun c6 => ?_) (fun c6 => ?_)
    · show qJ YJ3_checkIndex_8e157 κ _ (qLy u, m, y) 0 0 16 [some (qI k), some (qI len), some (qR 1200)] []
      refine qJ.run hκ 1 (pc' := 17) (ls' := [some (qI k), some (qI len), some (qR 1200)]) (st' := [qI k]) rfl ?_
      exact qJ.iret hκ rfl rfl (by decide) (by decide) (by first | exact ⟨rfl, rfl⟩ | (refine ⟨?_, rfl⟩; first | rfl | omega))
    · show qJ YJ3_checkIndex_8e157 κ _ (qLy u, m, y) 0 0 9 [some (qI k), some (qI len), some (qR 1200)] []
      exfalso; omega

set_option maxRecDepth 100000 in
theorem c_checkIndex (u : qU) (m y : qM) (k len : Int) (h0 : 0 ≤ k ∧ k < len) (h1 : len ≤ 10) : qCt YJ0_checkIndex_df160 2 0 0 [qI k, qI len] (qLy u, m, y) (fun r h => r = none ∧ h = (qLy u, m, y)) := by
  refine qCt.intro okJ0_checkIndex_df160 (Nat.le_of_ble_eq_true rfl) (fun κ hκ => ?_)
  show qJ YJ0_checkIndex_df160 κ _ (qLy u, m, y) 0 0 0 [some (qI k), some (qI len)] []
  refine qJ.run hκ 2 (pc' := 2) (ls' := [some (qI k), some (qI len)]) (st' := [qI len, qI k]) rfl ?_
  refine qJ.getsF hκ rfl (qT_t4 213 rfl rfl) ?_ ?_
  · show qJ YJ0_checkIndex_df160 κ _ (qLy u, m, y) 0 0 5 [some (qI k), some (qI len)] [qN, qI len, qI k]
    refine qJ.callS (As := [qI k, qI len, qN]) (rest := []) hκ rfl kJ0_1059 (c_preCheckN u m y k len h0 h1) (by decide) rfl rfl (Nat.le_of_ble_eq_true rfl) (Nat.le_of_ble_eq_true rfl) (Nat.le_of_ble_eq_true rfl) (Or.inl (fun r h' e => by obtain ⟨rfl, rfl⟩ := e; rfl)) (fun r h' e => ?_)
    obtain ⟨rfl, rfl⟩ := e
    show qJ YJ0_checkIndex_df160 κ _ (qLy u, m, y) 0 0 8 [some (qI k), some (qI len)] [qI k]
    refine qJ.run hκ 1 (pc' := 9) (ls' := [some (qI k), some (qI len)]) (st' := []) rfl ?_
    exact qJ.vret hκ rfl rfl (by decide) (by decide) (by first | exact ⟨rfl, rfl⟩ | (refine ⟨?_, rfl⟩; first | rfl | omega))
  · show qJ YJ0_checkIndex_df160 κ _ (qLy u, m, y) 0 0 5 [some (qI k), some (qI len)] [qR 1200, qI len, qI k]
    refine qJ.callS (As := [qI k, qI len, qR 1200]) (rest := []) hκ rfl kJ0_1059 (c_preCheckR u m y k len h0 h1) (by decide) rfl rfl (Nat.le_of_ble_eq_true rfl) (Nat.le_of_ble_eq_true rfl) (Nat.le_of_ble_eq_true rfl) (Or.inl (fun r h' e => by obtain ⟨rfl, rfl⟩ := e; rfl)) (fun r h' e => ?_)
    obtain ⟨rfl, rfl⟩ := e
    show qJ YJ0_checkIndex_df160 κ _ (qLy u, m, y) 0 0 8 [some (qI k), some (qI len)] [qI k]
    refine qJ.run hκ 1 (pc' := 9) (ls' := [some (qI k), some (qI len)]) (st' := []) rfl ?_
    exact qJ.vret hκ rfl rfl (by decide) (by decide) (by first | exact ⟨rfl, rfl⟩ | (refine ⟨?_, rfl⟩; first | rfl | omega))

set_option maxRecDepth 100000 in
theorem c_l1charAt1 (u : qU) (m y : qM) (k : Int) (h0 : 0 ≤ k ∧ k < 4) : qCt YJ1_charAt_3b067 3 0 0 [qR 1101, qI k] (qLy u, m, y) (fun r h => r = some (qI (qB 1 k.toNat)) ∧ h = (qLy u, m, y)) := by
  refine qCt.intro okJ1_charAt_3b067 (Nat.le_of_ble_eq_true rfl) (fun κ hκ => ?_)
  have q1 := qB_r (i := 1) (k := k.toNat) (by omega) (by omega)
  show qJ YJ1_charAt_3b067 κ _ (qLy u, m, y) 0 0 0 [some (qR 1101), some (qI k)] []
  refine qJ.run hκ 2 (pc' := 2) (ls' := [some (qR 1101), some (qI k)]) (st' := [qR 1101, qI k]) rfl ?_
  refine qJ.lenS (i := 1) hκ rfl (by decide) ?_
  show qJ YJ1_charAt_3b067 κ _ (qLy u, m, y) 0 0 3 [some (qR 1101), some (qI k)] [qI 4, qI k]
  refine qJ.callS (As := [qI k, qI 4]) (rest := []) hκ rfl kJ1_9 (c_checkIndex u m y k 4 h0 (by decide)) (by decide) rfl rfl (Nat.le_of_ble_eq_true rfl) (Nat.le_of_ble_eq_true rfl) (Nat.le_of_ble_eq_true rfl) (Or.inl (fun r h' e => by obtain ⟨rfl, rfl⟩ := e; rfl)) (fun r h' e => ?_)
  obtain ⟨rfl, rfl⟩ := e
  show qJ YJ1_charAt_3b067 κ _ (qLy u, m, y) 0 0 6 [some (qR 1101), some (qI k)] []
  refine qJ.run hκ 2 (pc' := 8) (ls' := [some (qR 1101), some (qI k)]) (st' := [qI k, qR 1101]) rfl ?_
  refine qJ.aldS (i := 1) hκ rfl (by decide) (show 0 ≤ k ∧ k < 4 from by omega) (by decide) ?_
  show qJ YJ1_charAt_3b067 κ _ (qLy u, m, y) 0 0 9 [some (qR 1101), some (qI k)] [qI (qB 1 k.toNat)]
  refine qJ.run hκ 3 (pc' := 14) (ls' := [some (qR 1101), some (qI k)]) (st' := [qI (q_i2c (q_and (qB 1 k.toNat) 255))]) rfl ?_
  exact qJ.zret hκ rfl rfl (by rw [q1.1]; exact q1.2.1) (by decide) (by decide) (by rw [q1.1]; exact ⟨rfl, rfl⟩)

set_option maxRecDepth 100000 in
theorem c_charAt1 (u : qU) (m y : qM) (k : Int) (h0 : 0 ≤ k ∧ k < 4) : qCt YJ0_charAt_5068e 4 0 0 [qR 1001, qI k] (qLy u, m, y) (fun r h => r = some (qI (qB 1 k.toNat)) ∧ h = (qLy u, m, y)) := by
  refine qCt.intro okJ0_charAt_5068e (Nat.le_of_ble_eq_true rfl) (fun κ hκ => ?_)
  have q1 := qB_r (i := 1) (k := k.toNat) (by omega) (by omega)
  show qJ YJ0_charAt_5068e κ _ (qLy u, m, y) 0 0 0 [some (qR 1001), some (qI k)] []
  refine qJ.run hκ 1 (pc' := 1) (ls' := [some (qR 1001), some (qI k)]) (st' := [qR 1001]) rfl ?_
  refine qJ.callVS (i := 1) (As := []) (rest := []) hκ rfl kJ0_492 (c_isLatin1_1 u m y) (by decide) rfl (by decide) rfl rfl (Nat.le_of_ble_eq_true rfl) (Nat.le_of_ble_eq_true rfl) (Nat.le_of_ble_eq_true rfl) (Or.inl (fun r h' e => by obtain ⟨rfl, rfl⟩ := e; rfl)) (fun r h' e => ?_)
  obtain ⟨rfl, rfl⟩ := e
  show qJ YJ0_charAt_5068e κ _ (qLy u, m, y) 0 0 4 [some (qR 1001), some (qI k)] [qI 1]
  refine qJ.if_eq hκ (tgt := 16) rfl rfl (by omega) (fun c4 => ?_) (fun c4 => ?_)
  · exact absurd c4 (by decide)
  · show qJ YJ0_charAt_5068e κ _ (qLy u, m, y) 0 0 7 [some (qR 1001), some (qI k)] []
    refine qJ.run hκ 1 (pc' := 8) (ls' := [some (qR 1001), some (qI k)]) (st' := [qR 1001]) rfl ?_
    refine qJ.getSV (i := 1) hκ rfl (qT_t8 132 rfl rfl) (by decide) ?_
    show qJ YJ0_charAt_5068e κ _ (qLy u, m, y) 0 0 11 [some (qR 1001), some (qI k)] [qR 1101]
    refine qJ.run hκ 1 (pc' := 12) (ls' := [some (qR 1001), some (qI k)]) (st' := [qI k, qR 1101]) rfl ?_
    refine qJ.callS (As := [qR 1101, qI k]) (rest := []) hκ rfl kJ0_495 (c_l1charAt1 u m y k h0) (by decide) rfl rfl (Nat.le_of_ble_eq_true rfl) (Nat.le_of_ble_eq_true rfl) (Nat.le_of_ble_eq_true rfl) (Or.inl (fun r h' e => by obtain ⟨rfl, rfl⟩ := e; rfl)) (fun r h' e => ?_)
    obtain ⟨rfl, rfl⟩ := e
    show qJ YJ0_charAt_5068e κ _ (qLy u, m, y) 0 0 15 [some (qR 1001), some (qI k)] [qI (qB 1 k.toNat)]
    exact qJ.zret hκ rfl rfl (q1.2.1) (by decide) (by decide) (by first | exact ⟨rfl, rfl⟩ | (refine ⟨?_, rfl⟩; first | rfl | omega))

set_option maxRecDepth 100000 in
theorem c_l1charAt2 (u : qU) (m y : qM) (k : Int) (h0 : 0 ≤ k ∧ k < 7) : qCt YJ1_charAt_3b067 3 0 0 [qR 1102, qI k] (qLy u, m, y) (fun r h => r = some (qI (qB 2 k.toNat)) ∧ h = (qLy u, m, y)) := by
  refine qCt.intro okJ1_charAt_3b067 (Nat.le_of_ble_eq_true rfl) (fun κ hκ => ?_)
  have q1 := qB_r (i := 2) (k := k.toNat) (by omega) (by omega)
  show qJ YJ1_charAt_3b067 κ _ (qLy u, m, y) 0 0 0 [some (qR 1102), some (qI k)] []
  refine qJ.run hκ 2 (pc' := 2) (ls' := [some (qR 1102), some (qI k)]) (st' := [qR 1102, qI k]) rfl ?_
  refine qJ.lenS (i := 2) hκ rfl (by decide) ?_
  show qJ YJ1_charAt_3b067 κ _ (qLy u, m, y) 0 0 3 [some (qR 1102), some (qI k)] [qI 7, qI k]
  refine qJ.callS (As := [qI k, qI 7]) (rest := []) hκ rfl kJ1_9 (c_checkIndex u m y k 7 h0 (by decide)) (by decide) rfl rfl (Nat.le_of_ble_eq_true rfl) (Nat.le_of_ble_eq_true rfl) (Nat.le_of_ble_eq_true rfl) (Or.inl (fun r h' e => by obtain ⟨rfl, rfl⟩ := e; rfl)) (fun r h' e => ?_)
  obtain ⟨rfl, rfl⟩ := e
  show qJ YJ1_charAt_3b067 κ _ (qLy u, m, y) 0 0 6 [some (qR 1102), some (qI k)] []
  refine qJ.run hκ 2 (pc' := 8) (ls' := [some (qR 1102), some (qI k)]) (st' := [qI k, qR 1102]) rfl ?_
  refine qJ.aldS (i := 2) hκ rfl (by decide) (show 0 ≤ k ∧ k < 7 from by omega) (by decide) ?_
  show qJ YJ1_charAt_3b067 κ _ (qLy u, m, y) 0 0 9 [some (qR 1102), some (qI k)] [qI (qB 2 k.toNat)]
  refine qJ.run hκ 3 (pc' := 14) (ls' := [some (qR 1102), some (qI k)]) (st' := [qI (q_i2c (q_and (qB 2 k.toNat) 255))]) rfl ?_
  exact qJ.zret hκ rfl rfl (by rw [q1.1]; exact q1.2.1) (by decide) (by decide) (by rw [q1.1]; exact ⟨rfl, rfl⟩)

set_option maxRecDepth 100000 in
theorem c_charAt2 (u : qU) (m y : qM) (k : Int) (h0 : 0 ≤ k ∧ k < 7) : qCt YJ0_charAt_5068e 4 0 0 [qR 1002, qI k] (qLy u, m, y) (fun r h => r = some (qI (qB 2 k.toNat)) ∧ h = (qLy u, m, y)) := by
  refine qCt.intro okJ0_charAt_5068e (Nat.le_of_ble_eq_true rfl) (fun κ hκ => ?_)
  have q1 := qB_r (i := 2) (k := k.toNat) (by omega) (by omega)
  show qJ YJ0_charAt_5068e κ _ (qLy u, m, y) 0 0 0 [some (qR 1002), some (qI k)] []
  refine qJ.run hκ 1 (pc' := 1) (ls' := [some (qR 1002), some (qI k)]) (st' := [qR 1002]) rfl ?_
  refine qJ.callVS (i := 2) (As := []) (rest := []) hκ rfl kJ0_492 (c_isLatin1_2 u m y) (by decide) rfl (by decide) rfl rfl (Nat.le_of_ble_eq_true rfl) (Nat.le_of_ble_eq_true rfl) (Nat.le_of_ble_eq_true rfl) (Or.inl (fun r h' e => by obtain ⟨rfl, rfl⟩ := e; rfl)) (fun r h' e => ?_)
  obtain ⟨rfl, rfl⟩ := e
  show qJ YJ0_charAt_5068e κ _ (qLy u, m, y) 0 0 4 [some (qR 1002), some (qI k)] [qI 1]
  refine qJ.if_eq hκ (tgt := 16) rfl rfl (by omega) (fun c4 => ?_) (fun c4 => ?_)
  · exact absurd c4 (by decide)
  · show qJ YJ0_charAt_5068e κ _ (qLy u, m, y) 0 0 7 [some (qR 1002), some (qI k)] []
    refine qJ.run hκ 1 (pc' := 8) (ls' := [some (qR 1002), some (qI k)]) (st' := [qR 1002]) rfl ?_
    refine qJ.getSV (i := 2) hκ rfl (qT_t8 132 rfl rfl) (by decide) ?_
    show qJ YJ0_charAt_5068e κ _ (qLy u, m, y) 0 0 11 [some (qR 1002), some (qI k)] [qR 1102]
    refine qJ.run hκ 1 (pc' := 12) (ls' := [some (qR 1002), some (qI k)]) (st' := [qI k, qR 1102]) rfl ?_
    refine qJ.callS (As := [qR 1102, qI k]) (rest := []) hκ rfl kJ0_495 (c_l1charAt2 u m y k h0) (by decide) rfl rfl (Nat.le_of_ble_eq_true rfl) (Nat.le_of_ble_eq_true rfl) (Nat.le_of_ble_eq_true rfl) (Or.inl (fun r h' e => by obtain ⟨rfl, rfl⟩ := e; rfl)) (fun r h' e => ?_)
    obtain ⟨rfl, rfl⟩ := e
    show qJ YJ0_charAt_5068e κ _ (qLy u, m, y) 0 0 15 [some (qR 1002), some (qI k)] [qI (qB 2 k.toNat)]
    exact qJ.zret hκ rfl rfl (q1.2.1) (by decide) (by decide) (by first | exact ⟨rfl, rfl⟩ | (refine ⟨?_, rfl⟩; first | rfl | omega))

set_option maxRecDepth 100000 in
theorem c_l1charAt3 (u : qU) (m y : qM) (k : Int) (h0 : 0 ≤ k ∧ k < 3) : qCt YJ1_charAt_3b067 3 0 0 [qR 1103, qI k] (qLy u, m, y) (fun r h => r = some (qI (qB 3 k.toNat)) ∧ h = (qLy u, m, y)) := by
  refine qCt.intro okJ1_charAt_3b067 (Nat.le_of_ble_eq_true rfl) (fun κ hκ => ?_)
  have q1 := qB_r (i := 3) (k := k.toNat) (by omega) (by omega)
  show qJ YJ1_charAt_3b067 κ _ (qLy u, m, y) 0 0 0 [some (qR 1103), some (qI k)] []
  refine qJ.run hκ 2 (pc' := 2) (ls' := [some (qR 1103), some (qI k)]) (st' := [qR 1103, qI k]) rfl ?_
  refine qJ.lenS (i := 3) hκ rfl (by decide) ?_
  show qJ YJ1_charAt_3b067 κ _ (qLy u, m, y) 0 0 3 [some (qR 1103), some (qI k)] [qI 3, qI k]
  refine qJ.callS (As := [qI k, qI 3]) (rest := []) hκ rfl kJ1_9 (c_checkIndex u m y k 3 h0 (by decide)) (by decide) rfl rfl (Nat.le_of_ble_eq_true rfl) (Nat.le_of_ble_eq_true rfl) (Nat.le_of_ble_eq_true rfl) (Or.inl (fun r h' e => by obtain ⟨rfl, rfl⟩ := e; rfl)) (fun r h' e => ?_)
  obtain ⟨rfl, rfl⟩ := e
  show qJ YJ1_charAt_3b067 κ _ (qLy u, m, y) 0 0 6 [some (qR 1103), some (qI k)] []
  refine qJ.run hκ 2 (pc' := 8) (ls' := [some (qR 1103), some (qI k)]) (st' := [qI k, qR 1103]) rfl ?_
  refine qJ.aldS (i := 3) hκ rfl (by decide) (show 0 ≤ k ∧ k < 3 from by omega) (by decide) ?_
  show qJ YJ1_charAt_3b067 κ _ (qLy u, m, y) 0 0 9 [some (qR 1103), some (qI k)] [qI (qB 3 k.toNat)]
  refine qJ.run hκ 3 (pc' := 14) (ls' := [some (qR 1103), some (qI k)]) (st' := [qI (q_i2c (q_and (qB 3 k.toNat) 255))]) rfl ?_
  exact qJ.zret hκ rfl rfl (by rw [q1.1]; exact q1.2.1) (by decide) (by decide) (by rw [q1.1]; exact ⟨rfl, rfl⟩)

set_option maxRecDepth 100000 in
theorem c_charAt3 (u : qU) (m y : qM) (k : Int) (h0 : 0 ≤ k ∧ k < 3) : qCt YJ0_charAt_5068e 4 0 0 [qR 1003, qI k] (qLy u, m, y) (fun r h => r = some (qI (qB 3 k.toNat)) ∧ h = (qLy u, m, y)) := by
  refine qCt.intro okJ0_charAt_5068e (Nat.le_of_ble_eq_true rfl) (fun κ hκ => ?_)
  have q1 := qB_r (i := 3) (k := k.toNat) (by omega) (by omega)
  show qJ YJ0_charAt_5068e κ _ (qLy u, m, y) 0 0 0 [some (qR 1003), some (qI k)] []
  refine qJ.run hκ 1 (pc' := 1) (ls' := [some (qR 1003), some (qI k)]) (st' := [qR 1003]) rfl ?_
  refine qJ.callVS (i := 3) (As := []) (rest := []) hκ rfl kJ0_492 (c_isLatin1_3 u m y) (by decide) rfl (by decide) rfl rfl (Nat.le_of_ble_eq_true rfl) (Nat.le_of_ble_eq_true rfl) (Nat.le_of_ble_eq_true rfl) (Or.inl (fun r h' e => by obtain ⟨rfl, rfl⟩ := e; rfl)) (fun r h' e => ?_)
  obtain ⟨rfl, rfl⟩ := e
  show qJ YJ0_charAt_5068e κ _ (qLy u, m, y) 0 0 4 [some (qR 1003), some (qI k)] [qI 1]
  refine qJ.if_eq hκ (tgt := 16) rfl rfl (by omega) (fun c4 => ?_) (fun c4 => ?_)
  · exact absurd c4 (by decide)
  · show qJ YJ0_charAt_5068e κ _ (qLy u, m, y) 0 0 7 [some (qR 1003), some (qI k)] []
    refine qJ.run hκ 1 (pc' := 8) (ls' := [some (qR 1003), some (qI k)]) (st' := [qR 1003]) rfl ?_
    refine qJ.getSV (i := 3) hκ rfl (qT_t8 132 rfl rfl) (by decide) ?_
    show qJ YJ0_charAt_5068e κ _ (qLy u, m, y) 0 0 11 [some (qR 1003), some (qI k)] [qR 1103]
    refine qJ.run hκ 1 (pc' := 12) (ls' := [some (qR 1003), some (qI k)]) (st' := [qI k, qR 1103]) rfl ?_
    refine qJ.callS (As := [qR 1103, qI k]) (rest := []) hκ rfl kJ0_495 (c_l1charAt3 u m y k h0) (by decide) rfl rfl (Nat.le_of_ble_eq_true rfl) (Nat.le_of_ble_eq_true rfl) (Nat.le_of_ble_eq_true rfl) (Or.inl (fun r h' e => by obtain ⟨rfl, rfl⟩ := e; rfl)) (fun r h' e => ?_)
    obtain ⟨rfl, rfl⟩ := e
    show qJ YJ0_charAt_5068e κ _ (qLy u, m, y) 0 0 15 [some (qR 1003), some (qI k)] [qI (qB 3 k.toNat)]
    exact qJ.zret hκ rfl rfl (q1.2.1) (by decide) (by decide) (by first | exact ⟨rfl, rfl⟩ | (refine ⟨?_, rfl⟩; first | rfl | omega))

set_option maxRecDepth 100000 in
theorem c_l1charAt4 (u : qU) (m y : qM) (k : Int) (h0 : 0 ≤ k ∧ k < 4) : qCt YJ1_charAt_3b067 3 0 0 [qR 1104, qI k] (qLy u, m, y) (fun r h => r = some (qI (qB 4 k.toNat)) ∧ h = (qLy u, m, y)) := by
  refine qCt.intro okJ1_charAt_3b067 (Nat.le_of_ble_eq_true rfl) (fun κ hκ => ?_)
  have q1 := qB_r (i := 4) (k := k.toNat) (by omega) (by omega)
  show qJ YJ1_charAt_3b067 κ _ (qLy u, m, y) 0 0 0 [some (qR 1104), some (qI k)] []
  refine qJ.run hκ 2 (pc' := 2) (ls' := [some (qR 1104), some (qI k)]) (st' := [qR 1104, qI k]) rfl ?_
  refine qJ.lenS (i := 4) hκ rfl (by decide) ?_
  show qJ YJ1_charAt_3b067 κ _ (qLy u, m, y) 0 0 3 [some (qR 1104), some (qI k)] [qI 4, qI k]
  refine qJ.callS (As := [qI k, qI 4]) (rest := []) hκ rfl kJ1_9 (c_checkIndex u m y k 4 h0 (by decide)) (by decide) rfl rfl (Nat.le_of_ble_eq_true rfl) (Nat.le_of_ble_eq_true rfl) (Nat.le_of_ble_eq_true rfl) (Or.inl (fun r h' e => by obtain ⟨rfl, rfl⟩ := e; rfl)) (fun r h' e => ?_)
  obtain ⟨rfl, rfl⟩ := e
  show qJ YJ1_charAt_3b067 κ _ (qLy u, m, y) 0 0 6 [some (qR 1104), some (qI k)] []
  refine qJ.run hκ 2 (pc' := 8) (ls' := [some (qR 1104), some (qI k)]) (st' := [qI k, qR 1104]) rfl ?_
  refine qJ.aldS (i := 4) hκ rfl (by decide) (show 0 ≤ k ∧ k < 4 from by omega) (by decide) ?_
  show qJ YJ1_charAt_3b067 κ _ (qLy u, m, y) 0 0 9 [some (qR 1104), some (qI k)] [qI (qB 4 k.toNat)]
  refine qJ.run hκ 3 (pc' := 14) (ls' := [some (qR 1104), some (qI k)]) (st' := [qI (q_i2c (q_and (qB 4 k.toNat) 255))]) rfl ?_
  exact qJ.zret hκ rfl rfl (by rw [q1.1]; exact q1.2.1) (by decide) (by decide) (by rw [q1.1]; exact ⟨rfl, rfl⟩)

set_option maxRecDepth 100000 in
theorem c_charAt4 (u : qU) (m y : qM) (k : Int) (h0 : 0 ≤ k ∧ k < 4) : qCt YJ0_charAt_5068e 4 0 0 [qR 1004, qI k] (qLy u, m, y) (fun r h => r = some (qI (qB 4 k.toNat)) ∧ h = (qLy u, m, y)) := by
  refine qCt.intro okJ0_charAt_5068e (Nat.le_of_ble_eq_true rfl) (fun κ hκ => ?_)
  have q1 := qB_r (i := 4) (k := k.toNat) (by omega) (by omega)
  show qJ YJ0_charAt_5068e κ _ (qLy u, m, y) 0 0 0 [some (qR 1004), some (qI k)] []
  refine qJ.run hκ 1 (pc' := 1) (ls' := [some (qR 1004), some (qI k)]) (st' := [qR 1004]) rfl ?_
  refine qJ.callVS (i := 4) (As := []) (rest := []) hκ rfl kJ0_492 (c_isLatin1_4 u m y) (by decide) rfl (by decide) rfl rfl (Nat.le_of_ble_eq_true rfl) (Nat.le_of_ble_eq_true rfl) (Nat.le_of_ble_eq_true rfl) (Or.inl (fun r h' e => by obtain ⟨rfl, rfl⟩ := e; rfl)) (fun r h' e => ?_)
  obtain ⟨rfl, rfl⟩ := e
  show qJ YJ0_charAt_5068e κ _ (qLy u, m, y) 0 0 4 [some (qR 1004), some (qI k)] [qI 1]
  refine qJ.if_eq hκ (tgt := 16) rfl rfl (by omega) (fun c4 => ?_) (fun c4 => ?_)
  · exact absurd c4 (by decide)
  · show qJ YJ0_charAt_5068e κ _ (qLy u, m, y) 0 0 7 [some (qR 1004), some (qI k)] []
    refine qJ.run hκ 1 (pc' := 8) (ls' := [some (qR 1004), some (qI k)]) (st' := [qR 1004]) rfl ?_
    refine qJ.getSV (i := 4) hκ rfl (qT_t8 132 rfl rfl) (by decide) ?_
    show qJ YJ0_charAt_5068e κ _ (qLy u, m, y) 0 0 11 [some (qR 1004), some (qI k)] [qR 1104]
    refine qJ.run hκ 1 (pc' := 12) (ls' := [some (qR 1004), some (qI k)]) (st' := [qI k, qR 1104]) rfl ?_
    refine qJ.callS (As := [qR 1104, qI k]) (rest := []) hκ rfl kJ0_495 (c_l1charAt4 u m y k h0) (by decide) rfl rfl (Nat.le_of_ble_eq_true rfl) (Nat.le_of_ble_eq_true rfl) (Nat.le_of_ble_eq_true rfl) (Or.inl (fun r h' e => by obtain ⟨rfl, rfl⟩ := e; rfl)) (fun r h' e => ?_)
    obtain ⟨rfl, rfl⟩ := e
    show qJ YJ0_charAt_5068e κ _ (qLy u, m, y) 0 0 15 [some (qR 1004), some (qI k)] [qI (qB 4 k.toNat)]
    exact qJ.zret hκ rfl rfl (q1.2.1) (by decide) (by decide) (by first | exact ⟨rfl, rfl⟩ | (refine ⟨?_, rfl⟩; first | rfl | omega))

set_option maxRecDepth 100000 in
theorem c_l1charAt5 (u : qU) (m y : qM) (k : Int) (h0 : 0 ≤ k ∧ k < 4) : qCt YJ1_charAt_3b067 3 0 0 [qR 1105, qI k] (qLy u, m, y) (fun r h => r = some (qI (qB 5 k.toNat)) ∧ h = (qLy u, m, y)) := by
  refine qCt.intro okJ1_charAt_3b067 (Nat.le_of_ble_eq_true rfl) (fun κ hκ => ?_)
  have q1 := qB_r (i := 5) (k := k.toNat) (by omega) (by omega)
  show qJ YJ1_charAt_3b067 κ _ (qLy u, m, y) 0 0 0 [some (qR 1105), some (qI k)] []
  refine qJ.run hκ 2 (pc' := 2) (ls' := [some (qR 1105), some (qI k)]) (st' := [qR 1105, qI k]) rfl ?_
  refine qJ.lenS (i := 5) hκ rfl (by decide) ?_
  show qJ YJ1_charAt_3b067 κ _ (qLy u, m, y) 0 0 3 [some (qR 1105), some (qI k)] [qI 4, qI k]
  refine qJ.callS (As := [qI k, qI 4]) (rest := []) hκ rfl kJ1_9 (c_checkIndex u m y k 4 h0 (by decide)) (by decide) rfl rfl (Nat.le_of_ble_eq_true rfl) (Nat.le_of_ble_eq_true rfl) (Nat.le_of_ble_eq_true rfl) (Or.inl (fun r h' e => by obtain ⟨rfl, rfl⟩ := e; rfl)) (fun r h' e => ?_)
  obtain ⟨rfl, rfl⟩ := e
  show qJ YJ1_charAt_3b067 κ _ (qLy u, m, y) 0 0 6 [some (qR 1105), some (qI k)] []
  refine qJ.run hκ 2 (pc' := 8) (ls' := [some (qR 1105), some (qI k)]) (st' := [qI k, qR 1105]) rfl ?_
  refine qJ.aldS (i := 5) hκ rfl (by decide) (show 0 ≤ k ∧ k < 4 from by omega) (by decide) ?_
  show qJ YJ1_charAt_3b067 κ _ (qLy u, m, y) 0 0 9 [some (qR 1105), some (qI k)] [qI (qB 5 k.toNat)]
  refine qJ.run hκ 3 (pc' := 14) (ls' := [some (qR 1105), some (qI k)]) (st' := [qI (q_i2c (q_and (qB 5 k.toNat) 255))]) rfl ?_
  exact qJ.zret hκ rfl rfl (by rw [q1.1]; exact q1.2.1) (by decide) (by decide) (by rw [q1.1]; exact ⟨rfl, rfl⟩)

set_option maxRecDepth 100000 in
theorem c_charAt5 (u : qU) (m y : qM) (k : Int) (h0 : 0 ≤ k ∧ k < 4) : qCt YJ0_charAt_5068e 4 0 0 [qR 1005, qI k] (qLy u, m, y) (fun r h => r = some (qI (qB 5 k.toNat)) ∧ h = (qLy u, m, y)) := by
  refine qCt.intro okJ0_charAt_5068e (Nat.le_of_ble_eq_true rfl) (fun κ hκ => ?_)
  have q1 := qB_r (i := 5) (k := k.toNat) (by omega) (by omega)
  show qJ YJ0_charAt_5068e κ _ (qLy u, m, y) 0 0 0 [some (qR 1005), some (qI k)] []
  refine qJ.run hκ 1 (pc' := 1) (ls' := [some (qR 1005), some (qI k)]) (st' := [qR 1005]) rfl ?_
  refine qJ.callVS (i := 5) (As := []) (rest := []) hκ rfl kJ0_492 (c_isLatin1_5 u m y) (by decide) rfl (by decide) rfl rfl (Nat.le_of_ble_eq_true rfl) (Nat.le_of_ble_eq_true rfl) (Nat.le_of_ble_eq_true rfl) (Or.inl (fun r h' e => by obtain ⟨rfl, rfl⟩ := e; rfl)) (fun r h' e => ?_)
  obtain ⟨rfl, rfl⟩ := e
  show qJ YJ0_charAt_5068e κ _ (qLy u, m, y) 0 0 4 [some (qR 1005), some (qI k)] [qI 1]
  refine qJ.if_eq hκ (tgt := 16) rfl rfl (by omega) (fun c4 => ?_) (fun c4 => ?_)
  · exact absurd c4 (by decide)
  · show qJ YJ0_charAt_5068e κ _ (qLy u, m, y) 0 0 7 [some (qR 1005), some (qI k)] []
    refine qJ.run hκ 1 (pc' := 8) (ls' := [some (qR 1005), some (qI k)]) (st' := [qR 1005]) rfl ?_
    refine qJ.getSV (i := 5) hκ rfl (qT_t8 132 rfl rfl) (by decide) ?_
    show qJ YJ0_charAt_5068e κ _ (qLy u, m, y) 0 0 11 [some (qR 1005), some (qI k)] [qR 1105]
    refine qJ.run hκ 1 (pc' := 12) (ls' := [some (qR 1005), some (qI k)]) (st' := [qI k, qR 1105]) rfl ?_
    refine qJ.callS (As := [qR 1105, qI k]) (rest := []) hκ rfl kJ0_495 (c_l1charAt5 u m y k h0) (by decide) rfl rfl (Nat.le_of_ble_eq_true rfl) (Nat.le_of_ble_eq_true rfl) (Nat.le_of_ble_eq_true rfl) (Or.inl (fun r h' e => by obtain ⟨rfl, rfl⟩ := e; rfl)) (fun r h' e => ?_)
    obtain ⟨rfl, rfl⟩ := e
    show qJ YJ0_charAt_5068e κ _ (qLy u, m, y) 0 0 15 [some (qR 1005), some (qI k)] [qI (qB 5 k.toNat)]
    exact qJ.zret hκ rfl rfl (q1.2.1) (by decide) (by decide) (by first | exact ⟨rfl, rfl⟩ | (refine ⟨?_, rfl⟩; first | rfl | omega))

set_option maxRecDepth 100000 in
theorem c_l1charAt6 (u : qU) (m y : qM) (k : Int) (h0 : 0 ≤ k ∧ k < 4) : qCt YJ1_charAt_3b067 3 0 0 [qR 1106, qI k] (qLy u, m, y) (fun r h => r = some (qI (qB 6 k.toNat)) ∧ h = (qLy u, m, y)) := by
  refine qCt.intro okJ1_charAt_3b067 (Nat.le_of_ble_eq_true rfl) (fun κ hκ => ?_)
  have q1 := qB_r (i := 6) (k := k.toNat) (by omega) (by omega)
  show qJ YJ1_charAt_3b067 κ _ (qLy u, m, y) 0 0 0 [some (qR 1106), some (qI k)] []
  refine qJ.run hκ 2 (pc' := 2) (ls' := [some (qR 1106), some (qI k)]) (st' := [qR 1106, qI k]) rfl ?_
  refine qJ.lenS (i := 6) hκ rfl (by decide) ?_
  show qJ YJ1_charAt_3b067 κ _ (qLy u, m, y) 0 0 3 [some (qR 1106), some (qI k)] [qI 4, qI k]
  refine qJ.callS (As := [qI k, qI 4]) (rest := []) hκ rfl kJ1_9 (c_checkIndex u m y k 4 h0 (by decide)) (by decide) rfl rfl (Nat.le_of_ble_eq_true rfl) (Nat.le_of_ble_eq_true rfl) (Nat.le_of_ble_eq_true rfl) (Or.inl (fun r h' e => by obtain ⟨rfl, rfl⟩ := e; rfl)) (fun r h' e => ?_)
  obtain ⟨rfl, rfl⟩ := e
  show qJ YJ1_charAt_3b067 κ _ (qLy u, m, y) 0 0 6 [some (qR 1106), some (qI k)] []
  refine qJ.run hκ 2 (pc' := 8) (ls' := [some (qR 1106), some (qI k)]) (st' := [qI k, qR 1106]) rfl ?_
  refine qJ.aldS (i := 6) hκ rfl (by decide) (show 0 ≤ k ∧ k < 4 from by omega) (by decide) ?_
  show qJ YJ1_charAt_3b067 κ _ (qLy u, m, y) 0 0 9 [some (qR 1106), some (qI k)] [qI (qB 6 k.toNat)]
  refine qJ.run hκ 3 (pc' := 14) (ls' := [some (qR 1106), some (qI k)]) (st' := [qI (q_i2c (q_and (qB 6 k.toNat) 255))]) rfl ?_
  exact qJ.zret hκ rfl rfl (by rw [q1.1]; exact q1.2.1) (by decide) (by decide) (by rw [q1.1]; exact ⟨rfl, rfl⟩)

set_option maxRecDepth 100000 in
theorem c_charAt6 (u : qU) (m y : qM) (k : Int) (h0 : 0 ≤ k ∧ k < 4) : qCt YJ0_charAt_5068e 4 0 0 [qR 1006, qI k] (qLy u, m, y) (fun r h => r = some (qI (qB 6 k.toNat)) ∧ h = (qLy u, m, y)) := by
  refine qCt.intro okJ0_charAt_5068e (Nat.le_of_ble_eq_true rfl) (fun κ hκ => ?_)
  have q1 := qB_r (i := 6) (k := k.toNat) (by omega) (by omega)
  show qJ YJ0_charAt_5068e κ _ (qLy u, m, y) 0 0 0 [some (qR 1006), some (qI k)] []
  refine qJ.run hκ 1 (pc' := 1) (ls' := [some (qR 1006), some (qI k)]) (st' := [qR 1006]) rfl ?_
  refine qJ.callVS (i := 6) (As := []) (rest := []) hκ rfl kJ0_492 (c_isLatin1_6 u m y) (by decide) rfl (by decide) rfl rfl (Nat.le_of_ble_eq_true rfl) (Nat.le_of_ble_eq_true rfl) (Nat.le_of_ble_eq_true rfl) (Or.inl (fun r h' e => by obtain ⟨rfl, rfl⟩ := e; rfl)) (fun r h' e => ?_)
  obtain ⟨rfl, rfl⟩ := e
  show qJ YJ0_charAt_5068e κ _ (qLy u, m, y) 0 0 4 [some (qR 1006), some (qI k)] [qI 1]
  refine qJ.if_eq hκ (tgt := 16) rfl rfl (by omega) (fun c4 => ?_) (fun c4 => ?_)
  · exact absurd c4 (by decide)
  · show qJ YJ0_charAt_5068e κ _ (qLy u, m, y) 0 0 7 [some (qR 1006), some (qI k)] []
    refine qJ.run hκ 1 (pc' := 8) (ls' := [some (qR 1006), some (qI k)]) (st' := [qR 1006]) rfl ?_
    refine qJ.getSV (i := 6) hκ rfl (qT_t8 132 rfl rfl) (by decide) ?_
    show qJ YJ0_charAt_5068e κ _ (qLy u, m, y) 0 0 11 [some (qR 1006), some (qI k)] [qR 1106]
    refine qJ.run hκ 1 (pc' := 12) (ls' := [some (qR 1006), some (qI k)]) (st' := [qI k, qR 1106]) rfl ?_
    refine qJ.callS (As := [qR 1106, qI k]) (rest := []) hκ rfl kJ0_495 (c_l1charAt6 u m y k h0) (by decide) rfl rfl (Nat.le_of_ble_eq_true rfl) (Nat.le_of_ble_eq_true rfl) (Nat.le_of_ble_eq_true rfl) (Or.inl (fun r h' e => by obtain ⟨rfl, rfl⟩ := e; rfl)) (fun r h' e => ?_)
    obtain ⟨rfl, rfl⟩ := e
    show qJ YJ0_charAt_5068e κ _ (qLy u, m, y) 0 0 15 [some (qR 1006), some (qI k)] [qI (qB 6 k.toNat)]
    exact qJ.zret hκ rfl rfl (q1.2.1) (by decide) (by decide) (by first | exact ⟨rfl, rfl⟩ | (refine ⟨?_, rfl⟩; first | rfl | omega))

set_option maxRecDepth 100000 in
theorem c_l1charAt7 (u : qU) (m y : qM) (k : Int) (h0 : 0 ≤ k ∧ k < 2) : qCt YJ1_charAt_3b067 3 0 0 [qR 1107, qI k] (qLy u, m, y) (fun r h => r = some (qI (qB 7 k.toNat)) ∧ h = (qLy u, m, y)) := by
  refine qCt.intro okJ1_charAt_3b067 (Nat.le_of_ble_eq_true rfl) (fun κ hκ => ?_)
  have q1 := qB_r (i := 7) (k := k.toNat) (by omega) (by omega)
  show qJ YJ1_charAt_3b067 κ _ (qLy u, m, y) 0 0 0 [some (qR 1107), some (qI k)] []
  refine qJ.run hκ 2 (pc' := 2) (ls' := [some (qR 1107), some (qI k)]) (st' := [qR 1107, qI k]) rfl ?_
  refine qJ.lenS (i := 7) hκ rfl (by decide) ?_
  show qJ YJ1_charAt_3b067 κ _ (qLy u, m, y) 0 0 3 [some (qR 1107), some (qI k)] [qI 2, qI k]
  refine qJ.callS (As := [qI k, qI 2]) (rest := []) hκ rfl kJ1_9 (c_checkIndex u m y k 2 h0 (by decide)) (by decide) rfl rfl (Nat.le_of_ble_eq_true rfl) (Nat.le_of_ble_eq_true rfl) (Nat.le_of_ble_eq_true rfl) (Or.inl (fun r h' e => by obtain ⟨rfl, rfl⟩ := e; rfl)) (fun r h' e => ?_)
  obtain ⟨rfl, rfl⟩ := e
  show qJ YJ1_charAt_3b067 κ _ (qLy u, m, y) 0 0 6 [some (qR 1107), some (qI k)] []
  refine qJ.run hκ 2 (pc' := 8) (ls' := [some (qR 1107), some (qI k)]) (st' := [qI k, qR 1107]) rfl ?_
  refine qJ.aldS (i := 7) hκ rfl (by decide) (show 0 ≤ k ∧ k < 2 from by omega) (by decide) ?_
  show qJ YJ1_charAt_3b067 κ _ (qLy u, m, y) 0 0 9 [some (qR 1107), some (qI k)] [qI (qB 7 k.toNat)]
  refine qJ.run hκ 3 (pc' := 14) (ls' := [some (qR 1107), some (qI k)]) (st' := [qI (q_i2c (q_and (qB 7 k.toNat) 255))]) rfl ?_
  exact qJ.zret hκ rfl rfl (by rw [q1.1]; exact q1.2.1) (by decide) (by decide) (by rw [q1.1]; exact ⟨rfl, rfl⟩)

set_option maxRecDepth 100000 in
theorem c_charAt7 (u : qU) (m y : qM) (k : Int) (h0 : 0 ≤ k ∧ k < 2) : qCt YJ0_charAt_5068e 4 0 0 [qR 1007, qI k] (qLy u, m, y) (fun r h => r = some (qI (qB 7 k.toNat)) ∧ h = (qLy u, m, y)) := by
  refine qCt.intro okJ0_charAt_5068e (Nat.le_of_ble_eq_true rfl) (fun κ hκ => ?_)
  have q1 := qB_r (i := 7) (k := k.toNat) (by omega) (by omega)
  show qJ YJ0_charAt_5068e κ _ (qLy u, m, y) 0 0 0 [some (qR 1007), some (qI k)] []
  refine qJ.run hκ 1 (pc' := 1) (ls' := [some (qR 1007), some (qI k)]) (st' := [qR 1007]) rfl ?_
  refine qJ.callVS (i := 7) (As := []) (rest := []) hκ rfl kJ0_492 (c_isLatin1_7 u m y) (by decide) rfl (by decide) rfl rfl (Nat.le_of_ble_eq_true rfl) (Nat.le_of_ble_eq_true rfl) (Nat.le_of_ble_eq_true rfl) (Or.inl (fun r h' e => by obtain ⟨rfl, rfl⟩ := e; rfl)) (fun r h' e => ?_)
  obtain ⟨rfl, rfl⟩ := e
  show qJ YJ0_charAt_5068e κ _ (qLy u, m, y) 0 0 4 [some (qR 1007), some (qI k)] [qI 1]
  refine qJ.if_eq hκ (tgt := 16) rfl rfl (by omega) (fun c4 => ?_) (fun c4 => ?_)
  · exact absurd c4 (by decide)
  · show qJ YJ0_charAt_5068e κ _ (qLy u, m, y) 0 0 7 [some (qR 1007), some (qI k)] []
    refine qJ.run hκ 1 (pc' := 8) (ls' := [some (qR 1007), some (qI k)]) (st' := [qR 1007]) rfl ?_
    refine qJ.getSV (i := 7) hκ rfl (qT_t8 132 rfl rfl) (by decide) ?_
    show qJ YJ0_charAt_5068e κ _ (qLy u, m, y) 0 0 11 [some (qR 1007), some (qI k)] [qR 1107]
    refine qJ.run hκ 1 (pc' := 12) (ls' := [some (qR 1007), some (qI k)]) (st' := [qI k, qR 1107]) rfl ?_
    refine qJ.callS (As := [qR 1107, qI k]) (rest := []) hκ rfl kJ0_495 (c_l1charAt7 u m y k h0) (by decide) rfl rfl (Nat.le_of_ble_eq_true rfl) (Nat.le_of_ble_eq_true rfl) (Nat.le_of_ble_eq_true rfl) (Or.inl (fun r h' e => by obtain ⟨rfl, rfl⟩ := e; rfl)) (fun r h' e => ?_)
    obtain ⟨rfl, rfl⟩ := e
    show qJ YJ0_charAt_5068e κ _ (qLy u, m, y) 0 0 15 [some (qR 1007), some (qI k)] [qI (qB 7 k.toNat)]
    exact qJ.zret hκ rfl rfl (q1.2.1) (by decide) (by decide) (by first | exact ⟨rfl, rfl⟩ | (refine ⟨?_, rfl⟩; first | rfl | omega))

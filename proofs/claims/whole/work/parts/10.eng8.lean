/-! THE ENGINE, 8: references in arrays, switches, constants, Math, arraycopy -/
section Q11
variable {Y : qY} {d MC MS : Nat} {κ : qK} {fin : State → Prop} {h : qH} {cs sl pc : Nat} {ls : List (Option qV)} {st : List qV}
theorem qJ.anew {idx : Nat} {n : Int} (hκ : qCx Y d MC MS κ) (hat : q_at Y.tb pc = some (.anewarray idx, 3)) (hw : Jvm.Cond.classLink Y.own idx RX9 ∈ qT) (hn0 : 0 ≤ n ∧ n < 1000000) (hsh : h.1.all (q_shw h.1.length) = true) (hst : st.all (q_wf h.1.length) = true) (hls : ls.all (fun o => o.all (q_wf h.1.length)) = true) (hL : h.1.length < 1000) (hmc : cs + 1 ≤ MC) (hms : sl + n.toNat ≤ MS)
    (k : qJ Y κ fin (h.1 ++ [.inr (.inr (4, List.replicate n.toNat none))], q_clr h.2.1 h.1.length, q_clr h.2.2 h.1.length) (cs + 1) (sl + n.toNat) (pc + 3) ls (qR h.1.length :: st)) : qJ Y κ fin h cs sl pc ls (qI n :: st) := by
  obtain ⟨p, l, e, R, s, m, args, below, meth, c, D, tc, A, φ0, n0⟩ := κ
  obtain ⟨hx, hb, hml, hr, hlk, hnm, hown, hts, hK, hNW, hA, hRO, hR, hY⟩ := hκ
  have hdg := qOKd.dec hY hat
  intro H locs φ lc hP hD hS hag hn hl hll
  have hnn : (Int32.ofInt n).toInt = n := q_toInt (by omega) (by omega)
  have hcl : (Int32.ofInt n).toNatClampNeg = n.toNat := by show (Int32.ofInt n).toInt.toNat = _; rw [hnn]
  have hneg : ¬ Int32.ofInt n < 0 := by
    rw [q_z0, q_ltI ⟨by omega, by omega⟩ q_zr]; omega
  refine va_newq hx hb hown (hts _ hw) hNW.2 hK hP hD hS hA hneg hcl (by omega) (Nat.le_trans hmc hR.2.2.1) (Nat.le_trans hms hR.2.2.2) hdg fun q cA H1 hK1 a1 a2 a3 => ?_
  have hcA : cA = tc 4 := by
    obtain ⟨_, _, _, _, _, r1⟩ := (hK1.2 5 (cA, .object RX9) (by simp [qty])).2
    obtain ⟨_, _, _, _, _, r2⟩ := (hK.2 4 _ rfl).2
    exact Option.some.inj (r1.symm.trans r2)
  subst hcA
  have key : qcW φ tc h ++ [(q, .inl (tc 4, n.toNat, .inr (.inr (.inr (.inr (fun _ => none))))))] = qcW (va_up φ h.1.length q) tc (h.1 ++ [.inr (.inr (4, List.replicate n.toNat none))], q_clr h.2.1 h.1.length, q_clr h.2.2 h.1.length) := by
    rw [← q_app (φ := φ) (q := q) rfl (fun j hj k => by simp [q_clr, hj]) (fun j hj k => by simp [q_clr, hj]) (fun id sj hs => q_shw_c (List.all_eq_true.mp hsh _ (List.mem_of_getElem? hs)))]
    congr 2
    show _ = (q, Sum.inl (tc 4, (List.replicate n.toNat (none : Option Nat)).length, Sum.inr (Sum.inr (Sum.inr (Sum.inr _)))))
    rw [List.length_replicate]
    congr 8
    funext k
    rw [List.getD_eq_getElem?_getD]
    cases hk : (List.replicate n.toNat (none : Option Nat))[k]? with
    | none => rfl
    | some o =>
      have := List.eq_of_mem_replicate (List.mem_of_getElem? hk)
      subst this
      rfl
  rw [key] at a1 a2
  have k' := k H1 locs (va_up φ h.1.length q) lc a1 a2 a3 (fun i hi => by
    simp only [List.length_append, List.length_singleton] at hi
    rw [va_up_ne _ _ (by omega)]; exact hag i (by omega)) (by simp; omega) (q_wfl hls hL hl) hll
  rw [List.map_cons, q_wfs hst hL] at k'
  have e3 : qc (va_up φ h.1.length q) (qR h.1.length) = Value.ref q := by show Value.ref (va_up φ h.1.length q h.1.length) = _; rw [va_up_self]
  rw [e3] at k'
  exact k'
theorem qJ.aald {id : Nat} {rs : List (Option Nat)} {x : Int} (hκ : qCx Y d MC MS κ) (hat : q_at Y.tb pc = some (.aaload, 1)) (hs : h.1[id]? = some (.inr (.inr (4, rs)))) (hn0 : rs.length < 2147483648) (h0 : 0 ≤ x ∧ x < rs.length) (k : qJ Y κ fin h cs sl (pc + 1) ls (.inr (.inr (rs.getD x.toNat none)) :: st)) : qJ Y κ fin h cs sl pc ls (qI x :: qR id :: st) := by
  obtain ⟨p, l, e, R, s, m, args, below, meth, c, D, tc, A, φ0, n0⟩ := κ
  obtain ⟨hx, hb, hml, hr, hlk, hnm, hown, hts, hK, hNW, hA, hRO, hR, hY⟩ := hκ
  have hdg := qOKd.dec hY hat
  intro H locs φ lc hP hD hS hag hn hl hll
  have e1 := qcW_at (φ := φ) (tc := tc) hs
  obtain ⟨g1, g2⟩ := q_ix h0.1 h0.2 hn0
  have k' := k H locs φ lc hP hD hS hag hn hl hll
  refine va_aldq hx hb hK hP id 4 (C := RX9) e1 rfl g1 hdg ?_
  rw [g2]
  have e4 : va_rf ((rs.getD x.toNat none).map φ) = qc φ (.inr (.inr (rs.getD x.toNat none))) := by
    cases rs.getD x.toNat none <;> rfl
  rw [e4]
  exact k'
theorem qJ.aast {id j ci : Nat} {rs : List (Option Nat)} {fs : List qF} {x : Int} (hκ : qCx Y d MC MS κ) (hat : q_at Y.tb pc = some (.aastore, 1)) (hs : h.1[id]? = some (.inr (.inr (4, rs)))) (hj : h.1[j]? = some (.inl (ci, fs))) (hci : q_cl[ci]?.map (fun r => r.1) = some RX9) (hn0 : rs.length < 2147483648) (h0 : 0 ≤ x ∧ x < rs.length) (k : qJ Y κ fin (h.1.set id (.inr (.inr (4, rs.set x.toNat (some j)))), h.2.1, h.2.2) cs sl (pc + 1) ls st) : qJ Y κ fin h cs sl pc ls (qR j :: qI x :: qR id :: st) := by
  obtain ⟨p, l, e, R, s, m, args, below, meth, c, D, tc, A, φ0, n0⟩ := κ
  obtain ⟨hx, hb, hml, hr, hlk, hnm, hown, hts, hK, hNW, hA, hRO, hR, hY⟩ := hκ
  have hdg := qOKd.dec hY hat
  intro H locs φ lc hP hD hS hag hn hl hll
  have e1 := qcW_at (φ := φ) (tc := tc) hs
  have e2 := qcW_at (φ := φ) (tc := tc) hj
  obtain ⟨g1, g2⟩ := q_ix h0.1 h0.2 hn0
  cases hcc : q_cl[ci]? with
  | none => rw [hcc] at hci; cases hci
  | some r =>
    rw [hcc] at hci
    have hr1 : r.1 = RX9 := Option.some.inj hci
    refine va_astq hx hb hK hP hD hS id 4 j ci e1 (r := r) (by rw [hr1]; rfl) e2 hcc g1 hdg fun H1 locs1 a1 a2 a3 => ?_
    have key : (qcW φ tc h).set id (φ id, .inl (tc 4, rs.length, .inr (.inr (.inr (.inr (va_up (fun k => (rs.getD k none).map φ) (Int32.ofInt x).toNatClampNeg (some (φ j)))))))) = qcW φ tc (h.1.set id (.inr (.inr (4, rs.set x.toNat (some j)))), h.2.1, h.2.2) := by
      refine qcW_set (h' := (h.1.set id (.inr (.inr (4, rs.set x.toNat (some j)))), h.2.1, h.2.2)) (sh := .inr (.inr (4, rs.set x.toNat (some j)))) (List.getElem?_set_self (q_lt hs)) (q_lt hs) (fun i hi => List.getElem?_set_ne (fun z => hi z.symm)) (fun _ _ _ => rfl) (fun _ _ _ => rfl) ?_
      show Sum.inl (tc 4, rs.length, _) = Sum.inl (tc 4, (rs.set x.toNat (some j)).length, _)
      rw [List.length_set, g2]
      congr 7
      funext k
      by_cases ek : k = x.toNat
      · subst ek
        rw [va_up_self, List.getD_eq_getElem?_getD, List.getElem?_set_self (by omega)]
        rfl
      · rw [va_up_ne _ _ ek, List.getD_eq_getElem?_getD, List.getD_eq_getElem?_getD, List.getElem?_set_ne (fun z => ek z.symm)]
    rw [key] at a1 a2
    exact k H1 locs1 φ lc a1 a2 a3 (by rw [List.length_set]; exact hag) (by rw [List.length_set]; exact hn) hl hll
theorem qJ.ifnn {off : Int} {tgt j : Nat} (hκ : qCx Y d MC MS κ) (hat : q_at Y.tb pc = some (.ifnonnull off, 3)) (ht : (pc : Int) + off = (tgt : Int)) (k : qJ Y κ fin h cs sl tgt ls st) : qJ Y κ fin h cs sl pc ls (qR j :: st) := by
  obtain ⟨p, l, e, R, s, m, args, below, meth, c, D, tc, A, φ0, n0⟩ := κ
  obtain ⟨hx, hb, hml, hr, hlk, hnm, hown, hts, hK, hNW, hA, hRO, hR, hY⟩ := hκ
  have hdg := qOKd.dec hY hat
  intro H locs φ lc hP hD hS hag hn hl hll
  exact lv_ifnonnull hx hb hdg ht (k H locs φ lc hP hD hS hag hn hl hll)
theorem qJ.ifnnN {off : Int} (hκ : qCx Y d MC MS κ) (hat : q_at Y.tb pc = some (.ifnonnull off, 3)) (k : qJ Y κ fin h cs sl (pc + 3) ls st) : qJ Y κ fin h cs sl pc ls (qN :: st) := by
  obtain ⟨p, l, e, R, s, m, args, below, meth, c, D, tc, A, φ0, n0⟩ := κ
  obtain ⟨hx, hb, hml, hr, hlk, hnm, hown, hts, hK, hNW, hA, hRO, hR, hY⟩ := hκ
  have hdg := qOKd.dec hY hat
  intro H locs φ lc hP hD hS hag hn hl hll
  exact lv_ifnonnullN hx hb hdg (k H locs φ lc hP hD hS hag hn hl hll)
theorem qJ.tswOut {dflt lo hi x : Int} {offs : Array Int} {len tgt : Nat} (hκ : qCx Y d MC MS κ) (hat : q_at Y.tb pc = some (.tableswitch dflt lo hi offs, len)) (hx0 : -2147483648 ≤ x ∧ x ≤ 2147483647) (ho : x < lo ∨ hi < x) (ht : (pc : Int) + dflt = (tgt : Int)) (k : qJ Y κ fin h cs sl tgt ls st) : qJ Y κ fin h cs sl pc ls (qI x :: st) := by
  obtain ⟨p, l, e, R, s, m, args, below, meth, c, D, tc, A, φ0, n0⟩ := κ
  obtain ⟨hx, hb, hml, hr, hlk, hnm, hown, hts, hK, hNW, hA, hRO, hR, hY⟩ := hκ
  have hdg := qOKd.dec hY hat
  intro H locs φ lc hP hD hS hag hn hl hll
  exact lv_tableOut hx hb hdg (by rw [q_toInt hx0.1 hx0.2]; exact ho) ht (k H locs φ lc hP hD hS hag hn hl hll)
theorem qJ.tswIn {dflt lo hi x off : Int} {offs : Array Int} {len tgt : Nat} (hκ : qCx Y d MC MS κ) (hat : q_at Y.tb pc = some (.tableswitch dflt lo hi offs, len)) (hx0 : -2147483648 ≤ x ∧ x ≤ 2147483647) (h1 : lo ≤ x) (h2 : x ≤ hi) (ho : offs[(x - lo).toNat]? = some off) (ht : (pc : Int) + off = (tgt : Int)) (k : qJ Y κ fin h cs sl tgt ls st) : qJ Y κ fin h cs sl pc ls (qI x :: st) := by
  obtain ⟨p, l, e, R, s, m, args, below, meth, c, D, tc, A, φ0, n0⟩ := κ
  obtain ⟨hx, hb, hml, hr, hlk, hnm, hown, hts, hK, hNW, hA, hRO, hR, hY⟩ := hκ
  have hdg := qOKd.dec hY hat
  intro H locs φ lc hP hD hS hag hn hl hll
  exact lv_tableIn hx hb hdg (by rw [q_toInt hx0.1 hx0.2]; omega) (by rw [q_toInt hx0.1 hx0.2]; omega) (by rw [q_toInt hx0.1 hx0.2]; exact ho) ht (k H locs φ lc hP hD hS hag hn hl hll)
theorem qJ.ldc {idx : Nat} {v : Int32} {z : Int} (hκ : qCx Y d MC MS κ) (hat : q_at Y.tb pc = some (.ldc idx, 2)) (hw : Jvm.Cond.constant Y.own idx v ∈ qT) (hv : Int32.ofInt z = v) (k : qJ Y κ fin h cs sl (pc + 2) ls (qI z :: st)) : qJ Y κ fin h cs sl pc ls st := by
  obtain ⟨p, l, e, R, s, m, args, below, meth, c, D, tc, A, φ0, n0⟩ := κ
  obtain ⟨hx, hb, hml, hr, hlk, hnm, hown, hts, hK, hNW, hA, hRO, hR, hY⟩ := hκ
  have hdg := qOKd.dec hY hat
  intro H locs φ lc hP hD hS hag hn hl hll
  subst hv
  exact W.ldc hx hb hown (hts _ hw) rfl hdg (k H locs φ lc hP hD hS hag hn hl hll)
theorem qJ.ldc2 {idx : Nat} {v : Int64} {z : Int} (hκ : qCx Y d MC MS κ) (hat : q_at Y.tb pc = some (.ldc2_w idx, 3)) (hw : Jvm.Cond.constantLong Y.own idx v ∈ qT) (hv : Int64.ofInt z = v) (k : qJ Y κ fin h cs sl (pc + 3) ls (qL z :: st)) : qJ Y κ fin h cs sl pc ls st := by
  obtain ⟨p, l, e, R, s, m, args, below, meth, c, D, tc, A, φ0, n0⟩ := κ
  obtain ⟨hx, hb, hml, hr, hlk, hnm, hown, hts, hK, hNW, hA, hRO, hR, hY⟩ := hκ
  have hdg := qOKd.dec hY hat
  intro H locs φ lc hP hD hS hag hn hl hll
  subst hv
  exact W.ldc2 hx hb hown (hts _ hw) rfl hdg (k H locs φ lc hP hD hS hag hn hl hll)
def qMth (own : String) (idx : Nat) (y : MethodName) (b : ByteArray) : Prop := Jvm.Cond.methodLink own idx y ∈ qT ∧ Jvm.Cond.static y ∈ qT ∧ Jvm.Cond.initialized "java/lang/Math" ∈ qT ∧ Jvm.Cond.code y b 2 (some .int) ∈ qT
theorem qJ.max {idx : Nat} {x y : Int} (hκ : qCx Y d MC MS κ) (hat : q_at Y.tb pc = some (.invokestatic idx, 3)) (hw : qMth Y.own idx Lib.Math.max.name Lib.Math.max.code) (hd : 1 ≤ d) (hst : q_cats st ≤ 8) (hc : cs ≤ MC) (hs : sl ≤ MS) (hx0 : -2147483648 ≤ x ∧ x ≤ 2147483647) (hy0 : -2147483648 ≤ y ∧ y ≤ 2147483647) (k : qJ Y κ fin h cs sl (pc + 3) ls (qI (max x y) :: st)) : qJ Y κ fin h cs sl pc ls (qI y :: qI x :: st) := by
  obtain ⟨p, l, e, R, s, m, args, below, meth, c, D, tc, A, φ0, n0⟩ := κ
  obtain ⟨hx, hb, hml, hr, hlk, hnm, hown, hts, hK, hNW, hA, hRO, hR, hY⟩ := hκ
  have hdg := qOKd.dec hY hat
  intro H locs φ lc hP hD hS hag hn hl hll
  have k' := k H locs φ lc hP hD hS hag hn hl hll
  refine va_mmax hx hb (by rw [hml]; exact hl.1.symm) hown (hts _ hw.1) (hts _ hw.2.1) (hts _ hw.2.2.1) (hts _ hw.2.2.2) (by omega) (by rw [q_cats_s]; omega) (by omega) (by omega) hdg ?_
  have e1 : (if Int32.ofInt x < Int32.ofInt y then Int32.ofInt y else Int32.ofInt x) = Int32.ofInt (max x y) := by
    by_cases g : x < y
    · rw [if_pos ((q_ltI hx0 hy0).mpr g), Int.max_eq_right (by omega)]
    · rw [if_neg (fun z => g ((q_ltI hx0 hy0).mp z)), Int.max_eq_left (by omega)]
  rw [e1]
  exact k'
theorem qJ.min {idx : Nat} {x y : Int} (hκ : qCx Y d MC MS κ) (hat : q_at Y.tb pc = some (.invokestatic idx, 3)) (hw : qMth Y.own idx Lib.Math.min.name Lib.Math.min.code) (hd : 1 ≤ d) (hst : q_cats st ≤ 8) (hc : cs ≤ MC) (hs : sl ≤ MS) (hx0 : -2147483648 ≤ x ∧ x ≤ 2147483647) (hy0 : -2147483648 ≤ y ∧ y ≤ 2147483647) (k : qJ Y κ fin h cs sl (pc + 3) ls (qI (min x y) :: st)) : qJ Y κ fin h cs sl pc ls (qI y :: qI x :: st) := by
  obtain ⟨p, l, e, R, s, m, args, below, meth, c, D, tc, A, φ0, n0⟩ := κ
  obtain ⟨hx, hb, hml, hr, hlk, hnm, hown, hts, hK, hNW, hA, hRO, hR, hY⟩ := hκ
  have hdg := qOKd.dec hY hat
  intro H locs φ lc hP hD hS hag hn hl hll
  have k' := k H locs φ lc hP hD hS hag hn hl hll
  refine va_mmin hx hb (by rw [hml]; exact hl.1.symm) hown (hts _ hw.1) (hts _ hw.2.1) (hts _ hw.2.2.1) (hts _ hw.2.2.2) (by omega) (by rw [q_cats_s]; omega) (by omega) (by omega) hdg ?_
  have e1 : (if Int32.ofInt y < Int32.ofInt x then Int32.ofInt y else Int32.ofInt x) = Int32.ofInt (min x y) := by
    by_cases g : y < x
    · rw [if_pos ((q_ltI hy0 hx0).mpr g), Int.min_eq_right (by omega)]
    · rw [if_neg (fun z => g ((q_ltI hy0 hx0).mp z)), Int.min_eq_left (by omega)]
  rw [e1]
  exact k'
def qCpy (own : String) (idx : Nat) : Prop := Jvm.Cond.methodLink own idx arraycopyName ∈ qT ∧ Jvm.Cond.native arraycopyName ∈ qT ∧ Jvm.Cond.static arraycopyName ∈ qT ∧ Jvm.Cond.initialized "java/lang/System" ∈ qT
/-- what arraycopy leaves in the row a1 -/
def q_cpy (m : qM) (a0 : Nat) (sp : Nat) (a1 : Nat) (dp n : Nat) : qM := fun i j => if i = a1 ∧ dp ≤ j ∧ j < dp + n then m a0 (sp + (j - dp)) else m i j
theorem q_cpy_at (m : qM) (a0 sp a1 dp n k : Nat) : q_cpy m a0 sp a1 dp n a1 k = if dp ≤ k ∧ k < dp + n then m a0 (sp + (k - dp)) else m a1 k := by
  unfold q_cpy
  by_cases g : dp ≤ k ∧ k < dp + n
  · rw [if_pos ⟨rfl, g⟩, if_pos g]
  · rw [if_neg (fun z => g z.2), if_neg g]
theorem qJ.copy {idx a0 a1 t n0 n1 : Nat} {sp dp n : Int} (hκ : qCx Y d MC MS κ) (hat : q_at Y.tb pc = some (.invokestatic idx, 3)) (hw : qCpy Y.own idx) (hd : 1 ≤ d) (hst : q_cats st ≤ 8) (hs0 : h.1[a0]? = some (.inr (.inl (t, n0)))) (hs1 : h.1[a1]? = some (.inr (.inl (t, n1)))) (hn0 : n0 < 2147483648) (hn1 : n1 < 2147483648) (h1 : 0 ≤ sp) (h2 : 0 ≤ dp) (h3 : 0 ≤ n) (h4 : sp + n ≤ n0) (h5 : dp + n ≤ n1) (hfit : t = 0 ∨ t = 1 ∧ ∀ i : Nat, i < n.toNat → -128 ≤ h.2.1 a0 (sp.toNat + i) ∧ h.2.1 a0 (sp.toNat + i) ≤ 127)
    (k : qJ Y κ fin (h.1, q_cpy h.2.1 a0 sp.toNat a1 dp.toNat n.toNat, h.2.2) cs sl (pc + 3) ls st) : qJ Y κ fin h cs sl pc ls (qI n :: qI dp :: qR a1 :: qI sp :: qR a0 :: st) := by
  obtain ⟨p, l, e, R, s, m, args, below, meth, c, D, tc, A, φ0, nn0⟩ := κ
  obtain ⟨hx, hb, hml, hr, hlk, hnm, hown, hts, hK, hNW, hA, hRO, hR, hY⟩ := hκ
  have hdg := qOKd.dec hY hat
  intro H locs φ lc hP hD hS hag hn hl hll
  have e0 := qcW_at (φ := φ) (tc := tc) hs0
  have e1 := qcW_at (φ := φ) (tc := tc) hs1
  have cv : ∀ z : Int, 0 ≤ z → z < 2147483648 → (Int32.ofInt z).toNatClampNeg = z.toNat ∧ ¬ Int32.ofInt z < 0 := by
    intro z z1 z2
    refine ⟨by show (Int32.ofInt z).toInt.toNat = _; rw [q_toInt (by omega) (by omega)], ?_⟩
    rw [q_z0, q_ltI ⟨by omega, by omega⟩ q_zr]; omega
  obtain ⟨s1, s2⟩ := cv sp h1 (by omega)
  obtain ⟨d1, d2⟩ := cv dp h2 (by omega)
  obtain ⟨n2, n3⟩ := cv n h3 (by omega)
  have key : (qcW φ tc h).set a1 (φ a1, .inl (tc t, n1, .inl (va_cpy (fun k => Int32.ofInt (h.2.1 a0 k)) (fun k => Int32.ofInt (h.2.1 a1 k)) (Int32.ofInt sp).toNatClampNeg (Int32.ofInt dp).toNatClampNeg (Int32.ofInt n).toNatClampNeg))) = qcW φ tc (h.1, q_cpy h.2.1 a0 sp.toNat a1 dp.toNat n.toNat, h.2.2) := by
    refine qcW_set (h' := (h.1, q_cpy h.2.1 a0 sp.toNat a1 dp.toNat n.toNat, h.2.2)) hs1 (q_lt hs1) (fun _ _ => rfl) (fun j hj k => by simp [q_cpy, hj]) (fun _ _ _ => rfl) ?_
    show Sum.inl (tc t, n1, Sum.inl _) = Sum.inl (tc t, n1, Sum.inl _)
    congr 4
    funext k
    show va_cpy _ _ _ _ _ k = Int32.ofInt (q_cpy h.2.1 a0 sp.toNat a1 dp.toNat n.toNat a1 k)
    rw [q_cpy_at, s1, d1, n2]
    unfold va_cpy
    split <;> rfl
  have hlo : ((st.map (qc φ)).map fun v => v.category).sum + (nativeFrameWords "java/lang/System" "arraycopy" 5 + 11) ≤ R.locals := by
    rw [q_cats_s, show nativeFrameWords "java/lang/System" "arraycopy" 5 = 7 by decide +kernel]
    omega
  rcases hfit with rfl | ⟨rfl, hfit⟩
  · refine va_copyi hx hb (by rw [hml]; exact hl.1.symm) hown (hts _ hw.1) (hts _ hw.2.1) (hts _ hw.2.2.1) (hts _ hw.2.2.2) hK hP hD hS a0 a1 0 0 e0 e1 rfl rfl rfl s2 d2 n3 (by rw [s1, n2]; omega) (by rw [d1, n2]; omega) (fun i _ => rfl) (by omega) hlo hdg fun H1 locs1 b1 b2 b3 => ?_
    rw [key] at b1 b2
    exact k H1 locs1 φ lc b1 b2 b3 hag hn hl hll
  · refine va_copyi hx hb (by rw [hml]; exact hl.1.symm) hown (hts _ hw.1) (hts _ hw.2.1) (hts _ hw.2.2.1) (hts _ hw.2.2.2) hK hP hD hS a0 a1 1 1 e0 e1 rfl rfl rfl s2 d2 n3 (by rw [s1, n2]; omega) (by rw [d1, n2]; omega) (fun i hi => ?_) (by omega) hlo hdg fun H1 locs1 b1 b2 b3 => ?_
    · rw [s1]
      rw [n2] at hi
      obtain ⟨f1, f2⟩ := hfit i hi
      have g1 : (-128 : Int32) ≤ Int32.ofInt (h.2.1 a0 (sp.toNat + i)) := by
        rw [show (-128 : Int32) = Int32.ofInt (-128) from rfl, q_leI (by decide) ⟨by omega, by omega⟩]; exact f1
      have g2 : Int32.ofInt (h.2.1 a0 (sp.toNat + i)) ≤ (127 : Int32) := by
        rw [show (127 : Int32) = Int32.ofInt 127 from rfl, q_leI ⟨by omega, by omega⟩ (by decide)]; exact f2
      simp [fits, g1, g2]
    · rw [key] at b1 b2
      exact k H1 locs1 φ lc b1 b2 b3 hag hn hl hll
end Q11
/-- locals that no one reads any more may be forgotten -/
def q_dl : List Bool → List (Option qV) → List (Option qV)
  | true :: b, v :: l => v :: q_dl b l
  | false :: b, _ :: l => none :: q_dl b l
  | _, l => l
theorem q_dl_len : ∀ (b : List Bool) (l : List (Option qV)), (q_dl b l).length = l.length
  | [], [] => rfl
  | [], _ :: _ => rfl
  | true :: b, [] => rfl
  | false :: b, [] => rfl
  | true :: b, v :: l => by show (q_dl b l).length + 1 = l.length + 1; rw [q_dl_len b l]
  | false :: b, v :: l => by show (q_dl b l).length + 1 = l.length + 1; rw [q_dl_len b l]
theorem q_dl_at : ∀ (b : List Bool) (l : List (Option qV)) (i : Nat) (v : qV), (q_dl b l)[i]? = some (some v) → l[i]? = some (some v)
  | [], [], i, v, h => h
  | [], _ :: _, i, v, h => h
  | true :: b, [], i, v, h => h
  | false :: b, [], i, v, h => h
  | true :: b, w :: l, 0, v, h => h
  | false :: b, w :: l, 0, v, h => by cases h
  | true :: b, w :: l, i + 1, v, h => q_dl_at b l i v h
  | false :: b, w :: l, i + 1, v, h => q_dl_at b l i v h
theorem qJ.dl {Y : qY} {κ : qK} {fin : State → Prop} {h : qH} {cs sl pc : Nat} {ls : List (Option qV)} {st : List qV} (b : List Bool) (k : qJ Y κ fin h cs sl pc (q_dl b ls) st) : qJ Y κ fin h cs sl pc ls st := by
  obtain ⟨p, l, e, R, s, m, args, below, meth, c, D, tc, A, φ0, n0⟩ := κ
  intro H locs φ lc hP hD hS hag hn hl hll
  refine k H locs φ lc hP hD hS hag hn ⟨hl.1, hl.2.1, fun q hq => hl.2.2 q ?_⟩ (by rw [q_dl_len]; exact hll)
  obtain ⟨i, w⟩ := q
  obtain ⟨v, h1, rfl⟩ := qlv_mem.mp hq
  exact qlv_mem.mpr ⟨v, q_dl_at b ls i v h1, rfl⟩

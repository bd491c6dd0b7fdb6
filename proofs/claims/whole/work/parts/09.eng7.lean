/-! THE ENGINE, 7: new cells, switches, constants, Math, arraycopy -/
section Q10
variable {Y : qY} {d MC MS : Nat} {κ : qK} {fin : State → Prop} {h : qH} {cs sl pc : Nat} {ls : List (Option qV)} {st : List qV}
/-- invokespecial of Object's constructor -/
theorem qJ.objInit {idx id : Nat} (hκ : qCx Y d MC MS κ) (hat : q_at Y.tb pc = some (.invokespecial idx, 3)) (hk : Jvm.Cond.methodLink Y.own idx Lib.objectInit ∈ qT ∧ Jvm.Cond.instanceMethod Lib.objectInit ∈ qT ∧ Jvm.Cond.code Lib.objectInit ⟨#[0xb1]⟩ 1 none ∈ qT) (hd : 1 ≤ d) (hc : q_cats st ≤ 8) (k : qJ Y κ fin h cs sl (pc + 3) ls st) : qJ Y κ fin h cs sl pc ls (qR id :: st) := by
  obtain ⟨p, l, e, R, s, m, args, below, meth, c, D, tc, A, φ0, n0⟩ := κ
  obtain ⟨hx, hb, hml, hr, hlk, hnm, hown, hts, hK, hNW, hA, hRO, hR, hY⟩ := hκ
  have hdg := qOKd.dec hY hat
  intro H locs φ lc hP hD hS hag hn hl hll
  refine W.objInit hx hb hown (hts _ hk.1) (hts _ hk.2.1) (hts _ hk.2.2) rfl (by rw [hml]; exact hl.1) rfl hdg (by omega) ?_ (k H locs φ lc hP hD hS hag hn hl hll)
  show 2 * 0 + ((st.map (qc φ)).map fun v => v.category).sum + 12 ≤ R.locals
  rw [q_cats_s]
  omega
theorem q_app {φ φ' : Nat → Nat} {tc : Nat → ClassId} {h : qH} {m' y' : qM} {sh : qS} {q : Nat} (hφ : φ' = va_up φ h.1.length q) (h1 : ∀ j, j ≠ h.1.length → ∀ k, m' j k = h.2.1 j k) (h2 : ∀ j, j ≠ h.1.length → ∀ k, y' j k = h.2.2 j k) (hw : ∀ id sj, h.1[id]? = some sj → qcE φ' tc h.2.1 h.2.2 id sj = qcE φ tc h.2.1 h.2.2 id sj) : qcW φ tc h ++ [(q, qcE φ' tc m' y' h.1.length sh)] = qcW φ' tc (h.1 ++ [sh], m', y') := by
  apply List.ext_getElem?
  intro j
  by_cases e : j < h.1.length
  · rw [List.getElem?_append_left (by simp [qcW]; exact e), qcW_get, qcW_get]
    show _ = (h.1 ++ [sh])[j]?.map _
    rw [List.getElem?_append_left e]
    cases hj : h.1[j]? with
    | none => rfl
    | some sj =>
      have ne : j ≠ h.1.length := by omega
      simp only [Option.map_some]
      rw [qcE_ne (m' := m') (y' := y') (m := h.2.1) (y := h.2.2) sj (h1 j ne) (h2 j ne), hw j sj hj, hφ, va_up_ne _ _ ne]
  · rw [List.getElem?_append_right (by simp [qcW]; omega), qcW_get]
    show _ = (h.1 ++ [sh])[j]?.map _
    rw [List.getElem?_append_right (by omega)]
    have hlen : (qcW φ tc h).length = h.1.length := by simp [qcW]
    rw [hlen]
    by_cases e2 : j = h.1.length
    · subst e2
      simp only [Nat.sub_self, List.getElem?_cons_zero, Option.map_some]
      rw [hφ, va_up_self]
    · rw [List.getElem?_eq_none (by simp; omega), List.getElem?_eq_none (by simp; omega)]
      rfl
/-- no shape refers to a number that isn't there yet -/
def q_shw (n : Nat) (sh : qS) : Bool := match sh with
  | .inl (_, fs) => fs.all (fun f => match f with
    | .inr (some j) => decide (j < n)
    | _ => true)
  | .inr (.inl _) => true
  | .inr (.inr (_, rs)) => rs.all (fun o => match o with
    | some j => decide (j < n)
    | none => true)
theorem q_shw_c {n q : Nat} {φ : Nat → Nat} {tc : Nat → ClassId} {m y : qM} {id : Nat} {sh : qS} (hw : q_shw n sh = true) : qcE (va_up φ n q) tc m y id sh = qcE φ tc m y id sh := by
  rcases sh with ⟨ci, fs⟩ | ⟨t, k⟩ | ⟨t, rs⟩
  · show Sum.inr (ci, _) = Sum.inr (ci, _)
    congr 2
    apply List.ext_getElem?
    intro k
    rw [List.getElem?_mapIdx, List.getElem?_mapIdx]
    cases hk : fs[k]? with
    | none => rfl
    | some f =>
      simp only [Option.map_some]
      rcases f with a | a | a
      · rcases a with _ | _ | a <;> rfl
      · rfl
      · have := List.all_eq_true.mp hw _ (List.mem_of_getElem? hk)
        simp only [decide_eq_true_eq] at this
        show some (Value.ref (va_up φ n q a)) = some (Value.ref (φ a))
        rw [va_up_ne _ _ (by omega)]
  · rfl
  · show Sum.inl (tc t, rs.length, _) = Sum.inl (tc t, rs.length, _)
    congr 7
    funext k
    rw [List.getD_eq_getElem?_getD]
    cases hk : rs[k]? with
    | none => rfl
    | some o =>
      cases o with
      | none => rfl
      | some a =>
        have := List.all_eq_true.mp hw _ (List.mem_of_getElem? hk)
        simp only [decide_eq_true_eq] at this
        show some (va_up φ n q a) = some (φ a)
        rw [va_up_ne _ _ (by omega)]
theorem q_wfs {n q : Nat} {φ : Nat → Nat} {st : List qV} (hw : st.all (q_wf n) = true) (hn : n < 1000) : st.map (qc (va_up φ n q)) = st.map (qc φ) := by
  refine List.map_congr_left fun v hv => q_wf_c (n := n) (n' := n + 1) (List.all_eq_true.mp hw v hv) (by omega) fun i hi => ?_
  exact va_up_ne _ _ (by omega)
theorem q_wfl {n q nL : Nat} {φ : Nat → Nat} {ls : List (Option qV)} {lc : Array Slot} (hw : ls.all (fun o => o.all (q_wf n)) = true) (hn : n < 1000) (hl : lv_has lc nL (qlv φ ls)) : lv_has lc nL (qlv (va_up φ n q) ls) := by
  refine ⟨hl.1, hl.2.1, fun x hx => ?_⟩
  obtain ⟨i, w⟩ := x
  obtain ⟨v, g1, rfl⟩ := qlv_mem.mp hx
  have h2 : q_wf n v = true := by simpa using List.all_eq_true.mp hw (some v) (List.mem_of_getElem? g1)
  rw [q_wf_c (n := n) (n' := n + 1) (φ := φ) h2 (by omega) (fun i hi => va_up_ne _ _ (by omega))]
  exact hl.2.2 _ (qlv_mem.mpr ⟨v, g1, rfl⟩)
/-- newarray -/
theorem qJ.newa {at_ : ArrayType} {n : Int} {t : Nat} {ty : FieldType} (hκ : qCx Y d MC MS κ) (hat : q_at Y.tb pc = some (.newarray at_, 2)) (hty : newarray.typeOf at_ = ty) (ht : (t = 0 ∧ ty = .int) ∨ (t = 1 ∧ ty = .byte) ∨ (t = 2 ∧ ty = .boolean) ∨ (t = 3 ∧ ty = .short)) (hw : Jvm.Cond.arrayClass ty ∈ qT) (hn0 : 0 ≤ n ∧ n < 1000000) (hsh : h.1.all (q_shw h.1.length) = true) (hst : st.all (q_wf h.1.length) = true) (hls : ls.all (fun o => o.all (q_wf h.1.length)) = true) (hL : h.1.length < 1000) (hmc : cs + 1 ≤ MC) (hms : sl + n.toNat ≤ MS)
    (k : qJ Y κ fin (h.1 ++ [.inr (.inl (t, n.toNat))], q_clr h.2.1 h.1.length, q_clr h.2.2 h.1.length) (cs + 1) (sl + n.toNat) (pc + 2) ls (qR h.1.length :: st)) : qJ Y κ fin h cs sl pc ls (qI n :: st) := by
  obtain ⟨p, l, e, R, s, m, args, below, meth, c, D, tc, A, φ0, n0⟩ := κ
  obtain ⟨hx, hb, hml, hr, hlk, hnm, hown, hts, hK, hNW, hA, hRO, hR, hY⟩ := hκ
  have hdg := qOKd.dec hY hat
  intro H locs φ lc hP hD hS hag hn hl hll
  have hnn : (Int32.ofInt n).toInt = n := q_toInt (by omega) (by omega)
  have hcl : (Int32.ofInt n).toNatClampNeg = n.toNat := by show (Int32.ofInt n).toInt.toNat = _; rw [hnn]
  have hneg : ¬ Int32.ofInt n < 0 := by
    rw [q_z0, q_ltI ⟨by omega, by omega⟩ q_zr]; omega
  have hdef : ∀ cA : ClassId, vp_cell cA (n.toNat, .inl (fun _ => (0 : Int32))) = arrV cA n.toNat (fun _ => defaultValue ty) := by
    intro cA
    rcases ht with ⟨-, rfl⟩ | ⟨-, rfl⟩ | ⟨-, rfl⟩ | ⟨-, rfl⟩ <;> rfl
  have hby : n.toNat * componentBytes ty ≤ 536870912 := by
    have : componentBytes ty ≤ 4 := by rcases ht with ⟨-, rfl⟩ | ⟨-, rfl⟩ | ⟨-, rfl⟩ | ⟨-, rfl⟩ <;> decide
    have h3 := Nat.mul_le_mul_left n.toNat this
    omega
  refine va_newa hx hb (hty.symm ▸ hts _ hw) hty hK hP hD hS hA hdef hneg hcl hby (Nat.le_trans hmc hR.2.2.1) (Nat.le_trans hms hR.2.2.2) hdg fun q cA H1 hK1 a1 a2 a3 => ?_
  have hcA : cA = tc t := by
    have r1 := (hK1.2 5 (cA, ty) (by simp [qty])).2
    rcases ht with ⟨rfl, rfl⟩ | ⟨rfl, rfl⟩ | ⟨rfl, rfl⟩ | ⟨rfl, rfl⟩
    · exact Option.some.inj (r1.symm.trans (hK.2 0 _ rfl).2)
    · exact Option.some.inj (r1.symm.trans (hK.2 1 _ rfl).2)
    · exact Option.some.inj (r1.symm.trans (hK.2 2 _ rfl).2)
    · exact Option.some.inj (r1.symm.trans (hK.2 3 _ rfl).2)
  subst hcA
  have key : qcW φ tc h ++ [(q, .inl (tc t, n.toNat, .inl (fun _ => (0 : Int32))))] = qcW (va_up φ h.1.length q) tc (h.1 ++ [.inr (.inl (t, n.toNat))], q_clr h.2.1 h.1.length, q_clr h.2.2 h.1.length) := by
    rw [← q_app (φ := φ) (q := q) rfl (fun j hj k => by simp [q_clr, hj]) (fun j hj k => by simp [q_clr, hj]) (fun id sj hs => q_shw_c (List.all_eq_true.mp hsh _ (List.mem_of_getElem? hs)))]
    congr 2
    show _ = (q, Sum.inl (tc t, n.toNat, Sum.inl _))
    congr 5
    funext k
    simp [q_clr]
  rw [key] at a1 a2
  have k' := k H1 locs (va_up φ h.1.length q) lc a1 a2 a3 (fun i hi => by
    simp only [List.length_append, List.length_singleton] at hi
    rw [va_up_ne _ _ (by omega)]; exact hag i (by omega)) (by simp; omega) (q_wfl hls hL hl) hll
  rw [List.map_cons, q_wfs hst hL] at k'
  show W p l e R s m args below meth c H1 locs (cs + 1) (sl + n.toNat) fin (F0 m (pc + 2) lc (Value.ref q :: st.map (qc φ)))
  have e3 : qc (va_up φ h.1.length q) (qR h.1.length) = Value.ref q := by show Value.ref (va_up φ h.1.length q h.1.length) = _; rw [va_up_self]
  rw [e3] at k'
  exact k'
/-- the shape of a new object's field -/
def q_dfs (ty : FieldType) : qF := match ty with
  | .int => .inl 0
  | .long => .inl 1
  | .boolean => .inl 2
  | _ => .inr none
theorem qJ.new {idx ci : Nat} {r : vw_C} {fs : List qF} (hκ : qCx Y d MC MS κ) (hat : q_at Y.tb pc = some (.new idx, 3)) (hci : q_cl[ci]? = some r) (hw : Jvm.Cond.classLink Y.own idx r.1 ∈ qT ∧ Jvm.Cond.instantiable r.1 r.2.2 ∈ qT ∧ Jvm.Cond.initialized r.1 ∈ qT) (hfs : fs.length = r.2.2 ∧ ∀ j, j < r.2.2 → ∃ ty, parseFieldDescriptor (r.2.1 j).2.2.1 = some ty ∧ fs[j]? = some (q_dfs ty) ∧ defaultValue ty = qcF (fun _ => 0) (fun _ _ => 0) (fun _ _ => 0) 0 0 (q_dfs ty)) (hsh : h.1.all (q_shw h.1.length) = true) (hst : st.all (q_wf h.1.length) = true) (hls : ls.all (fun o => o.all (q_wf h.1.length)) = true) (hL : h.1.length < 1000) (hmc : cs + 1 ≤ MC) (hms : sl + r.2.2 ≤ MS)
    (k : qJ Y κ fin (h.1 ++ [.inl (ci, fs)], q_clr h.2.1 h.1.length, q_clr h.2.2 h.1.length) (cs + 1) (sl + r.2.2) (pc + 3) ls (qR h.1.length :: st)) : qJ Y κ fin h cs sl pc ls st := by
  obtain ⟨p, l, e, R, s, m, args, below, meth, c, D, tc, A, φ0, n0⟩ := κ
  obtain ⟨hx, hb, hml, hr, hlk, hnm, hown, hts, hK, hNW, hA, hRO, hR, hY⟩ := hκ
  have hdg := qOKd.dec hY hat
  intro H locs φ lc hP hD hS hag hn hl hll
  obtain ⟨c1, c2, ty, c3⟩ := qT_cl ci r hci
  have hz : ∀ f : qF, (∃ ty, f = q_dfs ty) → ∀ (φ' : Nat → Nat) (j : Nat), qcF φ' (q_clr h.2.1 h.1.length) (q_clr h.2.2 h.1.length) h.1.length j f = qcF (fun _ => 0) (fun _ _ => 0) (fun _ _ => 0) 0 0 f := by
    rintro f ⟨ty, rfl⟩ φ' j
    cases ty <;> simp [q_dfs, qcF, q_clr]
  refine va_new hx hb hts c1 ty c3 hown (hts _ hw.1) (hts _ hw.2.1) (hts _ hw.2.2) hK hP hD hS hA hci (fs := fs.mapIdx (fun k f => qcF φ (q_clr h.2.1 h.1.length) (q_clr h.2.2 h.1.length) h.1.length k f)) (fun j hj => ?_) (Nat.le_trans hmc hR.2.2.1) (Nat.le_trans hms hR.2.2.2) hdg fun q H1 a1 a2 a3 => ?_
  · obtain ⟨ty', g1, g2, g3⟩ := hfs.2 j hj
    have := c3 j hj
    rw [g1] at this
    obtain rfl := Option.some.inj this
    rw [g3, vp_V, List.getD_eq_getElem?_getD, List.getElem?_mapIdx, g2]
    simp only [Option.map_some, Option.getD_some]
    rw [hz _ ⟨_, rfl⟩]
  · have key : qcW φ tc h ++ [(q, .inr (ci, fs.mapIdx (fun k f => qcF φ (q_clr h.2.1 h.1.length) (q_clr h.2.2 h.1.length) h.1.length k f)))] = qcW (va_up φ h.1.length q) tc (h.1 ++ [.inl (ci, fs)], q_clr h.2.1 h.1.length, q_clr h.2.2 h.1.length) := by
      rw [← q_app (φ := φ) (q := q) rfl (fun j hj k => by simp [q_clr, hj]) (fun j hj k => by simp [q_clr, hj]) (fun id sj hs => q_shw_c (List.all_eq_true.mp hsh _ (List.mem_of_getElem? hs)))]
      congr 2
      show _ = (q, Sum.inr (ci, _))
      congr 3
      apply List.ext_getElem?
      intro j
      rw [List.getElem?_mapIdx, List.getElem?_mapIdx]
      cases hj : fs[j]? with
      | none => rfl
      | some f =>
        have hj2 : j < r.2.2 := by rw [← hfs.1]; exact q_lt hj
        obtain ⟨ty', g1, g2, g3⟩ := hfs.2 j hj2
        have ef : f = q_dfs ty' := Option.some.inj (hj.symm.trans g2)
        simp only [Option.map_some]
        rw [hz f ⟨_, ef⟩, hz f ⟨_, ef⟩]
    rw [key] at a1 a2
    have k' := k H1 locs (va_up φ h.1.length q) lc a1 a2 a3 (fun i hi => by
      simp only [List.length_append, List.length_singleton] at hi
      rw [va_up_ne _ _ (by omega)]; exact hag i (by omega)) (by simp; omega) (q_wfl hls hL hl) hll
    rw [List.map_cons, q_wfs hst hL] at k'
    have e3 : qc (va_up φ h.1.length q) (qR h.1.length) = Value.ref q := by show Value.ref (va_up φ h.1.length q h.1.length) = _; rw [va_up_self]
    rw [e3] at k'
    exact k'
end Q10

/-! THE ENGINE, 2: the judgement qJ, the steps without heap -/
abbrev qK : Type := Program × Launch × Env × Room × State × MethodId × Array Value × List Frame × Method × Code × va_G × (Nat → ClassId) × (Nat → Prop) × (Nat → Nat) × Nat
/-- what is only read: the texts' lengths, bytes; where they are loaded; statics -/
def qSl : List Nat := [10, 4, 7, 3, 4, 4, 4, 2]
def qSb : List (List Int32) := [[97, 101, 105, 111, 107, 116, 112, 115, 110, 114], [111, 112, 101, 110], [99, 108, 117, 115, 116, 101, 114], [101, 110, 100], [100, 114, 111, 112], [101, 99, 104, 111], [108, 97, 115, 116], [97, 115]]
def qSr : List (String × Nat × String × Nat) := [(RX9, 55, "aeioktpsnr", 0), (RX4, 40, "aeioktpsnr", 0), (RX5, 114, "aeioktpsnr", 0), (RX5, 123, "open", 1), (RX5, 129, "cluster", 2), (RX5, 131, "end", 3), (RX5, 133, "drop", 4), (RX5, 135, "echo", 5), (RX5, 137, "last", 6), (RX5, 139, "as", 7)]
/-- object numbers from 1000 on: texts 1000 .., their bytes 1100 .., a static's object 1200 -/
def qRO (_D : va_G) (_tc : Nat → ClassId) (φ : Nat → Nat) (A : Nat → Prop) (s : State) : Prop :=
  vk_S 8 qSl qSb (fun i => φ (1000 + i)) (fun i => φ (1100 + i)) A s s.heap ∧ (∀ r ∈ qSr, vk_R r.1 r.2.1 r.2.2.1 (φ (1000 + r.2.2.2)) s) ∧ va_Z "java/lang/String" "COMPACT_STRINGS" "Z" (.int 1) A s s.heap ∧
  ∃ v : Value, (v = .null ∨ v = .ref (φ 1200)) ∧ va_Z "jdk/internal/util/Preconditions" "SIOOBE_FORMATTER" "Ljava/util/function/BiFunction;" v A s s.heap
theorem qRO.same {D : va_G} {tc : Nat → ClassId} {φ : Nat → Nat} {A : Nat → Prop} {s U : State} (hh : U.heap = s.heap) (hv : U.vm = s.vm) (h : qRO D tc φ A s) : qRO D tc φ A U := by
  obtain ⟨h1, h2, h3, v, h4, h5⟩ := h
  have ha : s.vm.Alike U.vm := by rw [hv]; exact Vm.Alike.refl _
  unfold qRO
  rw [hh]
  exact ⟨h1.moved ha, fun r hr => (h2 r hr).same hv, h3.moved ha, v, h4, h5.moved ha⟩
theorem qRO.call {D : va_G} {tc : Nat → ClassId} {φ φ0 : Nat → Nat} {A B : Nat → Prop} {s U : State} {H : Heap} {locs : List Loc} (hag : ∀ i, 1000 ≤ i → φ i = φ0 i) (hS : va_S A s.heap H locs) (hB : ∀ q, B q → A q) (hU : U.heap = H) (hW : s.WarmedH U.vm) (h : qRO D tc φ0 A s) : qRO D tc φ B U := by
  obtain ⟨h1, h2, h3, v, h4, h5⟩ := h
  have e1 : (fun i => φ (1000 + i)) = fun i => φ0 (1000 + i) := funext fun i => hag _ (by omega)
  have e2 : (fun i => φ (1100 + i)) = fun i => φ0 (1100 + i) := funext fun i => hag _ (by omega)
  unfold qRO
  rw [hU, e1, e2, hag 1200 (by omega)]
  refine ⟨((h1.kept hS.2.1).moved hW.alike).narrow hB, fun r hr => ?_, ((h3.kept hS.2.1).moved hW.alike).narrow hB, v, h4, ((h5.kept hS.2.1).moved hW.alike).narrow hB⟩
  rw [hag _ (by omega)]
  exact (h2 r hr).warm hW
def qCx (Y : qY) (d MC MS : Nat) (κ : qK) : Prop := match κ with
  | (p, _l, _e, R, s, m, args, _below, meth, c, D, tc, A, φ0, _n0) =>
    p.tables.exec = Jvm.exec ∧ c.code = Y.cc ∧ c.maxLocals = Y.nL ∧ meth.sig.returnType = Y.ret ∧ meth.locks = false ∧ meth.name = Y.nm.name ∧ s.vm.findClass Y.own = some m.cls ∧ (∀ w ∈ qT, w.before args s = true) ∧
    va_K D q_cl (qty tc) s ∧ qNW s ∧ (∀ q, s.heap.size ≤ q → A q) ∧ qRO D tc φ0 A s ∧ (d ≤ R.frames ∧ 40 * d ≤ R.locals ∧ MC ≤ R.cells ∧ MS ≤ R.slots) ∧ qOKd Y
/-- the locals, as a list of places and values -/
def qlv (φ : Nat → Nat) (ls : List (Option qV)) : List (Nat × Value) := ls.zipIdx.filterMap (fun q => q.1.map (fun v => (q.2, qc φ v)))
theorem qlv_mem {φ : Nat → Nat} {ls : List (Option qV)} {i : Nat} {w : Value} : (i, w) ∈ qlv φ ls ↔ ∃ v, ls[i]? = some (some v) ∧ w = qc φ v := by
  unfold qlv
  rw [List.mem_filterMap]
  constructor
  · rintro ⟨⟨o, j⟩, h1, h2⟩
    cases o with
    | none => cases h2
    | some v =>
      cases h2
      exact ⟨v, (List.mem_zipIdx_iff_getElem?.mp h1), rfl⟩
  · rintro ⟨v, h1, rfl⟩
    exact ⟨(some v, i), List.mem_zipIdx_iff_getElem?.mpr h1, rfl⟩
/-- from here (heap, cells and slots so far, place, locals, stack) the machine comes to fin -/
def qJ (Y : qY) (κ : qK) (fin : State → Prop) (h : qH) (cs sl pc : Nat) (ls : List (Option qV)) (st : List qV) : Prop := match κ with
  | (p, l, e, R, s, m, args, below, meth, c, D, tc, A, φ0, n0) =>
    ∀ (H : Heap) (locs : List Loc) (φ : Nat → Nat) (lc : Array Slot), va_P D q_cl (qcW φ tc h) H → va_D A (qcW φ tc h) → va_S A s.heap H locs → (∀ i, (i < n0 ∨ h.1.length ≤ i) → φ i = φ0 i) → (n0 ≤ h.1.length ∧ h.1.length ≤ 1000) → lv_has lc Y.nL (qlv φ ls) → ls.length = Y.nL →
      W p l e R s m args below meth c H locs cs sl fin (F0 m pc lc (st.map (qc φ)))
/-- a method's end -/
def q_Q (D : va_G) (tc : Nat → ClassId) (φ0 : Nat → Nat) (n0 : Nat) (A : Nat → Prop) (Q : Option qV → qH → Prop) : Array Value → State → Outcome → State → Prop := fun _ st o t =>
  (∃ (r : Option qV) (h' : qH) (φ' : Nat → Nat), o = .returned (r.map (qc φ')) ∧ Q r h' ∧ (∀ i, (i < n0 ∨ h'.1.length ≤ i) → φ' i = φ0 i) ∧ (n0 ≤ h'.1.length ∧ h'.1.length ≤ 1000) ∧ va_P D q_cl (qcW φ' tc h') t.heap ∧ va_D A (qcW φ' tc h')) ∧ va_F A st t
def qFin (Q : Option qV → qH → Prop) (mc ms : Nat) (κ : qK) : State → Prop := match κ with
  | (_p, _l, _e, _R, s, _m, args, below, _meth, _c, D, tc, A, φ0, n0) => MQ below (q_Q D tc φ0 n0 A Q) args s mc ms A
def q_P (D : va_G) (tc : Nat → ClassId) (φ : Nat → Nat) (sz : Nat) (as : List qV) (h : qH) : Array Value → State → Prop := fun v U =>
  v = (as.map (qc φ)).toArray ∧ U.heap.size = sz ∧ va_P D q_cl (qcW φ tc h) U.heap ∧ va_K D q_cl (qty tc) U ∧ qNW U ∧ va_D (fun _ => True) (qcW φ tc h) ∧ qRO D tc φ (va_A (qcW φ tc h) sz) U ∧ h.1.length ≤ 1000
/-- a method's contract at these arguments and this heap -/
def qCt (Y : qY) (d mc ms : Nat) (as : List qV) (h : qH) (Q : Option qV → qH → Prop) : Prop := ∀ (l : Launch) (D : va_G) (tc : Nat → ClassId) (φ : Nat → Nat) (sz : Nat),
  Met l Y.nm (Jvm.Cond.code Y.nm Y.cc Y.nL Y.ret :: qT) { frames := d, cells := mc, slots := ms, locals := 40 * d } (q_P D tc φ sz as h) (q_Q D tc φ h.1.length (va_A (qcW φ tc h) sz) Q) mc ms (va_A (qcW φ tc h) sz)
/-- the locals at a method's entry -/
def q_args : List qV → List (Option qV)
  | [] => []
  | .inr (.inl z) :: r => some (qL z) :: none :: q_args r
  | v :: r => some v :: q_args r
theorem q_args_lv (φ : Nat → Nat) : ∀ (as : List qV) (i : Nat), lv_args i (as.map (qc φ)) = ((q_args as).zipIdx i).filterMap (fun q => q.1.map (fun v => (q.2, qc φ v)))
  | [], i => rfl
  | .inl z :: r, i => by
    simp only [List.map_cons, lv_args, q_args, List.zipIdx_cons, List.filterMap_cons, Option.map_some]
    rw [if_neg (by simp [qc, Value.category]), q_args_lv φ r (i + 1)]
  | .inr (.inl z) :: r, i => by
    simp only [List.map_cons, lv_args, q_args, List.zipIdx_cons, List.filterMap_cons, Option.map_some, Option.map_none]
    rw [if_pos (by simp [qc, Value.category]), q_args_lv φ r (i + 2)]
  | .inr (.inr none) :: r, i => by
    simp only [List.map_cons, lv_args, q_args, List.zipIdx_cons, List.filterMap_cons, Option.map_some]
    rw [if_neg (by simp [qc, Value.category]), q_args_lv φ r (i + 1)]
  | .inr (.inr (some j)) :: r, i => by
    simp only [List.map_cons, lv_args, q_args, List.zipIdx_cons, List.filterMap_cons, Option.map_some]
    rw [if_neg (by simp [qc, Value.category]), q_args_lv φ r (i + 1)]
theorem q_sl_cons (v : Value) (vs : List Value) : lg_sl (v :: vs) = (if v.category = 2 then [.val v, .second] else [.val v]) ++ lg_sl vs := rfl
theorem q_args_len (φ : Nat → Nat) : ∀ (as : List qV), (lg_sl (as.map (qc φ))).length = (q_args as).length
  | [] => rfl
  | .inl z :: r => by rw [List.map_cons, q_sl_cons, List.length_append, q_args_len φ r]; simp [q_args, qc, Value.category]; omega
  | .inr (.inl z) :: r => by rw [List.map_cons, q_sl_cons, List.length_append, q_args_len φ r]; simp [q_args, qc, Value.category]; omega
  | .inr (.inr none) :: r => by rw [List.map_cons, q_sl_cons, List.length_append, q_args_len φ r]; simp [q_args, qc, Value.category]; omega
  | .inr (.inr (some j)) :: r => by rw [List.map_cons, q_sl_cons, List.length_append, q_args_len φ r]; simp [q_args, qc, Value.category]; omega
def q_ent (Y : qY) (as : List qV) : List (Option qV) := q_args as ++ List.replicate (Y.nL - (q_args as).length) none
set_option maxHeartbeats 4000000 in
/-- a contract out of a walk -/
theorem qCt.intro {Y : qY} {d mc ms : Nat} {as : List qV} {h : qH} {Q : Option qV → qH → Prop} (hY : qOK Y) (hl : (q_args as).length ≤ Y.nL)
    (k : ∀ κ : qK, qCx Y d mc ms κ → qJ Y κ (qFin Q mc ms κ) h 0 0 0 (q_ent Y as) []) : qCt Y d mc ms as h Q := by
  intro l D tc φ sz
  refine Met.ofW (cc := Y.cc) (maxL := Y.nL) (ret := Y.ret) (by rw [hY.1]; exact hY.2.1) rfl ?_
  intro p e s m args below meth c s₁ B hml hv
  obtain ⟨rfl, hsz, hP, hK, hN, hD0, hRO, hlen⟩ := hv
  subst hsz
  have hts0 := atoms_spec (ws := Jvm.Cond.code Y.nm Y.cc Y.nL Y.ret :: qT) B.pre
  have hown : s.vm.findClass Y.own = some m.cls := by have := findClass_of_methodNamed B.named; rw [hY.1] at this; exact this
  have hin : meth.name = Y.nm.name := (name_of_methodNamed B.named B.method).1
  have hk := k (p, l, e, (headSpec (Jvm.Cond.code Y.nm Y.cc Y.nL Y.ret :: qT) { frames := d, cells := mc, slots := ms, locals := 40 * d }).room, s, m, (as.map (qc φ)).toArray, below, meth, c, D, tc, va_A (qcW φ tc h) s.heap.size, φ, h.1.length)
    ⟨B.exec, B.bytes, hml, B.returns, B.notSynchronized, hin, hown, fun w hw => hts0 w (List.mem_cons_of_mem _ hw), hK, hN, fun q hq => Or.inr hq, hRO, ⟨Nat.le_refl _, Nat.le_refl _, Nat.le_refl _, Nat.le_refl _⟩, hY.2.2.2.2.2.2.2⟩
  have hent := lv_entry (as.map (qc φ)) (n := Y.nL) (by rw [q_args_len]; exact hl)
  rw [lg_entry_eq]
  refine hk s.heap [] φ _ hP hD0.self va_S.rf (fun i _ => rfl) ⟨Nat.le_refl _, hlen⟩ ⟨hent.1, hent.2.1, fun q hq => hent.2.2 q ?_⟩ ?_
  · rw [q_args_lv]
    obtain ⟨i, w⟩ := q
    obtain ⟨v, h1, rfl⟩ := qlv_mem.mp hq
    refine (qlv_mem (φ := φ) (ls := q_args as)).mpr ⟨v, ?_, rfl⟩
    unfold q_ent at h1
    by_cases hi : i < (q_args as).length
    · rw [List.getElem?_append_left hi] at h1
      exact h1
    · rw [List.getElem?_append_right (by omega)] at h1
      have := List.mem_of_getElem? h1
      have h2 := List.eq_of_mem_replicate this
      cases h2
  · simp [q_ent]
    omega

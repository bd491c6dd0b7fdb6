/-! printed by p115.py: the law from its entry; what lies around it is the kit's skeleton of this claim -/
theorem tT_1 {w : Jvm.Cond} (i : Nat) (h : tables_1_1[i]? = some w) : w ∈ lw_tbl := by
  have g := List.mem_of_getElem? h
  exact List.mem_append_right _ (List.mem_append_left _ g)
theorem tT_2 {w : Jvm.Cond} (i : Nat) (h : tables_1_2[i]? = some w) : w ∈ lw_tbl := by
  have g := List.mem_of_getElem? h
  exact List.mem_append_right _ (List.mem_append_right _ (List.mem_append_left _ g))
theorem tT_3 {w : Jvm.Cond} (i : Nat) (h : tables_1_3[i]? = some w) : w ∈ lw_tbl := by
  have g := List.mem_of_getElem? h
  exact List.mem_append_right _ (List.mem_append_right _ (List.mem_append_right _ (List.mem_append_left _ g)))
theorem tT_4 {w : Jvm.Cond} (i : Nat) (h : tables_1_4[i]? = some w) : w ∈ lw_tbl := by
  have g := List.mem_of_getElem? h
  exact List.mem_append_right _ (List.mem_append_right _ (List.mem_append_right _ (List.mem_append_right _ (List.mem_append_left _ g))))
theorem tT_5 {w : Jvm.Cond} (i : Nat) (h : tables_1_5[i]? = some w) : w ∈ lw_tbl := by
  have g := List.mem_of_getElem? h
  exact List.mem_append_right _ (List.mem_append_right _ (List.mem_append_right _ (List.mem_append_right _ (List.mem_append_right _ (List.mem_append_left _ g)))))
theorem tT_6 {w : Jvm.Cond} (i : Nat) (h : tables_1_6[i]? = some w) : w ∈ lw_tbl := by
  have g := List.mem_of_getElem? h
  exact List.mem_append_right _ (List.mem_append_right _ (List.mem_append_right _ (List.mem_append_right _ (List.mem_append_right _ (List.mem_append_right _ (List.mem_append_left _ g))))))
theorem tT_7 {w : Jvm.Cond} (i : Nat) (h : tables_1_7[i]? = some w) : w ∈ lw_tbl := by
  have g := List.mem_of_getElem? h
  exact List.mem_append_right _ (List.mem_append_right _ (List.mem_append_right _ (List.mem_append_right _ (List.mem_append_right _ (List.mem_append_right _ (List.mem_append_right _ (List.mem_append_left _ g)))))))
theorem tT_8 {w : Jvm.Cond} (i : Nat) (h : tables_1_8[i]? = some w) : w ∈ lw_tbl := by
  have g := List.mem_of_getElem? h
  exact List.mem_append_right _ (List.mem_append_right _ (List.mem_append_right _ (List.mem_append_right _ (List.mem_append_right _ (List.mem_append_right _ (List.mem_append_right _ (List.mem_append_right _ (g))))))))
theorem q_inst : ∀ (ci : Nat) (r : vw_C), q_cl[ci]? = some r → ∃ n, Jvm.Cond.instantiable r.1 n ∈ qT := by
  intro ci r h
  match ci, h with
  | 0, h => cases h; exact ⟨_, kn_X6_31.2.1⟩
  | 1, h => cases h; exact ⟨_, kn_X9_9.2.1⟩
  | 2, h => cases h; exact ⟨_, kn_X11_31.2.1⟩
  | 3, h => cases h; exact ⟨_, kn_X9_18.2.1⟩
  | 4, h => cases h; exact ⟨_, kn_X9_25.2.1⟩
  | 5, h => cases h; exact ⟨_, kn_X11_48.2.1⟩
  | 6, h => cases h; exact ⟨_, kn_X11_62.2.1⟩
  | 7, h => cases h; exact ⟨_, kn_X11_55.2.1⟩
  | 8, h => cases h; exact ⟨_, kn_X11_41.2.1⟩
  | 9, h => cases h; exact ⟨_, kn_X11_9.2.1⟩
  | 10, h => cases h; exact ⟨_, kn_X11_24.2.1⟩
  | 11, h => cases h; exact ⟨_, kn_L_7.2.1⟩
  | 12, h => cases h; exact ⟨_, kn_L_10.2.1⟩
  | k + 13, h => cases h
theorem q_known {s : State} {args : Array Value} (hts : ∀ w ∈ lw_tbl, w.before args s = true) : ∃ D : va_G, ∀ (ci : Nat) (r : vw_C), q_cl[ci]? = some r → u_Kn s r.1 r.2.1 r.2.2 (D.1 ci) (D.2 ci) := by
  have h : ∀ ci : Nat, ∃ q : ClassId × (Nat → Nat), ∀ r : vw_C, q_cl[ci]? = some r → u_Kn s r.1 r.2.1 r.2.2 q.1 q.2 := by
    intro ci
    cases hc : q_cl[ci]? with
    | none => exact ⟨((0 : Nat), fun _ => 0), fun r h => by cases h⟩
    | some r =>
      obtain ⟨n, hn⟩ := q_inst ci r hc
      obtain ⟨cC, iS, hk⟩ := u_known (C := r.1) (T := r.2.1) (N := r.2.2) (n := n) hts (fun w hw => (qT_good w ((qT_cl ci r hc).1 w hw)).1) (hts _ (qT_good _ hn).1)
      exact ⟨(cC, iS), fun r' h => by cases h; exact hk⟩
  obtain ⟨f, hf⟩ := Classical.axiomOfChoice h
  exact ⟨(fun ci => (f ci).1, fun ci => (f ci).2), hf⟩
theorem q_arrs {s : State} {args : Array Value} (hts : ∀ w ∈ lw_tbl, w.before args s = true) : ∃ tc : Nat → ClassId, ∀ (k : Nat) (q : ClassId × FieldType), (qty tc)[k]? = some q → ArrOfT s q.1 q.2 ∧ va_RA s q.1 q.2 := by
  obtain ⟨c0, k0, p0, f0, g0, h0⟩ := Cond.arrayClass_spec (args := args) (first := s) (o := none) (s := s) (idx := []) (hts _ (qT_good _ ka_0).1)
  obtain ⟨c1, k1, p1, f1, g1, h1⟩ := Cond.arrayClass_spec (args := args) (first := s) (o := none) (s := s) (idx := []) (hts _ (qT_good _ ka_1).1)
  obtain ⟨c2, k2, p2, f2, g2, h2⟩ := Cond.arrayClass_spec (args := args) (first := s) (o := none) (s := s) (idx := []) (hts _ (qT_good _ ka_2).1)
  obtain ⟨c3, k3, p3, f3, g3, h3⟩ := Cond.arrayClass_spec (args := args) (first := s) (o := none) (s := s) (idx := []) (hts _ (qT_good _ ka_3).1)
  obtain ⟨p4, c4, k4, f4, i4, g4, h4, n4⟩ := Cond.arrayOver_spec (args := args) (first := s) (o := none) (s := s) (idx := []) (n := RX9) (hts _ (tT_1 199 rfl))
  refine ⟨fun k => if k = 0 then c0 else if k = 1 then c1 else if k = 2 then c2 else if k = 3 then c3 else c4, fun k q h => ?_⟩
  match k, h with
  | 0, h => cases h; exact ⟨fun n z => ⟨fun k h => (by cases h), k0, g0, p0, h0⟩, f0⟩
  | 1, h => cases h; exact ⟨fun n z => ⟨fun k h => (by cases h), k1, g1, p1, h1⟩, f1⟩
  | 2, h => cases h; exact ⟨fun n z => ⟨fun k h => (by cases h), k2, g2, p2, h2⟩, f2⟩
  | 3, h => cases h; exact ⟨fun n z => ⟨fun k h => (by cases h), k3, g3, p3, h3⟩, f3⟩
  | 4, h => cases h; exact ⟨fun n z => ⟨fun k h => (by cases h), k4, g4, p4, h4⟩, k4, p4, g4, h4, f4, n4⟩
  | k + 5, h => cases h
theorem q_nw {s : State} {args : Array Value} (hts : ∀ w ∈ lw_tbl, w.before args s = true) : qNW s := by
  refine ⟨fun w hw => ?_, va_AO.of (hts _ (tT_1 199 rfl))⟩
  obtain ⟨hm, h1⟩ := List.mem_filter.mp hw
  have h2 := hts w (List.mem_append_right _ hm)
  cases w <;> first | (cases h1; done) | exact va_Nw.of rfl h2
/-- the texts -/
def lwTx : List Term := [.string "UnreadScript$Told" 55, .string "UnreadScript$LineReader" 123, .string "UnreadScript$LineReader" 129, .string "UnreadScript$LineReader" 131, .string "UnreadScript$LineReader" 133, .string "UnreadScript$LineReader" 135, .string "UnreadScript$LineReader" 137, .string "UnreadScript$LineReader" 139]
def lwTm (i : Nat) : Term := lwTx.getD i (.string "" 0)
def qFl : List Cond := flatC (Jvm.Cond.and given_1 narrow_1)
theorem st_n : ∀ i : Fin 8, qSl.getD i.val 0 ≤ 10 := by decide +kernel
theorem st_ex : ∀ i : Fin 8, Cond.exactly (lwTm i.val) "java/lang/String" ∈ qFl := by decide +kernel
theorem st_co : ∀ i : Fin 8, Cond.eq (.field (lwTm i.val) "java/lang/String" "coder" "B") (.int 0) ∈ qFl := by decide +kernel
theorem st_ar : ∀ i : Fin 8, Cond.arrayOf (.field (lwTm i.val) "java/lang/String" "value" "[B") .byte ∈ qFl := by decide +kernel
theorem st_le : ∀ i : Fin 8, Cond.eq (.length (.field (lwTm i.val) "java/lang/String" "value" "[B")) (.int (Int32.ofNat (qSl.getD i.val 0))) ∈ qFl := by decide +kernel
theorem st_el : ∀ i : Fin 8, ∀ j : Fin 10, j.val < qSl.getD i.val 0 → Cond.eq (.elem (.field (lwTm i.val) "java/lang/String" "value" "[B") (.int (Int32.ofNat j.val))) (.int ((qSb.getD i.val []).getD j.val 0)) ∈ qFl := by decide +kernel
theorem st_ne : ∀ i j : Fin 8, i ≠ j → Cond.not (Cond.eq (lwTm i.val) (lwTm j.val)) ∈ qFl ∨ Cond.not (Cond.eq (lwTm j.val) (lwTm i.val)) ∈ qFl := by decide +kernel
theorem st_e1 : Cond.eq (.string "UnreadScript$Told" 55) (.string "UnreadScript$Lexicon" 40) ∈ qFl := by decide +kernel
theorem st_e2 : Cond.eq (.string "UnreadScript$Told" 55) (.string "UnreadScript$LineReader" 114) ∈ qFl := by decide +kernel
theorem st_z1 : Cond.eq (.static "java/lang/String" "COMPACT_STRINGS" "Z") (.int 1) ∈ qFl := by decide +kernel
theorem st_z2 : Cond.isRef (.static "jdk/internal/util/Preconditions" "SIOOBE_FORMATTER" "Ljava/util/function/BiFunction;") ∈ qFl := by decide +kernel
theorem q_ro0 {s : State} {args : Array Value} {A : Nat → Prop} {D : va_G} {tc : Nat → ClassId} {b t : Nat} {adK adV : Nat → Nat} {v : Value} (hs : ∀ w ∈ qFl, w.before args s = true) (hts : ∀ w ∈ lw_tbl, w.before args s = true) (hA : ∀ a : Nat, a < s.heap.size → ¬ A a) (hS : vk_S 8 qSl qSb adK adV A s s.heap) (hE : ∀ i : Nat, i < 8 → (lwTm i).eval args s none [] s = some (.ref (adK i))) (hv : v = .null ∨ v = .ref t) (hz : va_Z "jdk/internal/util/Preconditions" "SIOOBE_FORMATTER" "Ljava/util/function/BiFunction;" v A s s.heap) : ∃ φ0 : Nat → Nat, φ0 1300 = b ∧ qRO D tc φ0 A s := by
  obtain ⟨φ0, hφ⟩ : ∃ φ0 : Nat → Nat, φ0 = fun i => if i = 1300 then b else if i = 1200 then t else if 1100 ≤ i then adV (i - 1100) else adK (i - 1000) := ⟨_, rfl⟩
  have e13 : φ0 1300 = b := by rw [hφ]; rfl
  have e12 : φ0 1200 = t := by rw [hφ]; rfl
  have eK : ∀ i, i < 8 → φ0 (1000 + i) = adK i := fun i hi => by
    rw [hφ]
    show (if 1000 + i = 1300 then b else if 1000 + i = 1200 then t else if 1100 ≤ 1000 + i then adV (1000 + i - 1100) else adK (1000 + i - 1000)) = adK i
    rw [if_neg (by omega), if_neg (by omega), if_neg (by omega), Nat.add_sub_cancel_left]
  have eV : ∀ i, i < 8 → φ0 (1100 + i) = adV i := fun i hi => by
    rw [hφ]
    show (if 1100 + i = 1300 then b else if 1100 + i = 1200 then t else if 1100 ≤ 1100 + i then adV (1100 + i - 1100) else adK (1100 + i - 1000)) = adV i
    rw [if_neg (by omega), if_neg (by omega), if_pos (by omega), Nat.add_sub_cancel_left]
  have E : ∀ i, i < 8 → (lwTm i).eval args s none [] s = some (.ref (φ0 (1000 + i))) := fun i hi => by rw [eK i hi]; exact hE i hi
  refine ⟨φ0, e13, ⟨fun i hi => ?_, fun i j hi hj e => hS.2 i j hi hj ?_⟩, ?_, va_Zof (hts _ (tT_4 175 rfl)) (hts _ (tT_1 17 rfl)) (va_eqi (hs _ st_z1)) hA, v, ?_, hz⟩
  · have h := hS.1 i hi
    rw [← eK i hi, ← eV i hi] at h
    exact h
  · rw [← eK i hi, ← eK j hj]
    exact e
  · have e0 := E 0 (by decide)
    refine List.forall_mem_cons.mpr ⟨vk_R.of (hts _ (tT_4 161 rfl)) e0, ?_⟩
    refine List.forall_mem_cons.mpr ⟨vk_R.of (hts _ (tT_5 8 rfl)) (va_eqR (hs _ st_e1) e0), ?_⟩
    refine List.forall_mem_cons.mpr ⟨vk_R.of (hts _ (tT_5 45 rfl)) (va_eqR (hs _ st_e2) e0), ?_⟩
    refine List.forall_mem_cons.mpr ⟨vk_R.of (hts _ (tT_5 55 rfl)) (E 1 (by decide)), ?_⟩
    refine List.forall_mem_cons.mpr ⟨vk_R.of (hts _ (tT_5 81 rfl)) (E 2 (by decide)), ?_⟩
    refine List.forall_mem_cons.mpr ⟨vk_R.of (hts _ (tT_5 82 rfl)) (E 3 (by decide)), ?_⟩
    refine List.forall_mem_cons.mpr ⟨vk_R.of (hts _ (tT_5 91 rfl)) (E 4 (by decide)), ?_⟩
    refine List.forall_mem_cons.mpr ⟨vk_R.of (hts _ (tT_5 92 rfl)) (E 5 (by decide)), ?_⟩
    refine List.forall_mem_cons.mpr ⟨vk_R.of (hts _ (tT_5 93 rfl)) (E 6 (by decide)), ?_⟩
    refine List.forall_mem_cons.mpr ⟨vk_R.of (hts _ (tT_5 94 rfl)) (E 7 (by decide)), ?_⟩
    exact fun _ h => absurd h List.not_mem_nil
  · rw [e12]
    exact hv
theorem q_ro {s : State} {args : Array Value} {A : Nat → Prop} (D : va_G) (tc : Nat → ClassId) (b : Nat) (hs : ∀ w ∈ qFl, w.before args s = true) (hts : ∀ w ∈ lw_tbl, w.before args s = true) (hA : ∀ a : Nat, a < s.heap.size → ¬ A a) : ∃ φ0 : Nat → Nat, φ0 1300 = b ∧ qRO D tc φ0 A s := by
  obtain ⟨adK, adV, hS, hE⟩ := vk_Sof (args := args) (s := s) (N := 8) (tm := lwTm) (len := qSl) (byt := qSb) (A := A) (fun i hi => Nat.lt_of_le_of_lt (st_n ⟨i, hi⟩) (by decide)) (fun i hi => hs _ (st_ex ⟨i, hi⟩)) (fun i hi => hs _ (st_co ⟨i, hi⟩)) (fun i hi => hs _ (st_ar ⟨i, hi⟩)) (fun i hi => hs _ (st_le ⟨i, hi⟩)) (fun i hi j hj => hs _ (st_el ⟨i, hi⟩ ⟨j, Nat.lt_of_lt_of_le hj (st_n ⟨i, hi⟩)⟩ hj)) (fun i j hi hj hij => (st_ne ⟨i, hi⟩ ⟨j, hj⟩ (fun e => hij (congrArg Fin.val e))).imp (hs _) (hs _)) hA
  rcases va_Zqof (hts _ (tT_4 214 rfl)) (hts _ (tT_1 20 rfl)) (hs _ st_z2) hA with hz | ⟨t, hz⟩
  · exact q_ro0 (t := 0) hs hts hA hS hE (Or.inl rfl) hz
  · exact q_ro0 (t := t) hs hts hA hS hE (Or.inr rfl) hz

/-! THE CLAIM OUT OF ONE WALK OF THE LAW'S BODY. Your part is whole_start (and what it stands on); all else here is the same for every law, but numbers. -/
def R_law : String := "UnreadScriptLaw"
def lw_P (b : Addr) (xs : List Int32) (args : Array Value) (s : State) : Prop := args = #[.ref b] ∧ s.IntsAt b xs ∧ xs.length ≤ 3584 ∧ (Jvm.Cond.and given_1 narrow_1).before args s = true
def lw_Q (_ : Array Value) (s : State) (o : Outcome) (t : State) : Prop := o = .returned (some (.int 1)) ∧ Framed s o t [] 600000 7302250
def lw_Z (below : List Frame) (a : Array Value) (s : State) : State → Prop := fun t => ∃ o, t.status = .running ∧ Ended t below o ∧ lw_Q a s o t
/-- the law's own end, with 1 on the stack, nothing written that was there before, its room as the claim has it -/
theorem lw_ret {p : Program} {l : Launch} {e : Env} {s : State} {m : MethodId} {below : List Frame} {meth : Method} {c : Code} {b : Nat} (hx : p.tables.exec = Jvm.exec) (hb : c.code = code) (hr : meth.sig.returnType = ret) (hlocks : meth.locks = false) {pc : Nat} {H : Heap} {ls : Array Slot} (hdg : decode code pc = .ok (.ireturn, 1)) : W p l e room_1 s m #[Value.ref b] below meth c H [] 600000 7302250 (lw_Z below #[Value.ref b] s) (F0 m pc ls [.int 1]) := by
  intro T hT X
  obtain ⟨fs, hret, hrun, hended, hW, hframe⟩ := X.leave (v := some (.int 1)) (hlocks := hlocks) (fun h => by rw [hr] at h; cases h)
  have hmeth' : T.vm.method? m = some meth := X.method'
  refine ⟨T.setFrames fs, ?_, .returned (some (.int 1)), hrun, hended, rfl, ⟨_, rfl⟩, hW, hframe⟩
  jvm_step X.here [X.here.top, hx, hb, hdg, hmeth', hr, ret, narrow_b1]
  (try refine ⟨rfl, ?_⟩); (try refine ⟨rfl, ?_⟩)
  first | (intro acts; rw [hret _ acts rfl rfl rfl]) | rw [hret _ _ rfl rfl rfl]
  exact Steps.refl _
/-- what holds at the law's entry: the machine, the code, the tables' words (any of lw_tbl by 'hts w (by decide +kernel)'), the script of L ints xs at the cell b, what the Statement gives of the start (any of its parts by flat_of_before) -/
def lw_At (p : Program) (s : State) (m : MethodId) (meth : Method) (c : Code) (b L : Nat) (xs : Nat → Int32) : Prop :=
  p.tables.exec = Jvm.exec ∧ c.code = code ∧ meth.sig.returnType = ret ∧ c.maxLocals = 4 ∧ s.vm.findClass R_law = some m.cls ∧ (∀ w ∈ lw_tbl, w.before #[Value.ref b] s = true) ∧ va_X b L xs s s.heap ∧ b < s.heap.size ∧ meth.locks = false ∧ (Jvm.Cond.and given_1 narrow_1).before #[Value.ref b] s = true

theorem whole_start {p : Program} {e : Env} {s : State} {m : MethodId} {below : List Frame} {meth : Method} {c : Code} (l : Launch) {b L : Nat} {xs : Nat → Int32} (hL : L ≤ 3584) (C0 : lw_At p s m meth c b L xs) : W p l e room_1 s m #[Value.ref b] below meth c s.heap [] 0 0 (lw_Z below #[Value.ref b] s) (entryFrame m ([Value.ref b] : List Value).toArray 4) := by
  obtain ⟨hx, hb, hr, hml, hown, hts, hX, hbl, hlocks, hgv⟩ := C0
  obtain ⟨D, hD0⟩ := q_known hts
  obtain ⟨tc, htc⟩ := q_arrs hts
  obtain ⟨φ0, hφ, hRO⟩ := q_ro (A := fun q : Nat => s.heap.size ≤ q) D tc b (flat_of_before _ hgv) hts (fun a h => Nat.not_le.mpr h)
  have hκ : qCx (YL meth.name tbL) 13 600000 7302250 (p, l, e, room_1, s, m, #[Value.ref b], below, meth, c, D, tc, (fun q : Nat => s.heap.size ≤ q), φ0, 0) :=
    ⟨hx, hb, hml, hr, hlocks, rfl, hown, fun w hw => hts w (qT_good w hw).1, ⟨hD0, htc⟩, q_nw hts, fun q h => h, hRO, ⟨Nat.le_of_ble_eq_true rfl, Nat.le_of_ble_eq_true rfl, Nat.le_of_ble_eq_true rfl, Nat.le_of_ble_eq_true rfl⟩, qOKd_L tbL_ok⟩
  have hSc : qSc (p, l, e, room_1, s, m, #[Value.ref b], below, meth, c, D, tc, (fun q : Nat => s.heap.size ≤ q), φ0, 0) L xs := by
    refine ⟨?_, ?_, ?_⟩
    · rw [hφ]; exact hX
    · rw [hφ]; exact hbl
    · rw [hφ]; exact Nat.not_le.mpr hbl
  have hend : ∀ (h : qH) (cs sl : Nat) (i : Int), cs ≤ 600000 → sl ≤ 7302250 → qJ (YL meth.name tbL) (p, l, e, room_1, s, m, #[Value.ref b], below, meth, c, D, tc, (fun q : Nat => s.heap.size ≤ q), φ0, 0) (lw_Z below #[Value.ref b] s) h cs sl 1253 [some (qR 1300), some (qR 0), some (qR 77), some (qI i)] [qI 1] := by
    intro h cs sl i h1 h2 H locs φ lc hP hD hS hag hn hl hll
    refine va_forget (fun q hq => hS.2.2 q hq) ?_
    refine W.widen h1 h2 ?_
    exact lw_ret hx hb hr hlocks (qOKd.dec (Y := YL meth.name tbL) (qOKd_L tbL_ok) rfl)
  have J := law_start hκ (fun _ _ => 0) (fun _ _ => 0) (fun m' y' hA => law_loop hκ hSc hL hend 3600 0 0 _ m' y' 125 211460 (by omega) (by omega) hA (by omega) (by omega) (by omega) (by omega))
  have hl := lv_entry ([.ref b]) (n := 4) (Nat.le_of_ble_eq_true rfl)
  rw [lg_entry_eq]
  generalize (lg_sl ([.ref b]) ++ List.replicate (4 - (lg_sl ([.ref b])).length) Slot.unset).toArray = ls at hl ⊢
  have hl : lv_has ls 4 [(0, .ref b)] := hl
  refine J s.heap [] φ0 ls (fun k q h => by simp [qcW] at h) ⟨fun i j p q h => by simp [qcW] at h, fun k q h => by simp [qcW] at h⟩ va_S.rf (fun i _ => rfl) ⟨Nat.le_refl _, Nat.zero_le _⟩ ?_ rfl
  have e0 : qlv φ0 [some (qR 1300), none, none, none] = [(0, Value.ref b)] := by
    show [(0, Value.ref (φ0 1300))] = _
    rw [hφ]
  rw [e0]
  exact hl

set_option maxHeartbeats 4000000 in
theorem lw_walk (l : Launch) (b : Addr) (xs : List Int32) : MetFree l x (headSpec (Jvm.Cond.code x code maxLocals ret :: tables_1) room_1) (lw_P b xs) (fun _ _ _ _ _ => True) lw_Q := by
  refine MetFree.of_bodyS (code := code) (maxLocals := maxLocals) (ret := ret) (by decide) ?_ ?_
  · intro args s m h hn
    obtain ⟨meth, c, h1, h2, h3, h4, h5, h6, -, -⟩ := Cond.code_spec hn (atoms_spec (ws := Jvm.Cond.code x code maxLocals ret :: tables_1) h _ List.mem_cons_self)
    exact ⟨meth, c, h1, h2, h3, h4, h5, h6⟩
  · intro p e s m args below meth c s₁ B hml0 hP _
    obtain ⟨rfl, hx, hbd, hgv⟩ := hP
    obtain ⟨scr, harrAt, hlist, hof, hsmall⟩ := hx
    obtain ⟨hcb, hkn, -, -⟩ := State.arrayAt?_spec harrAt
    have hown : s.vm.findClass R_law = some m.cls := findClass_of_methodNamed B.named
    have hts0 : ∀ c ∈ (Jvm.Cond.code x code maxLocals ret :: tables_1), c.before #[Value.ref b] s = true := atoms_spec (ws := Jvm.Cond.code x code maxLocals ret :: tables_1) B.pre
    have hts : ∀ w ∈ lw_tbl, w.before #[Value.ref b] s = true := k2_hts_sels lw_privs (fun w hw => hts0 w (List.mem_cons_of_mem _ hw)) lw_privs_ok
    have hml : c.maxLocals = 4 := B.maxLocals_eq (hts0 _ List.mem_cons_self)
    have X₀ : Stand p l e room_1 s m #[Value.ref b] below meth c s₁ [] 0 0 := Stand.of_body B
    have hh0 : s₁.heap = s.heap := by rw [B.state]; rfl
    have hsz : scr.slots.size = xs.length := by rw [← Array.length_toList, hlist, List.length_map]
    have hval : ∀ j : Nat, j < xs.length → scr.slots[j]? = some (.int (xs.getD j 0)) := fun j hj => by
      rw [← Array.getElem?_toList, hlist]
      simp [hj]
    have hbl : b < s.heap.size := (Array.getElem?_eq_some_iff.mp hcb).1
    have hX : va_X b xs.length (fun j => xs.getD j 0) s s.heap := ⟨scr, hcb, hof, hkn, hsz, hval⟩
    have K : W p l e room_1 s m #[Value.ref b] below meth c s₁.heap [] 0 0 (lw_Z below #[Value.ref b] s) (entryFrame m ([Value.ref b] : List Value).toArray 4) := by
      rw [hh0]
      exact whole_start l hbd ⟨B.exec, B.bytes, B.returns, hml, hown, hts, hX, hbl, B.notSynchronized, hgv⟩
    obtain ⟨t, a1, o, b1, b2, b3⟩ := K s₁ rfl X₀
    exact ⟨t, o, a1, b1, b2, b3⟩
theorem lw_pre_spec {args : Array Value} {s : State} (h : (Jvm.Cond.and given_1 narrow_1).before args s = true) (hr : rest_1_c.before args s = true) : ∃ (b : Addr) (xs : List Int32), lw_P b xs args s := by
  have hs := flat_of_before _ h
  have hq := flat_of_before _ hr
  have hc : (Cond.count 1).before args s = true := hs _ (by decide +kernel)
  have harr : (Cond.arrayOf (.arg 0) .int).before args s = true := hs _ (by decide +kernel)
  have hle : (Cond.le (.length (.arg 0)) (.int 3584)).before args s = true := hs _ (by decide +kernel)
  have hlen : (Cond.isInt (.length (.arg 0))).before args s = true := hq _ (by decide +kernel)
  have hall : (Cond.all (.arg 0) (.isInt (.elem (.arg 0) (.index 0)))).before args s = true := hq _ (by decide +kernel)
  obtain ⟨b, xs, hb, hx⟩ := State.ints_of_pre rfl harr hlen hall
  have hsm : xs.length < 2 ^ 31 := hx.choose_spec.2.2.2
  have hev : (Term.length (.arg 0)).eval args s none [] s = some (.int xs.length.toInt32) := hx.length_eval hb
  have hv := Cond.le_ints hev (show (Term.int 3584).eval args s none [] s = some (.int 3584) from rfl)
  have hd : xs.length.toInt32 ≤ 3584 := by
    simpa [Cond.before, Cond.holds, hv] using hle
  have hN : xs.length ≤ 3584 := (Int32.ofNat_le_ofNat hsm (by decide)).mp (show Int32.ofNat xs.length ≤ Int32.ofNat 3584 from hd)
  exact ⟨b, xs, Cond.one_arg hc (show args[0]? = some (.ref b) from hb), hx, hN, h⟩
theorem lw_comes (l : Launch) : Comes l x (Jvm.Cond.code x code maxLocals ret :: tables_1) room_1 (fun tb e args s => Calls_1 tb e args s ∧ rest_1 tb e args s ∧ Pre_1 tb e args s)
    (fun _ _ args s o t => lw_Q args s o t) := by
  intro p e ha hc hk s m args below hf hfit hheap happ hpre
  obtain ⟨b, xs, hP⟩ := lw_pre_spec hpre.2.2 hpre.2.1
  obtain ⟨k, o, h1, h2, h3, hQ⟩ := lw_walk l b xs p e ha hc hk s m args below hf ((Spec.applies_iff_loose hf).mp happ).1 hP trivial
  exact ⟨k, o, h1, h2, h3, hQ⟩
theorem lw_frame {s t : State} {o : Outcome} {args : Array Value} (h : Framed s o t [] 600000 7302250) :
    Framed s o t (fieldLocs frame_1_writes args s ++ arrayLocs frame_1_arrays args s ++ staticLocs frame_1_statics s) 600000 7302250 := h
theorem lw_limb (L : Cond) (hL : ∀ (args : Array Value) (s t : State), L.after args s (.returned (some (.int 1))) t = true) :
    ArmFor flags0 classFile x code maxLocals ret World_1 tables_1 room_1 Calls_1 rest_1 Pre_1
      (fun tb e a s o t => postC L tb e a s o t ∧ Framed s o t (fieldLocs frame_1_writes a s ++ arrayLocs frame_1_arrays a s ++ staticLocs frame_1_statics s) 600000 7302250) := by
  intro l _ _ _ p e ha hc hk s m args below hf hfit hheap happ hpre
  obtain ⟨k, o, h1, h2, h3, rfl, hF⟩ := lw_comes l p e ha hc hk s m args below hf hfit hheap happ hpre
  exact ⟨k, _, h1, h2, h3, hL args s _, lw_frame hF⟩
theorem i_vc : Claimed_1_1 ∧ Claimed_1_2 := ⟨lw_limb limb_1_1 (fun args s t => by simp [limb_1_1, Cond.after, Cond.holds, Cond.value]), lw_limb limb_1_2 (fun args s t => Cond.after_iff.mpr (by
  first | (rw [show limb_1_2 = Cond.eq .result (.int 1) from rfl, Cond.eq_ints (x := 1) (y := 1) rfl rfl]; simp; done) | (simp [limb_1_2, Cond.value, Term.eval]; done)))⟩

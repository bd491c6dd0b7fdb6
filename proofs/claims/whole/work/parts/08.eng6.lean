/-! THE ENGINE, 6: answers and calls -/
/-- how many words a stack takes -/
def q_cats (st : List qV) : Nat := match st with
  | [] => 0
  | .inr (.inl _) :: r => 2 + q_cats r
  | _ :: r => 1 + q_cats r
theorem q_cats_s (φ : Nat → Nat) : ∀ st : List qV, ((st.map (qc φ)).map fun v => v.category).sum = q_cats st
  | [] => rfl
  | .inl z :: r => by simp only [List.map_cons, List.sum_cons, q_cats_s φ r, q_cats]; rfl
  | .inr (.inl z) :: r => by simp only [List.map_cons, List.sum_cons, q_cats_s φ r, q_cats]; rfl
  | .inr (.inr none) :: r => by simp only [List.map_cons, List.sum_cons, q_cats_s φ r, q_cats]; rfl
  | .inr (.inr (some j)) :: r => by simp only [List.map_cons, List.sum_cons, q_cats_s φ r, q_cats]; rfl
section Q7
variable {Y : qY} {d MC MS : Nat} {κ : qK} {fin : State → Prop} {h : qH} {cs sl pc : Nat} {ls : List (Option qV)} {st : List qV}
theorem qJ.zret {Q : Option qV → qH → Prop} {mc ms : Nat} {z : Int} {ty : FieldType} (hκ : qCx Y d MC MS κ) (hat : q_at Y.tb pc = some (.ireturn, 1)) (hret : Y.ret = some ty) (hn0 : narrow ty (.int (Int32.ofInt z)) = .int (Int32.ofInt z)) (hc : cs ≤ mc) (hs : sl ≤ ms) (hq : Q (some (qI z)) h) : qJ Y κ (qFin Q mc ms κ) h cs sl pc ls [qI z] := by
  obtain ⟨p, l, e, R, s, m, args, below, meth, c, D, tc, A, φ0, n0⟩ := κ
  obtain ⟨hx, hb, hml, hr, hlk, hnm, hown, hts, hK, hNW, hA, hRO, hR, hY⟩ := hκ
  have hdg := qOKd.dec hY hat
  intro H locs φ lc hP hD hS hag hn hl hll
  exact W.widen hc hs (W.zret hx hb (hr.trans hret) hn0 (fun t ht _ => ⟨⟨some (qI z), h, φ, rfl, hq, hag, hn, by rw [ht]; exact hP, hD⟩, hS.F ht⟩) hS.2.2 hdg hlk)
theorem qJ.iret {Q : Option qV → qH → Prop} {mc ms : Nat} {z : Int} (hκ : qCx Y d MC MS κ) (hat : q_at Y.tb pc = some (.ireturn, 1)) (hret : Y.ret = some .int) (hc : cs ≤ mc) (hs : sl ≤ ms) (hq : Q (some (qI z)) h) : qJ Y κ (qFin Q mc ms κ) h cs sl pc ls [qI z] := qJ.zret hκ hat hret rfl hc hs hq
theorem qJ.bret {Q : Option qV → qH → Prop} {mc ms : Nat} {z : Int} (hκ : qCx Y d MC MS κ) (hat : q_at Y.tb pc = some (.ireturn, 1)) (hret : Y.ret = some .boolean) (hz : z = 0 ∨ z = 1) (hc : cs ≤ mc) (hs : sl ≤ ms) (hq : Q (some (qI z)) h) : qJ Y κ (qFin Q mc ms κ) h cs sl pc ls [qI z] := qJ.zret hκ hat hret (by rcases hz with rfl | rfl <;> rfl) hc hs hq
theorem qJ.vret {Q : Option qV → qH → Prop} {mc ms : Nat} (hκ : qCx Y d MC MS κ) (hat : q_at Y.tb pc = some (.return_, 1)) (hret : Y.ret = none) (hc : cs ≤ mc) (hs : sl ≤ ms) (hq : Q none h) : qJ Y κ (qFin Q mc ms κ) h cs sl pc ls [] := by
  obtain ⟨p, l, e, R, s, m, args, below, meth, c, D, tc, A, φ0, n0⟩ := κ
  obtain ⟨hx, hb, hml, hr, hlk, hnm, hown, hts, hK, hNW, hA, hRO, hR, hY⟩ := hκ
  have hdg := qOKd.dec hY hat
  intro H locs φ lc hP hD hS hag hn hl hll
  exact W.widen hc hs (W.vret hx hb (hr.trans hret) (fun t ht _ => ⟨⟨none, h, φ, rfl, hq, hag, hn, by rw [ht]; exact hP, hD⟩, hS.F ht⟩) hS.2.2 hdg hlk)
theorem qJ.aret {Q : Option qV → qH → Prop} {mc ms j : Nat} {cn : String} (hκ : qCx Y d MC MS κ) (hat : q_at Y.tb pc = some (.areturn, 1)) (hret : Y.ret = some (.object cn)) (hc : cs ≤ mc) (hs : sl ≤ ms) (hq : Q (some (qR j)) h) : qJ Y κ (qFin Q mc ms κ) h cs sl pc ls [qR j] := by
  obtain ⟨p, l, e, R, s, m, args, below, meth, c, D, tc, A, φ0, n0⟩ := κ
  obtain ⟨hx, hb, hml, hr, hlk, hnm, hown, hts, hK, hNW, hA, hRO, hR, hY⟩ := hκ
  have hdg := qOKd.dec hY hat
  intro H locs φ lc hP hD hS hag hn hl hll
  exact W.widen hc hs (W.aret hx hb (hr.trans hret) (Or.inl ⟨cn, rfl⟩) (Or.inr ⟨φ j, rfl⟩) (fun t ht _ => ⟨⟨some (qR j), h, φ, rfl, hq, hag, hn, by rw [ht]; exact hP, hD⟩, hS.F ht⟩) hS.2.2 hdg hlk)
end Q7
/-- a callee's world is there -/
theorem q_P.pre {D : va_G} {tc : Nat → ClassId} {φ : Nat → Nat} {as : List qV} {h : qH} {s U : State} {H : Heap} {A : Nat → Prop} {φ0 : Nat → Nat} {n0 : Nat} {locs : List Loc} (hP : va_P D q_cl (qcW φ tc h) H) (hD : va_D A (qcW φ tc h)) (hK : va_K D q_cl (qty tc) s) (hN : qNW s) (hRO : qRO D tc φ0 A s) (hag : ∀ i, (i < n0 ∨ h.1.length ≤ i) → φ i = φ0 i) (hn : n0 ≤ h.1.length ∧ h.1.length ≤ 1000) (hS : va_S A s.heap H locs) (hA : ∀ q, s.heap.size ≤ q → A q) (hU : U.heap = H) (hW : s.WarmedH U.vm) : q_P D tc φ H.size as h (as.map (qc φ)).toArray U :=
  ⟨rfl, by rw [hU], by rw [hU]; exact hP, va_K.moved hW.alike hK, hN.moved hW, hD.weaken (fun _ _ _ _ => trivial), hRO.call (fun i hi => hag i (Or.inr (by omega))) hS (fun q hq => by
    rcases hq with ⟨k, e, hk⟩ | hq
    · exact hD.2 k _ hk
    · exact hA q (Nat.le_trans hS.1 hq)) hU hW, hn.2⟩
theorem q_P.blind {D : va_G} {tc : Nat → ClassId} {φ : Nat → Nat} {as : List qV} {h : qH} {sz : Nat} : FrameBlind (q_P D tc φ sz as h) := by
  intro a U g mk q
  obtain ⟨q1, q2, q3, q4, q5, q6, q7, q8⟩ := q
  exact ⟨q1, q2, q3, va_K.moved (u := U) (U := U.calling g mk a) (Vm.Alike.refl U.vm) q4, qNW.same (s := U) (U := U.calling g mk a) rfl q5, q6, qRO.same (s := U) (U := U.calling g mk a) rfl rfl q7, q8⟩
section Q8
variable {p : Program} {l : Launch} {e : Env} {R : Room} {s : State} {m : MethodId} {args : Array Value} {below : List Frame} {meth : Method} {c : Code} {D : va_G} {tc : Nat → ClassId} {A : Nat → Prop} {φ0 φ : Nat → Nat} {n0 : Nat} {h : qH} {H : Heap} {locs : List Loc} {cs sl mc ms pc : Nat} {lc : Array Slot} {fin : State → Prop} {Q : Option qV → qH → Prop} {a : Array Value} {restC stC : List Value}
theorem q_call (hr : va_Run p l e R s m args below meth c H locs cs sl mc ms (F0 m pc lc stC) restC (q_Q D tc φ h.1.length (va_A (qcW φ tc h) H.size) Q a) (va_A (qcW φ tc h) H.size)) (hD : va_D A (qcW φ tc h)) (hS : va_S A s.heap H locs) (hA : ∀ q, s.heap.size ≤ q → A q)
    (kk : ∀ (r : Option qV) (h' : qH) (φ' : Nat → Nat) (H1 : Heap) (locs1 : List Loc), Q r h' → (∀ i, (i < h.1.length ∨ h'.1.length ≤ i) → φ' i = φ i) → (h.1.length ≤ h'.1.length ∧ h'.1.length ≤ 1000) → va_P D q_cl (qcW φ' tc h') H1 → va_D A (qcW φ' tc h') → va_S A s.heap H1 locs1 → W p l e R s m args below meth c H1 locs1 (cs + mc) (sl + ms) fin (F0 m (pc + 3) lc ((r.map (qc φ')).toList ++ restC))) : W p l e R s m args below meth c H locs cs sl fin (F0 m pc lc stC) := by
  have hsub : ∀ q, va_A (qcW φ tc h) H.size q → A q := by
    intro q hq
    rcases hq with ⟨k, e, hk⟩ | hq
    · exact hD.2 k _ hk
    · exact hA q (Nat.le_trans hS.1 hq)
  intro T hT X
  obtain ⟨v, st₀, t, T', L, e0, X', hL, e1, e2, ⟨⟨r, h', φ', hv, hq, hag, hn, hP, hD'⟩, hz, hk⟩, st⟩ := hr T hT X
  cases hv
  rw [e0] at hz hk
  obtain ⟨t2, a1, b1⟩ := kk r h' φ' T'.heap (locs ++ L) hq hag hn (by rw [e1]; exact hP) (hD'.weaken (fun _ _ _ g => hsub _ g))
    ⟨Nat.le_trans hS.1 (by rw [e1]; exact hz), fun q h1 h2 => by rw [e1, hk q (Nat.lt_of_lt_of_le h1 hS.1) (fun z => h2 (hsub q z))]; exact hS.2.1 q h1 h2, fun q hq => by
      rcases List.mem_append.mp hq with g | g
      · exact hS.2.2 q g
      · exact hsub _ (hL q g)⟩ T' rfl X'
  exact ⟨t2, st t2 a1, b1⟩
end Q8
def qCB (own : String) (idx : Nat) (Y' : qY) : Prop := qOK Y' ∧ Jvm.Cond.methodLink own idx Y'.nm ∈ qT
def qCV (own : String) (idx : Nat) (Y' : qY) : Prop := qCB own idx Y' ∧ Jvm.Cond.instanceMethod Y'.nm ∈ qT ∧ Jvm.Cond.selects Y'.own Y'.nm Y'.nm ∈ qT
def qCS (own : String) (idx : Nat) (Y' : qY) : Prop := qCB own idx Y' ∧ Jvm.Cond.static Y'.nm ∈ qT
def qCI (own : String) (idx : Nat) (Y' : qY) : Prop := qCB own idx Y' ∧ Y'.nm.name = "<init>" ∧ Y'.ret = none ∧ Jvm.Cond.instanceMethod Y'.nm ∈ qT
def qCSN (own : String) (idx : Nat) (Y' : qY) : Prop := qOK Y' ∧ (∃ host, Jvm.Cond.methodLinkNest own idx Y'.nm host ∈ qNWL) ∧ Jvm.Cond.static Y'.nm ∈ qT
def qCIN (own : String) (idx : Nat) (Y' : qY) : Prop := qOK Y' ∧ (∃ host, Jvm.Cond.methodLinkNest own idx Y'.nm host ∈ qNWL) ∧ Y'.nm.name = "<init>" ∧ Y'.ret = none ∧ Jvm.Cond.instanceMethod Y'.nm ∈ qT
theorem q_ws {Y' : qY} {args : Array Value} {s : State} (hY' : qOK Y') (hts : ∀ w ∈ qT, w.before args s = true) : ∀ w ∈ (Jvm.Cond.code Y'.nm Y'.cc Y'.nL Y'.ret :: qT), ∀ (a' : Array Value) (U : State), s.WarmedH U.vm → w.before a' U = true := by
  intro w hw a' U hW
  have hm : w ∈ qT := by
    rcases List.mem_cons.mp hw with rfl | hw
    · exact hY'.2.2.2.1
    · exact hw
  exact word_at hW (good_of_word (qT_good w hm).2) (hts w hm)
theorem q_CallB {Y' : qY} {own : String} {idx d d' mc ms : Nat} {R : Room} {s : State} {args : Array Value} (hk : qCB own idx Y') (hts : ∀ w ∈ qT, w.before args s = true) (hR : d ≤ R.frames ∧ 40 * d ≤ R.locals) (hd : d' + 1 ≤ d) : CallB R s args own idx Y'.nm Y'.cc Y'.nL Y'.ret (Jvm.Cond.code Y'.nm Y'.cc Y'.nL Y'.ret :: qT) { frames := d', cells := mc, slots := ms, locals := 40 * d' } mc ms Y'.np := by
  obtain ⟨hY', hl⟩ := hk
  refine ⟨rfl, rfl, Nat.le_trans hd hR.1, ?_, q_ws hY' hts, List.mem_cons_self, hts _ hY'.2.2.2.1, by rw [hY'.1]; exact hts _ hY'.2.2.2.2.1, by rw [hY'.1]; exact hY'.2.2.1, fun sig hsig => ?_, hts _ hl⟩
  · have := hY'.2.2.2.2.2.2.1
    show 8 + (Y'.nL + 11) + 40 * d' ≤ R.locals
    omega
  · have h2 := hY'.2.2.2.2.2.1
    rw [hsig] at h2
    exact (Option.some.inj h2).symm
theorem q_CN {Y' : qY} {own host : String} {idx d d' mc ms : Nat} {R : Room} {s : State} {args : Array Value} (hY' : qOK Y') (hl : Jvm.Cond.methodLinkNest own idx Y'.nm host ∈ qNWL) (hN : qNW s) (hts : ∀ w ∈ qT, w.before args s = true) (hR : d ≤ R.frames ∧ 40 * d ≤ R.locals) (hd : d' + 1 ≤ d) : va_CN R s args own idx Y'.nm host Y'.cc Y'.nL Y'.ret (Jvm.Cond.code Y'.nm Y'.cc Y'.nL Y'.ret :: qT) { frames := d', cells := mc, slots := ms, locals := 40 * d' } mc ms Y'.np := by
  refine ⟨⟨rfl, rfl, Nat.le_trans hd hR.1, ?_, q_ws hY' hts, List.mem_cons_self⟩, hts _ hY'.2.2.2.1, by rw [hY'.1]; exact hts _ hY'.2.2.2.2.1, by rw [hY'.1]; exact hY'.2.2.1, fun sig hsig => ?_, va_Nw.use rfl (hN.1 _ hl)⟩
  · have := hY'.2.2.2.2.2.2.1
    show 8 + (Y'.nL + 11) + 40 * d' ≤ R.locals
    omega
  · have h2 := hY'.2.2.2.2.2.1
    rw [hsig] at h2
    exact (Option.some.inj h2).symm
/-- references below n, or to what is only read -/
def q_wf (n : Nat) (v : qV) : Bool := match v with
  | .inr (.inr (some j)) => decide (j < n) || decide (1000 ≤ j)
  | _ => true
theorem q_wf_c {n n' : Nat} {φ φ' : Nat → Nat} {v : qV} (h : q_wf n v = true) (hl : n' ≤ 1000) (hag : ∀ i, (i < n ∨ n' ≤ i) → φ' i = φ i) : qc φ' v = qc φ v := by
  rcases v with z | z | z | j
  · rfl
  · rfl
  · rfl
  · simp only [q_wf, Bool.or_eq_true, decide_eq_true_eq] at h
    show Value.ref (φ' j) = Value.ref (φ j)
    rw [hag j (by omega)]
section Q9
variable {Y : qY} {d MC MS : Nat} {κ : qK} {fin : State → Prop} {h : qH} {cs sl pc : Nat} {ls : List (Option qV)} {st : List qV}
/-- behind a call: the locals and the stack are as they were -/
theorem q_back {p : Program} {l : Launch} {e : Env} {R : Room} {s : State} {m : MethodId} {args : Array Value} {below : List Frame} {meth : Method} {c : Code} {D : va_G} {tc : Nat → ClassId} {A : Nat → Prop} {φ0 φ : Nat → Nat} {n0 : Nat} {H : Heap} {locs : List Loc} {mc ms : Nat} {lc : Array Slot} {Q : Option qV → qH → Prop} {a : Array Value} {rest : List qV} {stC : List Value}
    (hr : va_Run p l e R s m args below meth c H locs cs sl mc ms (F0 m pc lc stC) (rest.map (qc φ)) (q_Q D tc φ h.1.length (va_A (qcW φ tc h) H.size) Q a) (va_A (qcW φ tc h) H.size)) (hD : va_D A (qcW φ tc h)) (hS : va_S A s.heap H locs) (hA : ∀ q, s.heap.size ≤ q → A q) (hag : ∀ i, (i < n0 ∨ h.1.length ≤ i) → φ i = φ0 i) (hn : n0 ≤ h.1.length ∧ h.1.length ≤ 1000) (hl : lv_has lc Y.nL (qlv φ ls)) (hll : ls.length = Y.nL)
    (hw : (∀ r h', Q r h' → h'.1.length = h.1.length) ∨ (rest.all (q_wf h.1.length) = true ∧ ls.all (fun o => o.all (q_wf h.1.length)) = true))
    (k : ∀ r h', Q r h' → qJ Y (p, l, e, R, s, m, args, below, meth, c, D, tc, A, φ0, n0) fin h' (cs + mc) (sl + ms) (pc + 3) ls (r.toList ++ rest)) : W p l e R s m args below meth c H locs cs sl fin (F0 m pc lc stC) := by
  refine q_call hr hD hS hA fun r h' φ' H1 locs1 hq hag' hn' a1 a2 a3 => ?_
  have hc : (∀ v ∈ rest, qc φ' v = qc φ v) ∧ ∀ (i : Nat) (v : qV), ls[i]? = some (some v) → qc φ' v = qc φ v := by
    rcases hw with hw | ⟨w1, w2⟩
    · have e : φ' = φ := by
        funext i
        have := hw r h' hq
        exact hag' i (by omega)
      subst e
      exact ⟨fun _ _ => rfl, fun _ _ _ => rfl⟩
    · refine ⟨fun v hv => q_wf_c (List.all_eq_true.mp w1 v hv) hn'.2 hag', fun i v hv => ?_⟩
      have := List.all_eq_true.mp w2 (some v) (List.mem_of_getElem? hv)
      exact q_wf_c (by simpa using this) hn'.2 hag'
  have kk := k r h' hq H1 locs1 φ' lc a1 a2 a3 (fun i hi => by
    rcases hi with hi | hi
    · rw [hag' i (Or.inl (by omega)), hag i (Or.inl hi)]
    · rw [hag' i (Or.inr hi), hag i (Or.inr (by omega))]) ⟨by omega, hn'.2⟩ ⟨hl.1, hl.2.1, fun q hq => by
      obtain ⟨i, w⟩ := q
      obtain ⟨v, g1, rfl⟩ := qlv_mem.mp hq
      rw [hc.2 i v g1]
      exact hl.2.2 _ (qlv_mem.mpr ⟨v, g1, rfl⟩)⟩ hll
  have e2 : (r.toList ++ rest).map (qc φ') = (r.map (qc φ')).toList ++ rest.map (qc φ) := by
    rw [List.map_append, List.map_congr_left hc.1]
    cases r <;> rfl
  rw [e2] at kk
  exact kk
theorem qJ.callV {Y' : qY} {d' mc ms b idx ci : Nat} {As rest : List qV} {fs : List qF} {Q : Option qV → qH → Prop} (hκ : qCx Y d MC MS κ) (hat : q_at Y.tb pc = some (.invokevirtual idx, 3)) (hk : qCV Y.own idx Y') (hC : qCt Y' d' mc ms (qR b :: As) h Q) (hb0 : h.1[b]? = some (.inl (ci, fs))) (hci : q_cl[ci]?.map (fun r => r.1) = some Y'.own) (hd : d' + 1 ≤ d) (hst : st = As.reverse ++ qR b :: rest) (hlen : As.length = Y'.np) (hrest : q_cats rest ≤ 8) (hmc : cs + mc ≤ MC) (hms : sl + ms ≤ MS)
    (hw : (∀ r h', Q r h' → h'.1.length = h.1.length) ∨ (rest.all (q_wf h.1.length) = true ∧ ls.all (fun o => o.all (q_wf h.1.length)) = true)) (k : ∀ r h', Q r h' → qJ Y κ fin h' (cs + mc) (sl + ms) (pc + 3) ls (r.toList ++ rest)) : qJ Y κ fin h cs sl pc ls st := by
  obtain ⟨p, l, e, R, s, m, args, below, meth, c, D, tc, A, φ0, n0⟩ := κ
  obtain ⟨hx, hb, hml, hr, hlk, hnm, hown, hts, hK, hNW, hA, hRO, hR, hY⟩ := hκ
  have hdg := qOKd.dec hY hat
  intro H locs φ lc hP hD hS hag hn hl hll
  subst hst
  obtain ⟨hkb, hki, hks⟩ := hk
  have e1 := qcW_at (φ := φ) (tc := tc) hb0
  have hrv : ∃ cellB : Cell, H[φ b]? = some cellB ∧ cellB.vm.isStatics = false ∧ s.vm.findClass Y'.own = some cellB.cls := by
    cases hcc : q_cl[ci]? with
    | none => rw [hcc] at hci; cases hci
    | some r =>
      rw [hcc] at hci
      have hr1 : r.1 = Y'.own := Option.some.inj hci
      have := va_recv hK hP hcc e1
      rw [hr1] at this
      exact this
  refine q_back (rest := rest) (va_runV (C := Y'.own) (As := As.map (qc φ)) (b := φ b) ⟨hx, hb, hml, hown, hts⟩ (hC l D tc φ H.size) ⟨q_CallB hkb hts ⟨hR.1, hR.2.1⟩ hd, hts _ hki, hts _ hks⟩ ⟨q_P.blind, hrv, fun U hU hW => q_P.pre (as := qR b :: As) hP hD hK hNW hRO hag hn hS hA hU hW⟩ rfl (by rw [List.length_map]; exact hlen) hl.1 (by simp [qc]) ?_ hdg ⟨Nat.le_trans hmc hR.2.2.1, Nat.le_trans hms hR.2.2.2⟩) hD hS hA hag hn hl hll hw k
  show 2 * 0 + _ ≤ 8
  rw [q_cats_s]
  omega
theorem qJ.callS {Y' : qY} {d' mc ms idx : Nat} {As rest : List qV} {Q : Option qV → qH → Prop} (hκ : qCx Y d MC MS κ) (hat : q_at Y.tb pc = some (.invokestatic idx, 3)) (hk : qCS Y.own idx Y') (hC : qCt Y' d' mc ms As h Q) (hd : d' + 1 ≤ d) (hst : st = As.reverse ++ rest) (hlen : As.length = Y'.np) (hrest : q_cats rest ≤ 8) (hmc : cs + mc ≤ MC) (hms : sl + ms ≤ MS)
    (hw : (∀ r h', Q r h' → h'.1.length = h.1.length) ∨ (rest.all (q_wf h.1.length) = true ∧ ls.all (fun o => o.all (q_wf h.1.length)) = true)) (k : ∀ r h', Q r h' → qJ Y κ fin h' (cs + mc) (sl + ms) (pc + 3) ls (r.toList ++ rest)) : qJ Y κ fin h cs sl pc ls st := by
  obtain ⟨p, l, e, R, s, m, args, below, meth, c, D, tc, A, φ0, n0⟩ := κ
  obtain ⟨hx, hb, hml, hr, hlk, hnm, hown, hts, hK, hNW, hA, hRO, hR, hY⟩ := hκ
  have hdg := qOKd.dec hY hat
  intro H locs φ lc hP hD hS hag hn hl hll
  subst hst
  obtain ⟨hkb, hks⟩ := hk
  refine q_back (rest := rest) (va_runS (As := As.map (qc φ)) ⟨hx, hb, hml, hown, hts⟩ (hC l D tc φ H.size) ⟨q_CallB hkb hts ⟨hR.1, hR.2.1⟩ hd, hts _ hks⟩ ⟨q_P.blind, fun U hU hW => q_P.pre hP hD hK hNW hRO hag hn hS hA hU hW⟩ rfl (by rw [List.length_map]; exact hlen) hl.1 (by simp) ?_ hdg ⟨Nat.le_trans hmc hR.2.2.1, Nat.le_trans hms hR.2.2.2⟩) hD hS hA hag hn hl hll hw k
  show 2 * 0 + _ ≤ 8
  rw [q_cats_s]
  omega
theorem qJ.callSN {Y' : qY} {d' mc ms idx : Nat} {As rest : List qV} {Q : Option qV → qH → Prop} (hκ : qCx Y d MC MS κ) (hat : q_at Y.tb pc = some (.invokestatic idx, 3)) (hk : qCSN Y.own idx Y') (hC : qCt Y' d' mc ms As h Q) (hd : d' + 1 ≤ d) (hst : st = As.reverse ++ rest) (hlen : As.length = Y'.np) (hrest : q_cats rest ≤ 8) (hmc : cs + mc ≤ MC) (hms : sl + ms ≤ MS)
    (hw : (∀ r h', Q r h' → h'.1.length = h.1.length) ∨ (rest.all (q_wf h.1.length) = true ∧ ls.all (fun o => o.all (q_wf h.1.length)) = true)) (k : ∀ r h', Q r h' → qJ Y κ fin h' (cs + mc) (sl + ms) (pc + 3) ls (r.toList ++ rest)) : qJ Y κ fin h cs sl pc ls st := by
  obtain ⟨p, l, e, R, s, m, args, below, meth, c, D, tc, A, φ0, n0⟩ := κ
  obtain ⟨hx, hb, hml, hr, hlk, hnm, hown, hts, hK, hNW, hA, hRO, hR, hY⟩ := hκ
  have hdg := qOKd.dec hY hat
  intro H locs φ lc hP hD hS hag hn hl hll
  subst hst
  obtain ⟨hkb, ⟨host, hkh⟩, hks⟩ := hk
  refine q_back (rest := rest) (va_runSN (host := host) (As := As.map (qc φ)) ⟨hx, hb, hml, hown, hts⟩ (hC l D tc φ H.size) ⟨q_CN hkb hkh hNW hts ⟨hR.1, hR.2.1⟩ hd, hts _ hks, trivial⟩ ⟨q_P.blind, fun U hU hW => q_P.pre hP hD hK hNW hRO hag hn hS hA hU hW⟩ rfl (by rw [List.length_map]; exact hlen) hl.1 (by simp) ?_ hdg ⟨Nat.le_trans hmc hR.2.2.1, Nat.le_trans hms hR.2.2.2⟩) hD hS hA hag hn hl hll hw k
  show 2 * 0 + _ ≤ 8
  rw [q_cats_s]
  omega
theorem qJ.callI {Y' : qY} {d' mc ms b idx : Nat} {As rest : List qV} {Q : Option qV → qH → Prop} (hκ : qCx Y d MC MS κ) (hat : q_at Y.tb pc = some (.invokespecial idx, 3)) (hk : qCI Y.own idx Y') (hC : qCt Y' d' mc ms (qR b :: As) h Q) (hd : d' + 1 ≤ d) (hst : st = As.reverse ++ qR b :: rest) (hlen : As.length = Y'.np) (hrest : q_cats rest ≤ 8) (hmc : cs + mc ≤ MC) (hms : sl + ms ≤ MS)
    (hw : (∀ r h', Q r h' → h'.1.length = h.1.length) ∨ (rest.all (q_wf h.1.length) = true ∧ ls.all (fun o => o.all (q_wf h.1.length)) = true)) (k : ∀ r h', Q r h' → qJ Y κ fin h' (cs + mc) (sl + ms) (pc + 3) ls (r.toList ++ rest)) : qJ Y κ fin h cs sl pc ls st := by
  obtain ⟨p, l, e, R, s, m, args, below, meth, c, D, tc, A, φ0, n0⟩ := κ
  obtain ⟨hx, hb, hml, hr, hlk, hnm, hown, hts, hK, hNW, hA, hRO, hR, hY⟩ := hκ
  have hdg := qOKd.dec hY hat
  intro H locs φ lc hP hD hS hag hn hl hll
  subst hst
  obtain ⟨hkb, hk1, hk2, hki⟩ := hk
  have hcb := q_CallB (mc := mc) (ms := ms) hkb hts ⟨hR.1, hR.2.1⟩ hd
  rw [hk2] at hcb
  have hM := hC l D tc φ H.size
  rw [hk2] at hM
  refine q_back (rest := rest) (va_runI (As := As.map (qc φ)) (b := φ b) ⟨hx, hb, hml, hown, hts⟩ hM ⟨hcb, hk1, hts _ hki⟩ ⟨q_P.blind, fun U hU hW => q_P.pre (as := qR b :: As) hP hD hK hNW hRO hag hn hS hA hU hW⟩ rfl (by rw [List.length_map]; exact hlen) hl.1 (by simp [qc]) ?_ hdg ⟨Nat.le_trans hmc hR.2.2.1, Nat.le_trans hms hR.2.2.2⟩) hD hS hA hag hn hl hll hw k
  show 2 * 0 + _ ≤ 8
  rw [q_cats_s]
  omega
theorem qJ.callIN {Y' : qY} {d' mc ms b idx : Nat} {As rest : List qV} {Q : Option qV → qH → Prop} (hκ : qCx Y d MC MS κ) (hat : q_at Y.tb pc = some (.invokespecial idx, 3)) (hk : qCIN Y.own idx Y') (hC : qCt Y' d' mc ms (qR b :: As) h Q) (hd : d' + 1 ≤ d) (hst : st = As.reverse ++ qR b :: rest) (hlen : As.length = Y'.np) (hrest : q_cats rest ≤ 8) (hmc : cs + mc ≤ MC) (hms : sl + ms ≤ MS)
    (hw : (∀ r h', Q r h' → h'.1.length = h.1.length) ∨ (rest.all (q_wf h.1.length) = true ∧ ls.all (fun o => o.all (q_wf h.1.length)) = true)) (k : ∀ r h', Q r h' → qJ Y κ fin h' (cs + mc) (sl + ms) (pc + 3) ls (r.toList ++ rest)) : qJ Y κ fin h cs sl pc ls st := by
  obtain ⟨p, l, e, R, s, m, args, below, meth, c, D, tc, A, φ0, n0⟩ := κ
  obtain ⟨hx, hb, hml, hr, hlk, hnm, hown, hts, hK, hNW, hA, hRO, hR, hY⟩ := hκ
  have hdg := qOKd.dec hY hat
  intro H locs φ lc hP hD hS hag hn hl hll
  subst hst
  obtain ⟨hkb, ⟨host, hkh⟩, hk1, hk2, hki⟩ := hk
  have hcb := q_CN (mc := mc) (ms := ms) hkb hkh hNW hts ⟨hR.1, hR.2.1⟩ hd
  rw [hk2] at hcb
  have hM := hC l D tc φ H.size
  rw [hk2] at hM
  refine q_back (rest := rest) (va_runIN (host := host) (As := As.map (qc φ)) (b := φ b) ⟨hx, hb, hml, hown, hts⟩ hM ⟨hcb, hk1, hts _ hki⟩ ⟨q_P.blind, fun U hU hW => q_P.pre (as := qR b :: As) hP hD hK hNW hRO hag hn hS hA hU hW⟩ rfl (by rw [List.length_map]; exact hlen) hl.1 (by simp [qc]) ?_ hdg ⟨Nat.le_trans hmc hR.2.2.1, Nat.le_trans hms hR.2.2.2⟩) hD hS hA hag hn hl hll hw k
  show 2 * 0 + _ ≤ 8
  rw [q_cats_s]
  omega
end Q9

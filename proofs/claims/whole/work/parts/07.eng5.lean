/-! THE ENGINE, 5: arrays and fields written, answers, calls -/
theorem q_ix {x : Int} {n : Nat} (h0 : 0 ≤ x) (h1 : x < n) (hn : n < 2147483648) : vp_in (Int32.ofInt x) n ∧ (Int32.ofInt x).toNatClampNeg = x.toNat := by
  have e : (Int32.ofInt x).toInt = x := q_toInt (by omega) (by omega)
  refine ⟨vp_in_iff.mpr ⟨by rw [e]; exact h0, by rw [e]; exact h1⟩, ?_⟩
  show (Int32.ofInt x).toInt.toNat = x.toNat
  rw [e]
theorem qcE_ne {φ : Nat → Nat} {tc : Nat → ClassId} {m m' y y' : qM} {j : Nat} (sh : qS) (h1 : ∀ k, m' j k = m j k) (h2 : ∀ k, y' j k = y j k) : qcE φ tc m' y' j sh = qcE φ tc m y j sh := by
  rcases sh with ⟨ci, fs⟩ | ⟨t, n⟩ | ⟨t, rs⟩
  · show Sum.inr (ci, _) = Sum.inr (ci, _)
    congr 2
    apply List.ext_getElem?
    intro k
    rw [List.getElem?_mapIdx, List.getElem?_mapIdx]
    congr 1
    funext f
    rcases f with n | n | n
    · rcases n with _ | _ | n <;> simp [qcF, h1, h2]
    · rfl
    · rfl
  · show Sum.inl (tc t, n, _) = Sum.inl (tc t, n, _)
    simp only [h1]
  · rfl
theorem qcW_set {φ : Nat → Nat} {tc : Nat → ClassId} {h h' : qH} {id : Nat} {sh : qS} {E : va_E} (hs : h'.1[id]? = some sh) (hl : id < h.1.length) (ho : ∀ j, j ≠ id → h'.1[j]? = h.1[j]?) (h1 : ∀ j, j ≠ id → ∀ k, h'.2.1 j k = h.2.1 j k) (h2 : ∀ j, j ≠ id → ∀ k, h'.2.2 j k = h.2.2 j k) (hE : E = qcE φ tc h'.2.1 h'.2.2 id sh) : (qcW φ tc h).set id (φ id, E) = qcW φ tc h' := by
  apply List.ext_getElem?
  intro j
  by_cases e : j = id
  · subst e
    rw [List.getElem?_set_self (by simp [qcW]; exact hl), qcW_at hs, hE]
  · rw [List.getElem?_set_ne (fun z => e z.symm), qcW_get, qcW_get, ho j e]
    cases h.1[j]? with
    | none => rfl
    | some sj => simp only [Option.map_some]; rw [qcE_ne sj (h1 j e) (h2 j e)]
theorem q_lt {α : Type} {l : List α} {i : Nat} {x : α} (h : l[i]? = some x) : i < l.length := (List.getElem?_eq_some_iff.mp h).1
/-- an array's type fits the instruction -/
def q_ald (i : Instr) (t : Nat) : Bool := match i with
  | .iaload => t == 0
  | .baload => t == 1 || t == 2
  | .saload => t == 3
  | _ => false
def q_ast (i : Instr) (t : Nat) : Bool := match i with
  | .iastore => t == 0
  | .bastore => t == 1 || t == 2
  | .sastore => t == 3
  | _ => false
def q_nar (t : Nat) (v : Int) : Int := match t with
  | 1 => (vp_nar .byte (Int32.ofInt v)).toInt
  | 2 => (vp_nar .boolean (Int32.ofInt v)).toInt
  | 3 => (vp_nar .short (Int32.ofInt v)).toInt
  | _ => v
section Q6
variable {Y : qY} {d MC MS : Nat} {κ : qK} {fin : State → Prop} {h : qH} {cs sl pc : Nat} {ls : List (Option qV)} {st : List qV}
theorem qJ.ald {i : Instr} {id t n : Nat} {x : Int} (hκ : qCx Y d MC MS κ) (hat : q_at Y.tb pc = some (i, 1)) (hs : h.1[id]? = some (.inr (.inl (t, n)))) (hi : q_ald i t = true) (hn0 : n < 2147483648) (h0 : 0 ≤ x ∧ x < n) (k : qJ Y κ fin h cs sl (pc + 1) ls (qI (h.2.1 id x.toNat) :: st)) : qJ Y κ fin h cs sl pc ls (qI x :: qR id :: st) := by
  obtain ⟨p, l, e, R, s, m, args, below, meth, c, D, tc, A, φ0, n0⟩ := κ
  obtain ⟨hx, hb, hml, hr, hlk, hnm, hown, hts, hK, hNW, hA, hRO, hR, hY⟩ := hκ
  have hdg := qOKd.dec hY hat
  intro H locs φ lc hP hD hS hag hn hl hll
  have e1 := qcW_at (φ := φ) (tc := tc) hs
  obtain ⟨g1, g2⟩ := q_ix h0.1 h0.2 hn0
  have k' := k H locs φ lc hP hD hS hag hn hl hll
  simp only [List.map_cons, qc] at k'
  rw [← g2] at k'
  cases i with
  | iaload =>
    have ht : t = 0 := by simpa [q_ald] using hi
    subst ht
    exact va_iald hx hb hK hP id 0 e1 rfl g1 hdg k'
  | saload =>
    have ht : t = 3 := by simpa [q_ald] using hi
    subst ht
    exact va_sald hx hb hK hP id 3 e1 rfl g1 hdg k'
  | baload =>
    have ht : t = 1 ∨ t = 2 := by simpa [q_ald] using hi
    rcases ht with rfl | rfl
    · exact va_bald hx hb hK hP id 1 e1 rfl g1 hdg k'
    · exact va_zald hx hb hK hP id 2 e1 rfl g1 hdg k'
  | _ => cases hi
theorem q_updc (m : qM) (id i : Nat) (v : Int) : (fun k => Int32.ofInt (q_up m id i v id k)) = upd (fun k => Int32.ofInt (m id k)) i (Int32.ofInt v) := by
  funext k
  by_cases e : k = i
  · subst e; simp [q_up, upd]
  · simp [q_up, upd, e]
theorem q_updf (m : qM) (id i : Nat) (v : Int) : (fun k => Int32.ofInt (q_up m id i v id k)) = vf_upd (fun k => Int32.ofInt (m id k)) i (Int32.ofInt v) := by
  funext k
  by_cases e : k = i
  · subst e; simp [q_up, vf_upd]
  · simp [q_up, vf_upd, e]
theorem qJ.ast {i : Instr} {id t n : Nat} {x v : Int} (hκ : qCx Y d MC MS κ) (hat : q_at Y.tb pc = some (i, 1)) (hs : h.1[id]? = some (.inr (.inl (t, n)))) (hi : q_ast i t = true) (hn0 : n < 2147483648) (h0 : 0 ≤ x ∧ x < n) (k : qJ Y κ fin (h.1, q_up h.2.1 id x.toNat (q_nar t v), h.2.2) cs sl (pc + 1) ls st) : qJ Y κ fin h cs sl pc ls (qI v :: qI x :: qR id :: st) := by
  obtain ⟨p, l, e, R, s, m, args, below, meth, c, D, tc, A, φ0, n0⟩ := κ
  obtain ⟨hx, hb, hml, hr, hlk, hnm, hown, hts, hK, hNW, hA, hRO, hR, hY⟩ := hκ
  have hdg := qOKd.dec hY hat
  intro H locs φ lc hP hD hS hag hn hl hll
  have e1 := qcW_at (φ := φ) (tc := tc) hs
  obtain ⟨g1, g2⟩ := q_ix h0.1 h0.2 hn0
  have key : ∀ E : va_E, E = qcE φ tc (q_up h.2.1 id x.toNat (q_nar t v)) h.2.2 id (.inr (.inl (t, n))) → (qcW φ tc h).set id (φ id, E) = qcW φ tc (h.1, q_up h.2.1 id x.toNat (q_nar t v), h.2.2) := fun E hE => qcW_set (h' := (h.1, q_up h.2.1 id x.toNat (q_nar t v), h.2.2)) hs (q_lt hs) (fun _ _ => rfl) (fun j hj k => q_up_ne hj) (fun _ _ _ => rfl) hE
  cases i with
  | iastore =>
    have ht : t = 0 := by simpa [q_ast] using hi
    subst ht
    refine va_iast hx hb hK hP hD hS id 0 e1 rfl g1 hdg fun H1 locs1 a1 a2 a3 => ?_
    rw [key _ (by show _ = Sum.inl (tc 0, n, Sum.inl _); rw [q_updc, g2]; rfl)] at a1 a2
    exact k H1 locs1 φ lc a1 a2 a3 hag hn hl hll
  | sastore =>
    have ht : t = 3 := by simpa [q_ast] using hi
    subst ht
    refine va_sast hx hb hK hP hD hS id 3 e1 rfl g1 hdg fun H1 locs1 a1 a2 a3 => ?_
    rw [key _ (by show _ = Sum.inl (tc 3, n, Sum.inl _); first | (rw [q_updc, g2, q_nar, q_i32]; done) | (rw [q_updf, g2, q_nar, q_i32]; done) | (rw [q_updc, g2, q_nar, q_i32]; rfl) | (rw [q_updf, g2, q_nar, q_i32]; rfl))] at a1 a2
    exact k H1 locs1 φ lc a1 a2 a3 hag hn hl hll
  | bastore =>
    have ht : t = 1 ∨ t = 2 := by simpa [q_ast] using hi
    rcases ht with rfl | rfl
    · refine va_bast hx hb hK hP hD hS id 1 e1 rfl g1 hdg fun H1 locs1 a1 a2 a3 => ?_
      rw [key _ (by show _ = Sum.inl (tc 1, n, Sum.inl _); first | (rw [q_updc, g2, q_nar, q_i32]; done) | (rw [q_updf, g2, q_nar, q_i32]; done) | (rw [q_updc, g2, q_nar, q_i32]; rfl) | (rw [q_updf, g2, q_nar, q_i32]; rfl))] at a1 a2
      exact k H1 locs1 φ lc a1 a2 a3 hag hn hl hll
    · refine va_zast hx hb hK hP hD hS id 2 e1 rfl g1 hdg fun H1 locs1 a1 a2 a3 => ?_
      rw [key _ (by show _ = Sum.inl (tc 2, n, Sum.inl _); first | (rw [q_updc, g2, q_nar, q_i32]; done) | (rw [q_updf, g2, q_nar, q_i32]; done) | (rw [q_updc, g2, q_nar, q_i32]; rfl) | (rw [q_updf, g2, q_nar, q_i32]; rfl))] at a1 a2
      exact k H1 locs1 φ lc a1 a2 a3 hag hn hl hll
  | _ => cases hi
theorem q_mapset {φ : Nat → Nat} {m m' y y' : qM} {id k : Nat} {fs : List qF} {f' : qF} {v : Value} (hv : v = qcF φ m' y' id k f') (h1 : ∀ j, j ≠ k → m' id j = m id j) (h2 : ∀ j, j ≠ k → y' id j = y id j) : (fs.mapIdx (fun k f => qcF φ m y id k f)).set k v = (fs.set k f').mapIdx (fun k f => qcF φ m' y' id k f) := by
  apply List.ext_getElem?
  intro j
  by_cases e : j = k
  · subst e
    by_cases hl : j < fs.length
    · rw [List.getElem?_set_self (by simpa using hl), List.getElem?_mapIdx, List.getElem?_set_self hl, hv]
      rfl
    · rw [List.getElem?_eq_none (by simp; omega), List.getElem?_eq_none (by simp; omega)]
  · rw [List.getElem?_set_ne (fun z => e z.symm), List.getElem?_mapIdx, List.getElem?_mapIdx, List.getElem?_set_ne (fun z => e z.symm)]
    congr 1
    funext f
    rcases f with n | n | n
    · rcases n with _ | _ | n <;> simp [qcF, h1 j e, h2 j e]
    · rfl
    · rfl
/-- putfield, an int (kd 0) or a boolean (kd 2) -/
theorem qJ.putI {idx id ci kf kd : Nat} {fs : List qF} {v : Int} (hκ : qCx Y d MC MS κ) (hat : q_at Y.tb pc = some (.putfield idx, 3)) (hf : q_fd Y.ft idx = some (ci, kf, kd)) (hs : h.1[id]? = some (.inl (ci, fs))) (hk : fs[kf]? = some (.inl kd)) (hkd : kd = 0 ∨ kd = 2 ∧ (v = 0 ∨ v = 1)) (k : qJ Y κ fin (h.1, q_up h.2.1 id kf v, h.2.2) cs sl (pc + 3) ls st) : qJ Y κ fin h cs sl pc ls (qI v :: qR id :: st) := by
  obtain ⟨p, l, e, R, s, m, args, below, meth, c, D, tc, A, φ0, n0⟩ := κ
  obtain ⟨hx, hb, hml, hr, hlk, hnm, hown, hts, hK, hNW, hA, hRO, hR, hY⟩ := hκ
  have hdg := qOKd.dec hY hat
  intro H locs φ lc hP hD hS hag hn hl hll
  have e1 := qcW_at (φ := φ) (tc := tc) hs
  obtain ⟨r, r1, r2, r3, r4, r5, -⟩ := (qOKd.fd hY (q_fd_mem hf))
  obtain ⟨c1, c2, ty, c3⟩ := qT_cl ci r r1
  have hlk : kf < (fs.mapIdx (fun k f => qcF φ h.2.1 h.2.2 id k f)).length := by rw [List.length_mapIdx]; exact q_lt hk
  have hfs : fs.set kf (.inl kd) = fs := by
    apply List.ext_getElem?
    intro j
    by_cases ej : j = kf
    · subst ej; rw [List.getElem?_set_self (q_lt hk), hk]
    · rw [List.getElem?_set_ne (fun z => ej z.symm)]
  have key : (qcW φ tc h).set id (φ id, .inr (ci, (fs.mapIdx (fun k f => qcF φ h.2.1 h.2.2 id k f)).set kf (qc φ (qI v)))) = qcW φ tc (h.1, q_up h.2.1 id kf v, h.2.2) := by
    refine qcW_set (h' := (h.1, q_up h.2.1 id kf v, h.2.2)) hs (q_lt hs) (fun _ _ => rfl) (fun j hj k => q_up_ne hj) (fun _ _ _ => rfl) ?_
    show Sum.inr (ci, _) = Sum.inr (ci, _)
    rw [q_mapset (m' := q_up h.2.1 id kf v) (y' := h.2.2) (f' := .inl kd) ?_ (fun j hj => q_up_ne2 hj) (fun _ _ => rfl), hfs]
    rcases hkd with rfl | ⟨rfl, -⟩
    · simp [qc, qcF, q_up_eq]
    · simp [qc, qcF, q_up_eq]
  rcases hkd with rfl | ⟨rfl, hv⟩
  · obtain ⟨d1, d2⟩ := r5 .int rfl
    refine va_put hx hb hts c1 ty c3 c2 hown hK hP hD hS id e1 r1 kf r2 (hts _ r4) (fun x hx => by rw [← r3]; exact hx) d2 d1 rfl rfl hlk hdg fun H1 locs1 a1 a2 a3 => ?_
    rw [key] at a1 a2
    exact k H1 locs1 φ lc a1 a2 a3 hag hn hl hll
  · obtain ⟨d1, d2⟩ := r5 .boolean rfl
    refine va_put hx hb hts c1 ty c3 c2 hown hK hP hD hS id e1 r1 kf r2 (hts _ r4) (fun x hx => by rw [← r3]; exact hx) d2 d1 (by rcases hv with rfl | rfl <;> rfl) (by rcases hv with rfl | rfl <;> rfl) hlk hdg fun H1 locs1 a1 a2 a3 => ?_
    rw [key] at a1 a2
    exact k H1 locs1 φ lc a1 a2 a3 hag hn hl hll
/-- putfield, a long -/
theorem qJ.putL {idx id ci kf : Nat} {fs : List qF} {v : Int} (hκ : qCx Y d MC MS κ) (hat : q_at Y.tb pc = some (.putfield idx, 3)) (hf : q_fd Y.ft idx = some (ci, kf, 1)) (hs : h.1[id]? = some (.inl (ci, fs))) (hk : fs[kf]? = some (.inl 1)) (k : qJ Y κ fin (h.1, h.2.1, q_up h.2.2 id kf v) cs sl (pc + 3) ls st) : qJ Y κ fin h cs sl pc ls (qL v :: qR id :: st) := by
  obtain ⟨p, l, e, R, s, m, args, below, meth, c, D, tc, A, φ0, n0⟩ := κ
  obtain ⟨hx, hb, hml, hr, hlk, hnm, hown, hts, hK, hNW, hA, hRO, hR, hY⟩ := hκ
  have hdg := qOKd.dec hY hat
  intro H locs φ lc hP hD hS hag hn hl hll
  have e1 := qcW_at (φ := φ) (tc := tc) hs
  obtain ⟨r, r1, r2, r3, r4, r5, -⟩ := (qOKd.fd hY (q_fd_mem hf))
  obtain ⟨c1, c2, ty, c3⟩ := qT_cl ci r r1
  have hlk : kf < (fs.mapIdx (fun k f => qcF φ h.2.1 h.2.2 id k f)).length := by rw [List.length_mapIdx]; exact q_lt hk
  have hfs : fs.set kf (.inl 1) = fs := by
    apply List.ext_getElem?
    intro j
    by_cases ej : j = kf
    · subst ej; rw [List.getElem?_set_self (q_lt hk), hk]
    · rw [List.getElem?_set_ne (fun z => ej z.symm)]
  have key : (qcW φ tc h).set id (φ id, .inr (ci, (fs.mapIdx (fun k f => qcF φ h.2.1 h.2.2 id k f)).set kf (qc φ (qL v)))) = qcW φ tc (h.1, h.2.1, q_up h.2.2 id kf v) := by
    refine qcW_set (h' := (h.1, h.2.1, q_up h.2.2 id kf v)) hs (q_lt hs) (fun _ _ => rfl) (fun _ _ _ => rfl) (fun j hj k => q_up_ne hj) ?_
    show Sum.inr (ci, _) = Sum.inr (ci, _)
    rw [q_mapset (m' := h.2.1) (y' := q_up h.2.2 id kf v) (f' := .inl 1) ?_ (fun _ _ => rfl) (fun j hj => q_up_ne2 hj), hfs]
    simp [qc, qcF, q_up_eq]
  obtain ⟨d1, d2⟩ := r5 .long rfl
  refine va_put hx hb hts c1 ty c3 c2 hown hK hP hD hS id e1 r1 kf r2 (hts _ r4) (fun x hx => by rw [← r3]; exact hx) d2 d1 rfl rfl hlk hdg fun H1 locs1 a1 a2 a3 => ?_
  rw [key] at a1 a2
  exact k H1 locs1 φ lc a1 a2 a3 hag hn hl hll
/-- putfield, a reference, in a constructor -/
theorem qJ.putR {idx id ci kf kd j : Nat} {fs : List qF} {f0 : qF} (hκ : qCx Y d MC MS κ) (hi : Y.nm.name = "<init>") (hat : q_at Y.tb pc = some (.putfield idx, 3)) (hf : q_fd Y.ft idx = some (ci, kf, kd)) (hs : h.1[id]? = some (.inl (ci, fs))) (hk : fs[kf]? = some f0) (hkd : q_kty kd = none) (hcl : q_cl[ci]?.map (fun r => r.1) = some Y.own) (k : qJ Y κ fin (h.1.set id (.inl (ci, fs.set kf (.inr (some j)))), h.2.1, h.2.2) cs sl (pc + 3) ls st) : qJ Y κ fin h cs sl pc ls (qR j :: qR id :: st) := by
  obtain ⟨p, l, e, R, s, m, args, below, meth, c, D, tc, A, φ0, n0⟩ := κ
  obtain ⟨hx, hb, hml, hr, hlk, hnm, hown, hts, hK, hNW, hA, hRO, hR, hY⟩ := hκ
  have hdg := qOKd.dec hY hat
  intro H locs φ lc hP hD hS hag hn hl hll
  have e1 := qcW_at (φ := φ) (tc := tc) hs
  obtain ⟨r, r1, r2, r3, r4, -, r6⟩ := (qOKd.fd hY (q_fd_mem hf))
  obtain ⟨c1, c2, ty, c3⟩ := qT_cl ci r r1
  have hlk : kf < (fs.mapIdx (fun k f => qcF φ h.2.1 h.2.2 id k f)).length := by rw [List.length_mapIdx]; exact q_lt hk
  have key : (qcW φ tc h).set id (φ id, .inr (ci, (fs.mapIdx (fun k f => qcF φ h.2.1 h.2.2 id k f)).set kf (qc φ (qR j)))) = qcW φ tc (h.1.set id (.inl (ci, fs.set kf (.inr (some j)))), h.2.1, h.2.2) := by
    refine qcW_set (h' := (h.1.set id (.inl (ci, fs.set kf (.inr (some j)))), h.2.1, h.2.2)) (sh := .inl (ci, fs.set kf (.inr (some j)))) (List.getElem?_set_self (q_lt hs)) (q_lt hs) (fun i hi => List.getElem?_set_ne (fun z => hi z.symm)) (fun _ _ _ => rfl) (fun _ _ _ => rfl) ?_
    show Sum.inr (ci, _) = Sum.inr (ci, _)
    rw [q_mapset (m' := h.2.1) (y' := h.2.2) (f' := .inr (some j)) (v := qc φ (qR j)) rfl (fun _ _ => rfl) (fun _ _ => rfl)]
  have hown' : (r.2.1 kf).1 = Y.own := by
    have : q_cl[ci]? = some r := r1
    rw [this] at hcl
    rw [r3]; exact Option.some.inj hcl
  obtain ⟨d2, d1⟩ := r6 hkd
  have hn' : n0 ≤ (h.1.set id (.inl (ci, fs.set kf (.inr (some j))))).length ∧ (h.1.set id (.inl (ci, fs.set kf (.inr (some j))))).length ≤ 1000 := by rw [List.length_set]; exact hn
  rcases d1 with ⟨cn, d1⟩ | ⟨tt, d1⟩
  · refine va_putF hx hb hts c1 ty c3 c2 hown hK hP hD hS id e1 r1 kf r2 (hts _ r4) (fun x hx => by rw [← r3]; exact hx) d2 (by rw [hnm, hi]) hown' d1 rfl rfl hlk hdg fun H1 locs1 a1 a2 a3 => ?_
    rw [key] at a1 a2
    exact k H1 locs1 φ lc a1 a2 a3 (by rw [List.length_set]; exact hag) hn' hl hll
  · refine va_putF hx hb hts c1 ty c3 c2 hown hK hP hD hS id e1 r1 kf r2 (hts _ r4) (fun x hx => by rw [← r3]; exact hx) d2 (by rw [hnm, hi]) hown' d1 rfl rfl hlk hdg fun H1 locs1 a1 a2 a3 => ?_
    rw [key] at a1 a2
    exact k H1 locs1 φ lc a1 a2 a3 (by rw [List.length_set]; exact hag) hn' hl hll
end Q6

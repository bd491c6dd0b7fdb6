/-! THE ENGINE, 4: runs, branches, fields, arrays, answers -/
section Q4
variable {Y : qY} {d MC MS : Nat} {κ : qK} {fin : State → Prop} {h : qH} {cs sl pc : Nat} {ls : List (Option qV)} {st : List qV}
def q_fv (h : qH) (id k : Nat) (f : qF) : qV := match f with
  | .inl 1 => qL (h.2.2 id k)
  | .inl _ => qI (h.2.1 id k)
  | .inr o => .inr (.inr o)
theorem q_fv_c (φ : Nat → Nat) (h : qH) (id k : Nat) (f : qF) : qc φ (q_fv h id k f) = qcF φ h.2.1 h.2.2 id k f := by
  rcases f with n | n | n
  · rcases n with _ | _ | n <;> rfl
  · rfl
  · rfl
def q_gf (h : qH) (ft : List (Nat × Nat × Nat × Nat)) (idx id : Nat) : Option qV := match q_fd ft idx with
  | some (ci, k, _) => match h.1[id]? with
    | some (.inl (cj, fs)) => if ci = cj then (match fs[k]? with
      | some f => some (q_fv h id k f)
      | none => none) else none
    | _ => none
  | none => none
theorem q_gf_s {h : qH} {ft : List (Nat × Nat × Nat × Nat)} {idx id : Nat} {v : qV} (e : q_gf h ft idx id = some v) : ∃ ci k kd fs f, (idx, ci, k, kd) ∈ ft ∧ h.1[id]? = some (.inl (ci, fs)) ∧ fs[k]? = some f ∧ v = q_fv h id k f := by
  unfold q_gf at e
  split at e
  · rename_i ci k kd h1
    split at e
    · rename_i cj fs h2
      split at e
      · rename_i h3
        subst h3
        split at e
        · rename_i f h4
          cases e
          exact ⟨ci, k, kd, fs, f, q_fd_mem h1, h2, h4, rfl⟩
        · cases e
      · cases e
    · cases e
  · cases e
set_option maxRecDepth 100000 in
theorem qT_w0 : (u_ws RX0 TX0 8).all (fun w => decide (w ∈ tables_1) && goodWord w) = true := by decide +kernel
set_option maxRecDepth 100000 in
theorem qT_w1 : (u_ws RX1 TX1 12).all (fun w => decide (w ∈ tables_1) && goodWord w) = true := by decide +kernel
set_option maxRecDepth 100000 in
theorem qT_w2 : (u_ws RX2 TX2 8).all (fun w => decide (w ∈ tables_1) && goodWord w) = true := by decide +kernel
set_option maxRecDepth 100000 in
theorem qT_w3 : (u_ws RX3 TX3 4).all (fun w => decide (w ∈ tables_1) && goodWord w) = true := by decide +kernel
set_option maxRecDepth 100000 in
theorem qT_w4 : (u_ws RX4 TX4 7).all (fun w => decide (w ∈ tables_1) && goodWord w) = true := by decide +kernel
set_option maxRecDepth 100000 in
theorem qT_w5 : (u_ws RX5 TX5 11).all (fun w => decide (w ∈ tables_1) && goodWord w) = true := by decide +kernel
set_option maxRecDepth 100000 in
theorem qT_w6 : (u_ws RX6 TX6 20).all (fun w => decide (w ∈ tables_1) && goodWord w) = true := by decide +kernel
set_option maxRecDepth 100000 in
theorem qT_w7 : (u_ws RX7 TX7 3).all (fun w => decide (w ∈ tables_1) && goodWord w) = true := by decide +kernel
set_option maxRecDepth 100000 in
theorem qT_w8 : (u_ws RX8 TX8 11).all (fun w => decide (w ∈ tables_1) && goodWord w) = true := by decide +kernel
set_option maxRecDepth 100000 in
theorem qT_w9 : (u_ws RX9 TX9 10).all (fun w => decide (w ∈ tables_1) && goodWord w) = true := by decide +kernel
set_option maxRecDepth 100000 in
theorem qT_w10 : (u_ws RX10 TX10 4).all (fun w => decide (w ∈ tables_1) && goodWord w) = true := by decide +kernel
set_option maxRecDepth 100000 in
theorem qT_w11 : (u_ws RX11 TX11 15).all (fun w => decide (w ∈ tables_1) && goodWord w) = true := by decide +kernel
set_option maxRecDepth 100000 in
theorem qT_w12 : (u_ws RX12 TX12 64).all (fun w => decide (w ∈ tables_1) && goodWord w) = true := by decide +kernel
theorem qT_all {ws : List Jvm.Cond} (h : ws.all (fun w => decide (w ∈ tables_1) && goodWord w) = true) : ∀ w ∈ ws, w ∈ qT := by
  intro w hw
  have h1 := List.all_eq_true.mp h w hw
  simp only [Bool.and_eq_true, decide_eq_true_eq] at h1
  exact qT_in (List.mem_append_right _ h1.1) h1.2
theorem qT_cl : ∀ (ci : Nat) (r : vw_C), q_cl[ci]? = some r → (∀ w ∈ u_ws r.1 r.2.1 r.2.2, w ∈ qT) ∧ (∀ a, a < r.2.2 → ∀ b, b < r.2.2 → a ≠ b → (r.2.1 a).2.1 ≠ (r.2.1 b).2.1) ∧ ∃ ty : Nat → FieldType, ∀ k, k < r.2.2 → parseFieldDescriptor (r.2.1 k).2.2.1 = some (ty k) := by
  intro ci r h
  match ci, h with
  | 0, h => cases h; exact ⟨qT_all qT_w0, nmX0, tyX0, tyX0_ok⟩
  | 1, h => cases h; exact ⟨qT_all qT_w1, nmX1, tyX1, tyX1_ok⟩
  | 2, h => cases h; exact ⟨qT_all qT_w2, nmX2, tyX2, tyX2_ok⟩
  | 3, h => cases h; exact ⟨qT_all qT_w3, nmX3, tyX3, tyX3_ok⟩
  | 4, h => cases h; exact ⟨qT_all qT_w4, nmX4, tyX4, tyX4_ok⟩
  | 5, h => cases h; exact ⟨qT_all qT_w5, nmX5, tyX5, tyX5_ok⟩
  | 6, h => cases h; exact ⟨qT_all qT_w6, nmX6, tyX6, tyX6_ok⟩
  | 7, h => cases h; exact ⟨qT_all qT_w7, nmX7, tyX7, tyX7_ok⟩
  | 8, h => cases h; exact ⟨qT_all qT_w8, nmX8, tyX8, tyX8_ok⟩
  | 9, h => cases h; exact ⟨qT_all qT_w9, nmX9, tyX9, tyX9_ok⟩
  | 10, h => cases h; exact ⟨qT_all qT_w10, nmX10, tyX10, tyX10_ok⟩
  | 11, h => cases h; exact ⟨qT_all qT_w11, nmX11, tyX11, tyX11_ok⟩
  | 12, h => cases h; exact ⟨qT_all qT_w12, nmX12, tyX12, tyX12_ok⟩
  | k + 13, h => cases h
theorem qOKd.fd (hY : qOKd Y) {q : Nat × Nat × Nat × Nat} (h : q ∈ Y.ft) : qFok Y.own q := hY.2 q h
/-- getfield -/
theorem qs_get {idx id : Nat} {t : List qV} {v : qV} (hκ : qCx Y d MC MS κ) (hat : q_at Y.tb pc = some (.getfield idx, 3)) (hs : q_gf h Y.ft idx id = some v) (k : qJ Y κ fin h cs sl (pc + 3) ls (v :: t)) : qJ Y κ fin h cs sl pc ls (qR id :: t) := by
  obtain ⟨p, l, e, R, s, m, args, below, meth, c, D, tc, A, φ0, n0⟩ := κ
  obtain ⟨hx, hb, hml, hr, hlk, hnm, hown, hts, hK, hNW, hA, hRO, hR, hY⟩ := hκ
  have hdg := qOKd.dec hY hat
  intro H locs φ lc hP hD hS hag hn hl hll
  obtain ⟨ci, kf, kd, fs, f, g1, g2, g3, rfl⟩ := q_gf_s hs
  obtain ⟨r, r1, r2, r3, r4, -⟩ := (qOKd.fd hY g1)
  have e1 := qcW_at (φ := φ) (tc := tc) g2
  refine va_get hx hb hts (qT_cl ci r r1).1 hown hK hP id e1 r1 kf r2 (hts _ r4) (fun x hx => by rw [← r3]; exact hx) (v := qcF φ h.2.1 h.2.2 id kf f) (by rw [List.getElem?_mapIdx, g3]; rfl) hdg ?_
  rw [← q_fv_c]
  exact k H locs φ lc hP hD hS hag hn hl hll
/-- arraylength -/
theorem qs_len {id t0 n : Nat} {t : List qV} (hκ : qCx Y d MC MS κ) (hat : q_at Y.tb pc = some (.arraylength, 1)) (hs : h.1[id]? = some (.inr (.inl (t0, n)))) (ht : t0 < 5) (k : qJ Y κ fin h cs sl (pc + 1) ls (qI n :: t)) : qJ Y κ fin h cs sl pc ls (qR id :: t) := by
  obtain ⟨p, l, e, R, s, m, args, below, meth, c, D, tc, A, φ0, n0⟩ := κ
  obtain ⟨hx, hb, hml, hr, hlk, hnm, hown, hts, hK, hNW, hA, hRO, hR, hY⟩ := hκ
  have hdg := qOKd.dec hY hat
  intro H locs φ lc hP hD hS hag hn hl hll
  have e1 := qcW_at (φ := φ) (tc := tc) hs
  have k' := k H locs φ lc hP hD hS hag hn hl hll
  have e2 : Int32.ofInt (n : Int) = Int32.ofNat n := rfl
  rcases (show t0 = 0 ∨ t0 = 1 ∨ t0 = 2 ∨ t0 = 3 ∨ t0 = 4 by omega) with rfl | rfl | rfl | rfl | rfl
  · exact va_alen hx hb hK hP id 0 e1 rfl e2.symm hdg k'
  · exact va_alen hx hb hK hP id 1 e1 rfl e2.symm hdg k'
  · exact va_alen hx hb hK hP id 2 e1 rfl e2.symm hdg k'
  · exact va_alen hx hb hK hP id 3 e1 rfl e2.symm hdg k'
  · exact va_alen hx hb hK hP id 4 e1 rfl e2.symm hdg k'
/-- one step that leaves the heap as it is -/
def q_stp (Y : qY) (h : qH) (pc : Nat) (ls : List (Option qV)) (st : List qV) : Option (Nat × List (Option qV) × List qV) := match q_at Y.tb pc with
  | some (.getfield idx, len) => (match st with
    | .inr (.inr (some id)) :: t => if len = 3 then (match q_gf h Y.ft idx id with
      | some v => some (pc + 3, ls, v :: t)
      | none => none) else none
    | _ => none)
  | some (.arraylength, len) => (match st with
    | .inr (.inr (some id)) :: t => if len = 1 then (match h.1[id]? with
      | some (.inr (.inl (t0, n))) => if t0 < 5 then some (pc + 1, ls, qI n :: t) else none
      | _ => none) else none
    | _ => none)
  | some (i, len) => q_ps i len pc ls st
  | none => none
theorem qJ.stp {pc' : Nat} {ls' : List (Option qV)} {st' : List qV} (hκ : qCx Y d MC MS κ) (hs : q_stp Y h pc ls st = some (pc', ls', st')) (k : qJ Y κ fin h cs sl pc' ls' st') : qJ Y κ fin h cs sl pc ls st := by
  unfold q_stp at hs
  split at hs
  · rename_i idx len hat
    split at hs
    · split at hs
      · rename_i hl
        subst hl
        split at hs
        · rename_i v hv
          cases hs
          exact qs_get hκ hat hv k
        · cases hs
      · cases hs
    · cases hs
  · rename_i len hat
    split at hs
    · split at hs
      · rename_i hl
        subst hl
        split at hs
        · rename_i t0 n hv
          split at hs
          · rename_i ht
            cases hs
            exact qs_len hκ hat hv ht k
          · cases hs
        · cases hs
      · cases hs
    · cases hs
  · rename_i i len _ _ hat
    exact qJ.ps hκ hat hs k
  · cases hs
/-- run until a step of another kind, or a stop -/
def q_go (Y : qY) (h : qH) (stops : List Nat) : Nat → Nat → List (Option qV) → List qV → Nat × List (Option qV) × List qV
  | 0, pc, ls, st => (pc, ls, st)
  | n + 1, pc, ls, st => match q_stp Y h pc ls st with
    | none => (pc, ls, st)
    | some (pc', ls', st') => if stops.contains pc' = true then (pc', ls', st') else q_go Y h stops n pc' ls' st'
theorem qJ.go (hκ : qCx Y d MC MS κ) (stops : List Nat) (n : Nat) {pc' : Nat} {ls' : List (Option qV)} {st' : List qV} (hs : q_go Y h stops n pc ls st = (pc', ls', st')) (k : qJ Y κ fin h cs sl pc' ls' st') : qJ Y κ fin h cs sl pc ls st := by
  induction n generalizing pc ls st with
  | zero => cases hs; exact k
  | succ n ih =>
    unfold q_go at hs
    split at hs
    · cases hs; exact k
    · rename_i a b c e
      split at hs
      · cases hs; exact qJ.stp hκ e k
      · exact qJ.stp hκ e (ih hs)
/-- exactly n steps -/
def q_run (Y : qY) (h : qH) : Nat → Nat → List (Option qV) → List qV → Option (Nat × List (Option qV) × List qV)
  | 0, pc, ls, st => some (pc, ls, st)
  | n + 1, pc, ls, st => match q_stp Y h pc ls st with
    | none => none
    | some (pc', ls', st') => q_run Y h n pc' ls' st'
theorem qJ.run (hκ : qCx Y d MC MS κ) (n : Nat) {pc' : Nat} {ls' : List (Option qV)} {st' : List qV} (hs : q_run Y h n pc ls st = some (pc', ls', st')) (k : qJ Y κ fin h cs sl pc' ls' st') : qJ Y κ fin h cs sl pc ls st := by
  induction n generalizing pc ls st with
  | zero => cases hs; exact k
  | succ n ih =>
    unfold q_run at hs
    split at hs
    · cases hs
    · rename_i a b c e
      exact qJ.stp hκ e (ih hs)
theorem qJ.cast {h' : qH} {cs' sl' pc' : Nat} {ls' : List (Option qV)} {st' : List qV} (k : qJ Y κ fin h' cs' sl' pc' ls' st') (h1 : h = h') (h2 : ls = ls') (h3 : st = st') (h4 : pc = pc' := by rfl) (h5 : cs = cs' := by rfl) (h6 : sl = sl' := by rfl) : qJ Y κ fin h cs sl pc ls st := by
  subst h1; subst h2; subst h3; subst h4; subst h5; subst h6; exact k
end Q4
section Q5
variable {Y : qY} {d MC MS : Nat} {κ : qK} {fin : State → Prop} {h : qH} {cs sl pc : Nat} {ls : List (Option qV)} {st : List qV}
theorem q_ltI {x y : Int} (h1 : -2147483648 ≤ x ∧ x ≤ 2147483647) (h2 : -2147483648 ≤ y ∧ y ≤ 2147483647) : Int32.ofInt x < Int32.ofInt y ↔ x < y := by
  rw [Int32.lt_iff_toInt_lt, q_toInt h1.1 h1.2, q_toInt h2.1 h2.2]
theorem q_leI {x y : Int} (h1 : -2147483648 ≤ x ∧ x ≤ 2147483647) (h2 : -2147483648 ≤ y ∧ y ≤ 2147483647) : Int32.ofInt x ≤ Int32.ofInt y ↔ x ≤ y := by
  rw [Int32.le_iff_toInt_le, q_toInt h1.1 h1.2, q_toInt h2.1 h2.2]
theorem q_eqI {x y : Int} (h1 : -2147483648 ≤ x ∧ x ≤ 2147483647) (h2 : -2147483648 ≤ y ∧ y ≤ 2147483647) : Int32.ofInt x = Int32.ofInt y ↔ x = y := by
  rw [← Int32.toInt_inj, q_toInt h1.1 h1.2, q_toInt h2.1 h2.2]
theorem q_z0 : (0 : Int32) = Int32.ofInt 0 := rfl
theorem q_zr : -2147483648 ≤ (0 : Int) ∧ (0 : Int) ≤ 2147483647 := by decide
theorem qJ.icmp_eq {x y off : Int} {tgt : Nat} (hκ : qCx Y d MC MS κ) (hat : q_at Y.tb pc = some (.if_icmp .eq off, 3)) (ht : (pc : Int) + off = (tgt : Int)) (hx0 : -2147483648 ≤ x ∧ x ≤ 2147483647) (hy0 : -2147483648 ≤ y ∧ y ≤ 2147483647)
    (kt : x = y → qJ Y κ fin h cs sl tgt ls st) (kf : ¬ x = y → qJ Y κ fin h cs sl (pc + 3) ls st) : qJ Y κ fin h cs sl pc ls (qI y :: qI x :: st) := by
  obtain ⟨p, l, e, R, s, m, args, below, meth, c, D, tc, A, φ0, n0⟩ := κ
  obtain ⟨hx, hb, hml, hr, hlk, hnm, hown, hts, hK, hNW, hA, hRO, hR, hY⟩ := hκ
  have hdg := qOKd.dec hY hat
  intro H locs φ lc hP hD hS hag hn hl hll
  have e1 := q_ltI hx0 hy0
  have e2 := q_ltI hy0 hx0
  have e3 := q_leI hx0 hy0
  have e4 := q_leI hy0 hx0
  have e5 := q_eqI hx0 hy0
  refine lv_icmp_eq hx hb hdg ht (fun g => kt ?_ H locs φ lc hP hD hS hag hn hl hll) (fun g => kf ?_ H locs φ lc hP hD hS hag hn hl hll)
  all_goals first | (simp only [e1, e2, e3, e4, e5, Int.not_lt, Int.not_le, gt_iff_lt, ge_iff_le, Decidable.not_not] at g; first | exact g | omega)
theorem qJ.if_eq {x off : Int} {tgt : Nat} (hκ : qCx Y d MC MS κ) (hat : q_at Y.tb pc = some (.ifCond .eq off, 3)) (ht : (pc : Int) + off = (tgt : Int)) (hx0 : -2147483648 ≤ x ∧ x ≤ 2147483647)
    (kt : x = 0 → qJ Y κ fin h cs sl tgt ls st) (kf : ¬ x = 0 → qJ Y κ fin h cs sl (pc + 3) ls st) : qJ Y κ fin h cs sl pc ls (qI x :: st) := by
  obtain ⟨p, l, e, R, s, m, args, below, meth, c, D, tc, A, φ0, n0⟩ := κ
  obtain ⟨hx, hb, hml, hr, hlk, hnm, hown, hts, hK, hNW, hA, hRO, hR, hY⟩ := hκ
  have hdg := qOKd.dec hY hat
  intro H locs φ lc hP hD hS hag hn hl hll
  have e1 := q_ltI hx0 q_zr
  have e2 := q_ltI q_zr hx0
  have e3 := q_leI hx0 q_zr
  have e4 := q_leI q_zr hx0
  have e5 := q_eqI hx0 q_zr
  rw [← q_z0] at e1 e2 e3 e4 e5
  refine lv_if_eq hx hb hdg ht (fun g => kt ?_ H locs φ lc hP hD hS hag hn hl hll) (fun g => kf ?_ H locs φ lc hP hD hS hag hn hl hll)
  all_goals first | (simp only [e1, e2, e3, e4, e5, Int.not_lt, Int.not_le, gt_iff_lt, ge_iff_le, Decidable.not_not] at g; first | exact g | omega)
theorem qJ.icmp_ne {x y off : Int} {tgt : Nat} (hκ : qCx Y d MC MS κ) (hat : q_at Y.tb pc = some (.if_icmp .ne off, 3)) (ht : (pc : Int) + off = (tgt : Int)) (hx0 : -2147483648 ≤ x ∧ x ≤ 2147483647) (hy0 : -2147483648 ≤ y ∧ y ≤ 2147483647)
    (kt : ¬ x = y → qJ Y κ fin h cs sl tgt ls st) (kf : x = y → qJ Y κ fin h cs sl (pc + 3) ls st) : qJ Y κ fin h cs sl pc ls (qI y :: qI x :: st) := by
  obtain ⟨p, l, e, R, s, m, args, below, meth, c, D, tc, A, φ0, n0⟩ := κ
  obtain ⟨hx, hb, hml, hr, hlk, hnm, hown, hts, hK, hNW, hA, hRO, hR, hY⟩ := hκ
  have hdg := qOKd.dec hY hat
  intro H locs φ lc hP hD hS hag hn hl hll
  have e1 := q_ltI hx0 hy0
  have e2 := q_ltI hy0 hx0
  have e3 := q_leI hx0 hy0
  have e4 := q_leI hy0 hx0
  have e5 := q_eqI hx0 hy0
  refine lv_icmp_ne hx hb hdg ht (fun g => kt ?_ H locs φ lc hP hD hS hag hn hl hll) (fun g => kf ?_ H locs φ lc hP hD hS hag hn hl hll)
  all_goals first | (simp only [e1, e2, e3, e4, e5, Int.not_lt, Int.not_le, gt_iff_lt, ge_iff_le, Decidable.not_not] at g; first | exact g | omega)
theorem qJ.if_ne {x off : Int} {tgt : Nat} (hκ : qCx Y d MC MS κ) (hat : q_at Y.tb pc = some (.ifCond .ne off, 3)) (ht : (pc : Int) + off = (tgt : Int)) (hx0 : -2147483648 ≤ x ∧ x ≤ 2147483647)
    (kt : ¬ x = 0 → qJ Y κ fin h cs sl tgt ls st) (kf : x = 0 → qJ Y κ fin h cs sl (pc + 3) ls st) : qJ Y κ fin h cs sl pc ls (qI x :: st) := by
  obtain ⟨p, l, e, R, s, m, args, below, meth, c, D, tc, A, φ0, n0⟩ := κ
  obtain ⟨hx, hb, hml, hr, hlk, hnm, hown, hts, hK, hNW, hA, hRO, hR, hY⟩ := hκ
  have hdg := qOKd.dec hY hat
  intro H locs φ lc hP hD hS hag hn hl hll
  have e1 := q_ltI hx0 q_zr
  have e2 := q_ltI q_zr hx0
  have e3 := q_leI hx0 q_zr
  have e4 := q_leI q_zr hx0
  have e5 := q_eqI hx0 q_zr
  rw [← q_z0] at e1 e2 e3 e4 e5
  refine lv_if_ne hx hb hdg ht (fun g => kt ?_ H locs φ lc hP hD hS hag hn hl hll) (fun g => kf ?_ H locs φ lc hP hD hS hag hn hl hll)
  all_goals first | (simp only [e1, e2, e3, e4, e5, Int.not_lt, Int.not_le, gt_iff_lt, ge_iff_le, Decidable.not_not] at g; first | exact g | omega)
theorem qJ.icmp_lt {x y off : Int} {tgt : Nat} (hκ : qCx Y d MC MS κ) (hat : q_at Y.tb pc = some (.if_icmp .lt off, 3)) (ht : (pc : Int) + off = (tgt : Int)) (hx0 : -2147483648 ≤ x ∧ x ≤ 2147483647) (hy0 : -2147483648 ≤ y ∧ y ≤ 2147483647)
    (kt : x < y → qJ Y κ fin h cs sl tgt ls st) (kf : y ≤ x → qJ Y κ fin h cs sl (pc + 3) ls st) : qJ Y κ fin h cs sl pc ls (qI y :: qI x :: st) := by
  obtain ⟨p, l, e, R, s, m, args, below, meth, c, D, tc, A, φ0, n0⟩ := κ
  obtain ⟨hx, hb, hml, hr, hlk, hnm, hown, hts, hK, hNW, hA, hRO, hR, hY⟩ := hκ
  have hdg := qOKd.dec hY hat
  intro H locs φ lc hP hD hS hag hn hl hll
  have e1 := q_ltI hx0 hy0
  have e2 := q_ltI hy0 hx0
  have e3 := q_leI hx0 hy0
  have e4 := q_leI hy0 hx0
  have e5 := q_eqI hx0 hy0
  refine lv_icmp_lt hx hb hdg ht (fun g => kt ?_ H locs φ lc hP hD hS hag hn hl hll) (fun g => kf ?_ H locs φ lc hP hD hS hag hn hl hll)
  all_goals first | (simp only [e1, e2, e3, e4, e5, Int.not_lt, Int.not_le, gt_iff_lt, ge_iff_le, Decidable.not_not] at g; first | exact g | omega)
theorem qJ.if_lt {x off : Int} {tgt : Nat} (hκ : qCx Y d MC MS κ) (hat : q_at Y.tb pc = some (.ifCond .lt off, 3)) (ht : (pc : Int) + off = (tgt : Int)) (hx0 : -2147483648 ≤ x ∧ x ≤ 2147483647)
    (kt : x < 0 → qJ Y κ fin h cs sl tgt ls st) (kf : 0 ≤ x → qJ Y κ fin h cs sl (pc + 3) ls st) : qJ Y κ fin h cs sl pc ls (qI x :: st) := by
  obtain ⟨p, l, e, R, s, m, args, below, meth, c, D, tc, A, φ0, n0⟩ := κ
  obtain ⟨hx, hb, hml, hr, hlk, hnm, hown, hts, hK, hNW, hA, hRO, hR, hY⟩ := hκ
  have hdg := qOKd.dec hY hat
  intro H locs φ lc hP hD hS hag hn hl hll
  have e1 := q_ltI hx0 q_zr
  have e2 := q_ltI q_zr hx0
  have e3 := q_leI hx0 q_zr
  have e4 := q_leI q_zr hx0
  have e5 := q_eqI hx0 q_zr
  rw [← q_z0] at e1 e2 e3 e4 e5
  refine lv_if_lt hx hb hdg ht (fun g => kt ?_ H locs φ lc hP hD hS hag hn hl hll) (fun g => kf ?_ H locs φ lc hP hD hS hag hn hl hll)
  all_goals first | (simp only [e1, e2, e3, e4, e5, Int.not_lt, Int.not_le, gt_iff_lt, ge_iff_le, Decidable.not_not] at g; first | exact g | omega)
theorem qJ.icmp_ge {x y off : Int} {tgt : Nat} (hκ : qCx Y d MC MS κ) (hat : q_at Y.tb pc = some (.if_icmp .ge off, 3)) (ht : (pc : Int) + off = (tgt : Int)) (hx0 : -2147483648 ≤ x ∧ x ≤ 2147483647) (hy0 : -2147483648 ≤ y ∧ y ≤ 2147483647)
    (kt : y ≤ x → qJ Y κ fin h cs sl tgt ls st) (kf : x < y → qJ Y κ fin h cs sl (pc + 3) ls st) : qJ Y κ fin h cs sl pc ls (qI y :: qI x :: st) := by
  obtain ⟨p, l, e, R, s, m, args, below, meth, c, D, tc, A, φ0, n0⟩ := κ
  obtain ⟨hx, hb, hml, hr, hlk, hnm, hown, hts, hK, hNW, hA, hRO, hR, hY⟩ := hκ
  have hdg := qOKd.dec hY hat
  intro H locs φ lc hP hD hS hag hn hl hll
  have e1 := q_ltI hx0 hy0
  have e2 := q_ltI hy0 hx0
  have e3 := q_leI hx0 hy0
  have e4 := q_leI hy0 hx0
  have e5 := q_eqI hx0 hy0
  refine lv_icmp_ge hx hb hdg ht (fun g => kt ?_ H locs φ lc hP hD hS hag hn hl hll) (fun g => kf ?_ H locs φ lc hP hD hS hag hn hl hll)
  all_goals first | (simp only [e1, e2, e3, e4, e5, Int.not_lt, Int.not_le, gt_iff_lt, ge_iff_le, Decidable.not_not] at g; first | exact g | omega)
theorem qJ.if_ge {x off : Int} {tgt : Nat} (hκ : qCx Y d MC MS κ) (hat : q_at Y.tb pc = some (.ifCond .ge off, 3)) (ht : (pc : Int) + off = (tgt : Int)) (hx0 : -2147483648 ≤ x ∧ x ≤ 2147483647)
    (kt : 0 ≤ x → qJ Y κ fin h cs sl tgt ls st) (kf : x < 0 → qJ Y κ fin h cs sl (pc + 3) ls st) : qJ Y κ fin h cs sl pc ls (qI x :: st) := by
  obtain ⟨p, l, e, R, s, m, args, below, meth, c, D, tc, A, φ0, n0⟩ := κ
  obtain ⟨hx, hb, hml, hr, hlk, hnm, hown, hts, hK, hNW, hA, hRO, hR, hY⟩ := hκ
  have hdg := qOKd.dec hY hat
  intro H locs φ lc hP hD hS hag hn hl hll
  have e1 := q_ltI hx0 q_zr
  have e2 := q_ltI q_zr hx0
  have e3 := q_leI hx0 q_zr
  have e4 := q_leI q_zr hx0
  have e5 := q_eqI hx0 q_zr
  rw [← q_z0] at e1 e2 e3 e4 e5
  refine lv_if_ge hx hb hdg ht (fun g => kt ?_ H locs φ lc hP hD hS hag hn hl hll) (fun g => kf ?_ H locs φ lc hP hD hS hag hn hl hll)
  all_goals first | (simp only [e1, e2, e3, e4, e5, Int.not_lt, Int.not_le, gt_iff_lt, ge_iff_le, Decidable.not_not] at g; first | exact g | omega)
theorem qJ.icmp_gt {x y off : Int} {tgt : Nat} (hκ : qCx Y d MC MS κ) (hat : q_at Y.tb pc = some (.if_icmp .gt off, 3)) (ht : (pc : Int) + off = (tgt : Int)) (hx0 : -2147483648 ≤ x ∧ x ≤ 2147483647) (hy0 : -2147483648 ≤ y ∧ y ≤ 2147483647)
    (kt : y < x → qJ Y κ fin h cs sl tgt ls st) (kf : x ≤ y → qJ Y κ fin h cs sl (pc + 3) ls st) : qJ Y κ fin h cs sl pc ls (qI y :: qI x :: st) := by
  obtain ⟨p, l, e, R, s, m, args, below, meth, c, D, tc, A, φ0, n0⟩ := κ
  obtain ⟨hx, hb, hml, hr, hlk, hnm, hown, hts, hK, hNW, hA, hRO, hR, hY⟩ := hκ
  have hdg := qOKd.dec hY hat
  intro H locs φ lc hP hD hS hag hn hl hll
  have e1 := q_ltI hx0 hy0
  have e2 := q_ltI hy0 hx0
  have e3 := q_leI hx0 hy0
  have e4 := q_leI hy0 hx0
  have e5 := q_eqI hx0 hy0
  refine lv_icmp_gt hx hb hdg ht (fun g => kt ?_ H locs φ lc hP hD hS hag hn hl hll) (fun g => kf ?_ H locs φ lc hP hD hS hag hn hl hll)
  all_goals first | (simp only [e1, e2, e3, e4, e5, Int.not_lt, Int.not_le, gt_iff_lt, ge_iff_le, Decidable.not_not] at g; first | exact g | omega)
theorem qJ.if_gt {x off : Int} {tgt : Nat} (hκ : qCx Y d MC MS κ) (hat : q_at Y.tb pc = some (.ifCond .gt off, 3)) (ht : (pc : Int) + off = (tgt : Int)) (hx0 : -2147483648 ≤ x ∧ x ≤ 2147483647)
    (kt : 0 < x → qJ Y κ fin h cs sl tgt ls st) (kf : x ≤ 0 → qJ Y κ fin h cs sl (pc + 3) ls st) : qJ Y κ fin h cs sl pc ls (qI x :: st) := by
  obtain ⟨p, l, e, R, s, m, args, below, meth, c, D, tc, A, φ0, n0⟩ := κ
  obtain ⟨hx, hb, hml, hr, hlk, hnm, hown, hts, hK, hNW, hA, hRO, hR, hY⟩ := hκ
  have hdg := qOKd.dec hY hat
  intro H locs φ lc hP hD hS hag hn hl hll
  have e1 := q_ltI hx0 q_zr
  have e2 := q_ltI q_zr hx0
  have e3 := q_leI hx0 q_zr
  have e4 := q_leI q_zr hx0
  have e5 := q_eqI hx0 q_zr
  rw [← q_z0] at e1 e2 e3 e4 e5
  refine lv_if_gt hx hb hdg ht (fun g => kt ?_ H locs φ lc hP hD hS hag hn hl hll) (fun g => kf ?_ H locs φ lc hP hD hS hag hn hl hll)
  all_goals first | (simp only [e1, e2, e3, e4, e5, Int.not_lt, Int.not_le, gt_iff_lt, ge_iff_le, Decidable.not_not] at g; first | exact g | omega)
theorem qJ.icmp_le {x y off : Int} {tgt : Nat} (hκ : qCx Y d MC MS κ) (hat : q_at Y.tb pc = some (.if_icmp .le off, 3)) (ht : (pc : Int) + off = (tgt : Int)) (hx0 : -2147483648 ≤ x ∧ x ≤ 2147483647) (hy0 : -2147483648 ≤ y ∧ y ≤ 2147483647)
    (kt : x ≤ y → qJ Y κ fin h cs sl tgt ls st) (kf : y < x → qJ Y κ fin h cs sl (pc + 3) ls st) : qJ Y κ fin h cs sl pc ls (qI y :: qI x :: st) := by
  obtain ⟨p, l, e, R, s, m, args, below, meth, c, D, tc, A, φ0, n0⟩ := κ
  obtain ⟨hx, hb, hml, hr, hlk, hnm, hown, hts, hK, hNW, hA, hRO, hR, hY⟩ := hκ
  have hdg := qOKd.dec hY hat
  intro H locs φ lc hP hD hS hag hn hl hll
  have e1 := q_ltI hx0 hy0
  have e2 := q_ltI hy0 hx0
  have e3 := q_leI hx0 hy0
  have e4 := q_leI hy0 hx0
  have e5 := q_eqI hx0 hy0
  refine lv_icmp_le hx hb hdg ht (fun g => kt ?_ H locs φ lc hP hD hS hag hn hl hll) (fun g => kf ?_ H locs φ lc hP hD hS hag hn hl hll)
  all_goals first | (simp only [e1, e2, e3, e4, e5, Int.not_lt, Int.not_le, gt_iff_lt, ge_iff_le, Decidable.not_not] at g; first | exact g | omega)
theorem qJ.if_le {x off : Int} {tgt : Nat} (hκ : qCx Y d MC MS κ) (hat : q_at Y.tb pc = some (.ifCond .le off, 3)) (ht : (pc : Int) + off = (tgt : Int)) (hx0 : -2147483648 ≤ x ∧ x ≤ 2147483647)
    (kt : x ≤ 0 → qJ Y κ fin h cs sl tgt ls st) (kf : 0 < x → qJ Y κ fin h cs sl (pc + 3) ls st) : qJ Y κ fin h cs sl pc ls (qI x :: st) := by
  obtain ⟨p, l, e, R, s, m, args, below, meth, c, D, tc, A, φ0, n0⟩ := κ
  obtain ⟨hx, hb, hml, hr, hlk, hnm, hown, hts, hK, hNW, hA, hRO, hR, hY⟩ := hκ
  have hdg := qOKd.dec hY hat
  intro H locs φ lc hP hD hS hag hn hl hll
  have e1 := q_ltI hx0 q_zr
  have e2 := q_ltI q_zr hx0
  have e3 := q_leI hx0 q_zr
  have e4 := q_leI q_zr hx0
  have e5 := q_eqI hx0 q_zr
  rw [← q_z0] at e1 e2 e3 e4 e5
  refine lv_if_le hx hb hdg ht (fun g => kt ?_ H locs φ lc hP hD hS hag hn hl hll) (fun g => kf ?_ H locs φ lc hP hD hS hag hn hl hll)
  all_goals first | (simp only [e1, e2, e3, e4, e5, Int.not_lt, Int.not_le, gt_iff_lt, ge_iff_le, Decidable.not_not] at g; first | exact g | omega)
end Q5

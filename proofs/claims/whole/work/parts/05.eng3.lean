/-! THE ENGINE, 3: steps that leave the heap alone -/
theorem qOKd.dec {Y : qY} {pc : Nat} {i : Instr} {len : Nat} (hY : qOKd Y) (hat : q_at Y.tb pc = some (i, len)) : decode Y.cc pc = .ok (i, len) := hY.1 (pc, i, len) (q_at_mem hat)
def q_n (a b : Nat) (x : Nat × List (Option qV) × List qV) : Option (Nat × List (Option qV) × List qV) := if a = b then some x else none
def q_and (x y : Int) : Int := (Int32.ofInt x &&& Int32.ofInt y).toInt
def q_or (x y : Int) : Int := (Int32.ofInt x ||| Int32.ofInt y).toInt
def q_xor (x y : Int) : Int := (Int32.ofInt x ^^^ Int32.ofInt y).toInt
def q_shl (x y : Int) : Int := (Int32.ofInt x <<< (Int32.ofInt y &&& 31)).toInt
def q_shr (x y : Int) : Int := (Int32.ofInt x >>> (Int32.ofInt y &&& 31)).toInt
def q_ushr (x y : Int) : Int := ((Int32.ofInt x).toUInt32 >>> ((Int32.ofInt y).toUInt32 &&& Int32.toUInt32 31)).toInt32.toInt
def q_div (x y : Int) : Int := (Int32.ofInt x / Int32.ofInt y).toInt
def q_rem (x y : Int) : Int := (Int32.ofInt x - Int32.ofInt x / Int32.ofInt y * Int32.ofInt y).toInt
def q_i2b (x : Int) : Int := (Int32.ofInt x).toInt8.toInt32.toInt
def q_i2s (x : Int) : Int := (Int32.ofInt x).toInt16.toInt32.toInt
def q_i2c (x : Int) : Int := ((Int32.ofInt x).toUInt32 % 65536).toInt32.toInt
def q_i2l (x : Int) : Int := (Int32.ofInt x).toInt64.toInt
def q_l2i (x : Int) : Int := (Int64.ofInt x).toInt32.toInt
def q_lor (x y : Int) : Int := (Int64.ofInt x ||| Int64.ofInt y).toInt
def q_lshl (x y : Int) : Int := (Int64.ofInt x <<< ((Int32.ofInt y).toInt64 &&& 63)).toInt
def q_lcmp (x y : Int) : Int := (lg_cmp (Int64.ofInt x) (Int64.ofInt y)).toInt
/-- no long ends at this place -/
def q_nl (ls : List (Option qV)) (i : Nat) : Bool := match i with
  | 0 => true
  | j + 1 => match ls[j]? with
    | some (some (.inr (.inl _))) => false
    | _ => true
def q_ldI (ls : List (Option qV)) (i : Nat) (r : Int → Option (Nat × List (Option qV) × List qV)) : Option (Nat × List (Option qV) × List qV) := match ls[i]? with
  | some (some (.inl z)) => r z
  | _ => none
def q_ldA (ls : List (Option qV)) (i : Nat) (r : Option Nat → Option (Nat × List (Option qV) × List qV)) : Option (Nat × List (Option qV) × List qV) := match ls[i]? with
  | some (some (.inr (.inr z))) => r z
  | _ => none
def q_ldL (ls : List (Option qV)) (i : Nat) (r : Int → Option (Nat × List (Option qV) × List qV)) : Option (Nat × List (Option qV) × List qV) := match ls[i]? with
  | some (some (.inr (.inl z))) => r z
  | _ => none
def q_I1 (st : List qV) (r : Int → List qV → Option (Nat × List (Option qV) × List qV)) : Option (Nat × List (Option qV) × List qV) := match st with
  | .inl x :: t => r x t
  | _ => none
def q_A1 (st : List qV) (r : Option Nat → List qV → Option (Nat × List (Option qV) × List qV)) : Option (Nat × List (Option qV) × List qV) := match st with
  | .inr (.inr x) :: t => r x t
  | _ => none
def q_I2 (st : List qV) (r : Int → Int → List qV → Option (Nat × List (Option qV) × List qV)) : Option (Nat × List (Option qV) × List qV) := match st with
  | .inl y :: .inl x :: t => r x y t
  | _ => none
def q_L1 (st : List qV) (r : Int → List qV → Option (Nat × List (Option qV) × List qV)) : Option (Nat × List (Option qV) × List qV) := match st with
  | .inr (.inl x) :: t => r x t
  | _ => none
def q_c1 (v : qV) : Bool := match v with
  | .inr (.inl _) => false
  | _ => true
def q_V1 (st : List qV) (r : qV → List qV → Option (Nat × List (Option qV) × List qV)) : Option (Nat × List (Option qV) × List qV) := match st with
  | v :: t => if q_c1 v = true then r v t else none
  | _ => none
def q_sto (ls : List (Option qV)) (i : Nat) (v : qV) (r : List (Option qV) → Option (Nat × List (Option qV) × List qV)) : Option (Nat × List (Option qV) × List qV) := if q_nl ls i = true ∧ i < ls.length then r (ls.set i (some v)) else none
theorem q_ldI_s {ls : List (Option qV)} {i : Nat} {r : Int → Option (Nat × List (Option qV) × List qV)} {x : Nat × List (Option qV) × List qV} (h : q_ldI ls i r = some x) : ∃ z, ls[i]? = some (some (qI z)) ∧ r z = some x := by
  unfold q_ldI at h; split at h
  · exact ⟨_, by assumption, h⟩
  · cases h
theorem q_ldA_s {ls : List (Option qV)} {i : Nat} {r : Option Nat → Option (Nat × List (Option qV) × List qV)} {x : Nat × List (Option qV) × List qV} (h : q_ldA ls i r = some x) : ∃ z, ls[i]? = some (some (.inr (.inr z))) ∧ r z = some x := by
  unfold q_ldA at h; split at h
  · exact ⟨_, by assumption, h⟩
  · cases h
theorem q_ldL_s {ls : List (Option qV)} {i : Nat} {r : Int → Option (Nat × List (Option qV) × List qV)} {x : Nat × List (Option qV) × List qV} (h : q_ldL ls i r = some x) : ∃ z, ls[i]? = some (some (qL z)) ∧ r z = some x := by
  unfold q_ldL at h; split at h
  · exact ⟨_, by assumption, h⟩
  · cases h
theorem q_I1_s {st : List qV} {r : Int → List qV → Option (Nat × List (Option qV) × List qV)} {x : Nat × List (Option qV) × List qV} (h : q_I1 st r = some x) : ∃ z t, st = qI z :: t ∧ r z t = some x := by
  unfold q_I1 at h; split at h
  · exact ⟨_, _, rfl, h⟩
  · cases h
theorem q_A1_s {st : List qV} {r : Option Nat → List qV → Option (Nat × List (Option qV) × List qV)} {x : Nat × List (Option qV) × List qV} (h : q_A1 st r = some x) : ∃ z t, st = .inr (.inr z) :: t ∧ r z t = some x := by
  unfold q_A1 at h; split at h
  · exact ⟨_, _, rfl, h⟩
  · cases h
theorem q_L1_s {st : List qV} {r : Int → List qV → Option (Nat × List (Option qV) × List qV)} {x : Nat × List (Option qV) × List qV} (h : q_L1 st r = some x) : ∃ z t, st = qL z :: t ∧ r z t = some x := by
  unfold q_L1 at h; split at h
  · exact ⟨_, _, rfl, h⟩
  · cases h
theorem q_I2_s {st : List qV} {r : Int → Int → List qV → Option (Nat × List (Option qV) × List qV)} {x : Nat × List (Option qV) × List qV} (h : q_I2 st r = some x) : ∃ a b t, st = qI b :: qI a :: t ∧ r a b t = some x := by
  unfold q_I2 at h; split at h
  · exact ⟨_, _, _, rfl, h⟩
  · cases h
theorem q_V1_s {st : List qV} {r : qV → List qV → Option (Nat × List (Option qV) × List qV)} {x : Nat × List (Option qV) × List qV} (h : q_V1 st r = some x) : ∃ v t, st = v :: t ∧ q_c1 v = true ∧ r v t = some x := by
  unfold q_V1 at h; split at h
  · split at h
    · exact ⟨_, _, rfl, by assumption, h⟩
    · cases h
  · cases h
theorem q_sto_s {ls : List (Option qV)} {i : Nat} {v : qV} {r : List (Option qV) → Option (Nat × List (Option qV) × List qV)} {x : Nat × List (Option qV) × List qV} (h : q_sto ls i v r = some x) : q_nl ls i = true ∧ i < ls.length ∧ r (ls.set i (some v)) = some x := by
  unfold q_sto at h; split at h
  · rename_i g; exact ⟨g.1, g.2, h⟩
  · cases h
theorem q_n_s {a b : Nat} {x y : Nat × List (Option qV) × List qV} (h : q_n a b x = some y) : a = b ∧ x = y := by
  unfold q_n at h; split at h
  · exact ⟨by assumption, Option.some.inj h⟩
  · cases h
theorem q_if_s {c : Prop} [Decidable c] {a : Option (Nat × List (Option qV) × List qV)} {x : Nat × List (Option qV) × List qV} (h : (if c then a else none) = some x) : c ∧ a = some x := by
  split at h
  · exact ⟨by assumption, h⟩
  · cases h
theorem q_cat {φ : Nat → Nat} {v : qV} (h : q_c1 v = true) : (qc φ v).category = 1 := by
  rcases v with z | z | z | z <;> first | rfl | cases h
theorem q_ld {φ : Nat → Nat} {lc : Array Slot} {nL i : Nat} {ls : List (Option qV)} {v : qV} (hl : lv_has lc nL (qlv φ ls)) (h : ls[i]? = some (some v)) : lc[i]? = some (.val (qc φ v)) := hl.2.2 (i, _) (qlv_mem.mpr ⟨v, h, rfl⟩)
theorem q_st {φ : Nat → Nat} {lc : Array Slot} {nL i : Nat} {ls : List (Option qV)} {v : qV} (hi : i < ls.length) (hn : q_nl ls i = true) (h : lv_has lc nL ((i, qc φ v) :: (qlv φ ls).filter (fun q => !(q.1 == i) && !(q.1 + 1 == i && q.2.category == 2)))) : lv_has lc nL (qlv φ (ls.set i (some v))) := by
  refine ⟨h.1, h.2.1, fun q hq => h.2.2 q ?_⟩
  obtain ⟨j, w⟩ := q
  obtain ⟨u, h1, rfl⟩ := qlv_mem.mp hq
  by_cases e : j = i
  · subst e
    rw [List.getElem?_set_self hi] at h1
    cases h1
    exact List.mem_cons_self
  · rw [List.getElem?_set_ne (fun z => e z.symm)] at h1
    refine List.mem_cons_of_mem _ (List.mem_filter.mpr ⟨qlv_mem.mpr ⟨u, h1, rfl⟩, ?_⟩)
    have e1 : (j == i) = false := by simp [e]
    simp only [e1, Bool.not_false, Bool.true_and]
    by_cases e2 : j + 1 = i
    · subst e2
      have hn : (match ls[j]? with | some (some (.inr (.inl _))) => false | _ => true) = true := hn
      rw [h1] at hn
      have hc : q_c1 u = true := by
        rcases u with z | z | z | z <;> first | rfl | cases hn
      simp [q_cat hc]
    · have : (j + 1 == i) = false := by simp [e2]
      simp [this]
theorem q_i32 (x : Int32) : Int32.ofInt x.toInt = x := Int32.ofInt_toInt x
theorem q_i64 (x : Int64) : Int64.ofInt x.toInt = x := Int64.ofInt_toInt x
theorem q_add (x y : Int) : Int32.ofInt x + Int32.ofInt y = Int32.ofInt (x + y) := (Int32.ofInt_add x y).symm
theorem q_sub (x y : Int) : Int32.ofInt x - Int32.ofInt y = Int32.ofInt (x - y) := (Int32.ofInt_sub x y).symm
theorem q_mul (x y : Int) : Int32.ofInt x * Int32.ofInt y = Int32.ofInt (x * y) := (Int32.ofInt_mul x y).symm
theorem q_toInt {x : Int} (h1 : -2147483648 ≤ x) (h2 : x ≤ 2147483647) : (Int32.ofInt x).toInt = x := Int32.toInt_ofInt_of_le h1 (by omega)
theorem q_bip {n : Int} (h1 : -128 ≤ n) (h2 : n < 128) : (Int8.ofInt n).toInt32 = Int32.ofInt n := by
  apply Int32.toInt_inj.mp
  rw [Int8.toInt_toInt32, Int8.toInt_ofInt_of_le h1 h2, q_toInt (by omega) (by omega)]
theorem q_sip {n : Int} (h1 : -32768 ≤ n) (h2 : n < 32768) : (Int16.ofInt n).toInt32 = Int32.ofInt n := by
  apply Int32.toInt_inj.mp
  rw [Int16.toInt_toInt32, Int16.toInt_ofInt_of_le h1 h2, q_toInt (by omega) (by omega)]
theorem q_nz {y : Int} (h1 : 0 < y) (h2 : y < 2147483648) : ¬ Int32.ofInt y = 0 := by
  intro h
  have := congrArg Int32.toInt h
  rw [q_toInt (by omega) (by omega)] at this
  simp at this
  omega
/-- one instruction that leaves the heap alone -/
def q_ps (i : Instr) (len pc : Nat) (ls : List (Option qV)) (st : List qV) : Option (Nat × List (Option qV) × List qV) := match i with
  | .iconst n => q_n len 1 (pc + 1, ls, qI n :: st)
  | .bipush n => if -128 ≤ n ∧ n < 128 then q_n len 2 (pc + 2, ls, qI n :: st) else none
  | .sipush n => if -32768 ≤ n ∧ n < 32768 then q_n len 3 (pc + 3, ls, qI n :: st) else none
  | .iload_n n => q_ldI ls n.val (fun z => q_n len 1 (pc + 1, ls, qI z :: st))
  | .iload n => q_ldI ls n (fun z => q_n len 2 (pc + 2, ls, qI z :: st))
  | .aload_n n => q_ldA ls n.val (fun z => q_n len 1 (pc + 1, ls, .inr (.inr z) :: st))
  | .aload n => q_ldA ls n (fun z => q_n len 2 (pc + 2, ls, .inr (.inr z) :: st))
  | .lload_n n => q_ldL ls n.val (fun z => q_n len 1 (pc + 1, ls, qL z :: st))
  | .istore_n n => q_I1 st (fun z t => q_sto ls n.val (qI z) (fun ls => q_n len 1 (pc + 1, ls, t)))
  | .istore n => q_I1 st (fun z t => q_sto ls n (qI z) (fun ls => q_n len 2 (pc + 2, ls, t)))
  | .astore_n n => q_A1 st (fun z t => q_sto ls n.val (.inr (.inr z)) (fun ls => q_n len 1 (pc + 1, ls, t)))
  | .astore n => q_A1 st (fun z t => q_sto ls n (.inr (.inr z)) (fun ls => q_n len 2 (pc + 2, ls, t)))
  | .iinc i n => q_ldI ls i (fun z => q_sto ls i (qI (z + n)) (fun ls => q_n len 3 (pc + 3, ls, st)))
  | .iadd => q_I2 st (fun x y t => q_n len 1 (pc + 1, ls, qI (x + y) :: t))
  | .isub => q_I2 st (fun x y t => q_n len 1 (pc + 1, ls, qI (x - y) :: t))
  | .imul => q_I2 st (fun x y t => q_n len 1 (pc + 1, ls, qI (x * y) :: t))
  | .iand => q_I2 st (fun x y t => q_n len 1 (pc + 1, ls, qI (q_and x y) :: t))
  | .ior => q_I2 st (fun x y t => q_n len 1 (pc + 1, ls, qI (q_or x y) :: t))
  | .ixor => q_I2 st (fun x y t => q_n len 1 (pc + 1, ls, qI (q_xor x y) :: t))
  | .ishl => q_I2 st (fun x y t => q_n len 1 (pc + 1, ls, qI (q_shl x y) :: t))
  | .ishr => q_I2 st (fun x y t => q_n len 1 (pc + 1, ls, qI (q_shr x y) :: t))
  | .iushr => q_I2 st (fun x y t => q_n len 1 (pc + 1, ls, qI (q_ushr x y) :: t))
  | .idiv => q_I2 st (fun x y t => if 0 < y ∧ y < 2147483648 then q_n len 1 (pc + 1, ls, qI (q_div x y) :: t) else none)
  | .irem => q_I2 st (fun x y t => if 0 < y ∧ y < 2147483648 then q_n len 1 (pc + 1, ls, qI (q_rem x y) :: t) else none)
  | .i2b => q_I1 st (fun x t => q_n len 1 (pc + 1, ls, qI (q_i2b x) :: t))
  | .i2s => q_I1 st (fun x t => q_n len 1 (pc + 1, ls, qI (q_i2s x) :: t))
  | .i2c => q_I1 st (fun x t => q_n len 1 (pc + 1, ls, qI (q_i2c x) :: t))
  | .i2l => q_I1 st (fun x t => q_n len 1 (pc + 1, ls, qL (q_i2l x) :: t))
  | .l2i => q_L1 st (fun x t => q_n len 1 (pc + 1, ls, qI (q_l2i x) :: t))
  | .lor => q_L1 st (fun y t => q_L1 t (fun x t => q_n len 1 (pc + 1, ls, qL (q_lor x y) :: t)))
  | .lcmp => q_L1 st (fun y t => q_L1 t (fun x t => q_n len 1 (pc + 1, ls, qI (q_lcmp x y) :: t)))
  | .lshl => q_I1 st (fun y t => q_L1 t (fun x t => q_n len 1 (pc + 1, ls, qL (q_lshl x y) :: t)))
  | .lconst n => q_n len 1 (pc + 1, ls, qL (n.val : Int) :: st)
  | .dup => q_V1 st (fun v t => q_n len 1 (pc + 1, ls, v :: v :: t))
  | .pop => q_V1 st (fun v t => q_n len 1 (pc + 1, ls, t))
  | .dup_x1 => q_V1 st (fun v t => q_V1 t (fun u t => q_n len 1 (pc + 1, ls, v :: u :: v :: t)))
  | .dup2 => q_V1 st (fun v t => q_V1 t (fun u t => q_n len 1 (pc + 1, ls, v :: u :: v :: u :: t)))
  | .goto off => if 0 ≤ (pc : Int) + off then q_n len 3 (((pc : Int) + off).toNat, ls, st) else none
  | _ => none
theorem qs_iconst {Y : qY} {d MC MS : Nat} {κ : qK} {fin : State → Prop} {h : qH} {cs sl pc : Nat} {ls : List (Option qV)} {st : List qV} {n : Int} {len pc' : Nat} {ls' : List (Option qV)} {st' : List qV} (hκ : qCx Y d MC MS κ) (hat : q_at Y.tb pc = some (.iconst n, len)) (hs : (q_n len 1 (pc + 1, ls, qI n :: st)) = some (pc', ls', st')) (k : qJ Y κ fin h cs sl pc' ls' st') : qJ Y κ fin h cs sl pc ls st := by
    obtain ⟨p, l, e, R, s, m, args, below, meth, c, D, tc, A, φ0, n0⟩ := κ
    obtain ⟨hx, hb, hml, hr, hlk, hnm, hown, hts, hK, hNW, hA, hRO, hR, hY⟩ := hκ
    have hdg := qOKd.dec hY hat
    intro H locs φ lc hP hD hS hag hn hl hll
    have k' := fun lc' hl' hll' => k H locs φ lc' hP hD hS hag hn hl' hll'
    obtain ⟨rfl, hs⟩ := q_n_s hs
    cases hs
    exact lv_iconst hx hb hdg rfl (k' lc hl hll)
theorem qs_bipush {Y : qY} {d MC MS : Nat} {κ : qK} {fin : State → Prop} {h : qH} {cs sl pc : Nat} {ls : List (Option qV)} {st : List qV} {n : Int} {len pc' : Nat} {ls' : List (Option qV)} {st' : List qV} (hκ : qCx Y d MC MS κ) (hat : q_at Y.tb pc = some (.bipush n, len)) (hs : (if -128 ≤ n ∧ n < 128 then q_n len 2 (pc + 2, ls, qI n :: st) else none) = some (pc', ls', st')) (k : qJ Y κ fin h cs sl pc' ls' st') : qJ Y κ fin h cs sl pc ls st := by
    obtain ⟨p, l, e, R, s, m, args, below, meth, c, D, tc, A, φ0, n0⟩ := κ
    obtain ⟨hx, hb, hml, hr, hlk, hnm, hown, hts, hK, hNW, hA, hRO, hR, hY⟩ := hκ
    have hdg := qOKd.dec hY hat
    intro H locs φ lc hP hD hS hag hn hl hll
    have k' := fun lc' hl' hll' => k H locs φ lc' hP hD hS hag hn hl' hll'
    obtain ⟨⟨g1, g2⟩, hs⟩ := q_if_s hs
    obtain ⟨rfl, hs⟩ := q_n_s hs
    cases hs
    exact lv_bipush hx hb hdg (q_bip g1 g2) (k' lc hl hll)
theorem qs_sipush {Y : qY} {d MC MS : Nat} {κ : qK} {fin : State → Prop} {h : qH} {cs sl pc : Nat} {ls : List (Option qV)} {st : List qV} {n : Int} {len pc' : Nat} {ls' : List (Option qV)} {st' : List qV} (hκ : qCx Y d MC MS κ) (hat : q_at Y.tb pc = some (.sipush n, len)) (hs : (if -32768 ≤ n ∧ n < 32768 then q_n len 3 (pc + 3, ls, qI n :: st) else none) = some (pc', ls', st')) (k : qJ Y κ fin h cs sl pc' ls' st') : qJ Y κ fin h cs sl pc ls st := by
    obtain ⟨p, l, e, R, s, m, args, below, meth, c, D, tc, A, φ0, n0⟩ := κ
    obtain ⟨hx, hb, hml, hr, hlk, hnm, hown, hts, hK, hNW, hA, hRO, hR, hY⟩ := hκ
    have hdg := qOKd.dec hY hat
    intro H locs φ lc hP hD hS hag hn hl hll
    have k' := fun lc' hl' hll' => k H locs φ lc' hP hD hS hag hn hl' hll'
    obtain ⟨⟨g1, g2⟩, hs⟩ := q_if_s hs
    obtain ⟨rfl, hs⟩ := q_n_s hs
    cases hs
    exact lv_sipush hx hb hdg (q_sip g1 g2) (k' lc hl hll)
theorem qs_iload_n {Y : qY} {d MC MS : Nat} {κ : qK} {fin : State → Prop} {h : qH} {cs sl pc : Nat} {ls : List (Option qV)} {st : List qV} {n : Fin 4} {len pc' : Nat} {ls' : List (Option qV)} {st' : List qV} (hκ : qCx Y d MC MS κ) (hat : q_at Y.tb pc = some (.iload_n n, len)) (hs : (q_ldI ls n.val (fun z => q_n len 1 (pc + 1, ls, qI z :: st))) = some (pc', ls', st')) (k : qJ Y κ fin h cs sl pc' ls' st') : qJ Y κ fin h cs sl pc ls st := by
    obtain ⟨p, l, e, R, s, m, args, below, meth, c, D, tc, A, φ0, n0⟩ := κ
    obtain ⟨hx, hb, hml, hr, hlk, hnm, hown, hts, hK, hNW, hA, hRO, hR, hY⟩ := hκ
    have hdg := qOKd.dec hY hat
    intro H locs φ lc hP hD hS hag hn hl hll
    have k' := fun lc' hl' hll' => k H locs φ lc' hP hD hS hag hn hl' hll'
    obtain ⟨z, g, hs⟩ := q_ldI_s hs
    obtain ⟨rfl, hs⟩ := q_n_s hs
    cases hs
    exact lv_iload_n hx hb hdg rfl (q_ld hl g) (k' lc hl hll)
theorem qs_iload {Y : qY} {d MC MS : Nat} {κ : qK} {fin : State → Prop} {h : qH} {cs sl pc : Nat} {ls : List (Option qV)} {st : List qV} {n : Nat} {len pc' : Nat} {ls' : List (Option qV)} {st' : List qV} (hκ : qCx Y d MC MS κ) (hat : q_at Y.tb pc = some (.iload n, len)) (hs : (q_ldI ls n (fun z => q_n len 2 (pc + 2, ls, qI z :: st))) = some (pc', ls', st')) (k : qJ Y κ fin h cs sl pc' ls' st') : qJ Y κ fin h cs sl pc ls st := by
    obtain ⟨p, l, e, R, s, m, args, below, meth, c, D, tc, A, φ0, n0⟩ := κ
    obtain ⟨hx, hb, hml, hr, hlk, hnm, hown, hts, hK, hNW, hA, hRO, hR, hY⟩ := hκ
    have hdg := qOKd.dec hY hat
    intro H locs φ lc hP hD hS hag hn hl hll
    have k' := fun lc' hl' hll' => k H locs φ lc' hP hD hS hag hn hl' hll'
    obtain ⟨z, g, hs⟩ := q_ldI_s hs
    obtain ⟨rfl, hs⟩ := q_n_s hs
    cases hs
    exact lv_iload hx hb hdg (q_ld hl g) (k' lc hl hll)
theorem qs_aload_n {Y : qY} {d MC MS : Nat} {κ : qK} {fin : State → Prop} {h : qH} {cs sl pc : Nat} {ls : List (Option qV)} {st : List qV} {n : Fin 4} {len pc' : Nat} {ls' : List (Option qV)} {st' : List qV} (hκ : qCx Y d MC MS κ) (hat : q_at Y.tb pc = some (.aload_n n, len)) (hs : (q_ldA ls n.val (fun z => q_n len 1 (pc + 1, ls, .inr (.inr z) :: st))) = some (pc', ls', st')) (k : qJ Y κ fin h cs sl pc' ls' st') : qJ Y κ fin h cs sl pc ls st := by
    obtain ⟨p, l, e, R, s, m, args, below, meth, c, D, tc, A, φ0, n0⟩ := κ
    obtain ⟨hx, hb, hml, hr, hlk, hnm, hown, hts, hK, hNW, hA, hRO, hR, hY⟩ := hκ
    have hdg := qOKd.dec hY hat
    intro H locs φ lc hP hD hS hag hn hl hll
    have k' := fun lc' hl' hll' => k H locs φ lc' hP hD hS hag hn hl' hll'
    obtain ⟨z, g, hs⟩ := q_ldA_s hs
    obtain ⟨rfl, hs⟩ := q_n_s hs
    cases hs
    cases z with
    | none => exact lv_aload_nN hx hb hdg rfl (q_ld hl g) (k' lc hl hll)
    | some z => exact lv_aload_n hx hb hdg rfl (q_ld hl g) (k' lc hl hll)
theorem qs_aload {Y : qY} {d MC MS : Nat} {κ : qK} {fin : State → Prop} {h : qH} {cs sl pc : Nat} {ls : List (Option qV)} {st : List qV} {n : Nat} {len pc' : Nat} {ls' : List (Option qV)} {st' : List qV} (hκ : qCx Y d MC MS κ) (hat : q_at Y.tb pc = some (.aload n, len)) (hs : (q_ldA ls n (fun z => q_n len 2 (pc + 2, ls, .inr (.inr z) :: st))) = some (pc', ls', st')) (k : qJ Y κ fin h cs sl pc' ls' st') : qJ Y κ fin h cs sl pc ls st := by
    obtain ⟨p, l, e, R, s, m, args, below, meth, c, D, tc, A, φ0, n0⟩ := κ
    obtain ⟨hx, hb, hml, hr, hlk, hnm, hown, hts, hK, hNW, hA, hRO, hR, hY⟩ := hκ
    have hdg := qOKd.dec hY hat
    intro H locs φ lc hP hD hS hag hn hl hll
    have k' := fun lc' hl' hll' => k H locs φ lc' hP hD hS hag hn hl' hll'
    obtain ⟨z, g, hs⟩ := q_ldA_s hs
    obtain ⟨rfl, hs⟩ := q_n_s hs
    cases hs
    cases z with
    | none => exact lv_aloadN hx hb hdg (q_ld hl g) (k' lc hl hll)
    | some z => exact lv_aload hx hb hdg (q_ld hl g) (k' lc hl hll)
theorem qs_lload_n {Y : qY} {d MC MS : Nat} {κ : qK} {fin : State → Prop} {h : qH} {cs sl pc : Nat} {ls : List (Option qV)} {st : List qV} {n : Fin 4} {len pc' : Nat} {ls' : List (Option qV)} {st' : List qV} (hκ : qCx Y d MC MS κ) (hat : q_at Y.tb pc = some (.lload_n n, len)) (hs : (q_ldL ls n.val (fun z => q_n len 1 (pc + 1, ls, qL z :: st))) = some (pc', ls', st')) (k : qJ Y κ fin h cs sl pc' ls' st') : qJ Y κ fin h cs sl pc ls st := by
    obtain ⟨p, l, e, R, s, m, args, below, meth, c, D, tc, A, φ0, n0⟩ := κ
    obtain ⟨hx, hb, hml, hr, hlk, hnm, hown, hts, hK, hNW, hA, hRO, hR, hY⟩ := hκ
    have hdg := qOKd.dec hY hat
    intro H locs φ lc hP hD hS hag hn hl hll
    have k' := fun lc' hl' hll' => k H locs φ lc' hP hD hS hag hn hl' hll'
    obtain ⟨z, g, hs⟩ := q_ldL_s hs
    obtain ⟨rfl, hs⟩ := q_n_s hs
    cases hs
    exact lv_lload_n hx hb hdg rfl (q_ld hl g) (k' lc hl hll)
theorem qs_istore_n {Y : qY} {d MC MS : Nat} {κ : qK} {fin : State → Prop} {h : qH} {cs sl pc : Nat} {ls : List (Option qV)} {st : List qV} {n : Fin 4} {len pc' : Nat} {ls' : List (Option qV)} {st' : List qV} (hκ : qCx Y d MC MS κ) (hat : q_at Y.tb pc = some (.istore_n n, len)) (hs : (q_I1 st (fun z t => q_sto ls n.val (qI z) (fun ls => q_n len 1 (pc + 1, ls, t)))) = some (pc', ls', st')) (k : qJ Y κ fin h cs sl pc' ls' st') : qJ Y κ fin h cs sl pc ls st := by
    obtain ⟨p, l, e, R, s, m, args, below, meth, c, D, tc, A, φ0, n0⟩ := κ
    obtain ⟨hx, hb, hml, hr, hlk, hnm, hown, hts, hK, hNW, hA, hRO, hR, hY⟩ := hκ
    have hdg := qOKd.dec hY hat
    intro H locs φ lc hP hD hS hag hn hl hll
    have k' := fun lc' hl' hll' => k H locs φ lc' hP hD hS hag hn hl' hll'
    obtain ⟨z, t, est, hs1⟩ := q_I1_s hs; clear hs; subst est; have hs := hs1; clear hs1
    obtain ⟨g1, g2, hs⟩ := q_sto_s hs
    obtain ⟨rfl, hs⟩ := q_n_s hs
    cases hs
    exact lv_istore_n hx hb hdg rfl hl (by omega) rfl (fun lc' hl' => k' lc' (q_st g2 g1 hl') (by rw [List.length_set]; exact hll))
theorem qs_istore {Y : qY} {d MC MS : Nat} {κ : qK} {fin : State → Prop} {h : qH} {cs sl pc : Nat} {ls : List (Option qV)} {st : List qV} {n : Nat} {len pc' : Nat} {ls' : List (Option qV)} {st' : List qV} (hκ : qCx Y d MC MS κ) (hat : q_at Y.tb pc = some (.istore n, len)) (hs : (q_I1 st (fun z t => q_sto ls n (qI z) (fun ls => q_n len 2 (pc + 2, ls, t)))) = some (pc', ls', st')) (k : qJ Y κ fin h cs sl pc' ls' st') : qJ Y κ fin h cs sl pc ls st := by
    obtain ⟨p, l, e, R, s, m, args, below, meth, c, D, tc, A, φ0, n0⟩ := κ
    obtain ⟨hx, hb, hml, hr, hlk, hnm, hown, hts, hK, hNW, hA, hRO, hR, hY⟩ := hκ
    have hdg := qOKd.dec hY hat
    intro H locs φ lc hP hD hS hag hn hl hll
    have k' := fun lc' hl' hll' => k H locs φ lc' hP hD hS hag hn hl' hll'
    obtain ⟨z, t, est, hs1⟩ := q_I1_s hs; clear hs; subst est; have hs := hs1; clear hs1
    obtain ⟨g1, g2, hs⟩ := q_sto_s hs
    obtain ⟨rfl, hs⟩ := q_n_s hs
    cases hs
    exact lv_istore hx hb hdg hl (by omega) rfl (fun lc' hl' => k' lc' (q_st g2 g1 hl') (by rw [List.length_set]; exact hll))
theorem qs_astore_n {Y : qY} {d MC MS : Nat} {κ : qK} {fin : State → Prop} {h : qH} {cs sl pc : Nat} {ls : List (Option qV)} {st : List qV} {n : Fin 4} {len pc' : Nat} {ls' : List (Option qV)} {st' : List qV} (hκ : qCx Y d MC MS κ) (hat : q_at Y.tb pc = some (.astore_n n, len)) (hs : (q_A1 st (fun z t => q_sto ls n.val (.inr (.inr z)) (fun ls => q_n len 1 (pc + 1, ls, t)))) = some (pc', ls', st')) (k : qJ Y κ fin h cs sl pc' ls' st') : qJ Y κ fin h cs sl pc ls st := by
    obtain ⟨p, l, e, R, s, m, args, below, meth, c, D, tc, A, φ0, n0⟩ := κ
    obtain ⟨hx, hb, hml, hr, hlk, hnm, hown, hts, hK, hNW, hA, hRO, hR, hY⟩ := hκ
    have hdg := qOKd.dec hY hat
    intro H locs φ lc hP hD hS hag hn hl hll
    have k' := fun lc' hl' hll' => k H locs φ lc' hP hD hS hag hn hl' hll'
    obtain ⟨z, t, est, hs1⟩ := q_A1_s hs; clear hs; subst est; have hs := hs1; clear hs1
    obtain ⟨g1, g2, hs⟩ := q_sto_s hs
    obtain ⟨rfl, hs⟩ := q_n_s hs
    cases hs
    cases z with
    | none => exact lv_astore_nN hx hb hdg rfl hl (by omega) rfl (fun lc' hl' => k' lc' (q_st g2 g1 hl') (by rw [List.length_set]; exact hll))
    | some z => exact lv_astore_n hx hb hdg rfl hl (by omega) rfl (fun lc' hl' => k' lc' (q_st g2 g1 hl') (by rw [List.length_set]; exact hll))
theorem qs_astore {Y : qY} {d MC MS : Nat} {κ : qK} {fin : State → Prop} {h : qH} {cs sl pc : Nat} {ls : List (Option qV)} {st : List qV} {n : Nat} {len pc' : Nat} {ls' : List (Option qV)} {st' : List qV} (hκ : qCx Y d MC MS κ) (hat : q_at Y.tb pc = some (.astore n, len)) (hs : (q_A1 st (fun z t => q_sto ls n (.inr (.inr z)) (fun ls => q_n len 2 (pc + 2, ls, t)))) = some (pc', ls', st')) (k : qJ Y κ fin h cs sl pc' ls' st') : qJ Y κ fin h cs sl pc ls st := by
    obtain ⟨p, l, e, R, s, m, args, below, meth, c, D, tc, A, φ0, n0⟩ := κ
    obtain ⟨hx, hb, hml, hr, hlk, hnm, hown, hts, hK, hNW, hA, hRO, hR, hY⟩ := hκ
    have hdg := qOKd.dec hY hat
    intro H locs φ lc hP hD hS hag hn hl hll
    have k' := fun lc' hl' hll' => k H locs φ lc' hP hD hS hag hn hl' hll'
    obtain ⟨z, t, est, hs1⟩ := q_A1_s hs; clear hs; subst est; have hs := hs1; clear hs1
    obtain ⟨g1, g2, hs⟩ := q_sto_s hs
    obtain ⟨rfl, hs⟩ := q_n_s hs
    cases hs
    cases z with
    | none => exact lv_astoreN hx hb hdg hl (by omega) rfl (fun lc' hl' => k' lc' (q_st g2 g1 hl') (by rw [List.length_set]; exact hll))
    | some z => exact lv_astore hx hb hdg hl (by omega) rfl (fun lc' hl' => k' lc' (q_st g2 g1 hl') (by rw [List.length_set]; exact hll))
theorem qs_iinc {Y : qY} {d MC MS : Nat} {κ : qK} {fin : State → Prop} {h : qH} {cs sl pc : Nat} {ls : List (Option qV)} {st : List qV} {i : Nat} {n : Int} {len pc' : Nat} {ls' : List (Option qV)} {st' : List qV} (hκ : qCx Y d MC MS κ) (hat : q_at Y.tb pc = some (.iinc i n, len)) (hs : (q_ldI ls i (fun z => q_sto ls i (qI (z + n)) (fun ls => q_n len 3 (pc + 3, ls, st)))) = some (pc', ls', st')) (k : qJ Y κ fin h cs sl pc' ls' st') : qJ Y κ fin h cs sl pc ls st := by
    obtain ⟨p, l, e, R, s, m, args, below, meth, c, D, tc, A, φ0, n0⟩ := κ
    obtain ⟨hx, hb, hml, hr, hlk, hnm, hown, hts, hK, hNW, hA, hRO, hR, hY⟩ := hκ
    have hdg := qOKd.dec hY hat
    intro H locs φ lc hP hD hS hag hn hl hll
    have k' := fun lc' hl' hll' => k H locs φ lc' hP hD hS hag hn hl' hll'
    obtain ⟨z, g, hs⟩ := q_ldI_s hs
    obtain ⟨g1, g2, hs⟩ := q_sto_s hs
    obtain ⟨rfl, hs⟩ := q_n_s hs
    cases hs
    obtain ⟨q, hq⟩ := List.getElem?_of_mem (qlv_mem.mpr ⟨_, g, rfl⟩ : (i, qc φ (qI z)) ∈ qlv φ ls)
    exact lv_iinc hx hb hdg hl hq (q_add z n) (by omega) rfl (fun lc' hl' => k' lc' (q_st g2 g1 hl') (by rw [List.length_set]; exact hll))
theorem qs_iadd {Y : qY} {d MC MS : Nat} {κ : qK} {fin : State → Prop} {h : qH} {cs sl pc : Nat} {ls : List (Option qV)} {st : List qV}  {len pc' : Nat} {ls' : List (Option qV)} {st' : List qV} (hκ : qCx Y d MC MS κ) (hat : q_at Y.tb pc = some (.iadd, len)) (hs : (q_I2 st (fun x y t => q_n len 1 (pc + 1, ls, qI (x + y) :: t))) = some (pc', ls', st')) (k : qJ Y κ fin h cs sl pc' ls' st') : qJ Y κ fin h cs sl pc ls st := by
    obtain ⟨p, l, e, R, s, m, args, below, meth, c, D, tc, A, φ0, n0⟩ := κ
    obtain ⟨hx, hb, hml, hr, hlk, hnm, hown, hts, hK, hNW, hA, hRO, hR, hY⟩ := hκ
    have hdg := qOKd.dec hY hat
    intro H locs φ lc hP hD hS hag hn hl hll
    have k' := fun lc' hl' hll' => k H locs φ lc' hP hD hS hag hn hl' hll'
    obtain ⟨x, y, t, est, hs1⟩ := q_I2_s hs; clear hs; subst est; have hs := hs1; clear hs1
    obtain ⟨rfl, hs⟩ := q_n_s hs
    cases hs
    refine lv_iadd hx hb hdg ?_
    rw [q_add]
    exact k' lc hl hll
theorem qs_isub {Y : qY} {d MC MS : Nat} {κ : qK} {fin : State → Prop} {h : qH} {cs sl pc : Nat} {ls : List (Option qV)} {st : List qV}  {len pc' : Nat} {ls' : List (Option qV)} {st' : List qV} (hκ : qCx Y d MC MS κ) (hat : q_at Y.tb pc = some (.isub, len)) (hs : (q_I2 st (fun x y t => q_n len 1 (pc + 1, ls, qI (x - y) :: t))) = some (pc', ls', st')) (k : qJ Y κ fin h cs sl pc' ls' st') : qJ Y κ fin h cs sl pc ls st := by
    obtain ⟨p, l, e, R, s, m, args, below, meth, c, D, tc, A, φ0, n0⟩ := κ
    obtain ⟨hx, hb, hml, hr, hlk, hnm, hown, hts, hK, hNW, hA, hRO, hR, hY⟩ := hκ
    have hdg := qOKd.dec hY hat
    intro H locs φ lc hP hD hS hag hn hl hll
    have k' := fun lc' hl' hll' => k H locs φ lc' hP hD hS hag hn hl' hll'
    obtain ⟨x, y, t, est, hs1⟩ := q_I2_s hs; clear hs; subst est; have hs := hs1; clear hs1
    obtain ⟨rfl, hs⟩ := q_n_s hs
    cases hs
    refine lv_isub hx hb hdg ?_
    rw [q_sub]
    exact k' lc hl hll
theorem qs_imul {Y : qY} {d MC MS : Nat} {κ : qK} {fin : State → Prop} {h : qH} {cs sl pc : Nat} {ls : List (Option qV)} {st : List qV}  {len pc' : Nat} {ls' : List (Option qV)} {st' : List qV} (hκ : qCx Y d MC MS κ) (hat : q_at Y.tb pc = some (.imul, len)) (hs : (q_I2 st (fun x y t => q_n len 1 (pc + 1, ls, qI (x * y) :: t))) = some (pc', ls', st')) (k : qJ Y κ fin h cs sl pc' ls' st') : qJ Y κ fin h cs sl pc ls st := by
    obtain ⟨p, l, e, R, s, m, args, below, meth, c, D, tc, A, φ0, n0⟩ := κ
    obtain ⟨hx, hb, hml, hr, hlk, hnm, hown, hts, hK, hNW, hA, hRO, hR, hY⟩ := hκ
    have hdg := qOKd.dec hY hat
    intro H locs φ lc hP hD hS hag hn hl hll
    have k' := fun lc' hl' hll' => k H locs φ lc' hP hD hS hag hn hl' hll'
    obtain ⟨x, y, t, est, hs1⟩ := q_I2_s hs; clear hs; subst est; have hs := hs1; clear hs1
    obtain ⟨rfl, hs⟩ := q_n_s hs
    cases hs
    refine lv_imul hx hb hdg ?_
    rw [q_mul]
    exact k' lc hl hll
theorem qs_iand {Y : qY} {d MC MS : Nat} {κ : qK} {fin : State → Prop} {h : qH} {cs sl pc : Nat} {ls : List (Option qV)} {st : List qV}  {len pc' : Nat} {ls' : List (Option qV)} {st' : List qV} (hκ : qCx Y d MC MS κ) (hat : q_at Y.tb pc = some (.iand, len)) (hs : (q_I2 st (fun x y t => q_n len 1 (pc + 1, ls, qI (q_and x y) :: t))) = some (pc', ls', st')) (k : qJ Y κ fin h cs sl pc' ls' st') : qJ Y κ fin h cs sl pc ls st := by
    obtain ⟨p, l, e, R, s, m, args, below, meth, c, D, tc, A, φ0, n0⟩ := κ
    obtain ⟨hx, hb, hml, hr, hlk, hnm, hown, hts, hK, hNW, hA, hRO, hR, hY⟩ := hκ
    have hdg := qOKd.dec hY hat
    intro H locs φ lc hP hD hS hag hn hl hll
    have k' := fun lc' hl' hll' => k H locs φ lc' hP hD hS hag hn hl' hll'
    obtain ⟨x, y, t, est, hs1⟩ := q_I2_s hs; clear hs; subst est; have hs := hs1; clear hs1
    obtain ⟨rfl, hs⟩ := q_n_s hs
    cases hs
    refine lv_iand hx hb hdg ?_
    have k2 := k' lc hl hll
    simp only [List.map_cons, qc, q_and, q_i32] at k2
    exact k2
theorem qs_ior {Y : qY} {d MC MS : Nat} {κ : qK} {fin : State → Prop} {h : qH} {cs sl pc : Nat} {ls : List (Option qV)} {st : List qV}  {len pc' : Nat} {ls' : List (Option qV)} {st' : List qV} (hκ : qCx Y d MC MS κ) (hat : q_at Y.tb pc = some (.ior, len)) (hs : (q_I2 st (fun x y t => q_n len 1 (pc + 1, ls, qI (q_or x y) :: t))) = some (pc', ls', st')) (k : qJ Y κ fin h cs sl pc' ls' st') : qJ Y κ fin h cs sl pc ls st := by
    obtain ⟨p, l, e, R, s, m, args, below, meth, c, D, tc, A, φ0, n0⟩ := κ
    obtain ⟨hx, hb, hml, hr, hlk, hnm, hown, hts, hK, hNW, hA, hRO, hR, hY⟩ := hκ
    have hdg := qOKd.dec hY hat
    intro H locs φ lc hP hD hS hag hn hl hll
    have k' := fun lc' hl' hll' => k H locs φ lc' hP hD hS hag hn hl' hll'
    obtain ⟨x, y, t, est, hs1⟩ := q_I2_s hs; clear hs; subst est; have hs := hs1; clear hs1
    obtain ⟨rfl, hs⟩ := q_n_s hs
    cases hs
    refine lv_ior hx hb hdg ?_
    have k2 := k' lc hl hll
    simp only [List.map_cons, qc, q_or, q_i32] at k2
    exact k2
theorem qs_ixor {Y : qY} {d MC MS : Nat} {κ : qK} {fin : State → Prop} {h : qH} {cs sl pc : Nat} {ls : List (Option qV)} {st : List qV}  {len pc' : Nat} {ls' : List (Option qV)} {st' : List qV} (hκ : qCx Y d MC MS κ) (hat : q_at Y.tb pc = some (.ixor, len)) (hs : (q_I2 st (fun x y t => q_n len 1 (pc + 1, ls, qI (q_xor x y) :: t))) = some (pc', ls', st')) (k : qJ Y κ fin h cs sl pc' ls' st') : qJ Y κ fin h cs sl pc ls st := by
    obtain ⟨p, l, e, R, s, m, args, below, meth, c, D, tc, A, φ0, n0⟩ := κ
    obtain ⟨hx, hb, hml, hr, hlk, hnm, hown, hts, hK, hNW, hA, hRO, hR, hY⟩ := hκ
    have hdg := qOKd.dec hY hat
    intro H locs φ lc hP hD hS hag hn hl hll
    have k' := fun lc' hl' hll' => k H locs φ lc' hP hD hS hag hn hl' hll'
    obtain ⟨x, y, t, est, hs1⟩ := q_I2_s hs; clear hs; subst est; have hs := hs1; clear hs1
    obtain ⟨rfl, hs⟩ := q_n_s hs
    cases hs
    refine lv_ixor hx hb hdg ?_
    have k2 := k' lc hl hll
    simp only [List.map_cons, qc, q_xor, q_i32] at k2
    exact k2
theorem qs_ishl {Y : qY} {d MC MS : Nat} {κ : qK} {fin : State → Prop} {h : qH} {cs sl pc : Nat} {ls : List (Option qV)} {st : List qV}  {len pc' : Nat} {ls' : List (Option qV)} {st' : List qV} (hκ : qCx Y d MC MS κ) (hat : q_at Y.tb pc = some (.ishl, len)) (hs : (q_I2 st (fun x y t => q_n len 1 (pc + 1, ls, qI (q_shl x y) :: t))) = some (pc', ls', st')) (k : qJ Y κ fin h cs sl pc' ls' st') : qJ Y κ fin h cs sl pc ls st := by
    obtain ⟨p, l, e, R, s, m, args, below, meth, c, D, tc, A, φ0, n0⟩ := κ
    obtain ⟨hx, hb, hml, hr, hlk, hnm, hown, hts, hK, hNW, hA, hRO, hR, hY⟩ := hκ
    have hdg := qOKd.dec hY hat
    intro H locs φ lc hP hD hS hag hn hl hll
    have k' := fun lc' hl' hll' => k H locs φ lc' hP hD hS hag hn hl' hll'
    obtain ⟨x, y, t, est, hs1⟩ := q_I2_s hs; clear hs; subst est; have hs := hs1; clear hs1
    obtain ⟨rfl, hs⟩ := q_n_s hs
    cases hs
    refine lv_ishl hx hb hdg ?_
    have k2 := k' lc hl hll
    simp only [List.map_cons, qc, q_shl, q_i32] at k2
    exact k2
theorem qs_ishr {Y : qY} {d MC MS : Nat} {κ : qK} {fin : State → Prop} {h : qH} {cs sl pc : Nat} {ls : List (Option qV)} {st : List qV}  {len pc' : Nat} {ls' : List (Option qV)} {st' : List qV} (hκ : qCx Y d MC MS κ) (hat : q_at Y.tb pc = some (.ishr, len)) (hs : (q_I2 st (fun x y t => q_n len 1 (pc + 1, ls, qI (q_shr x y) :: t))) = some (pc', ls', st')) (k : qJ Y κ fin h cs sl pc' ls' st') : qJ Y κ fin h cs sl pc ls st := by
    obtain ⟨p, l, e, R, s, m, args, below, meth, c, D, tc, A, φ0, n0⟩ := κ
    obtain ⟨hx, hb, hml, hr, hlk, hnm, hown, hts, hK, hNW, hA, hRO, hR, hY⟩ := hκ
    have hdg := qOKd.dec hY hat
    intro H locs φ lc hP hD hS hag hn hl hll
    have k' := fun lc' hl' hll' => k H locs φ lc' hP hD hS hag hn hl' hll'
    obtain ⟨x, y, t, est, hs1⟩ := q_I2_s hs; clear hs; subst est; have hs := hs1; clear hs1
    obtain ⟨rfl, hs⟩ := q_n_s hs
    cases hs
    refine lv_ishr hx hb hdg ?_
    have k2 := k' lc hl hll
    simp only [List.map_cons, qc, q_shr, q_i32] at k2
    exact k2
theorem qs_iushr {Y : qY} {d MC MS : Nat} {κ : qK} {fin : State → Prop} {h : qH} {cs sl pc : Nat} {ls : List (Option qV)} {st : List qV}  {len pc' : Nat} {ls' : List (Option qV)} {st' : List qV} (hκ : qCx Y d MC MS κ) (hat : q_at Y.tb pc = some (.iushr, len)) (hs : (q_I2 st (fun x y t => q_n len 1 (pc + 1, ls, qI (q_ushr x y) :: t))) = some (pc', ls', st')) (k : qJ Y κ fin h cs sl pc' ls' st') : qJ Y κ fin h cs sl pc ls st := by
    obtain ⟨p, l, e, R, s, m, args, below, meth, c, D, tc, A, φ0, n0⟩ := κ
    obtain ⟨hx, hb, hml, hr, hlk, hnm, hown, hts, hK, hNW, hA, hRO, hR, hY⟩ := hκ
    have hdg := qOKd.dec hY hat
    intro H locs φ lc hP hD hS hag hn hl hll
    have k' := fun lc' hl' hll' => k H locs φ lc' hP hD hS hag hn hl' hll'
    obtain ⟨x, y, t, est, hs1⟩ := q_I2_s hs; clear hs; subst est; have hs := hs1; clear hs1
    obtain ⟨rfl, hs⟩ := q_n_s hs
    cases hs
    refine lv_iushr hx hb hdg rfl ?_
    have k2 := k' lc hl hll
    simp only [List.map_cons, qc, q_ushr, q_i32] at k2
    exact k2
theorem qs_idiv {Y : qY} {d MC MS : Nat} {κ : qK} {fin : State → Prop} {h : qH} {cs sl pc : Nat} {ls : List (Option qV)} {st : List qV}  {len pc' : Nat} {ls' : List (Option qV)} {st' : List qV} (hκ : qCx Y d MC MS κ) (hat : q_at Y.tb pc = some (.idiv, len)) (hs : (q_I2 st (fun x y t => if 0 < y ∧ y < 2147483648 then q_n len 1 (pc + 1, ls, qI (q_div x y) :: t) else none)) = some (pc', ls', st')) (k : qJ Y κ fin h cs sl pc' ls' st') : qJ Y κ fin h cs sl pc ls st := by
    obtain ⟨p, l, e, R, s, m, args, below, meth, c, D, tc, A, φ0, n0⟩ := κ
    obtain ⟨hx, hb, hml, hr, hlk, hnm, hown, hts, hK, hNW, hA, hRO, hR, hY⟩ := hκ
    have hdg := qOKd.dec hY hat
    intro H locs φ lc hP hD hS hag hn hl hll
    have k' := fun lc' hl' hll' => k H locs φ lc' hP hD hS hag hn hl' hll'
    obtain ⟨x, y, t, est, hs1⟩ := q_I2_s hs; clear hs; subst est; have hs := hs1; clear hs1
    obtain ⟨⟨g1, g2⟩, hs⟩ := q_if_s hs
    obtain ⟨rfl, hs⟩ := q_n_s hs
    cases hs
    refine lv_idiv hx hb hdg (q_nz g1 g2) ?_
    have k2 := k' lc hl hll
    simp only [List.map_cons, qc, q_div, q_i32] at k2
    exact k2
theorem qs_irem {Y : qY} {d MC MS : Nat} {κ : qK} {fin : State → Prop} {h : qH} {cs sl pc : Nat} {ls : List (Option qV)} {st : List qV}  {len pc' : Nat} {ls' : List (Option qV)} {st' : List qV} (hκ : qCx Y d MC MS κ) (hat : q_at Y.tb pc = some (.irem, len)) (hs : (q_I2 st (fun x y t => if 0 < y ∧ y < 2147483648 then q_n len 1 (pc + 1, ls, qI (q_rem x y) :: t) else none)) = some (pc', ls', st')) (k : qJ Y κ fin h cs sl pc' ls' st') : qJ Y κ fin h cs sl pc ls st := by
    obtain ⟨p, l, e, R, s, m, args, below, meth, c, D, tc, A, φ0, n0⟩ := κ
    obtain ⟨hx, hb, hml, hr, hlk, hnm, hown, hts, hK, hNW, hA, hRO, hR, hY⟩ := hκ
    have hdg := qOKd.dec hY hat
    intro H locs φ lc hP hD hS hag hn hl hll
    have k' := fun lc' hl' hll' => k H locs φ lc' hP hD hS hag hn hl' hll'
    obtain ⟨x, y, t, est, hs1⟩ := q_I2_s hs; clear hs; subst est; have hs := hs1; clear hs1
    obtain ⟨⟨g1, g2⟩, hs⟩ := q_if_s hs
    obtain ⟨rfl, hs⟩ := q_n_s hs
    cases hs
    refine lv_irem hx hb hdg (q_nz g1 g2) ?_
    have k2 := k' lc hl hll
    simp only [List.map_cons, qc, q_rem, q_i32] at k2
    exact k2
theorem qs_i2b {Y : qY} {d MC MS : Nat} {κ : qK} {fin : State → Prop} {h : qH} {cs sl pc : Nat} {ls : List (Option qV)} {st : List qV}  {len pc' : Nat} {ls' : List (Option qV)} {st' : List qV} (hκ : qCx Y d MC MS κ) (hat : q_at Y.tb pc = some (.i2b, len)) (hs : (q_I1 st (fun x t => q_n len 1 (pc + 1, ls, qI (q_i2b x) :: t))) = some (pc', ls', st')) (k : qJ Y κ fin h cs sl pc' ls' st') : qJ Y κ fin h cs sl pc ls st := by
    obtain ⟨p, l, e, R, s, m, args, below, meth, c, D, tc, A, φ0, n0⟩ := κ
    obtain ⟨hx, hb, hml, hr, hlk, hnm, hown, hts, hK, hNW, hA, hRO, hR, hY⟩ := hκ
    have hdg := qOKd.dec hY hat
    intro H locs φ lc hP hD hS hag hn hl hll
    have k' := fun lc' hl' hll' => k H locs φ lc' hP hD hS hag hn hl' hll'
    obtain ⟨x, t, est, hs1⟩ := q_I1_s hs; clear hs; subst est; have hs := hs1; clear hs1
    obtain ⟨rfl, hs⟩ := q_n_s hs
    cases hs
    exact lv_i2b hx hb hdg (q_i32 _).symm (k' lc hl hll)
theorem qs_i2s {Y : qY} {d MC MS : Nat} {κ : qK} {fin : State → Prop} {h : qH} {cs sl pc : Nat} {ls : List (Option qV)} {st : List qV}  {len pc' : Nat} {ls' : List (Option qV)} {st' : List qV} (hκ : qCx Y d MC MS κ) (hat : q_at Y.tb pc = some (.i2s, len)) (hs : (q_I1 st (fun x t => q_n len 1 (pc + 1, ls, qI (q_i2s x) :: t))) = some (pc', ls', st')) (k : qJ Y κ fin h cs sl pc' ls' st') : qJ Y κ fin h cs sl pc ls st := by
    obtain ⟨p, l, e, R, s, m, args, below, meth, c, D, tc, A, φ0, n0⟩ := κ
    obtain ⟨hx, hb, hml, hr, hlk, hnm, hown, hts, hK, hNW, hA, hRO, hR, hY⟩ := hκ
    have hdg := qOKd.dec hY hat
    intro H locs φ lc hP hD hS hag hn hl hll
    have k' := fun lc' hl' hll' => k H locs φ lc' hP hD hS hag hn hl' hll'
    obtain ⟨x, t, est, hs1⟩ := q_I1_s hs; clear hs; subst est; have hs := hs1; clear hs1
    obtain ⟨rfl, hs⟩ := q_n_s hs
    cases hs
    exact lv_i2s hx hb hdg (q_i32 _).symm (k' lc hl hll)
theorem qs_i2c {Y : qY} {d MC MS : Nat} {κ : qK} {fin : State → Prop} {h : qH} {cs sl pc : Nat} {ls : List (Option qV)} {st : List qV}  {len pc' : Nat} {ls' : List (Option qV)} {st' : List qV} (hκ : qCx Y d MC MS κ) (hat : q_at Y.tb pc = some (.i2c, len)) (hs : (q_I1 st (fun x t => q_n len 1 (pc + 1, ls, qI (q_i2c x) :: t))) = some (pc', ls', st')) (k : qJ Y κ fin h cs sl pc' ls' st') : qJ Y κ fin h cs sl pc ls st := by
    obtain ⟨p, l, e, R, s, m, args, below, meth, c, D, tc, A, φ0, n0⟩ := κ
    obtain ⟨hx, hb, hml, hr, hlk, hnm, hown, hts, hK, hNW, hA, hRO, hR, hY⟩ := hκ
    have hdg := qOKd.dec hY hat
    intro H locs φ lc hP hD hS hag hn hl hll
    have k' := fun lc' hl' hll' => k H locs φ lc' hP hD hS hag hn hl' hll'
    obtain ⟨x, t, est, hs1⟩ := q_I1_s hs; clear hs; subst est; have hs := hs1; clear hs1
    obtain ⟨rfl, hs⟩ := q_n_s hs
    cases hs
    exact lv_i2c hx hb hdg (q_i32 _).symm (k' lc hl hll)
theorem qs_i2l {Y : qY} {d MC MS : Nat} {κ : qK} {fin : State → Prop} {h : qH} {cs sl pc : Nat} {ls : List (Option qV)} {st : List qV}  {len pc' : Nat} {ls' : List (Option qV)} {st' : List qV} (hκ : qCx Y d MC MS κ) (hat : q_at Y.tb pc = some (.i2l, len)) (hs : (q_I1 st (fun x t => q_n len 1 (pc + 1, ls, qL (q_i2l x) :: t))) = some (pc', ls', st')) (k : qJ Y κ fin h cs sl pc' ls' st') : qJ Y κ fin h cs sl pc ls st := by
    obtain ⟨p, l, e, R, s, m, args, below, meth, c, D, tc, A, φ0, n0⟩ := κ
    obtain ⟨hx, hb, hml, hr, hlk, hnm, hown, hts, hK, hNW, hA, hRO, hR, hY⟩ := hκ
    have hdg := qOKd.dec hY hat
    intro H locs φ lc hP hD hS hag hn hl hll
    have k' := fun lc' hl' hll' => k H locs φ lc' hP hD hS hag hn hl' hll'
    obtain ⟨x, t, est, hs1⟩ := q_I1_s hs; clear hs; subst est; have hs := hs1; clear hs1
    obtain ⟨rfl, hs⟩ := q_n_s hs
    cases hs
    exact lv_i2l hx hb hdg (q_i64 _).symm (k' lc hl hll)
theorem qs_l2i {Y : qY} {d MC MS : Nat} {κ : qK} {fin : State → Prop} {h : qH} {cs sl pc : Nat} {ls : List (Option qV)} {st : List qV}  {len pc' : Nat} {ls' : List (Option qV)} {st' : List qV} (hκ : qCx Y d MC MS κ) (hat : q_at Y.tb pc = some (.l2i, len)) (hs : (q_L1 st (fun x t => q_n len 1 (pc + 1, ls, qI (q_l2i x) :: t))) = some (pc', ls', st')) (k : qJ Y κ fin h cs sl pc' ls' st') : qJ Y κ fin h cs sl pc ls st := by
    obtain ⟨p, l, e, R, s, m, args, below, meth, c, D, tc, A, φ0, n0⟩ := κ
    obtain ⟨hx, hb, hml, hr, hlk, hnm, hown, hts, hK, hNW, hA, hRO, hR, hY⟩ := hκ
    have hdg := qOKd.dec hY hat
    intro H locs φ lc hP hD hS hag hn hl hll
    have k' := fun lc' hl' hll' => k H locs φ lc' hP hD hS hag hn hl' hll'
    obtain ⟨x, t, est, hs1⟩ := q_L1_s hs; clear hs; subst est; have hs := hs1; clear hs1
    obtain ⟨rfl, hs⟩ := q_n_s hs
    cases hs
    exact lv_l2i hx hb hdg (q_i32 _).symm (k' lc hl hll)
theorem qs_lor {Y : qY} {d MC MS : Nat} {κ : qK} {fin : State → Prop} {h : qH} {cs sl pc : Nat} {ls : List (Option qV)} {st : List qV}  {len pc' : Nat} {ls' : List (Option qV)} {st' : List qV} (hκ : qCx Y d MC MS κ) (hat : q_at Y.tb pc = some (.lor, len)) (hs : (q_L1 st (fun y t => q_L1 t (fun x t => q_n len 1 (pc + 1, ls, qL (q_lor x y) :: t)))) = some (pc', ls', st')) (k : qJ Y κ fin h cs sl pc' ls' st') : qJ Y κ fin h cs sl pc ls st := by
    obtain ⟨p, l, e, R, s, m, args, below, meth, c, D, tc, A, φ0, n0⟩ := κ
    obtain ⟨hx, hb, hml, hr, hlk, hnm, hown, hts, hK, hNW, hA, hRO, hR, hY⟩ := hκ
    have hdg := qOKd.dec hY hat
    intro H locs φ lc hP hD hS hag hn hl hll
    have k' := fun lc' hl' hll' => k H locs φ lc' hP hD hS hag hn hl' hll'
    obtain ⟨y, t, est, hs1⟩ := q_L1_s hs; clear hs; subst est; have hs := hs1; clear hs1
    obtain ⟨x, t, est, hs1⟩ := q_L1_s hs; clear hs; subst est; have hs := hs1; clear hs1
    obtain ⟨rfl, hs⟩ := q_n_s hs
    cases hs
    refine lv_lor hx hb hdg ?_
    have k2 := k' lc hl hll
    simp only [List.map_cons, qc, q_lor, q_i64] at k2
    exact k2
theorem qs_lcmp {Y : qY} {d MC MS : Nat} {κ : qK} {fin : State → Prop} {h : qH} {cs sl pc : Nat} {ls : List (Option qV)} {st : List qV}  {len pc' : Nat} {ls' : List (Option qV)} {st' : List qV} (hκ : qCx Y d MC MS κ) (hat : q_at Y.tb pc = some (.lcmp, len)) (hs : (q_L1 st (fun y t => q_L1 t (fun x t => q_n len 1 (pc + 1, ls, qI (q_lcmp x y) :: t)))) = some (pc', ls', st')) (k : qJ Y κ fin h cs sl pc' ls' st') : qJ Y κ fin h cs sl pc ls st := by
    obtain ⟨p, l, e, R, s, m, args, below, meth, c, D, tc, A, φ0, n0⟩ := κ
    obtain ⟨hx, hb, hml, hr, hlk, hnm, hown, hts, hK, hNW, hA, hRO, hR, hY⟩ := hκ
    have hdg := qOKd.dec hY hat
    intro H locs φ lc hP hD hS hag hn hl hll
    have k' := fun lc' hl' hll' => k H locs φ lc' hP hD hS hag hn hl' hll'
    obtain ⟨y, t, est, hs1⟩ := q_L1_s hs; clear hs; subst est; have hs := hs1; clear hs1
    obtain ⟨x, t, est, hs1⟩ := q_L1_s hs; clear hs; subst est; have hs := hs1; clear hs1
    obtain ⟨rfl, hs⟩ := q_n_s hs
    cases hs
    refine W.lcmp hx hb hdg ?_
    have k2 := k' lc hl hll
    simp only [List.map_cons, qc, q_lcmp, q_i32] at k2
    exact k2
theorem qs_lshl {Y : qY} {d MC MS : Nat} {κ : qK} {fin : State → Prop} {h : qH} {cs sl pc : Nat} {ls : List (Option qV)} {st : List qV}  {len pc' : Nat} {ls' : List (Option qV)} {st' : List qV} (hκ : qCx Y d MC MS κ) (hat : q_at Y.tb pc = some (.lshl, len)) (hs : (q_I1 st (fun y t => q_L1 t (fun x t => q_n len 1 (pc + 1, ls, qL (q_lshl x y) :: t)))) = some (pc', ls', st')) (k : qJ Y κ fin h cs sl pc' ls' st') : qJ Y κ fin h cs sl pc ls st := by
    obtain ⟨p, l, e, R, s, m, args, below, meth, c, D, tc, A, φ0, n0⟩ := κ
    obtain ⟨hx, hb, hml, hr, hlk, hnm, hown, hts, hK, hNW, hA, hRO, hR, hY⟩ := hκ
    have hdg := qOKd.dec hY hat
    intro H locs φ lc hP hD hS hag hn hl hll
    have k' := fun lc' hl' hll' => k H locs φ lc' hP hD hS hag hn hl' hll'
    obtain ⟨y, t, est, hs1⟩ := q_I1_s hs; clear hs; subst est; have hs := hs1; clear hs1
    obtain ⟨x, t, est, hs1⟩ := q_L1_s hs; clear hs; subst est; have hs := hs1; clear hs1
    obtain ⟨rfl, hs⟩ := q_n_s hs
    cases hs
    exact lv_lshl hx hb hdg (q_i64 _).symm (k' lc hl hll)
theorem qs_lconst {Y : qY} {d MC MS : Nat} {κ : qK} {fin : State → Prop} {h : qH} {cs sl pc : Nat} {ls : List (Option qV)} {st : List qV} {n : Fin 2} {len pc' : Nat} {ls' : List (Option qV)} {st' : List qV} (hκ : qCx Y d MC MS κ) (hat : q_at Y.tb pc = some (.lconst n, len)) (hs : (q_n len 1 (pc + 1, ls, qL (n.val : Int) :: st)) = some (pc', ls', st')) (k : qJ Y κ fin h cs sl pc' ls' st') : qJ Y κ fin h cs sl pc ls st := by
    obtain ⟨p, l, e, R, s, m, args, below, meth, c, D, tc, A, φ0, n0⟩ := κ
    obtain ⟨hx, hb, hml, hr, hlk, hnm, hown, hts, hK, hNW, hA, hRO, hR, hY⟩ := hκ
    have hdg := qOKd.dec hY hat
    intro H locs φ lc hP hD hS hag hn hl hll
    have k' := fun lc' hl' hll' => k H locs φ lc' hP hD hS hag hn hl' hll'
    obtain ⟨rfl, hs⟩ := q_n_s hs
    cases hs
    exact lv_lconst hx hb hdg (by rcases n with ⟨n, hn⟩; rcases (show n = 0 ∨ n = 1 by omega) with rfl | rfl <;> rfl) (k' lc hl hll)
theorem qs_dup {Y : qY} {d MC MS : Nat} {κ : qK} {fin : State → Prop} {h : qH} {cs sl pc : Nat} {ls : List (Option qV)} {st : List qV}  {len pc' : Nat} {ls' : List (Option qV)} {st' : List qV} (hκ : qCx Y d MC MS κ) (hat : q_at Y.tb pc = some (.dup, len)) (hs : (q_V1 st (fun v t => q_n len 1 (pc + 1, ls, v :: v :: t))) = some (pc', ls', st')) (k : qJ Y κ fin h cs sl pc' ls' st') : qJ Y κ fin h cs sl pc ls st := by
    obtain ⟨p, l, e, R, s, m, args, below, meth, c, D, tc, A, φ0, n0⟩ := κ
    obtain ⟨hx, hb, hml, hr, hlk, hnm, hown, hts, hK, hNW, hA, hRO, hR, hY⟩ := hκ
    have hdg := qOKd.dec hY hat
    intro H locs φ lc hP hD hS hag hn hl hll
    have k' := fun lc' hl' hll' => k H locs φ lc' hP hD hS hag hn hl' hll'
    obtain ⟨v, t, est, g, hs1⟩ := q_V1_s hs; clear hs; subst est; have hs := hs1; clear hs1
    obtain ⟨rfl, hs⟩ := q_n_s hs
    cases hs
    exact lv_dup hx hb hdg (q_cat g) (k' lc hl hll)
theorem qs_pop {Y : qY} {d MC MS : Nat} {κ : qK} {fin : State → Prop} {h : qH} {cs sl pc : Nat} {ls : List (Option qV)} {st : List qV}  {len pc' : Nat} {ls' : List (Option qV)} {st' : List qV} (hκ : qCx Y d MC MS κ) (hat : q_at Y.tb pc = some (.pop, len)) (hs : (q_V1 st (fun v t => q_n len 1 (pc + 1, ls, t))) = some (pc', ls', st')) (k : qJ Y κ fin h cs sl pc' ls' st') : qJ Y κ fin h cs sl pc ls st := by
    obtain ⟨p, l, e, R, s, m, args, below, meth, c, D, tc, A, φ0, n0⟩ := κ
    obtain ⟨hx, hb, hml, hr, hlk, hnm, hown, hts, hK, hNW, hA, hRO, hR, hY⟩ := hκ
    have hdg := qOKd.dec hY hat
    intro H locs φ lc hP hD hS hag hn hl hll
    have k' := fun lc' hl' hll' => k H locs φ lc' hP hD hS hag hn hl' hll'
    obtain ⟨v, t, est, g, hs1⟩ := q_V1_s hs; clear hs; subst est; have hs := hs1; clear hs1
    obtain ⟨rfl, hs⟩ := q_n_s hs
    cases hs
    exact lv_pop hx hb hdg (q_cat g) (k' lc hl hll)
theorem qs_dup_x1 {Y : qY} {d MC MS : Nat} {κ : qK} {fin : State → Prop} {h : qH} {cs sl pc : Nat} {ls : List (Option qV)} {st : List qV}  {len pc' : Nat} {ls' : List (Option qV)} {st' : List qV} (hκ : qCx Y d MC MS κ) (hat : q_at Y.tb pc = some (.dup_x1, len)) (hs : (q_V1 st (fun v t => q_V1 t (fun u t => q_n len 1 (pc + 1, ls, v :: u :: v :: t)))) = some (pc', ls', st')) (k : qJ Y κ fin h cs sl pc' ls' st') : qJ Y κ fin h cs sl pc ls st := by
    obtain ⟨p, l, e, R, s, m, args, below, meth, c, D, tc, A, φ0, n0⟩ := κ
    obtain ⟨hx, hb, hml, hr, hlk, hnm, hown, hts, hK, hNW, hA, hRO, hR, hY⟩ := hκ
    have hdg := qOKd.dec hY hat
    intro H locs φ lc hP hD hS hag hn hl hll
    have k' := fun lc' hl' hll' => k H locs φ lc' hP hD hS hag hn hl' hll'
    obtain ⟨v, t, est, g, hs1⟩ := q_V1_s hs; clear hs; subst est; have hs := hs1; clear hs1
    obtain ⟨u, t, est, g2, hs1⟩ := q_V1_s hs; clear hs; subst est; have hs := hs1; clear hs1
    obtain ⟨rfl, hs⟩ := q_n_s hs
    cases hs
    exact lv_dup_x1 hx hb hdg (q_cat g) (q_cat g2) (k' lc hl hll)
theorem qs_dup2 {Y : qY} {d MC MS : Nat} {κ : qK} {fin : State → Prop} {h : qH} {cs sl pc : Nat} {ls : List (Option qV)} {st : List qV}  {len pc' : Nat} {ls' : List (Option qV)} {st' : List qV} (hκ : qCx Y d MC MS κ) (hat : q_at Y.tb pc = some (.dup2, len)) (hs : (q_V1 st (fun v t => q_V1 t (fun u t => q_n len 1 (pc + 1, ls, v :: u :: v :: u :: t)))) = some (pc', ls', st')) (k : qJ Y κ fin h cs sl pc' ls' st') : qJ Y κ fin h cs sl pc ls st := by
    obtain ⟨p, l, e, R, s, m, args, below, meth, c, D, tc, A, φ0, n0⟩ := κ
    obtain ⟨hx, hb, hml, hr, hlk, hnm, hown, hts, hK, hNW, hA, hRO, hR, hY⟩ := hκ
    have hdg := qOKd.dec hY hat
    intro H locs φ lc hP hD hS hag hn hl hll
    have k' := fun lc' hl' hll' => k H locs φ lc' hP hD hS hag hn hl' hll'
    obtain ⟨v, t, est, g, hs1⟩ := q_V1_s hs; clear hs; subst est; have hs := hs1; clear hs1
    obtain ⟨u, t, est, g2, hs1⟩ := q_V1_s hs; clear hs; subst est; have hs := hs1; clear hs1
    obtain ⟨rfl, hs⟩ := q_n_s hs
    cases hs
    exact lv_dup2_11 hx hb hdg (q_cat g) (q_cat g2) (k' lc hl hll)
theorem qs_goto {Y : qY} {d MC MS : Nat} {κ : qK} {fin : State → Prop} {h : qH} {cs sl pc : Nat} {ls : List (Option qV)} {st : List qV} {off : Int} {len pc' : Nat} {ls' : List (Option qV)} {st' : List qV} (hκ : qCx Y d MC MS κ) (hat : q_at Y.tb pc = some (.goto off, len)) (hs : (if 0 ≤ (pc : Int) + off then q_n len 3 (((pc : Int) + off).toNat, ls, st) else none) = some (pc', ls', st')) (k : qJ Y κ fin h cs sl pc' ls' st') : qJ Y κ fin h cs sl pc ls st := by
    obtain ⟨p, l, e, R, s, m, args, below, meth, c, D, tc, A, φ0, n0⟩ := κ
    obtain ⟨hx, hb, hml, hr, hlk, hnm, hown, hts, hK, hNW, hA, hRO, hR, hY⟩ := hκ
    have hdg := qOKd.dec hY hat
    intro H locs φ lc hP hD hS hag hn hl hll
    have k' := fun lc' hl' hll' => k H locs φ lc' hP hD hS hag hn hl' hll'
    obtain ⟨g, hs⟩ := q_if_s hs
    obtain ⟨rfl, hs⟩ := q_n_s hs
    cases hs
    exact lv_goto hx hb hdg (by omega) (k' lc hl hll)
theorem qJ.ps {Y : qY} {d MC MS : Nat} {κ : qK} {fin : State → Prop} {h : qH} {cs sl pc : Nat} {ls : List (Option qV)} {st : List qV} {i : Instr} {len pc' : Nat} {ls' : List (Option qV)} {st' : List qV} (hκ : qCx Y d MC MS κ) (hat : q_at Y.tb pc = some (i, len)) (hs : q_ps i len pc ls st = some (pc', ls', st')) (k : qJ Y κ fin h cs sl pc' ls' st') : qJ Y κ fin h cs sl pc ls st := by
  cases i with
  | iconst n => exact qs_iconst hκ hat hs k
  | bipush n => exact qs_bipush hκ hat hs k
  | sipush n => exact qs_sipush hκ hat hs k
  | iload_n n => exact qs_iload_n hκ hat hs k
  | iload n => exact qs_iload hκ hat hs k
  | aload_n n => exact qs_aload_n hκ hat hs k
  | aload n => exact qs_aload hκ hat hs k
  | lload_n n => exact qs_lload_n hκ hat hs k
  | istore_n n => exact qs_istore_n hκ hat hs k
  | istore n => exact qs_istore hκ hat hs k
  | astore_n n => exact qs_astore_n hκ hat hs k
  | astore n => exact qs_astore hκ hat hs k
  | iinc i n => exact qs_iinc hκ hat hs k
  | iadd => exact qs_iadd hκ hat hs k
  | isub => exact qs_isub hκ hat hs k
  | imul => exact qs_imul hκ hat hs k
  | iand => exact qs_iand hκ hat hs k
  | ior => exact qs_ior hκ hat hs k
  | ixor => exact qs_ixor hκ hat hs k
  | ishl => exact qs_ishl hκ hat hs k
  | ishr => exact qs_ishr hκ hat hs k
  | iushr => exact qs_iushr hκ hat hs k
  | idiv => exact qs_idiv hκ hat hs k
  | irem => exact qs_irem hκ hat hs k
  | i2b => exact qs_i2b hκ hat hs k
  | i2s => exact qs_i2s hκ hat hs k
  | i2c => exact qs_i2c hκ hat hs k
  | i2l => exact qs_i2l hκ hat hs k
  | l2i => exact qs_l2i hκ hat hs k
  | lor => exact qs_lor hκ hat hs k
  | lcmp => exact qs_lcmp hκ hat hs k
  | lshl => exact qs_lshl hκ hat hs k
  | lconst n => exact qs_lconst hκ hat hs k
  | dup => exact qs_dup hκ hat hs k
  | pop => exact qs_pop hκ hat hs k
  | dup_x1 => exact qs_dup_x1 hκ hat hs k
  | dup2 => exact qs_dup2 hκ hat hs k
  | goto off => exact qs_goto hκ hat hs k
  | _ => cases hs

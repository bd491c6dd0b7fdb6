/-! THE ENGINE. An abstract machine over unbounded ints and object numbers; qJ is W read through it. -/
abbrev qV : Type := Int ⊕ (Int ⊕ Option Nat)
abbrev qI (z : Int) : qV := .inl z
abbrev qL (z : Int) : qV := .inr (.inl z)
abbrev qR (i : Nat) : qV := .inr (.inr (some i))
abbrev qN : qV := .inr (.inr none)
/-- a value, as the machine has it: φ gives an object's address -/
def qc (φ : Nat → Nat) (v : qV) : Value := match v with
  | .inl z => .int (Int32.ofInt z)
  | .inr (.inl z) => .long (Int64.ofInt z)
  | .inr (.inr (some i)) => .ref (φ i)
  | .inr (.inr none) => .null
/-- a field's shape: 0 int, 1 long, 2 boolean; a reference -/
abbrev qF : Type := Nat ⊕ Option Nat
/-- a cell's shape: an object (class, fields), an array of numbers (type, length), an array of references -/
abbrev qS : Type := (Nat × List qF) ⊕ ((Nat × Nat) ⊕ (Nat × List (Option Nat)))
abbrev qM : Type := Nat → Nat → Int
/-- the heap: shapes, ints (fields and elements), longs -/
abbrev qH : Type := List qS × qM × qM
def qcF (φ : Nat → Nat) (m y : qM) (id k : Nat) (f : qF) : Value := match f with
  | .inl 1 => .long (Int64.ofInt (y id k))
  | .inl _ => .int (Int32.ofInt (m id k))
  | .inr none => .null
  | .inr (some j) => .ref (φ j)
def qcE (φ : Nat → Nat) (tc : Nat → ClassId) (m y : qM) (id : Nat) (sh : qS) : va_E := match sh with
  | .inl (ci, fs) => .inr (ci, fs.mapIdx (fun k f => qcF φ m y id k f))
  | .inr (.inl (t, n)) => .inl (tc t, n, .inl (fun k => Int32.ofInt (m id k)))
  | .inr (.inr (t, rs)) => .inl (tc t, rs.length, .inr (.inr (.inr (.inr (fun k => (rs.getD k none).map φ)))))
def qcW (φ : Nat → Nat) (tc : Nat → ClassId) (h : qH) : va_W := h.1.mapIdx (fun id sh => (φ id, qcE φ tc h.2.1 h.2.2 id sh))
theorem qcW_at {φ : Nat → Nat} {tc : Nat → ClassId} {h : qH} {id : Nat} {sh : qS} (hs : h.1[id]? = some sh) : (qcW φ tc h)[id]? = some (φ id, qcE φ tc h.2.1 h.2.2 id sh) := by
  simp [qcW, List.getElem?_mapIdx, hs]
theorem qcW_get {φ : Nat → Nat} {tc : Nat → ClassId} {h : qH} {id : Nat} : (qcW φ tc h)[id]? = h.1[id]?.map (fun sh => (φ id, qcE φ tc h.2.1 h.2.2 id sh)) := by
  simp [qcW, List.getElem?_mapIdx]
def q_up (m : qM) (id k : Nat) (v : Int) : qM := fun i j => if i = id ∧ j = k then v else m i j
/-- a new cell's ints are 0 -/
def q_clr (m : qM) (id : Nat) : qM := fun i j => if i = id then 0 else m i j
/-- a row of an array all at once -/
def q_row (m : qM) (id : Nat) (f : Nat → Int) : qM := fun i j => if i = id then f j else m i j
theorem q_up_ne {m : qM} {id k i j : Nat} {v : Int} (h : i ≠ id) : q_up m id k v i j = m i j := by simp [q_up, h]
theorem q_up_ne2 {m : qM} {id k i j : Nat} {v : Int} (h : j ≠ k) : q_up m id k v i j = m i j := by simp [q_up, h]
theorem q_up_eq {m : qM} {id k : Nat} {v : Int} : q_up m id k v id k = v := by simp [q_up]
/-- the classes that the worlds hold -/
abbrev q_cl : List vw_C := vwCl
def qty (tc : Nat → ClassId) : List (ClassId × FieldType) := [(tc 0, .int), (tc 1, .byte), (tc 2, .boolean), (tc 3, .short), (tc 4, .object RX9)]
/-- the tables' words that stay, whatever a callee's arguments -/
def qT : List Jvm.Cond := lw_tbl.filter goodWord
theorem qT_good : ∀ w ∈ qT, w ∈ lw_tbl ∧ goodWord w = true := fun w h => List.mem_filter.mp h
theorem qT_in {w : Jvm.Cond} (h : w ∈ lw_tbl) (hg : goodWord w = true) : w ∈ qT := List.mem_filter.mpr ⟨h, hg⟩
theorem qT_t {w : Jvm.Cond} (i : Nat) (h : tables_1[i]? = some w) (hg : goodWord w = true) : w ∈ qT := qT_in (List.mem_append_right _ (List.mem_of_getElem? h)) hg
/-- a method: its class, name, code, locals, answer, parameters, instructions (pc, instruction, length), fields (entry, class, slot, kind) -/
abbrev qY : Type := String × MethodName × ByteArray × Nat × Option FieldType × Nat × List (Nat × Instr × Nat) × List (Nat × Nat × Nat × Nat)
abbrev qY.own (Y : qY) : String := Y.1
abbrev qY.nm (Y : qY) : MethodName := Y.2.1
abbrev qY.cc (Y : qY) : ByteArray := Y.2.2.1
abbrev qY.nL (Y : qY) : Nat := Y.2.2.2.1
abbrev qY.ret (Y : qY) : Option FieldType := Y.2.2.2.2.1
abbrev qY.np (Y : qY) : Nat := Y.2.2.2.2.2.1
abbrev qY.tb (Y : qY) : List (Nat × Instr × Nat) := Y.2.2.2.2.2.2.1
abbrev qY.ft (Y : qY) : List (Nat × Nat × Nat × Nat) := Y.2.2.2.2.2.2.2
def q_at (tb : List (Nat × Instr × Nat)) (pc : Nat) : Option (Instr × Nat) := match tb with
  | [] => none
  | q :: r => if q.1 = pc then some q.2 else q_at r pc
def q_fd (ft : List (Nat × Nat × Nat × Nat)) (i : Nat) : Option (Nat × Nat × Nat) := match ft with
  | [] => none
  | q :: r => if q.1 = i then some q.2 else q_fd r i
theorem q_at_mem : ∀ {tb : List (Nat × Instr × Nat)} {pc : Nat} {x : Instr × Nat}, q_at tb pc = some x → (pc, x) ∈ tb
  | q :: r, pc, x, h => by
    unfold q_at at h
    by_cases e : q.1 = pc
    · rw [if_pos e] at h
      cases h
      subst e
      exact List.mem_cons_self
    · rw [if_neg e] at h
      exact List.mem_cons_of_mem _ (q_at_mem h)
theorem q_fd_mem : ∀ {ft : List (Nat × Nat × Nat × Nat)} {i : Nat} {x : Nat × Nat × Nat}, q_fd ft i = some x → (i, x) ∈ ft
  | q :: r, i, x, h => by
    unfold q_fd at h
    by_cases e : q.1 = i
    · rw [if_pos e] at h
      cases h
      subst e
      exact List.mem_cons_self
    · rw [if_neg e] at h
      exact List.mem_cons_of_mem _ (q_fd_mem h)
def q_kty (k : Nat) : Option FieldType := match k with
  | 0 => some .int
  | 1 => some .long
  | 2 => some .boolean
  | _ => none
/-- a field entry of a class file is that field of that class; its kind and finality -/
def qFok (own : String) (q : Nat × Nat × Nat × Nat) : Prop := ∃ r : vw_C, q_cl[q.2.1]? = some r ∧ q.2.2.1 < r.2.2 ∧ (r.2.1 q.2.2.1).1 = r.1 ∧ Jvm.Cond.fieldLink own q.1 r.1 (r.2.1 q.2.2.1).2.1 (r.2.1 q.2.2.1).2.2.1 ∈ qT ∧
  ((∀ ty, q_kty q.2.2.2 = some ty → parseFieldDescriptor (r.2.1 q.2.2.1).2.2.1 = some ty ∧ (r.2.1 q.2.2.1).2.2.2 = false) ∧ (q_kty q.2.2.2 = none → (r.2.1 q.2.2.1).2.2.2 = true ∧ ((∃ c, parseFieldDescriptor (r.2.1 q.2.2.1).2.2.1 = some (.object c)) ∨ ∃ t, parseFieldDescriptor (r.2.1 q.2.2.1).2.2.1 = some (.array t))))
/-- a method's instructions and fields are as its table has them -/
abbrev qOKd (Y : qY) : Prop := (∀ q ∈ Y.tb, decode Y.cc q.1 = .ok q.2) ∧ ∀ q ∈ Y.ft, qFok Y.own q
def qOK (Y : qY) : Prop := Y.nm.cls = Y.own ∧ plainName Y.own = true ∧ (Y.own ≠ "java/lang/invoke/MethodHandle" ∧ Y.own ≠ "java/lang/invoke/VarHandle") ∧ Jvm.Cond.code Y.nm Y.cc Y.nL Y.ret ∈ qT ∧ Jvm.Cond.initialized Y.own ∈ qT ∧
  (parseMethodDescriptor Y.nm.desc).map (fun d => d.parameters.length) = some Y.np ∧ Y.nL ≤ 21 ∧ qOKd Y
/-- the nest mates' links: they stay, too -/
def q_isN (w : Jvm.Cond) : Bool := match w with
  | .methodLinkNest _ _ _ _ => true
  | _ => false
def qNWL : List Jvm.Cond := tables_1.filter q_isN
def qNW (U : State) : Prop := (∀ w ∈ qNWL, va_Nw w U) ∧ va_AO RX9 U
theorem qNW.moved {s U : State} (hW : s.WarmedH U.vm) (h : qNW s) : qNW U := by
  refine ⟨?_, h.2.moved hW.alike⟩
  intro w hw
  have h1 := (List.mem_filter.mp hw).2
  have h2 := h.1 w hw
  cases w <;> first | (cases h1; done) | exact h2.warmM hW
theorem qNW.same {s U : State} (e : s.vm = U.vm) (h : qNW s) : qNW U := by
  refine ⟨?_, h.2.moved (by rw [e]; exact Vm.Alike.refl _)⟩
  intro w hw
  have h1 := (List.mem_filter.mp hw).2
  have h2 := h.1 w hw
  cases w <;> first | (cases h1; done) | exact h2.same rfl e

/-! WORLDS AS FUNCTIONS. ix_W: ints, longs, references by (cell, place), kinds and lengths of cells, how many cells; kinds below 20 are objects of that class in ix_cl, 20 int, 21 byte, 22 boolean, 23 long arrays, 24 arrays of rules, 25 arrays of int arrays -/
abbrev ix_W : Type := (Nat → Nat → Int32) × (Nat → Nat → Int64) × (Nat → Nat → Option Nat) × (Nat → Nat × Nat) × Nat
/-- class ids and slots, array classes, where the new cells begin, what else is known of the start -/
abbrev ix_Cx : Type := va_G × (Nat → ClassId) × Nat × (State → Prop)
def ix_T (w : ix_W) (a : Nat) : Nat × Nat := w.2.2.2.1 a
def ix_N (w : ix_W) : Nat := w.2.2.2.2
def ix_up {α : Type} (f : Nat → Nat → α) (a k : Nat) (v : α) : Nat → Nat → α := fun a' k' => if a' = a ∧ k' = k then v else f a' k'
def ix_sI (w : ix_W) (a k : Nat) (v : Int32) : ix_W := (ix_up w.1 a k v, w.2)
def ix_sJ (w : ix_W) (a k : Nat) (v : Int64) : ix_W := (w.1, ix_up w.2.1 a k v, w.2.2)
def ix_sR (w : ix_W) (a k : Nat) (v : Option Nat) : ix_W := (w.1, w.2.1, ix_up w.2.2.1 a k v, w.2.2.2)
/-- a new cell -/
def ix_al (w : ix_W) (t n : Nat) : ix_W := (fun a k => if a = ix_N w then 0 else w.1 a k, fun a k => if a = ix_N w then 0 else w.2.1 a k, fun a k => if a = ix_N w then none else w.2.2.1 a k, fun a => if a = ix_N w then (t, n) else ix_T w a, ix_N w + 1)
abbrev ix_cl : List vw_C := [(RX0, TX0, 4), (RX1, TX1, 17), (RX2, TX2, 12), (RX3, TX3, 3), (RX4, TX4, 17), (RX5, TX5, 4), (RX6, TX6, 4), (RX7, TX7, 3), (RX9, TX9, 20), (RX10, TX10, 6), (RX11, TX11, 18), (RX12, TX12, 116)]
def ix_ft (d : String) : Nat := if d = "J" then 1 else if d = "I" then 0 else if d = "Z" then 0 else 2
def ix_rv (K : ix_Cx) (r : Option Nat) : Value := va_rf (r.map (fun a => K.2.2.1 + a))
def ix_fv (K : ix_Cx) (w : ix_W) (a : Nat) (d : String) (k : Nat) : Value := if ix_ft d = 0 then .int (w.1 a k) else if ix_ft d = 1 then .long (w.2.1 a k) else ix_rv K (w.2.2.1 a k)
def ix_fs (K : ix_Cx) (w : ix_W) (a ci : Nat) : List Value := match ix_cl[ci]? with
  | some r => (List.range r.2.2).map (fun k => ix_fv K w a (r.2.1 k).2.2.1 k)
  | none => []
def ix_c (K : ix_Cx) (w : ix_W) (a t : Nat) : (Nat → Int32) ⊕ (Nat → Int64) ⊕ (Nat → UInt32) ⊕ (Nat → UInt64) ⊕ (Nat → Option Nat) := if t = 23 then .inr (.inl (w.2.1 a)) else if t < 23 then .inl (w.1 a) else .inr (.inr (.inr (.inr (fun i => (w.2.2.1 a i).map (fun a => K.2.2.1 + a)))))
def ix_e (K : ix_Cx) (w : ix_W) (a : Nat) : va_E := if (ix_T w a).1 < 20 then .inr ((ix_T w a).1, ix_fs K w a (ix_T w a).1) else .inl (K.2.1 ((ix_T w a).1 - 20), ((ix_T w a).2, ix_c K w a (ix_T w a).1))
def ix_ws (K : ix_Cx) (w : ix_W) : va_W := (List.range (ix_N w)).map (fun a => (K.2.2.1 + a, ix_e K w a))
abbrev ix_tys (K : ix_Cx) : List (ClassId × FieldType) := [(K.2.1 0, .int), (K.2.1 1, .byte), (K.2.1 2, .boolean), (K.2.1 3, .long), (K.2.1 4, .object RX8), (K.2.1 5, .array .int)]
def ix_isn : Cond → Bool
  | .fieldLinkNest .. => true
  | .methodLinkNest .. => true
  | .declares _ => true
  | .castable .. => true
  | _ => false
def ix_tb : List Cond := lw_tbl.filter goodWord
def ix_nt : List Cond := lw_tbl.filter ix_isn
/-- what is known of the tables at any state of the run -/
def ix_O (K : ix_Cx) (U : State) : Prop := va_K K.1 ix_cl (ix_tys K) U ∧ (∀ w ∈ ix_nt, va_Nw w U) ∧ K.2.2.2 U
def ix_A (K : ix_Cx) : Nat → Prop := fun q => K.2.2.1 ≤ q
/-- what stays: the extra words of the start are kept -/
def ix_Kp (K : ix_Cx) : Prop := ∀ s U : State, s.WarmedH U.vm → (∀ q, q < K.2.2.1 → U.heap[q]? = s.heap[q]?) → K.2.2.2 s → K.2.2.2 U
def ix_X (p : Program) (s : State) (m : MethodId) (args : Array Value) (c : Code) (K : ix_Cx) (cc : ByteArray) (own : String) (nL : Nat) : Prop :=
  p.tables.exec = Jvm.exec ∧ c.code = cc ∧ c.maxLocals = nL ∧ s.vm.findClass own = some m.cls ∧ (∀ w ∈ ix_tb, w.before args s = true) ∧ ix_O K s ∧ K.2.2.1 ≤ s.heap.size ∧ ix_Kp K
def ix_G (p : Program) (l : Launch) (e : Env) (R : Room) (s : State) (m : MethodId) (args : Array Value) (below : List Frame) (meth : Method) (c : Code) (Q : State → Prop) (K : ix_Cx) (nL k n : Nat) (pc : Nat) (L : List (Nat × Value)) (S : List Value) (w : ix_W) : Prop :=
  ∀ (H : Heap) (locs : List Loc) (ls : Array Slot), va_P K.1 ix_cl (ix_ws K w) H → H.size = K.2.2.1 + ix_N w → va_S (ix_A K) s.heap H locs → lv_has ls nL L → W p l e R s m args below meth c H locs k n Q (F0 m pc ls S)
theorem ix_isn_on {w : Cond} (h : ix_isn w = true) : w.onTables = true := by
  cases w <;> first | rfl | (simp [ix_isn] at h)
theorem ix_nt_warm {w : Cond} (h : ix_isn w = true) {s U : State} (hW : s.WarmedH U.vm) (hZ : va_Nw w s) : va_Nw w U := by
  cases w <;> first | exact va_Nw.warmF hW hZ | exact va_Nw.warmM hW hZ | exact va_Nw.warmD hW hZ | exact va_Nw.warmC hW hZ | (simp [ix_isn] at h)
theorem ix_O_moved {K : ix_Cx} (hKp : ix_Kp K) {s U : State} (hW : s.WarmedH U.vm) (hq : ∀ q, q < K.2.2.1 → U.heap[q]? = s.heap[q]?) (h : ix_O K s) : ix_O K U :=
  ⟨va_K.moved hW.alike h.1, fun w hw => ix_nt_warm (List.mem_filter.mp hw).2 hW (h.2.1 w hw), hKp s U hW hq h.2.2⟩
theorem ix_at {K : ix_Cx} {w : ix_W} {a : Nat} (h : a < ix_N w) : (ix_ws K w)[a]? = some (K.2.2.1 + a, ix_e K w a) := by
  simp [ix_ws, h]
theorem ix_len {K : ix_Cx} {w : ix_W} : (ix_ws K w).length = ix_N w := by simp [ix_ws]
theorem ix_D {K : ix_Cx} {w : ix_W} : va_D (ix_A K) (ix_ws K w) := by
  have key : ∀ (i : Nat) (q : Nat × va_E), (ix_ws K w)[i]? = some q → q.1 = K.2.2.1 + i := by
    intro i q h
    have hi : i < ix_N w := by
      have := (List.getElem?_eq_some_iff.mp h).1
      rwa [ix_len] at this
    rw [ix_at hi] at h
    cases h
    rfl
  refine ⟨fun i j p q hi hj hpq => ?_, fun k q hk => ?_⟩
  · rw [key i p hi, key j q hj] at hpq
    omega
  · show K.2.2.1 ≤ q.1
    rw [key k q hk]
    omega
theorem ix_ei {K : ix_Cx} {w : ix_W} {a t n : Nat} (h : ix_T w a = (t, n)) (h1 : 20 ≤ t) : ix_e K w a = .inl (K.2.1 (t - 20), (n, ix_c K w a t)) := by
  simp only [ix_e, h]
  rw [if_neg (by omega)]
theorem ix_eo {K : ix_Cx} {w : ix_W} {a ci : Nat} {r : vw_C} (h : (ix_T w a).1 = ci) (h1 : ci < 20) (hr : ix_cl[ci]? = some r) : ix_e K w a = .inr (ci, (List.range r.2.2).map (fun k => ix_fv K w a (r.2.1 k).2.2.1 k)) := by
  simp only [ix_e, h]
  rw [if_pos h1, ix_fs, hr]

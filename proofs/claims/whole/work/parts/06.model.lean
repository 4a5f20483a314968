/-! THE WORDS OF THE MODELS: checks, forks, names, loops; z: what a method without new cells leaves (references, kinds, how many), d: ints and longs -/
abbrev ix_Z : Type := (Nat → Nat → Option Nat) × (Nat → Nat × Nat) × Nat
abbrev ix_D2 : Type := (Nat → Nat → Int32) × (Nat → Nat → Int64)
def ix_w (z : ix_Z) (d : ix_D2) : ix_W := (d.1, d.2, z)
def ix_di (d : ix_D2) (a k : Nat) (v : Int32) : ix_D2 := (ix_up d.1 a k v, d.2)
def ix_dj (d : ix_D2) (a k : Nat) (v : Int64) : ix_D2 := (d.1, ix_up d.2 a k v)
noncomputable def ix_ck {α : Type} (P : Prop) (k : Option α) : Option α := @ite _ P (Classical.propDecidable P) k none
noncomputable def ix_if {α : Type} (P : Prop) (a b : α) : α := @ite _ P (Classical.propDecidable P) a b
def ix_lt {α β : Type} (a : α) (k : α → β) : β := k a
def ix_fix {τ : Type} (B : τ → τ) (bot : τ) : Nat → τ
  | 0 => bot
  | f + 1 => B (ix_fix B bot f)
/-- a cell that is there and of one of these kinds -/
def ix_ok (z : ix_Z) (cs : List Nat) (a : Nat) : Prop := a < z.2.2 ∧ (z.2.1 a).1 ∈ cs
/-- an array of kind t with a place i -/
def ix_ix (z : ix_Z) (t a : Nat) (i : Int32) : Prop := a < z.2.2 ∧ (z.2.1 a).1 = t ∧ vp_in i (z.2.1 a).2
def ix_n (i : Int32) : Nat := i.toNatClampNeg
theorem ix_ck_some {α : Type} {P : Prop} {k : Option α} {r : α} (h : ix_ck P k = some r) : P ∧ k = some r := by
  unfold ix_ck at h
  split at h
  · exact ⟨by assumption, h⟩
  · cases h
theorem ix_ck_pos {α : Type} {P : Prop} {k : Option α} (h : P) : ix_ck P k = k := if_pos h
theorem ix_if_pos {α : Type} {P : Prop} {a b : α} (h : P) : ix_if P a b = a := if_pos h
theorem ix_if_neg {α : Type} {P : Prop} {a b : α} (h : ¬ P) : ix_if P a b = b := if_neg h
theorem ix_lt_ex {α β : Type} {a : α} {k : α → Option β} {r : β} (h : ix_lt a k = some r) : ∃ x, x = a ∧ k x = some r := ⟨a, rfl, h⟩
theorem ix_bd_ex {α β : Type} {a : Option α} {k : α → Option β} {r : β} (h : a.bind k = some r) : ∃ x, a = some x ∧ k x = some r := Option.bind_eq_some_iff.mp h
theorem ix_r2 {α β : Type} {a a' : α} {b b' : β} {f : α → Option Value} {g : β → ix_W} (h : some (a, b) = some (a', b')) : f a' = f a ∧ g b' = g b := by
  cases h
  exact ⟨rfl, rfl⟩
theorem ix_r1 {β : Type} {b b' : β} {g : β → ix_W} (h : some b = some b') : (none : Option Value) = none ∧ g b' = g b := by
  cases h
  exact ⟨rfl, rfl⟩
section IXM
variable {p : Program} {l : Launch} {e : Env} {R : Room} {s : State} {m : MethodId} {args : Array Value} {below : List Frame} {meth : Method} {c : Code} {Q : State → Prop} {K : ix_Cx} {nL k n : Nat} {cc : ByteArray} {own : String} {pc : Nat} {L : List (Nat × Value)} {S : List Value} {w : ix_W}
theorem ix_nmi {x v : Int32} (h : x = v) (kk : ix_G p l e R s m args below meth c Q K nL k n pc L (.int x :: S) w) : ix_G p l e R s m args below meth c Q K nL k n pc L (.int v :: S) w := h ▸ kk
theorem ix_nml {x v : Int64} (h : x = v) (kk : ix_G p l e R s m args below meth c Q K nL k n pc L (.long x :: S) w) : ix_G p l e R s m args below meth c Q K nL k n pc L (.long v :: S) w := h ▸ kk
theorem ix_sub {L1 : List (Nat × Value)} (ks : List Nat) (h : lv_pick L ks = L1) (kk : ix_G p l e R s m args below meth c Q K nL k n pc L1 S w) : ix_G p l e R s m args below meth c Q K nL k n pc L S w :=
  fun H locs ls hP hz hS hl => kk H locs ls hP hz hS (lv_sub hl ks h)
/-- by its table of instructions -/
def ix_tab (cc : ByteArray) (t : List (Nat × Instr × Nat)) : Prop := ∀ q ∈ t, decode cc q.1 = .ok (q.2.1, q.2.2)
theorem ix_tb_at {cc : ByteArray} {t : List (Nat × Instr × Nat)} (h : ix_tab cc t) (j : Nat) {pc len : Nat} {i : Instr} (hj : t[j]? = some (pc, i, len)) : decode cc pc = .ok (i, len) := h (pc, i, len) (List.mem_of_getElem? hj)
end IXM

/-! COUNTED NAMES -/
/-- a counted name -/
def bp_ (g : Nat → Int32) (m : Nat) : Bool := decide (1 ≤ m ∧ (g m).toInt ≠ 0)
theorem bp_0 {g : Nat → Int32} : bp_ g 0 = false := decide_eq_false (by omega)
theorem bp_c {g g' : Nat → Int32} {m : Nat} (h : g m = g' m) : bp_ g m = bp_ g' m := by unfold bp_; rw [h]
theorem cb_1 {g : Nat → Int32} : cb_ (bp_ g) 1 = 0 := by
  show cb_ (bp_ g) 0 + (if bp_ g 0 = true then 1 else 0) = 0
  rw [bp_0]
  rfl
/-- no more counted names than the sum says -/
theorem cb_sm {g : Nat → Int32} (h : ∀ i, (g i).toInt = 0 ∨ (g i).toInt = 1) : ∀ n, ((cb_ (bp_ g) n : Nat) : Int) ≤ sm_ (fun i => (g i).toInt) 0 n
  | 0 => by rw [sm_e (by omega)]; exact Int.le_refl _
  | n + 1 => by
    have ih := cb_sm h n
    rw [sm_s (by omega), cb_s]
    by_cases p : bp_ g n = true
    · rw [if_pos p]
      have q := (of_decide_eq_true p).2
      have := h n
      omega
    · rw [if_neg p]
      have := h n
      omega
theorem cb_mono {P : Nat → Bool} {a : Nat} : ∀ {b : Nat}, a ≤ b → cb_ P a ≤ cb_ P b
  | 0, h => by
    have : a = 0 := by omega
    rw [this]; exact Nat.le_refl _
  | b + 1, h => by
    by_cases e : a = b + 1
    · rw [e]; exact Nat.le_refl _
    · have := cb_mono (P := P) (a := a) (b := b) (by omega)
      rw [cb_s]
      omega

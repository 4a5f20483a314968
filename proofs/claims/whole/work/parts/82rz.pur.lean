/-! SETS OF ROWS: the members in their order -/
/-- a set's member -/
def hs_ (g : Nat → Int64) (m : Nat) : Bool := decide (lg_cmp (((g (m / 64)) >>> ((nI (m % 64)).toInt64 &&& 63)) &&& 1) 1 = 0)
/-- how many below -/
def cb_ (P : Nat → Bool) : Nat → Nat
  | 0 => 0
  | m + 1 => cb_ P m + (if P m = true then 1 else 0)
theorem cb_s {P : Nat → Bool} {m : Nat} : cb_ P (m + 1) = cb_ P m + (if P m = true then 1 else 0) := rfl
theorem cb_le {P : Nat → Bool} {m : Nat} : cb_ P m ≤ m := by
  induction m with
  | zero => exact Nat.le_refl _
  | succ m ih => rw [cb_s]; split <;> omega
theorem cb_c {P P' : Nat → Bool} {m : Nat} (h : ∀ i, i < m → P i = P' i) : cb_ P m = cb_ P' m := by
  induction m with
  | zero => rfl
  | succ m ih => rw [cb_s, cb_s, ih (fun i hi => h i (by omega)), h m (by omega)]
theorem cb_lt {P : Nat → Bool} {i m : Nat} (h : i < m) (hp : P i = true) : cb_ P i < cb_ P m := by
  induction m with
  | zero => omega
  | succ m ih =>
    rw [cb_s]
    by_cases e : i = m
    · subst e; rw [if_pos hp]; omega
    · have := ih (by omega); split <;> omega
theorem hs_c {g g' : Nat → Int64} {m : Nat} (h : ∀ w, w < 8 → g w = g' w) (hm : m < 512) : hs_ g m = hs_ g' m := by unfold hs_; rw [h (m / 64) (by omega)]

/-! MARKS OF A ROW'S NAMES -/
def mx_ (it : Nat → Int32) (f : Nat → Int32) : Nat → Nat → Int32
  | 0 => f
  | j + 1 => fun k => if k = ix_n (ix_abs (it j)) then 1 else mx_ it f j k
theorem mx_s {it f : Nat → Int32} {j k : Nat} : mx_ it f (j + 1) k = if k = ix_n (ix_abs (it j)) then 1 else mx_ it f j k := rfl
theorem mx_y {it f : Nat → Int32} {k : Nat} : ∀ {j : Nat}, (∃ i, i < j ∧ k = ix_n (ix_abs (it i))) → mx_ it f j k = 1
  | 0, h => by obtain ⟨i, h1, _⟩ := h; omega
  | j + 1, h => by
    rw [mx_s]
    by_cases e : k = ix_n (ix_abs (it j))
    · rw [if_pos e]
    · rw [if_neg e]
      obtain ⟨i, h1, h2⟩ := h
      refine mx_y ⟨i, ?_, h2⟩
      by_cases e2 : i = j
      · subst e2; exact absurd h2 e
      · omega
theorem mx_n {it f : Nat → Int32} {k : Nat} : ∀ {j : Nat}, (∀ i, i < j → k ≠ ix_n (ix_abs (it i))) → mx_ it f j k = f k
  | 0, _ => rfl
  | j + 1, h => by
    rw [mx_s, if_neg (h j (by omega))]
    exact mx_n (fun i hi => h i (by omega))
/-- rows of the reference under other cells -/
theorem vr_c {f g : Nat → Nat → Int32} {q row : Nat} (h : ∀ a i, (a = 143 ∨ a = 144 ∨ a = 147 ∨ a = 148 ∨ a = 176 ∨ a = 177 ∨ (a = 125 ∧ i = 66)) → g a i = f a i) : (vr_ f q row → vr_ g q row) ∧ rz_ g q row = rz_ f q row ∧ ∀ j, ri_ g q row j = ri_ f q row j := by
  have e143 : g 143 = f 143 := funext fun i => h _ _ (by omega)
  have e144 : g 144 = f 144 := funext fun i => h _ _ (by omega)
  have e147 : g 147 = f 147 := funext fun i => h _ _ (by omega)
  have e148 : g 148 = f 148 := funext fun i => h _ _ (by omega)
  have e176 : g 176 = f 176 := funext fun i => h _ _ (by omega)
  have e177 : g 177 = f 177 := funext fun i => h _ _ (by omega)
  have e66 : g 125 66 = f 125 66 := h _ _ (by omega)
  refine ⟨fun q => ?_, ?_, fun j => ?_⟩
  · unfold vr_ at q ⊢; rw [e143, e147, e176, e66]; exact q
  · unfold rz_; rw [e143, e147, e176, e66]
  · unfold ri_; rw [e143, e144, e148, e176, e177, e66]

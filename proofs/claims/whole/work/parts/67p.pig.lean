/-! small things: pigeons, swapping two runs, frames -/
theorem pg_ : ∀ (N T : Nat) (f : Nat → Nat), (∀ i, i < T → 1 ≤ f i ∧ f i ≤ N) → (∀ i j, i < j → j < T → f i ≠ f j) → T ≤ N
  | 0, T, f, h, _ => by
    cases T with
    | zero => exact Nat.le_refl 0
    | succ T => have := h 0 (by omega); omega
  | N + 1, T, f, h, hi => by
    by_cases c : ∃ i, i < T ∧ f i = N + 1
    · obtain ⟨i0, h0, e0⟩ := c
      have q := pg_ N (T - 1) (fun i => if i < i0 then f i else f (i + 1)) (fun i hi' => by
        show 1 ≤ (if i < i0 then f i else f (i + 1)) ∧ (if i < i0 then f i else f (i + 1)) ≤ N
        by_cases c1 : i < i0
        · rw [if_pos c1]
          have a := h i (by omega)
          have b := hi i i0 c1 h0
          omega
        · rw [if_neg c1]
          have a := h (i + 1) (by omega)
          have b := hi i0 (i + 1) (by omega) (by omega)
          omega) (fun i j h1 h2 => by
        show (if i < i0 then f i else f (i + 1)) ≠ (if j < i0 then f j else f (j + 1))
        by_cases c1 : i < i0
        · rw [if_pos c1]
          by_cases c2 : j < i0
          · rw [if_pos c2]; exact hi i j h1 (by omega)
          · rw [if_neg c2]; exact hi i (j + 1) (by omega) (by omega)
        · rw [if_neg c1, if_neg (by omega)]
          exact hi (i + 1) (j + 1) (by omega) (by omega))
      omega
    · have q := pg_ N T f (fun i hi' => by
        have a := h i hi'
        have b : f i ≠ N + 1 := fun e => c ⟨i, hi', e⟩
        omega) hi
      omega
theorem wp_sw {α β : Type} {a : Option α} {b : Option β} {Q : α → β → Prop} (h : wp_t b (fun y => wp_t a (fun x => Q x y))) : wp_t a (fun x => wp_t b (fun y => Q x y)) := by
  obtain ⟨y, hb, x, ha, q⟩ := h
  exact ⟨x, ha, y, hb, q⟩
theorem fx_s {A R : Type} {B : (A → R) → A → R} {bot : A → R} {n : Nat} : ix_fix B bot (n + 1) = B (ix_fix B bot n) := rfl
theorem na_b {v : Int32} (h0 : v.toInt ≠ 0) (h1 : -300 ≤ v.toInt) (h2 : v.toInt ≤ 300) : 1 ≤ ix_n (ix_abs v) ∧ ix_n (ix_abs v) ≤ 300 ∧ (ix_abs v).toInt = (ix_n (ix_abs v) : Int) ∧ ((v.toInt = (ix_n (ix_abs v) : Int)) ∨ (v.toInt = -(ix_n (ix_abs v) : Int))) := by
  have na := ab_n (v := v) (by omega)
  have ea := ab_ti (v := v) (by omega)
  by_cases c : 0 ≤ v.toInt
  · rw [if_pos c] at na ea; omega
  · rw [if_neg c] at na ea; omega
theorem na_n {v : Int32} (h1 : -300 ≤ v.toInt) (h2 : v.toInt ≤ 300) : ix_n (ix_abs (-v)) = ix_n (ix_abs v) := by
  have e : (-v).toInt = -v.toInt := ta_neg (by omega)
  have na := ab_n (v := v) (by omega)
  have nb := ab_n (v := -v) (by omega)
  rw [e] at nb
  split at na <;> split at nb <;> omega
/-- two items of one name: alike or opposite -/
theorem na_2 {u v : Int32} (u0 : u.toInt ≠ 0) (u1 : -300 ≤ u.toInt) (u2 : u.toInt ≤ 300) (v1 : -300 ≤ v.toInt) (v2 : v.toInt ≤ 300) (e : ix_n (ix_abs u) = ix_n (ix_abs v)) : u = v ∨ u = -v := by
  have na := ab_n (v := u) (by omega)
  have nb := ab_n (v := v) (by omega)
  have ev : (-v).toInt = -v.toInt := ta_neg (by omega)
  rw [e] at na
  by_cases c : u.toInt = v.toInt
  · exact Or.inl (Int32.toInt_inj.mp c)
  · refine Or.inr (Int32.toInt_inj.mp ?_)
    rw [ev]
    split at na <;> split at nb <;> omega

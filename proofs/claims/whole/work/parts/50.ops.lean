/-! PAPER -/
def iv_pap (f : Nat → Nat → Int32) : Prop := ∀ r, r < 40 → ((f 128 r).toInt = -1005 ∧ (f 42 r).toInt = -1) ∨ (0 ≤ (f 128 r).toInt ∧ (f 128 r).toInt ≤ 12 ∧ (f 42 r).toInt = (f 128 r).toInt ∧ ∀ i : Nat, (i : Int) < (f 128 r).toInt → f (2 + r) i = f 129 (12 * r + i))
def iv_st (f : Nat → Nat → Int32) : Prop := f 0 17 = f 125 0
def iv_nm (f : Nat → Nat → Int32) : Prop := f 51 5 = f 125 1 ∧ 0 ≤ (f 125 1).toInt ∧ (f 125 1).toInt ≤ 300
def iv_go (f : Nat → Nat → Int32) : Prop := f 0 14 = f 125 57 ∧ (f 0 14 = 0 ∨ f 0 14 = 1)
def mo_st (a k : Nat) : Prop := (a = 0 ∧ k = 17) ∨ (a = 125 ∧ k = 0)
def mo_nm (a k : Nat) : Prop := (a = 51 ∧ k = 5) ∨ (a = 125 ∧ k = 1) ∨ (a = 0 ∧ k = 14) ∨ (a = 125 ∧ k = 57) ∨ mo_st a k
def mo_pap (a k : Nat) : Prop := (2 ≤ a ∧ a ≤ 42) ∨ a = 128 ∨ a = 129 ∨ a = 149 ∨ mo_st a k
def mo_tp (a k : Nat) : Prop := a = 44 ∨ a = 130 ∨ (a = 43 ∧ k = 1) ∨ (a = 125 ∧ k = 8) ∨ mo_st a k
def mo_wt (a k : Nat) : Prop := a = 55 ∨ a = 126 ∨ (a = 0 ∧ k = 14) ∨ (a = 125 ∧ k = 57) ∨ mo_st a k
section PAP
variable {d : ix_D2} {x y v : Int32}
theorem pap_at (h : iv_pap d.1) (h0 : 0 ≤ x.toInt) (h1 : x.toInt < 40) : ix_n x < 40 ∧ (((d.1 128 (ix_n x)).toInt = -1005 ∧ (d.1 42 (ix_n x)).toInt = -1) ∨ (0 ≤ (d.1 128 (ix_n x)).toInt ∧ (d.1 128 (ix_n x)).toInt ≤ 12 ∧ (d.1 42 (ix_n x)).toInt = (d.1 128 (ix_n x)).toInt)) := by
  have hr : ix_n x < 40 := by have := ni_c h0; omega
  refine ⟨hr, ?_⟩
  rcases h (ix_n x) hr with q | q
  · exact Or.inl q
  · exact Or.inr ⟨q.1, q.2.1, q.2.2.1⟩
theorem pa_12 (h1 : 0 ≤ x.toInt) (h2 : x.toInt < 40) (h3 : 0 ≤ y.toInt) (h4 : y.toInt ≤ 12) : ix_n (12 * x + y) = 12 * ix_n x + ix_n y := by
  have e : (12 * x + y).toInt = 12 * x.toInt + y.toInt := by (focus (first | omega | (simp (disch := (first | omega | (simp (disch := first | omega | (simp only [Int32.reduceToInt]; omega)) only [Int32.reduceToInt, ta_add, ta_sub, ta_mul, ta_neg]; omega))) only [up_1, Nat.reduceEqDiff, false_and, and_false, true_and, and_true, or_true, true_or, or_false, false_or, not_true_eq_false, not_false_eq_true, ↓reduceIte, eq_self, ne_eq, ti_eq, ti_le, ti_lt, ti_ite, Int32.reduceToInt, ta_add, ta_sub, ta_mul, ta_neg]; done) | (simp (disch := (first | omega | (simp (disch := first | omega | (simp only [Int32.reduceToInt]; omega)) only [Int32.reduceToInt, ta_add, ta_sub, ta_mul, ta_neg]; omega))) only [up_1, Nat.reduceEqDiff, false_and, and_false, true_and, and_true, or_true, true_or, or_false, false_or, not_true_eq_false, not_false_eq_true, ↓reduceIte, eq_self, ne_eq, ti_eq, ti_le, ti_lt, ti_ite, Int32.reduceToInt, ta_add, ta_sub, ta_mul, ta_neg]; omega)))
  rw [ni_def, ni_def, ni_def, e]
  omega
theorem pap_get (h : iv_pap d.1) (h0 : 0 ≤ x.toInt) (h1 : x.toInt < 40) (h2 : 0 ≤ y.toInt) (h3 : y.toInt < (d.1 128 (ix_n x)).toInt) : d.1 (2 + ix_n x) (ix_n y) = d.1 129 (ix_n (12 * x + y)) := by
  have q := pap_at h h0 h1
  rcases h (ix_n x) q.1 with q | q
  · omega
  · rw [pa_12 h0 h1 h2 (by omega)]
    exact q.2.2.2 _ (by rw [ni_c h2]; exact h3)
/-- another size at R; its items as told -/
theorem pap_set {f f' : Nat → Nat → Int32} (h : iv_pap f) {R : Nat} (e1 : ∀ r, r < 40 → r ≠ R → f' 128 r = f 128 r ∧ f' 42 r = f 42 r ∧ ∀ i, i < 12 → f' (2 + r) i = f (2 + r) i ∧ f' 129 (12 * r + i) = f 129 (12 * r + i)) (e2 : ((f' 128 R).toInt = -1005 ∧ (f' 42 R).toInt = -1) ∨ (0 ≤ (f' 128 R).toInt ∧ (f' 128 R).toInt ≤ 12 ∧ (f' 42 R).toInt = (f' 128 R).toInt ∧ ∀ i : Nat, (i : Int) < (f' 128 R).toInt → f' (2 + R) i = f' 129 (12 * R + i))) : iv_pap f' := by
  intro r hr
  by_cases e : r = R
  · rw [e]; exact e2
  · obtain ⟨a1, a2, a3⟩ := e1 r hr e
    rw [a1, a2]
    rcases h r hr with q | q
    · exact Or.inl q
    · refine Or.inr ⟨q.1, q.2.1, q.2.2.1, fun i hi => ?_⟩
      rw [(a3 i (by omega)).1, (a3 i (by omega)).2]
      exact q.2.2.2 i hi
theorem pap_u {a k : Nat} (h : iv_pap d.1) (h1 : a < 2 ∨ 42 < a) (h2 : a ≠ 128) (h3 : a ≠ 129) : iv_pap (ix_di d a k v).1 := by
  have e : ∀ b, (b = 128 ∨ b = 129 ∨ (2 ≤ b ∧ b ≤ 42)) → (ix_di d a k v).1 b = d.1 b := fun b hb => up_a (by omega)
  intro r hr
  rw [e 128 (by omega), e 42 (by omega), e 129 (by omega), e (2 + r) (by omega)]
  exact h r hr
theorem pap_drop (h : iv_pap d.1) {R : Nat} (hR : R < 40) : iv_pap (ix_di (ix_di d 42 R (-1)) 128 R (-1005)).1 := by
  refine pap_set h (R := R) (fun r hr e => ⟨?_, ?_, fun i hi => ⟨?_, ?_⟩⟩) (Or.inl ⟨?_, ?_⟩) <;> simp only [up_1] <;> repeat (first | rw [if_neg (by omega)] | rw [if_pos (by omega)])
  · decide
  · decide
theorem pap_cut (h : iv_pap d.1) {R : Nat} (hR : R < 40) (hy : 0 ≤ y.toInt) (hy2 : y.toInt ≤ (d.1 128 R).toInt) : iv_pap (ix_di (ix_di d 42 R y) 128 R y).1 := by
  rcases h R hR with q | q
  · omega
  refine pap_set h (R := R) (fun r hr e => ⟨?_, ?_, fun i hi => ⟨?_, ?_⟩⟩) (Or.inr ⟨?_, ?_, ?_, fun i hi => ?_⟩) <;> simp only [up_1] at * <;> repeat (first | rw [if_neg (by omega)] | rw [if_pos (by omega)])
  · exact hy
  · omega
  · rw [if_pos (by omega)] at hi
    exact q.2.2.2 i (by omega)
theorem pap_put (h : iv_pap d.1) {R I : Nat} (hR : R < 40) (hI : (I : Int) < (d.1 128 R).toInt) : iv_pap (ix_di (ix_di d (2 + R) I v) 129 (12 * R + I) v).1 := by
  rcases h R hR with q | q
  · omega
  refine pap_set h (R := R) (fun r hr e => ⟨?_, ?_, fun i hi => ⟨?_, ?_⟩⟩) (Or.inr ⟨?_, ?_, ?_, fun i hi => ?_⟩) <;> simp only [up_1] at *
  case refine_8 =>
    rw [if_neg (by omega), if_neg (by omega)] at hi
    by_cases e : i = I
    · rw [if_neg (by omega), if_pos (by omega), if_pos (by omega)]
    · rw [if_neg (by omega), if_neg (by omega), if_neg (by omega), if_neg (by omega)]
      exact q.2.2.2 i hi
  all_goals repeat (first | rw [if_neg (by omega)] | rw [if_pos (by omega)])
  · exact q.1
  · exact q.2.1
  · exact q.2.2.1
theorem pap_row (h : iv_pap d.1) {R : Nat} (hR : R < 40) (hy : 0 ≤ y.toInt) (hy2 : y.toInt ≤ 12) : iv_pap (ix_di (pv_rng (ix_di (pv_rng d (2 + R) 0 12 0) 42 R y) 129 (12 * R) (12 * R + ix_n y) 0) 128 R y).1 := by
  have hyn := ni_c hy
  refine pap_set h (R := R) (fun r hr e => ⟨?_, ?_, fun i hi => ⟨?_, ?_⟩⟩) (Or.inr ⟨?_, ?_, ?_, fun i hi => ?_⟩) <;> simp only [up_1, rng_1] at *
  case refine_8 =>
    rw [if_pos (by omega)] at hi
    rw [if_neg (by omega), if_neg (by omega), if_neg (by omega), if_pos (by omega), if_neg (by omega), if_pos (by omega)]
  all_goals repeat (first | rw [if_neg (by omega)] | rw [if_pos (by omega)])
  · exact hy
  · exact hy2
theorem pap_copy (h : iv_pap d.1) {F T I J N : Nat} (hF : F < 40) (hT : T < 40) (h1 : 0 ≤ (d.1 128 F).toInt) (h2 : 0 ≤ (d.1 128 T).toInt) (h3 : (I : Int) + N ≤ (d.1 128 F).toInt) (h4 : (J : Int) + N ≤ (d.1 128 T).toInt) : iv_pap (ix_cpI (ix_cpI (ix_cpI d (2 + F) (2 + T) I J N) 129 149 (12 * F + I) 0 N) 149 129 0 (12 * T + J) N).1 := by
  rcases h F hF with qF | qF
  · omega
  rcases h T hT with qT | qT
  · omega
  refine pap_set h (R := T) (fun r hr e => ⟨?_, ?_, fun i hi => ⟨?_, ?_⟩⟩) (Or.inr ⟨?_, ?_, ?_, fun i hi => ?_⟩)
  case refine_8 =>
    rw [cpv_o (by omega), cpv_o (by omega), cpv_o (by omega)] at hi
    by_cases hc : J ≤ i ∧ i < J + N
    · have e := qF.2.2.2 (I + (i - J)) (by omega)
      rw [cpv_o (by omega), cpv_o (by omega), cpv_i (by omega) (by omega), cpv_i (by omega) (by omega), cpv_i (by omega) (by omega), cpv_o (by omega), e]
      exact congrArg _ (by omega)
    · have e := qT.2.2.2 i (by omega)
      rw [cpv_o (by omega), cpv_o (by omega), cpv_o (by omega), cpv_o (by omega), cpv_o (by omega), cpv_o (by omega), e]
  all_goals (rw [cpv_o (by omega), cpv_o (by omega), cpv_o (by omega)])
  case refine_5 => exact qT.1
  case refine_6 => exact qT.2.1
  case refine_7 =>
    rw [cpv_o (by omega), cpv_o (by omega), cpv_o (by omega)]
    exact qT.2.2.1
end PAP

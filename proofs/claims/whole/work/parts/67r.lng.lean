/-! longs -/
theorem tj_add {x y : Int64} (h1 : -9223372036854775808 ≤ x.toInt + y.toInt) (h2 : x.toInt + y.toInt < 9223372036854775808) : (x + y).toInt = x.toInt + y.toInt := by
  rw [Int64.toInt_add]
  exact Int.bmod_eq_of_le (by omega) (by omega)
theorem tj_div {x y : Int64} (h1 : 0 ≤ x.toInt) (h2 : 0 < y.toInt) : (x / y).toInt = x.toInt / y.toInt := by
  have hx := Int64.toInt_lt x
  rw [Int64.toInt_div, Int.tdiv_eq_ediv_of_nonneg h1]
  have h3 : 0 ≤ x.toInt / y.toInt := Int.ediv_nonneg h1 (by omega)
  have h4 : x.toInt / y.toInt ≤ x.toInt := Int.ediv_le_self _ h1
  exact Int.bmod_eq_of_le (by omega) (by omega)
theorem cm_ge {x y : Int64} : (0 ≤ lg_cmp x y) = ¬ (x.toInt < y.toInt) := by
  rw [← cm_lt, Int32.not_lt]
theorem ml_e {x : Int64} : ix_maxl x 1 = if x.toInt < 1 then 1 else x := by
  unfold ix_maxl
  have e1 : (1 : Int64).toInt = 1 := rfl
  by_cases c : (1 : Int64) < x
  · have : (1 : Int64).toInt < x.toInt := Int64.lt_iff_toInt_lt.mp c
    rw [if_pos c, if_neg (by omega)]
  · have c' : ¬ (1 : Int64).toInt < x.toInt := fun q => c (Int64.lt_iff_toInt_lt.mpr q)
    rw [if_neg c]
    by_cases c2 : x.toInt < 1
    · rw [if_pos c2]
    · rw [if_neg c2]
      exact Int64.toInt_inj.mp (by omega)
theorem td_1 {x : Int32} (h : -2147483648 < x.toInt) : (x + -1).toInt = x.toInt - 1 := by
  have e : (-1 : Int32).toInt = -1 := rfl
  have b := ti_b x
  rw [ti_add, e]
  omega
theorem td_s {x : Int32} (h : -2147483648 < x.toInt) : (x - 1).toInt = x.toInt - 1 := by
  have e : (1 : Int32).toInt = 1 := rfl
  have b := ti_b x
  rw [ti_sub, e]
  omega
theorem td_p {x : Int32} (h : x.toInt < 2147483647) : (x + 1).toInt = x.toInt + 1 := by
  have e : (1 : Int32).toInt = 1 := rfl
  have b := ti_b x
  rw [ti_add, e]
  omega
/-- omega must not see x + -1: a name for it -/
theorem td_x {x : Int32} {i : Int} (h : x.toInt = i) (hb : -2147483648 < i) : ∃ X : Int32, x + -1 = X ∧ X.toInt = i - 1 := ⟨_, rfl, by rw [td_1 (by rw [h]; exact hb), h]⟩
/-! places, piece by piece -/
theorem la_ {x y : Int32} {a b : Int} (hx : x.toInt = a) (hy : y.toInt = b) (h1 : -2147483648 ≤ a + b) (h2 : a + b < 2147483648) : (x + y).toInt = a + b := by rw [ta_add (by rw [hx, hy]; exact h1) (by rw [hx, hy]; exact h2), hx, hy]
theorem ls_ {x y : Int32} {a b : Int} (hx : x.toInt = a) (hy : y.toInt = b) (h1 : -2147483648 ≤ a - b) (h2 : a - b < 2147483648) : (x - y).toInt = a - b := by rw [ta_sub (by rw [hx, hy]; exact h1) (by rw [hx, hy]; exact h2), hx, hy]
theorem lm_ {x y : Int32} {a b : Int} (hx : x.toInt = a) (hy : y.toInt = b) (h1 : -2147483648 ≤ a * b) (h2 : a * b < 2147483648) : (x * y).toInt = a * b := by rw [ta_mul (by rw [hx, hy]; exact h1) (by rw [hx, hy]; exact h2), hx, hy]

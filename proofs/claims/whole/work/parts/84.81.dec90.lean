/-! decide, class (90) and reference (1) -/
section DEC
variable {n : Nat} {z : ix_Z} {c r r1 : ix_D2} {rn : Nat → Nat} {v x y y' w m9 : Int32}
theorem e_decide90 (hz : ly_z z) (hn : 20000 ≤ n) (h : R_90 c r rn) (v0 : v.toInt ≠ 0) (v1 : -300 ≤ v.toInt) (v2 : v.toInt ≤ 300) (hvN : (ix_n (ix_abs v) : Int) ≤ (c.1 91 14).toInt) (hpv : vl_ c.1 101 v = 0) (hnq : ∀ i : Nat, (i : Int) < (c.1 92 2).toInt → (c.1 98 i).toInt ≠ 0) (hm9 : m9 = ix_max (c.1 115 9) (c.1 91 13 + 1)) (hr1 : r1 = ix_di (ix_di (ix_di (ix_di (ix_di r 125 89 (r.1 125 89 - 1)) 187 (10 * 1 + 1) (r.1 187 (10 * 1 + 1) + 1)) 187 (10 * 1 + 3) (r.1 187 (10 * 1 + 3) + 1)) 175 1 (r.1 175 1 + 1)) 187 (10 * 1 + 9) m9) : wp_t (f_X9_decide n z 90 v c) (fun u => u.1 = 2 ∧ u.2.1 115 1 = c.1 115 1 + 1 ∧ fc_90 c u.2 ∧ wp_t (f_X12_become n z 125 1 v (-7) r1) (fun r2 => R_90 u.2 r2 rn ∧ fq_q1 r r2 ∧ r2.1 125 89 = r.1 125 89 - 1)) := by
  obtain ⟨hb, hrr, htk, hrt, ⟨hla, hll, hql⟩, hrs, hwg, hnb, hty, haq, hcq⟩ := h
  have hT := hb.1.2.1
  have hT0 := hb.1.1
  obtain ⟨hne, hroom⟩ := tk_room90 htk v0 v1 v2 hpv
  obtain ⟨A, hA⟩ : ∃ A, A = ix_n (ix_abs v) := ⟨_, rfl⟩
  obtain ⟨a1, a2, a3, a4⟩ := na_b v0 v1 v2
  have hla0 := hla.1
  have eL : (c.1 91 13 + 1).toInt = (c.1 91 13).toInt + 1 := by (focus (first | omega | (simp only [Int32.reduceToInt]; omega) | (simp (disch := (first | omega | (simp (disch := first | omega | (simp only [Int32.reduceToInt]; omega)) only [Int32.reduceToInt, ta_add, ta_sub, ta_mul, ta_neg, ta_div]; omega))) only [Int32.reduceMul, up_1, cp_1, rng_1, fn_1, dj_1, Nat.reduceEqDiff, false_and, and_false, true_and, and_true, or_true, true_or, or_false, false_or, not_true_eq_false, not_false_eq_true, ↓reduceIte, eq_self, ne_eq, ti_eq, ti_le, ti_lt, ti_ite, Int32.reduceToInt, ta_add, ta_sub, ta_mul, ta_neg, ta_div]; done) | (simp (disch := (first | omega | (simp (disch := first | omega | (simp only [Int32.reduceToInt]; omega)) only [Int32.reduceToInt, ta_add, ta_sub, ta_mul, ta_neg, ta_div]; omega))) only [Int32.reduceMul, up_1, cp_1, rng_1, fn_1, dj_1, Nat.reduceEqDiff, false_and, and_false, true_and, and_true, or_true, true_or, or_false, false_or, not_true_eq_false, not_false_eq_true, ↓reduceIte, eq_self, ne_eq, ti_eq, ti_le, ti_lt, ti_ite, Int32.reduceToInt, ta_add, ta_sub, ta_mul, ta_neg, ta_div]; omega)))
  obtain ⟨c1, hc1⟩ : ∃ c1, c1 = ix_di (ix_di c 91 13 (c.1 91 13 + 1)) 115 9 m9 := ⟨_, rfl⟩
  have p : ∀ a i, (a ≠ 91 ∨ i ≠ 13) → (a ≠ 115 ∨ i ≠ 9) → c1.1 a i = c.1 a i := fun a i g1 g2 => by rw [hc1]; simp only [up_1]; rw [if_neg (by omega), if_neg (by omega)]
  have p2 : c1.2 = c.2 := by rw [hc1]; rfl
  have p13 : c1.1 91 13 = c.1 91 13 + 1 := by rw [hc1]; simp only [up_1, Nat.reduceEqDiff, false_and, and_false, true_and, and_true, or_true, true_or, or_false, false_or, not_true_eq_false, not_false_eq_true, ↓reduceIte, eq_self, ne_eq]
  have p9 : c1.1 115 9 = m9 := by rw [hc1]; simp only [up_1, Nat.reduceEqDiff, false_and, and_false, true_and, and_true, or_true, true_or, or_false, false_or, not_true_eq_false, not_false_eq_true, ↓reduceIte, eq_self, ne_eq]
  have rp : ∀ a i, (a ≠ 125 ∨ i ≠ 89) → (a ≠ 187 ∨ (i ≠ 10 * 1 + 1 ∧ i ≠ 10 * 1 + 3 ∧ i ≠ 10 * 1 + 9)) → (a ≠ 175 ∨ i ≠ 1) → r1.1 a i = r.1 a i := fun a i g1 g2 g3 => by rw [hr1]; simp only [up_1]; rw [if_neg (by omega), if_neg (by omega), if_neg (by omega), if_neg (by omega), if_neg (by omega)]
  have rp2 : r1.2 = r.2 := by rw [hr1]; rfl
  have r187 : ∀ i, r1.1 187 (10 * 1 + i) = if i = 9 then m9 else if i = 1 ∨ i = 3 then r.1 187 (10 * 1 + i) + 1 else r.1 187 (10 * 1 + i) := fun i => by
    rw [hr1]
    by_cases e9 : i = 9
    · rw [up_1, if_pos ⟨rfl, by rw [e9]⟩, if_pos e9]
    · rw [up_1, if_neg (fun q => e9 (by omega)), up_1, if_neg (fun q => absurd q.1 (by decide)), if_neg e9]
      by_cases e3 : i = 3
      · rw [up_1, if_pos ⟨rfl, by rw [e3]⟩, if_pos (Or.inr e3), e3]
      · rw [up_1, if_neg (fun q => e3 (by omega))]
        by_cases e1 : i = 1
        · rw [up_1, if_pos ⟨rfl, by rw [e1]⟩, if_pos (Or.inl e1), e1]
        · rw [up_1, if_neg (fun q => e1 (by omega)), up_1, if_neg (fun q => absurd q.1 (by decide)), if_neg (by omega)]
  have r89 : r1.1 125 89 = r.1 125 89 - 1 := by rw [hr1]; simp only [up_1, Nat.reduceEqDiff, false_and, and_false, true_and, and_true, or_true, true_or, or_false, false_or, not_true_eq_false, not_false_eq_true, ↓reduceIte, eq_self, ne_eq]
  have r175 : r1.1 175 1 = c1.1 91 13 := by
    have : r1.1 175 1 = r.1 175 1 + 1 := by rw [hr1]; simp only [up_1, Nat.reduceEqDiff, false_and, and_false, true_and, and_true, or_true, true_or, or_false, false_or, not_true_eq_false, not_false_eq_true, ↓reduceIte, eq_self, ne_eq]
    rw [this, p13, hrt.2.1]
  have hb1 : bi_90 c1 := bi_c90 hb (fun a i g => p a i (by omega) (by omega)) (fun _ => by rw [p2]) (fun _ => by rw [p2])
  have hrr1 : rr_90 c1 r1 rn := rr_c90 (rr_f90 hrr (fun a i hs => rp a i (by unfold su_rr at hs; omega) (by unfold su_rr at hs; omega) (by unfold su_rr at hs; omega))) (fun a i g => p a i (by omega) (by omega))
  have f2 : c1.1 92 = c.1 92 := funext fun i => p _ _ (by omega) (by omega)
  have f3 : c1.1 93 = c.1 93 := funext fun i => p _ _ (by omega) (by omega)
  have f4 : c1.1 94 = c.1 94 := funext fun i => p _ _ (by omega) (by omega)
  have f8 : c1.1 98 = c.1 98 := funext fun i => p _ _ (by omega) (by omega)
  have f11 : c1.1 101 = c.1 101 := funext fun i => p _ _ (by omega) (by omega)
  have f12 : c1.1 102 = c.1 102 := funext fun i => p _ _ (by omega) (by omega)
  have f13 : c1.1 103 = c.1 103 := funext fun i => p _ _ (by omega) (by omega)
  have f14 : c1.1 104 = c.1 104 := funext fun i => p _ _ (by omega) (by omega)
  have f15 : c1.1 105 = c.1 105 := funext fun i => p _ _ (by omega) (by omega)
  have p12 : c1.1 91 12 = c.1 91 12 := p _ _ (by omega) (by omega)
  have htk1 : tk_90 c1 := by unfold tk_90 vl_; rw [f11, f15, p12]; exact htk
  have hrt1 : rt_90 c1 r1 rn := by
    have e168 : r1.1 168 = r.1 168 := funext fun i => rp _ _ (by omega) (by omega) (by omega)
    have e169 : r1.1 169 = r.1 169 := funext fun i => rp _ _ (by omega) (by omega) (by omega)
    have e170 : r1.1 170 = r.1 170 := funext fun i => rp _ _ (by omega) (by omega) (by omega)
    have e173 : r1.1 173 = r.1 173 := funext fun i => rp _ _ (by omega) (by omega) (by omega)
    have e174 : r1.1 174 = r.1 174 := funext fun i => rp _ _ (by omega) (by omega) (by omega)
    unfold rt_90
    rw [e168, e169, e170, e173, e174, f2, f12, f13, f14, f15, p12]
    exact ⟨hrt.1, r175, hrt.2.2⟩
  have hle : ∀ i, le_90 c1 i = le_90 c i := fun i => by unfold le_90; rw [f13, f15]
  have hla1 : la_90 c1 := by
    obtain ⟨l1, l2, l3, l4, l5, l6⟩ := hla
    refine ⟨by rw [p13, eL]; omega, fun i hi => ?_, fun i j hij hj => ?_, fun i hi hn' => ?_, fun i k hi hk1 hk2 => ?_, fun m m1 m2 hm => ?_⟩
    · rw [p12] at hi
      rw [hle, p13, eL]
      have := l2 i hi
      omega
    · rw [p12] at hj
      rw [hle, hle]
      exact l3 i j hij hj
    · rw [p12] at hi
      rw [f14, f15] at hn'
      simp only [hle]
      exact l4 i hi hn'
    · rw [p12] at hi
      rw [f14, f15] at hk1
      rw [f2] at hk2
      unfold in_90
      rw [f3, f4, f15]
      exact l5 i k hi hk1 hk2
    · rw [f11] at hm
      rw [p12, f15]
      exact l6 m m1 m2 hm
  have hpv1 : vl_ c1.1 101 v = 0 := by unfold vl_; rw [f11]; exact hpv
  have e174 : r1.1 174 1 = c.1 91 12 := by rw [hrt1.1, p12]
  have n9 : ix_n (9 : Int32) = 9 := rfl
  have n1 : ix_n (1 : Int32) = 1 := rfl
  have n3 : ix_n (3 : Int32) = 3 := rfl
  have q9 : (ix_di c 91 13 (c.1 91 13 + 1)).1 115 9 = c.1 115 9 := by simp only [up_1, Nat.reduceEqDiff, false_and, and_false, true_and, and_true, or_true, true_or, or_false, false_or, not_true_eq_false, not_false_eq_true, ↓reduceIte, eq_self, ne_eq]
  have q13 : (ix_di c 91 13 (c.1 91 13 + 1)).1 91 13 = c.1 91 13 + 1 := by simp only [up_1, Nat.reduceEqDiff, false_and, and_false, true_and, and_true, or_true, true_or, or_false, false_or, not_true_eq_false, not_false_eq_true, ↓reduceIte, eq_self, ne_eq]
  (repeat (first | rw [n9] | rw [q9] | rw [q13] | rw [← hm9] | rw [← hc1] | with_reducible refine wi_t (ly_o90 hz) ?_ | with_reducible refine wi_r (ly_r0_7 hz) ?_ | with_reducible refine wi_t (ly_o91 hz) ?_ | with_reducible refine wi_r (ly_r90_0 hz) ?_ | with_reducible refine wi_r (ly_r90_10 hz) ?_ | with_reducible refine wi_t (ly_a115 hz) ?_ | (with_reducible refine wi_x (ly_i115 hz) ?_ ?_ ?_; (focus (first | omega | (simp only [Int32.reduceToInt]; omega) | (simp (disch := (first | omega | (simp (disch := first | omega | (simp only [Int32.reduceToInt]; omega)) only [Int32.reduceToInt, ta_add, ta_sub, ta_mul, ta_neg, ta_div]; omega))) only [ly_n115 hz, Int32.reduceMul, up_1, cp_1, rng_1, fn_1, dj_1, Nat.reduceEqDiff, false_and, and_false, true_and, and_true, or_true, true_or, or_false, false_or, not_true_eq_false, not_false_eq_true, ↓reduceIte, eq_self, ne_eq, ti_eq, ti_le, ti_lt, ti_ite, Int32.reduceToInt, ta_add, ta_sub, ta_mul, ta_neg, ta_div]; done) | (simp (disch := (first | omega | (simp (disch := first | omega | (simp only [Int32.reduceToInt]; omega)) only [Int32.reduceToInt, ta_add, ta_sub, ta_mul, ta_neg, ta_div]; omega))) only [ly_n115 hz, Int32.reduceMul, up_1, cp_1, rng_1, fn_1, dj_1, Nat.reduceEqDiff, false_and, and_false, true_and, and_true, or_true, true_or, or_false, false_or, not_true_eq_false, not_false_eq_true, ↓reduceIte, eq_self, ne_eq, ti_eq, ti_le, ti_lt, ti_ite, Int32.reduceToInt, ta_add, ta_sub, ta_mul, ta_neg, ta_div]; omega))); (focus (first | omega | (simp only [Int32.reduceToInt]; omega) | (simp (disch := (first | omega | (simp (disch := first | omega | (simp only [Int32.reduceToInt]; omega)) only [Int32.reduceToInt, ta_add, ta_sub, ta_mul, ta_neg, ta_div]; omega))) only [ly_n115 hz, Int32.reduceMul, up_1, cp_1, rng_1, fn_1, dj_1, Nat.reduceEqDiff, false_and, and_false, true_and, and_true, or_true, true_or, or_false, false_or, not_true_eq_false, not_false_eq_true, ↓reduceIte, eq_self, ne_eq, ti_eq, ti_le, ti_lt, ti_ite, Int32.reduceToInt, ta_add, ta_sub, ta_mul, ta_neg, ta_div]; done) | (simp (disch := (first | omega | (simp (disch := first | omega | (simp only [Int32.reduceToInt]; omega)) only [Int32.reduceToInt, ta_add, ta_sub, ta_mul, ta_neg, ta_div]; omega))) only [ly_n115 hz, Int32.reduceMul, up_1, cp_1, rng_1, fn_1, dj_1, Nat.reduceEqDiff, false_and, and_false, true_and, and_true, or_true, true_or, or_false, false_or, not_true_eq_false, not_false_eq_true, ↓reduceIte, eq_self, ne_eq, ti_eq, ti_le, ti_lt, ti_ite, Int32.reduceToInt, ta_add, ta_sub, ta_mul, ta_neg, ta_div]; omega)))) | with_reducible refine wi_lt ?_ | (with_reducible refine wi_ifp ?_ ?_; (focus (first | omega | (simp only [Int32.reduceToInt]; omega) | (simp (disch := (first | omega | (simp (disch := first | omega | (simp only [Int32.reduceToInt]; omega)) only [Int32.reduceToInt, ta_add, ta_sub, ta_mul, ta_neg, ta_div]; omega))) only [ly_n115 hz, Int32.reduceMul, up_1, cp_1, rng_1, fn_1, dj_1, Nat.reduceEqDiff, false_and, and_false, true_and, and_true, or_true, true_or, or_false, false_or, not_true_eq_false, not_false_eq_true, ↓reduceIte, eq_self, ne_eq, ti_eq, ti_le, ti_lt, ti_ite, Int32.reduceToInt, ta_add, ta_sub, ta_mul, ta_neg, ta_div]; done) | (simp (disch := (first | omega | (simp (disch := first | omega | (simp only [Int32.reduceToInt]; omega)) only [Int32.reduceToInt, ta_add, ta_sub, ta_mul, ta_neg, ta_div]; omega))) only [ly_n115 hz, Int32.reduceMul, up_1, cp_1, rng_1, fn_1, dj_1, Nat.reduceEqDiff, false_and, and_false, true_and, and_true, or_true, true_or, or_false, false_or, not_true_eq_false, not_false_eq_true, ↓reduceIte, eq_self, ne_eq, ti_eq, ti_le, ti_lt, ti_ite, Int32.reduceToInt, ta_add, ta_sub, ta_mul, ta_neg, ta_div]; omega)))) | (with_reducible refine wi_ifn ?_ ?_; (focus (first | omega | (simp only [Int32.reduceToInt]; omega) | (simp (disch := (first | omega | (simp (disch := first | omega | (simp only [Int32.reduceToInt]; omega)) only [Int32.reduceToInt, ta_add, ta_sub, ta_mul, ta_neg, ta_div]; omega))) only [ly_n115 hz, Int32.reduceMul, up_1, cp_1, rng_1, fn_1, dj_1, Nat.reduceEqDiff, false_and, and_false, true_and, and_true, or_true, true_or, or_false, false_or, not_true_eq_false, not_false_eq_true, ↓reduceIte, eq_self, ne_eq, ti_eq, ti_le, ti_lt, ti_ite, Int32.reduceToInt, ta_add, ta_sub, ta_mul, ta_neg, ta_div]; done) | (simp (disch := (first | omega | (simp (disch := first | omega | (simp only [Int32.reduceToInt]; omega)) only [Int32.reduceToInt, ta_add, ta_sub, ta_mul, ta_neg, ta_div]; omega))) only [ly_n115 hz, Int32.reduceMul, up_1, cp_1, rng_1, fn_1, dj_1, Nat.reduceEqDiff, false_and, and_false, true_and, and_true, or_true, true_or, or_false, false_or, not_true_eq_false, not_false_eq_true, ↓reduceIte, eq_self, ne_eq, ti_eq, ti_le, ti_lt, ti_ite, Int32.reduceToInt, ta_add, ta_sub, ta_mul, ta_neg, ta_div]; omega)))) | (with_reducible refine wi_ck ?_ ?_; (focus (first | omega | (simp only [Int32.reduceToInt]; omega) | (simp (disch := (first | omega | (simp (disch := first | omega | (simp only [Int32.reduceToInt]; omega)) only [Int32.reduceToInt, ta_add, ta_sub, ta_mul, ta_neg, ta_div]; omega))) only [ly_n115 hz, Int32.reduceMul, up_1, cp_1, rng_1, fn_1, dj_1, Nat.reduceEqDiff, false_and, and_false, true_and, and_true, or_true, true_or, or_false, false_or, not_true_eq_false, not_false_eq_true, ↓reduceIte, eq_self, ne_eq, ti_eq, ti_le, ti_lt, ti_ite, Int32.reduceToInt, ta_add, ta_sub, ta_mul, ta_neg, ta_div]; done) | (simp (disch := (first | omega | (simp (disch := first | omega | (simp only [Int32.reduceToInt]; omega)) only [Int32.reduceToInt, ta_add, ta_sub, ta_mul, ta_neg, ta_div]; omega))) only [ly_n115 hz, Int32.reduceMul, up_1, cp_1, rng_1, fn_1, dj_1, Nat.reduceEqDiff, false_and, and_false, true_and, and_true, or_true, true_or, or_false, false_or, not_true_eq_false, not_false_eq_true, ↓reduceIte, eq_self, ne_eq, ti_eq, ti_le, ti_lt, ti_ite, Int32.reduceToInt, ta_add, ta_sub, ta_mul, ta_neg, ta_div]; omega)))) | with_reducible refine wi_bd2 ?_ | with_reducible refine wi_bd1 ?_ | with_reducible refine wi_bd3 ?_ | (with_reducible refine wi_some ?_; try dsimp only) | unfold f_X9_decide))
  have has := e_as90 (n := n) (d := c1) (v := v) (y := -1) hz hn hb1 v0 v1 v2 hpv1 htk1.1 (by rw [p12]; omega)
  refine wp_m has (fun c3 h => ?_)
  obtain ⟨hb3, h3, h3l, h4⟩ := h
  obtain ⟨x1, x2, x3, x4, x5, x6, x7, x8⟩ := as_R90 (c := c1) (r := r1) (rn := rn) (v := v) (y := -1) (y' := -7) (c3 := c3) hrr1 htk1 hrt1 hla1 v0 v1 v2 hpv1 (Or.inl ⟨rfl, rfl, by rw [p13, eL]; omega, fun i hi => by rw [hle, p13, eL]; rw [p12] at hi; have := hla.2.1 i hi; omega⟩) (by rw [p13, eL, p12]; omega) (by rw [f2]; exact hT) (fun k p g1 g2 => rw_i hb1.1 g1 g2.2) h3 h4
  have xq := as_ql90 (c := c1) (c3 := c3) (v := v) (y := -1) (fun k g1 g2 => nq_90 hb1 (by rw [f2, f8]; exact hnq) g1 g2) h3 h4
  have o : ∀ a i, a ≠ 98 → a ≠ 101 → a ≠ 103 → a ≠ 104 → a ≠ 105 → (a ≠ 91 ∨ i ≠ 12) → c3.1 a i = c1.1 a i := fun a i g8 g1 g2 g3 g4 g5 => by rw [h3 a i g8]; exact am_o90 g1 g2 g3 g4 g5
  have s25 : ∀ i, c3.1 115 i = if i = 9 then m9 else c.1 115 i := fun i => by
    rw [o _ _ (by omega) (by omega) (by omega) (by omega) (by omega) (by omega)]
    by_cases e : i = 9
    · rw [if_pos e, e, p9]
    · rw [if_neg e, p _ _ (by omega) (by omega)]
  (repeat (first | rw [n1] | rw [n3] | with_reducible refine wi_t (ly_o90 hz) ?_ | with_reducible refine wi_r (ly_r0_7 hz) ?_ | with_reducible refine wi_r (ly_r90_10 hz) ?_ | with_reducible refine wi_t (ly_a115 hz) ?_ | (with_reducible refine wi_x (ly_i115 hz) ?_ ?_ ?_; (focus (first | omega | (simp only [Int32.reduceToInt]; omega) | (simp (disch := (first | omega | (simp (disch := first | omega | (simp only [Int32.reduceToInt]; omega)) only [Int32.reduceToInt, ta_add, ta_sub, ta_mul, ta_neg, ta_div]; omega))) only [ly_n115 hz, Int32.reduceMul, up_1, cp_1, rng_1, fn_1, dj_1, Nat.reduceEqDiff, false_and, and_false, true_and, and_true, or_true, true_or, or_false, false_or, not_true_eq_false, not_false_eq_true, ↓reduceIte, eq_self, ne_eq, ti_eq, ti_le, ti_lt, ti_ite, Int32.reduceToInt, ta_add, ta_sub, ta_mul, ta_neg, ta_div]; done) | (simp (disch := (first | omega | (simp (disch := first | omega | (simp only [Int32.reduceToInt]; omega)) only [Int32.reduceToInt, ta_add, ta_sub, ta_mul, ta_neg, ta_div]; omega))) only [ly_n115 hz, Int32.reduceMul, up_1, cp_1, rng_1, fn_1, dj_1, Nat.reduceEqDiff, false_and, and_false, true_and, and_true, or_true, true_or, or_false, false_or, not_true_eq_false, not_false_eq_true, ↓reduceIte, eq_self, ne_eq, ti_eq, ti_le, ti_lt, ti_ite, Int32.reduceToInt, ta_add, ta_sub, ta_mul, ta_neg, ta_div]; omega))); (focus (first | omega | (simp only [Int32.reduceToInt]; omega) | (simp (disch := (first | omega | (simp (disch := first | omega | (simp only [Int32.reduceToInt]; omega)) only [Int32.reduceToInt, ta_add, ta_sub, ta_mul, ta_neg, ta_div]; omega))) only [ly_n115 hz, Int32.reduceMul, up_1, cp_1, rng_1, fn_1, dj_1, Nat.reduceEqDiff, false_and, and_false, true_and, and_true, or_true, true_or, or_false, false_or, not_true_eq_false, not_false_eq_true, ↓reduceIte, eq_self, ne_eq, ti_eq, ti_le, ti_lt, ti_ite, Int32.reduceToInt, ta_add, ta_sub, ta_mul, ta_neg, ta_div]; done) | (simp (disch := (first | omega | (simp (disch := first | omega | (simp only [Int32.reduceToInt]; omega)) only [Int32.reduceToInt, ta_add, ta_sub, ta_mul, ta_neg, ta_div]; omega))) only [ly_n115 hz, Int32.reduceMul, up_1, cp_1, rng_1, fn_1, dj_1, Nat.reduceEqDiff, false_and, and_false, true_and, and_true, or_true, true_or, or_false, false_or, not_true_eq_false, not_false_eq_true, ↓reduceIte, eq_self, ne_eq, ti_eq, ti_le, ti_lt, ti_ite, Int32.reduceToInt, ta_add, ta_sub, ta_mul, ta_neg, ta_div]; omega)))) | with_reducible refine wi_lt ?_ | (with_reducible refine wi_ifp ?_ ?_; (focus (first | omega | (simp only [Int32.reduceToInt]; omega) | (simp (disch := (first | omega | (simp (disch := first | omega | (simp only [Int32.reduceToInt]; omega)) only [Int32.reduceToInt, ta_add, ta_sub, ta_mul, ta_neg, ta_div]; omega))) only [ly_n115 hz, Int32.reduceMul, up_1, cp_1, rng_1, fn_1, dj_1, Nat.reduceEqDiff, false_and, and_false, true_and, and_true, or_true, true_or, or_false, false_or, not_true_eq_false, not_false_eq_true, ↓reduceIte, eq_self, ne_eq, ti_eq, ti_le, ti_lt, ti_ite, Int32.reduceToInt, ta_add, ta_sub, ta_mul, ta_neg, ta_div]; done) | (simp (disch := (first | omega | (simp (disch := first | omega | (simp only [Int32.reduceToInt]; omega)) only [Int32.reduceToInt, ta_add, ta_sub, ta_mul, ta_neg, ta_div]; omega))) only [ly_n115 hz, Int32.reduceMul, up_1, cp_1, rng_1, fn_1, dj_1, Nat.reduceEqDiff, false_and, and_false, true_and, and_true, or_true, true_or, or_false, false_or, not_true_eq_false, not_false_eq_true, ↓reduceIte, eq_self, ne_eq, ti_eq, ti_le, ti_lt, ti_ite, Int32.reduceToInt, ta_add, ta_sub, ta_mul, ta_neg, ta_div]; omega)))) | (with_reducible refine wi_ifn ?_ ?_; (focus (first | omega | (simp only [Int32.reduceToInt]; omega) | (simp (disch := (first | omega | (simp (disch := first | omega | (simp only [Int32.reduceToInt]; omega)) only [Int32.reduceToInt, ta_add, ta_sub, ta_mul, ta_neg, ta_div]; omega))) only [ly_n115 hz, Int32.reduceMul, up_1, cp_1, rng_1, fn_1, dj_1, Nat.reduceEqDiff, false_and, and_false, true_and, and_true, or_true, true_or, or_false, false_or, not_true_eq_false, not_false_eq_true, ↓reduceIte, eq_self, ne_eq, ti_eq, ti_le, ti_lt, ti_ite, Int32.reduceToInt, ta_add, ta_sub, ta_mul, ta_neg, ta_div]; done) | (simp (disch := (first | omega | (simp (disch := first | omega | (simp only [Int32.reduceToInt]; omega)) only [Int32.reduceToInt, ta_add, ta_sub, ta_mul, ta_neg, ta_div]; omega))) only [ly_n115 hz, Int32.reduceMul, up_1, cp_1, rng_1, fn_1, dj_1, Nat.reduceEqDiff, false_and, and_false, true_and, and_true, or_true, true_or, or_false, false_or, not_true_eq_false, not_false_eq_true, ↓reduceIte, eq_self, ne_eq, ti_eq, ti_le, ti_lt, ti_ite, Int32.reduceToInt, ta_add, ta_sub, ta_mul, ta_neg, ta_div]; omega)))) | (with_reducible refine wi_ck ?_ ?_; (focus (first | omega | (simp only [Int32.reduceToInt]; omega) | (simp (disch := (first | omega | (simp (disch := first | omega | (simp only [Int32.reduceToInt]; omega)) only [Int32.reduceToInt, ta_add, ta_sub, ta_mul, ta_neg, ta_div]; omega))) only [ly_n115 hz, Int32.reduceMul, up_1, cp_1, rng_1, fn_1, dj_1, Nat.reduceEqDiff, false_and, and_false, true_and, and_true, or_true, true_or, or_false, false_or, not_true_eq_false, not_false_eq_true, ↓reduceIte, eq_self, ne_eq, ti_eq, ti_le, ti_lt, ti_ite, Int32.reduceToInt, ta_add, ta_sub, ta_mul, ta_neg, ta_div]; done) | (simp (disch := (first | omega | (simp (disch := first | omega | (simp only [Int32.reduceToInt]; omega)) only [Int32.reduceToInt, ta_add, ta_sub, ta_mul, ta_neg, ta_div]; omega))) only [ly_n115 hz, Int32.reduceMul, up_1, cp_1, rng_1, fn_1, dj_1, Nat.reduceEqDiff, false_and, and_false, true_and, and_true, or_true, true_or, or_false, false_or, not_true_eq_false, not_false_eq_true, ↓reduceIte, eq_self, ne_eq, ti_eq, ti_le, ti_lt, ti_ite, Int32.reduceToInt, ta_add, ta_sub, ta_mul, ta_neg, ta_div]; omega)))) | with_reducible refine wi_bd2 ?_ | with_reducible refine wi_bd1 ?_ | with_reducible refine wi_bd3 ?_ | (with_reducible refine wi_some ?_; try dsimp only)))
  obtain ⟨cE, hE⟩ : ∃ cE, cE = ix_di (ix_di c3 115 1 (c3.1 115 1 + 1)) 115 3 ((ix_di c3 115 1 (c3.1 115 1 + 1)).1 115 3 + 1) := ⟨_, rfl⟩
  rw [← hE]
  have e25 : ∀ i, cE.1 115 i = if i = 9 then m9 else if i = 1 ∨ i = 3 then c.1 115 i + 1 else c.1 115 i := by
    intro i
    rw [hE]
    simp only [up_1, s25]
    by_cases e3 : i = 3
    · subst e3; simp
    · by_cases e1 : i = 1
      · subst e1; simp
      · simp [e1, e3]
  have d1 : ∀ a i, a ≠ 115 → cE.1 a i = c3.1 a i := fun a i g => by rw [hE]; simp only [up_1]; rw [if_neg (by omega), if_neg (by omega)]
  have d2 : cE.2 = c3.2 := by rw [hE]; rfl
  have o13 : c3.1 91 13 = c.1 91 13 + 1 := by rw [o _ _ (by omega) (by omega) (by omega) (by omega) (by omega) (by omega), p13]
  have o14 : c3.1 91 14 = c.1 91 14 := by rw [o _ _ (by omega) (by omega) (by omega) (by omega) (by omega) (by omega), p _ _ (by omega) (by omega)]
  have o15 : c3.1 91 15 = c.1 91 15 := by rw [o _ _ (by omega) (by omega) (by omega) (by omega) (by omega) (by omega), p _ _ (by omega) (by omega)]
  rw [p12] at x8
  refine ⟨rfl, by rw [e25, if_neg (by omega), if_pos (Or.inl rfl)], fun a i ha => ⟨?_, ?_⟩, ?_⟩
  · rw [d1 a i (by omega), o a i (by omega) (by omega) (by omega) (by omega) (by omega) (by omega)]
    exact p a i (by omega) (by omega)
  · rw [d2, h3l a i (by omega) (by omega), p2]
  refine wi_e (e_bcq1 (n := n) (r := r1) (v := v) (y := -7) hz v0 v1 v2 (by rw [e174]; exact htk.1) (by rw [e174]; exact hroom) (Or.inr (by decide))) ?_
  have bmo : ∀ a i, a ≠ 167 → a ≠ 168 → a ≠ 169 → a ≠ 173 → (a ≠ 174 ∨ i ≠ 1) → (bm_q1 v (-7) r1).1 a i = r1.1 a i := fun a i g1 g2 g3 g4 g5 => by
    unfold bm_q1; simp only [up_1]
    rw [if_neg (by omega), if_neg (by omega), if_neg (by omega), if_neg (by omega), if_neg (by omega)]
  have bm2 : (bm_q1 v (-7) r1).2 = r.2 := by show r1.2 = r.2; exact rp2
  have nt := ni_c (x := c.1 91 12) htk.1
  refine ⟨st_R90 (c3 := c3) (r1 := bm_q1 v (-7) r1) hb3 x1 x2 x3 x4 xq (by rw [o13, eL]; omega) d1 (fun a i _ _ => by rw [d2]) rfl ?_ ?_ ?_, ?_, ?_⟩
  · intro hid
    obtain ⟨q1, q2⟩ := hrs (fun k hk => hid k (by rw [d1 _ _ (by omega), o15]; exact hk))
    refine ⟨fun k' w' hk' hw' => ?_, fun i w' hi hle' hw' => ?_⟩
    · rw [e25, if_neg (by omega), if_neg (by omega)] at hk'
      rw [d2, h3l _ _ (by omega) (by omega), p2, bm2]
      exact q1 k' w' hk' hw'
    · rw [d1 _ _ (by omega), x8] at hi
      rw [d1 _ _ (by omega), d2, bm2]
      unfold le_90 at hle'
      rw [d1 _ _ (by omega), d1 _ _ (by omega)] at hle'
      by_cases e : (i : Int) = (c.1 91 12).toInt
      · exfalso
        have e' : i = ix_n (c1.1 91 12) := by rw [p12]; omega
        rw [e', x7, h3 _ _ (by omega)] at hle'
        unfold am_90 at hle'
        simp only [up_1, Nat.reduceEqDiff, false_and, and_false, true_and, and_true, or_true, true_or, or_false, false_or, not_true_eq_false, not_false_eq_true, ↓reduceIte, eq_self, ne_eq] at hle'
        rw [p13, eL] at hle'
        omega
      · have x5i := x5 i (by rw [p12]; omega)
        rw [x5i.2, h3l _ _ (by omega) (by omega), p2, f15]
        refine q2 i w' (by omega) ?_ hw'
        rw [← hle i, ← x5i.1]
        exact hle'
  · refine ro_c90 (c := c) (r := r) hwg hnb hty haq hcq (fun a i g1 g2 g3 g4 g5 g6 g7 g8 => ?_) (fun a i g1 g2 g3 g4 => ?_) (fun i hi => ?_) (fun a i g1 g2 g3 g4 g5 g6 => ?_) (fun a i _ _ => by rw [bm2]) (fun i hi => ?_) hT0
    · by_cases ea : a = 115
      · subst ea
        rw [e25, if_neg (by omega), if_neg (by omega)]
      · rw [d1 a i ea, o a i g1 g2 g4 g5 g6 (by omega)]
        exact p a i (by omega) (by omega)
    · rw [d2, h3l a i g1 g2, p2]
    · rw [d1 _ _ (by omega), ← f8]
      exact h4 i (by rw [f2]; exact hi)
    · rw [bmo a i (by omega) (by omega) (by omega) (by omega) (by omega)]
      exact rp a i (by omega) (by omega) (by omega)
    · rw [bmo _ _ (by omega) (by omega) (by omega) (by omega) (by omega), r187, e25]
      have g := hty.1 i hi
      by_cases e9 : i = 9
      · rw [if_pos e9, if_pos e9]
      · rw [if_neg e9, if_neg e9]
        by_cases ei : i = 1 ∨ i = 3
        · rw [if_pos ei, if_pos ei, g]
        · rw [if_neg ei, if_neg ei]; exact g
  · intro i hi
    rw [d1 _ _ (by omega), d1 91 14 (by omega), o14]
    rw [d1 91 12 (by omega), x8] at hi
    by_cases e : (i : Int) = (c.1 91 12).toInt
    · have : i = ix_n (c1.1 91 12) := by rw [p12]; omega
      rw [this, x7]
      exact hvN
    · rw [(x5 i (by rw [p12]; omega)).2, f15]
      exact hnb.2 i (by omega)
  · have f1 : fq_q1 r r1 := by
      rw [hr1]
      exact fq_diq1 (fq_diq1 (fq_diq1 (fq_diq1 (fq_diq1 fq_rfq1 (sq_oq1 (Or.inl rfl))) (sq_187q1 (by omega))) (sq_187q1 (by omega))) (sq_qq1 (by omega))) (sq_187q1 (by omega))
    exact fq_bmq1 f1 v0 v1 v2 (by rw [e174]; exact htk.1) (by rw [e174]; exact hroom)
  · rw [bmo _ _ (by omega) (by omega) (by omega) (by omega) (by omega), r89]
end DEC

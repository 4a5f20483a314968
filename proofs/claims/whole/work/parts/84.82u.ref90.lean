/-! a quarrel's items; the end at level 0: pieces (90, 1) -/
section RFA
variable {n : Nat} {z : ix_Z} {c0 r0 c c' r : ix_D2} {rn : Nat → Nat} {v x y w m : Int32} {k : Nat}
theorem qf_90 (hb : bi_90 c0) (hk : (k : Int) < (c0.1 92 2).toInt) (hk0 : (c0.1 98 k).toInt = 0) : ∀ p, in_90 c0 k p → vl_ c0.1 101 (c0.1 93 p) = -1 := by
  have hT3 := hb.1.2.1
  intro p hp
  have l1 := hb.2.2.2.1 k hk
  have l2 := lw_b hb.1 (by omega) hb.2.2.2.2 hk
  have l3 : lw_s c0.1 93 94 101 k = 0 := by omega
  have rb := rw_b hb.1 hk
  have n1 := ni_c rb.1
  have n2 := ni_c (x := c0.1 94 (k + 1)) (by omega)
  let g : Nat → Int := fun p => if (p : Int) < (c0.1 94 (k + 1)).toInt then wv_ c0.1 101 (c0.1 93 p) else 0
  have hg0 : ∀ p, 0 ≤ g p := by
    intro p
    show 0 ≤ (if (p : Int) < (c0.1 94 (k + 1)).toInt then wv_ c0.1 101 (c0.1 93 p) else 0)
    by_cases e : (p : Int) < (c0.1 94 (k + 1)).toInt
    · rw [if_pos e]
      have := rw_i hb.1 hk e
      exact (wv_b hb.2.2.2.2 (by omega) (by omega)).1
    · rw [if_neg e]; exact Int.le_refl 0
  have e : sm_ g (ix_n (c0.1 94 k)) (ix_n (c0.1 94 (k + 1))) = 0 := by
    rw [← l3]
    unfold lw_s
    refine sm_c (fun p p1 p2 => ?_)
    show (if (p : Int) < (c0.1 94 (k + 1)).toInt then wv_ c0.1 101 (c0.1 93 p) else 0) = _
    rw [if_pos (by omega)]
  obtain ⟨p1, p2⟩ := hp
  have q := (sm_0 hg0).2.mp e p (by omega) (by omega)
  have q : wv_ c0.1 101 (c0.1 93 p) = 0 := by
    have e2 : g p = wv_ c0.1 101 (c0.1 93 p) := if_pos p2
    rw [← e2]; exact q
  have hi := rw_i hb.1 hk p2
  have hv2 := vl_b hb.2.2.2.2 (v := c0.1 93 p) (by omega) (by omega)
  unfold wv_ at q
  rcases hv2 with g | g | g
  · rw [g] at q; exact absurd q (by decide)
  · rw [g] at q; exact absurd q (by decide)
  · exact g
theorem b5_90 (hrr : rr_90 c0 r0 rn) : (c0.1 91 15).toInt ≤ 500 := by
  obtain ⟨G1, G2, G3, G4, G5, G6, G7, G8, G9, G10, G11, G12, G13, G14, G15⟩ := hrr.2.1
  apply Classical.byContradiction
  intro hgt
  have hm : ∀ i : Nat, (i : Int) < (c0.1 91 15).toInt → i ≤ rn i := by
    intro i
    induction i with
    | zero => intro _; exact Nat.zero_le _
    | succ i ih => intro hi; have a := ih (by omega); have b := G8 i (i + 1) (by omega) hi; omega
  have a := hm 500 (by omega)
  have b := (G6 500 (by omega)).1
  omega
theorem nu_c90 (h15 : c'.1 91 15 = c.1 91 15) (h16 : c'.1 91 16 = c.1 91 16) (h : f_X1_numberOf n z 91 x c = some (m, c)) : f_X1_numberOf n z 91 x c' = some (m, c') := by
  unfold f_X1_numberOf ix_ck ix_if at h ⊢
  rw [h15, h16]
  by_cases p : ix_ok z [1] 91
  · rw [if_pos p] at h ⊢
    by_cases q1 : x < c.1 91 16
    · rw [if_pos q1] at h ⊢
      by_cases q2 : x < c.1 91 15
      · rw [if_pos q2] at h ⊢
        rw [(Prod.mk.inj (Option.some.inj h)).1]
      · rw [if_neg q2] at h ⊢
        rw [(Prod.mk.inj (Option.some.inj h)).1]
    · rw [if_neg q1] at h ⊢
      rw [(Prod.mk.inj (Option.some.inj h)).1]
  · rw [if_neg p] at h
    exact absurd h (by simp)
theorem e_erq1 (hz : ly_z z) : wp_t (ix_if ((1 : Int32) = 0) (ix_lt (ix_di r 125 96 0) (fun d_17 => ix_bd1 (f_X12_tellQuarrel n z 125 (d_17.1 125 98) 0 0 0 0 d_17) (fun d_19 => some ((0 : Int32), d_19)))) (some (0, r))) (fun w => w.1 = 0 ∧ (∀ a i, (1 ≠ 0 ∨ (a ≠ 188 ∧ (a ≠ 125 ∨ (i ≠ 91 ∧ i ≠ 96)))) → w.2.1 a i = r.1 a i) ∧ w.2.2 = r.2 ∧ (1 = 0 → (w.2.1 125 91).toInt = 1 ∧ w.2.1 125 96 = 0 ∧ w.2.1 188 0 = r.1 125 98 ∧ w.2.1 188 1 = 0 ∧ w.2.1 188 2 = 0 ∧ w.2.1 188 3 = 0 ∧ w.2.1 188 4 = 0)) := by
  have n0 : ix_n (0 : Int32) = 0 := rfl
  have n1 : ix_n (1 : Int32) = 1 := rfl
  have n2 : ix_n (2 : Int32) = 2 := rfl
  have n3 : ix_n (3 : Int32) = 3 := rfl
  have n4 : ix_n (4 : Int32) = 4 := rfl
  (repeat (first | rw [n0] | rw [n1] | rw [n2] | rw [n3] | rw [n4] | with_reducible refine wi_t (ly_o125 hz) ?_ | with_reducible refine wi_r (ly_r125_92 hz) ?_ | with_reducible refine wi_t (ly_a188 hz) ?_ | (with_reducible refine wi_x (ly_i188 hz) ?_ ?_ ?_; (focus (first | omega | (simp only [Int32.reduceToInt]; omega) | (simp (disch := (first | omega | (simp (disch := first | omega | (simp only [Int32.reduceToInt]; omega)) only [Int32.reduceToInt, ta_add, ta_sub, ta_mul, ta_neg, ta_div]; omega))) only [ly_n188 hz, Int32.reduceMul, up_1, cp_1, rng_1, fn_1, dj_1, Nat.reduceEqDiff, false_and, and_false, true_and, and_true, or_true, true_or, or_false, false_or, not_true_eq_false, not_false_eq_true, ↓reduceIte, eq_self, ne_eq, ti_eq, ti_le, ti_lt, ti_ite, Int32.reduceToInt, ta_add, ta_sub, ta_mul, ta_neg, ta_div]; done) | (simp (disch := (first | omega | (simp (disch := first | omega | (simp only [Int32.reduceToInt]; omega)) only [Int32.reduceToInt, ta_add, ta_sub, ta_mul, ta_neg, ta_div]; omega))) only [ly_n188 hz, Int32.reduceMul, up_1, cp_1, rng_1, fn_1, dj_1, Nat.reduceEqDiff, false_and, and_false, true_and, and_true, or_true, true_or, or_false, false_or, not_true_eq_false, not_false_eq_true, ↓reduceIte, eq_self, ne_eq, ti_eq, ti_le, ti_lt, ti_ite, Int32.reduceToInt, ta_add, ta_sub, ta_mul, ta_neg, ta_div]; omega))); (focus (first | omega | (simp only [Int32.reduceToInt]; omega) | (simp (disch := (first | omega | (simp (disch := first | omega | (simp only [Int32.reduceToInt]; omega)) only [Int32.reduceToInt, ta_add, ta_sub, ta_mul, ta_neg, ta_div]; omega))) only [ly_n188 hz, Int32.reduceMul, up_1, cp_1, rng_1, fn_1, dj_1, Nat.reduceEqDiff, false_and, and_false, true_and, and_true, or_true, true_or, or_false, false_or, not_true_eq_false, not_false_eq_true, ↓reduceIte, eq_self, ne_eq, ti_eq, ti_le, ti_lt, ti_ite, Int32.reduceToInt, ta_add, ta_sub, ta_mul, ta_neg, ta_div]; done) | (simp (disch := (first | omega | (simp (disch := first | omega | (simp only [Int32.reduceToInt]; omega)) only [Int32.reduceToInt, ta_add, ta_sub, ta_mul, ta_neg, ta_div]; omega))) only [ly_n188 hz, Int32.reduceMul, up_1, cp_1, rng_1, fn_1, dj_1, Nat.reduceEqDiff, false_and, and_false, true_and, and_true, or_true, true_or, or_false, false_or, not_true_eq_false, not_false_eq_true, ↓reduceIte, eq_self, ne_eq, ti_eq, ti_le, ti_lt, ti_ite, Int32.reduceToInt, ta_add, ta_sub, ta_mul, ta_neg, ta_div]; omega)))) | with_reducible refine wi_lt ?_ | (with_reducible refine wi_ifp ?_ ?_; (focus (first | omega | (simp only [Int32.reduceToInt]; omega) | (simp (disch := (first | omega | (simp (disch := first | omega | (simp only [Int32.reduceToInt]; omega)) only [Int32.reduceToInt, ta_add, ta_sub, ta_mul, ta_neg, ta_div]; omega))) only [ly_n188 hz, Int32.reduceMul, up_1, cp_1, rng_1, fn_1, dj_1, Nat.reduceEqDiff, false_and, and_false, true_and, and_true, or_true, true_or, or_false, false_or, not_true_eq_false, not_false_eq_true, ↓reduceIte, eq_self, ne_eq, ti_eq, ti_le, ti_lt, ti_ite, Int32.reduceToInt, ta_add, ta_sub, ta_mul, ta_neg, ta_div]; done) | (simp (disch := (first | omega | (simp (disch := first | omega | (simp only [Int32.reduceToInt]; omega)) only [Int32.reduceToInt, ta_add, ta_sub, ta_mul, ta_neg, ta_div]; omega))) only [ly_n188 hz, Int32.reduceMul, up_1, cp_1, rng_1, fn_1, dj_1, Nat.reduceEqDiff, false_and, and_false, true_and, and_true, or_true, true_or, or_false, false_or, not_true_eq_false, not_false_eq_true, ↓reduceIte, eq_self, ne_eq, ti_eq, ti_le, ti_lt, ti_ite, Int32.reduceToInt, ta_add, ta_sub, ta_mul, ta_neg, ta_div]; omega)))) | (with_reducible refine wi_ifn ?_ ?_; (focus (first | omega | (simp only [Int32.reduceToInt]; omega) | (simp (disch := (first | omega | (simp (disch := first | omega | (simp only [Int32.reduceToInt]; omega)) only [Int32.reduceToInt, ta_add, ta_sub, ta_mul, ta_neg, ta_div]; omega))) only [ly_n188 hz, Int32.reduceMul, up_1, cp_1, rng_1, fn_1, dj_1, Nat.reduceEqDiff, false_and, and_false, true_and, and_true, or_true, true_or, or_false, false_or, not_true_eq_false, not_false_eq_true, ↓reduceIte, eq_self, ne_eq, ti_eq, ti_le, ti_lt, ti_ite, Int32.reduceToInt, ta_add, ta_sub, ta_mul, ta_neg, ta_div]; done) | (simp (disch := (first | omega | (simp (disch := first | omega | (simp only [Int32.reduceToInt]; omega)) only [Int32.reduceToInt, ta_add, ta_sub, ta_mul, ta_neg, ta_div]; omega))) only [ly_n188 hz, Int32.reduceMul, up_1, cp_1, rng_1, fn_1, dj_1, Nat.reduceEqDiff, false_and, and_false, true_and, and_true, or_true, true_or, or_false, false_or, not_true_eq_false, not_false_eq_true, ↓reduceIte, eq_self, ne_eq, ti_eq, ti_le, ti_lt, ti_ite, Int32.reduceToInt, ta_add, ta_sub, ta_mul, ta_neg, ta_div]; omega)))) | (with_reducible refine wi_ck ?_ ?_; (focus (first | omega | (simp only [Int32.reduceToInt]; omega) | (simp (disch := (first | omega | (simp (disch := first | omega | (simp only [Int32.reduceToInt]; omega)) only [Int32.reduceToInt, ta_add, ta_sub, ta_mul, ta_neg, ta_div]; omega))) only [ly_n188 hz, Int32.reduceMul, up_1, cp_1, rng_1, fn_1, dj_1, Nat.reduceEqDiff, false_and, and_false, true_and, and_true, or_true, true_or, or_false, false_or, not_true_eq_false, not_false_eq_true, ↓reduceIte, eq_self, ne_eq, ti_eq, ti_le, ti_lt, ti_ite, Int32.reduceToInt, ta_add, ta_sub, ta_mul, ta_neg, ta_div]; done) | (simp (disch := (first | omega | (simp (disch := first | omega | (simp only [Int32.reduceToInt]; omega)) only [Int32.reduceToInt, ta_add, ta_sub, ta_mul, ta_neg, ta_div]; omega))) only [ly_n188 hz, Int32.reduceMul, up_1, cp_1, rng_1, fn_1, dj_1, Nat.reduceEqDiff, false_and, and_false, true_and, and_true, or_true, true_or, or_false, false_or, not_true_eq_false, not_false_eq_true, ↓reduceIte, eq_self, ne_eq, ti_eq, ti_le, ti_lt, ti_ite, Int32.reduceToInt, ta_add, ta_sub, ta_mul, ta_neg, ta_div]; omega)))) | with_reducible refine wi_bd2 ?_ | with_reducible refine wi_bd1 ?_ | with_reducible refine wi_bd3 ?_ | (with_reducible refine wi_some ?_; try dsimp only) | unfold f_X12_tellQuarrel))
  refine ⟨rfl, fun a i h => ?_, rfl, fun h0 => ?_⟩
  · first | rfl | (simp only [up_1]; repeat rw [if_neg (by omega)])
  · first | exact absurd h0 (by decide) | (refine ⟨?_, ?_, ?_, ?_, ?_, ?_, ?_⟩ <;> simp only [up_1, Nat.reduceEqDiff, false_and, and_false, true_and, and_true, or_true, true_or, or_false, false_or, not_true_eq_false, not_false_eq_true, ↓reduceIte, eq_self, ne_eq] <;> rfl)
end RFA

/-! takeIn (90) and useRow (1) side by side -/
section WKA
variable {n : Nat} {z : ix_Z} {c c0 r r0 : ix_D2} {rn ks : Nat → Nat} {v x y w : Int32}
theorem e_ti90 (hz : ly_z z) (hn : 20000 ≤ n) (h1 : rw_ok c.1 92 93 94 1364 11780 301 300) (ht : tk_90 c) {t k S Y Q F : Nat} (et : (t : Int) = (c.1 91 12).toInt) (hk : (k : Int) < (c.1 92 2).toInt) (hS : S = ix_n (c.1 94 k)) (hY : (S : Int) + Y = (c.1 94 (k + 1)).toInt) (on : ∀ p, S ≤ p → p < S + Y → ∃ i, i < t ∧ ix_n (ix_abs (c.1 105 i)) = ix_n (ix_abs (c.1 93 p))) (g1 : 0 ≤ (c.1 91 15).toInt) (g2 : (c.1 91 15).toInt ≤ 500) (hF : (F : Int) = (c.1 91 16).toInt) (hkF : k < F + 800) (hQ : (c.1 90 16).toInt = Q) (hQ2 : Q < 800) : wp_t (f_X9_takeIn n z 90 (nI k) x c) (fun u => (∀ a i, a ≠ 117 → a ≠ 119 → (a ≠ 90 ∨ i ≠ 16) → u.2.1 a i = c.1 a i) ∧ (∀ a i, a ≠ 114 → u.2.2 a i = c.2 a i) ∧ (∀ i, u.2.1 117 i = mj_ (c.1 93) (c.1 103) (c.1 117) S Y i) ∧ u.1.toInt = cn_90 c (mj_ (c.1 93) (c.1 103) (c.1 117) S Y) x.toInt t - cn_90 c (c.1 117) x.toInt t ∧ 0 ≤ u.1.toInt ∧ u.1.toInt ≤ Y ∧ (∀ w, w < 8 → u.2.2 114 w = gp_ (c.1 93) (c.1 103) (fun m w => c.2 113 (8 * m + w)) w (c.2 114 w ||| gr_90 c k w) S Y) ∧ (u.2.1 90 16).toInt = (Q : Int) + (if F ≤ k then 1 else 0) ∧ (F ≤ k → u.2.1 119 Q = nI (k - F)) ∧ ∀ i, i < Q → u.2.1 119 i = c.1 119 i) := by
  have hT2 := h1.2.1
  have ek : (nI k).toInt = k := nI_ti (by omega)
  have hg := e_gr90 (n := n) (c := c) hz hn (k := k) g1 g2 (by omega) (by omega) (by omega)
  have nl : nI (z.2.1 119).2 = 800 := ly_n119 hz
  have key : ∀ d : ix_D2, (∀ a i, a ≠ 119 → (a ≠ 90 ∨ i ≠ 16) → d.1 a i = c.1 a i) → (∀ a i, a ≠ 114 → d.2 a i = c.2 a i) → (∀ w, w < 8 → d.2 114 w = c.2 114 w ||| gr_90 c k w) → ((d.1 90 16).toInt = (Q : Int) + (if F ≤ k then 1 else 0) ∧ (F ≤ k → d.1 119 Q = nI (k - F)) ∧ ∀ i, i < Q → d.1 119 i = c.1 119 i) → wp_t (f_X9_takeIn_58 n z 90 (nI k) x 0 d) (fun u => (∀ a i, a ≠ 117 → a ≠ 119 → (a ≠ 90 ∨ i ≠ 16) → u.2.1 a i = c.1 a i) ∧ (∀ a i, a ≠ 114 → u.2.2 a i = c.2 a i) ∧ (∀ i, u.2.1 117 i = mj_ (c.1 93) (c.1 103) (c.1 117) S Y i) ∧ u.1.toInt = cn_90 c (mj_ (c.1 93) (c.1 103) (c.1 117) S Y) x.toInt t - cn_90 c (c.1 117) x.toInt t ∧ 0 ≤ u.1.toInt ∧ u.1.toInt ≤ Y ∧ (∀ w, w < 8 → u.2.2 114 w = gp_ (c.1 93) (c.1 103) (fun m w => c.2 113 (8 * m + w)) w (c.2 114 w ||| gr_90 c k w) S Y) ∧ (u.2.1 90 16).toInt = (Q : Int) + (if F ≤ k then 1 else 0) ∧ (F ≤ k → u.2.1 119 Q = nI (k - F)) ∧ ∀ i, i < Q → u.2.1 119 i = c.1 119 i) := by
    intro d d1 d2 d3 d4
    have f1 : d.1 91 = c.1 91 := funext fun i => d1 _ _ (by omega) (by omega)
    have f2 : d.1 92 = c.1 92 := funext fun i => d1 _ _ (by omega) (by omega)
    have f3 : d.1 93 = c.1 93 := funext fun i => d1 _ _ (by omega) (by omega)
    have f4 : d.1 94 = c.1 94 := funext fun i => d1 _ _ (by omega) (by omega)
    have f11 : d.1 101 = c.1 101 := funext fun i => d1 _ _ (by omega) (by omega)
    have f13 : d.1 103 = c.1 103 := funext fun i => d1 _ _ (by omega) (by omega)
    have f15 : d.1 105 = c.1 105 := funext fun i => d1 _ _ (by omega) (by omega)
    have f27 : d.1 117 = c.1 117 := funext fun i => d1 _ _ (by omega) (by omega)
    have l23 : d.2 113 = c.2 113 := funext fun i => d2 _ _ (by omega)
    have ht' : tk_90 d := by unfold tk_90 vl_; rw [f1, f11, f15]; exact ht
    have hj := e_tj90 (n := n) (c := d) (x := x) hz hn (rw_cg h1 (by rw [f2]) f4 f3) ht' (t := t) (k := k) (S := S) (Y := Y) (by rw [f1]; exact et) (by rw [f2]; exact hk) (by rw [f4]; exact hS) (by rw [f4]; exact hY) (by rw [f3, f15]; exact on)
    refine wp_m hj (fun u h => ?_)
    obtain ⟨u1, u2, u3, u4, u5, u6, u7⟩ := h
    have ecn : ∀ mk, cn_90 d mk x.toInt t = cn_90 c mk x.toInt t := fun mk => by unfold cn_90; rw [f13, f15]
    rw [f3, f13, f27] at u3
    rw [ecn, ecn, f3, f13, f27] at u4
    rw [f3, f13, l23] at u7
    refine ⟨fun a i p1 p2 p3 => (u1 a i p1).trans (d1 a i p2 p3), fun a i p => (u2 a i p).trans (d2 a i p), u3, u4, u5, u6, fun w hw => by rw [u7 w hw, d3 w hw], ?_, fun hf => ?_, fun i hi => ?_⟩
    · rw [u1 _ _ (by omega)]; exact d4.1
    · rw [u1 _ _ (by omega)]; exact d4.2.1 hf
    · rw [u1 _ _ (by omega)]; exact d4.2.2 i hi
  (repeat (first | with_reducible refine wi_t (ly_o90 hz) ?_ | with_reducible refine wi_r (ly_r0_7 hz) ?_ | with_reducible refine wi_lt ?_ | (with_reducible refine wi_ifp ?_ ?_; (focus (first | omega | (simp only [Int32.reduceToInt]; omega) | (simp (disch := (first | omega | (simp (disch := first | omega | (simp only [Int32.reduceToInt]; omega)) only [Int32.reduceToInt, ta_add, ta_sub, ta_mul, ta_neg, ta_div]; omega))) only [Int32.reduceMul, up_1, cp_1, rng_1, fn_1, dj_1, Nat.reduceEqDiff, false_and, and_false, true_and, and_true, or_true, true_or, or_false, false_or, not_true_eq_false, not_false_eq_true, ↓reduceIte, eq_self, ne_eq, ti_eq, ti_le, ti_lt, ti_ite, Int32.reduceToInt, ta_add, ta_sub, ta_mul, ta_neg, ta_div]; done) | (simp (disch := (first | omega | (simp (disch := first | omega | (simp only [Int32.reduceToInt]; omega)) only [Int32.reduceToInt, ta_add, ta_sub, ta_mul, ta_neg, ta_div]; omega))) only [Int32.reduceMul, up_1, cp_1, rng_1, fn_1, dj_1, Nat.reduceEqDiff, false_and, and_false, true_and, and_true, or_true, true_or, or_false, false_or, not_true_eq_false, not_false_eq_true, ↓reduceIte, eq_self, ne_eq, ti_eq, ti_le, ti_lt, ti_ite, Int32.reduceToInt, ta_add, ta_sub, ta_mul, ta_neg, ta_div]; omega)))) | (with_reducible refine wi_ifn ?_ ?_; (focus (first | omega | (simp only [Int32.reduceToInt]; omega) | (simp (disch := (first | omega | (simp (disch := first | omega | (simp only [Int32.reduceToInt]; omega)) only [Int32.reduceToInt, ta_add, ta_sub, ta_mul, ta_neg, ta_div]; omega))) only [Int32.reduceMul, up_1, cp_1, rng_1, fn_1, dj_1, Nat.reduceEqDiff, false_and, and_false, true_and, and_true, or_true, true_or, or_false, false_or, not_true_eq_false, not_false_eq_true, ↓reduceIte, eq_self, ne_eq, ti_eq, ti_le, ti_lt, ti_ite, Int32.reduceToInt, ta_add, ta_sub, ta_mul, ta_neg, ta_div]; done) | (simp (disch := (first | omega | (simp (disch := first | omega | (simp only [Int32.reduceToInt]; omega)) only [Int32.reduceToInt, ta_add, ta_sub, ta_mul, ta_neg, ta_div]; omega))) only [Int32.reduceMul, up_1, cp_1, rng_1, fn_1, dj_1, Nat.reduceEqDiff, false_and, and_false, true_and, and_true, or_true, true_or, or_false, false_or, not_true_eq_false, not_false_eq_true, ↓reduceIte, eq_self, ne_eq, ti_eq, ti_le, ti_lt, ti_ite, Int32.reduceToInt, ta_add, ta_sub, ta_mul, ta_neg, ta_div]; omega)))) | (with_reducible refine wi_ck ?_ ?_; (focus (first | omega | (simp only [Int32.reduceToInt]; omega) | (simp (disch := (first | omega | (simp (disch := first | omega | (simp only [Int32.reduceToInt]; omega)) only [Int32.reduceToInt, ta_add, ta_sub, ta_mul, ta_neg, ta_div]; omega))) only [Int32.reduceMul, up_1, cp_1, rng_1, fn_1, dj_1, Nat.reduceEqDiff, false_and, and_false, true_and, and_true, or_true, true_or, or_false, false_or, not_true_eq_false, not_false_eq_true, ↓reduceIte, eq_self, ne_eq, ti_eq, ti_le, ti_lt, ti_ite, Int32.reduceToInt, ta_add, ta_sub, ta_mul, ta_neg, ta_div]; done) | (simp (disch := (first | omega | (simp (disch := first | omega | (simp only [Int32.reduceToInt]; omega)) only [Int32.reduceToInt, ta_add, ta_sub, ta_mul, ta_neg, ta_div]; omega))) only [Int32.reduceMul, up_1, cp_1, rng_1, fn_1, dj_1, Nat.reduceEqDiff, false_and, and_false, true_and, and_true, or_true, true_or, or_false, false_or, not_true_eq_false, not_false_eq_true, ↓reduceIte, eq_self, ne_eq, ti_eq, ti_le, ti_lt, ti_ite, Int32.reduceToInt, ta_add, ta_sub, ta_mul, ta_neg, ta_div]; omega)))) | with_reducible refine wi_bd2 ?_ | with_reducible refine wi_bd1 ?_ | with_reducible refine wi_bd3 ?_ | (with_reducible refine wi_some ?_; try dsimp only) | unfold f_X9_takeIn))
  refine wp_m hg (fun c1 h => ?_)
  obtain ⟨⟨p1, p2⟩, p3⟩ := h
  by_cases cF : k < F
  · (repeat (first | with_reducible refine wi_t (ly_o90 hz) ?_ | with_reducible refine wi_r (ly_r0_7 hz) ?_ | with_reducible refine wi_t (ly_o91 hz) ?_ | with_reducible refine wi_r (ly_r90_0 hz) ?_ | with_reducible refine wi_lt ?_ | (with_reducible refine wi_ifp ?_ ?_; (focus (first | omega | (simp only [Int32.reduceToInt]; omega) | (simp (disch := (first | omega | (simp (disch := first | omega | (simp only [Int32.reduceToInt]; omega)) only [Int32.reduceToInt, ta_add, ta_sub, ta_mul, ta_neg, ta_div]; omega))) only [ek, p1, Int32.reduceMul, up_1, cp_1, rng_1, fn_1, dj_1, Nat.reduceEqDiff, false_and, and_false, true_and, and_true, or_true, true_or, or_false, false_or, not_true_eq_false, not_false_eq_true, ↓reduceIte, eq_self, ne_eq, ti_eq, ti_le, ti_lt, ti_ite, Int32.reduceToInt, ta_add, ta_sub, ta_mul, ta_neg, ta_div]; done) | (simp (disch := (first | omega | (simp (disch := first | omega | (simp only [Int32.reduceToInt]; omega)) only [Int32.reduceToInt, ta_add, ta_sub, ta_mul, ta_neg, ta_div]; omega))) only [ek, p1, Int32.reduceMul, up_1, cp_1, rng_1, fn_1, dj_1, Nat.reduceEqDiff, false_and, and_false, true_and, and_true, or_true, true_or, or_false, false_or, not_true_eq_false, not_false_eq_true, ↓reduceIte, eq_self, ne_eq, ti_eq, ti_le, ti_lt, ti_ite, Int32.reduceToInt, ta_add, ta_sub, ta_mul, ta_neg, ta_div]; omega)))) | (with_reducible refine wi_ifn ?_ ?_; (focus (first | omega | (simp only [Int32.reduceToInt]; omega) | (simp (disch := (first | omega | (simp (disch := first | omega | (simp only [Int32.reduceToInt]; omega)) only [Int32.reduceToInt, ta_add, ta_sub, ta_mul, ta_neg, ta_div]; omega))) only [ek, p1, Int32.reduceMul, up_1, cp_1, rng_1, fn_1, dj_1, Nat.reduceEqDiff, false_and, and_false, true_and, and_true, or_true, true_or, or_false, false_or, not_true_eq_false, not_false_eq_true, ↓reduceIte, eq_self, ne_eq, ti_eq, ti_le, ti_lt, ti_ite, Int32.reduceToInt, ta_add, ta_sub, ta_mul, ta_neg, ta_div]; done) | (simp (disch := (first | omega | (simp (disch := first | omega | (simp only [Int32.reduceToInt]; omega)) only [Int32.reduceToInt, ta_add, ta_sub, ta_mul, ta_neg, ta_div]; omega))) only [ek, p1, Int32.reduceMul, up_1, cp_1, rng_1, fn_1, dj_1, Nat.reduceEqDiff, false_and, and_false, true_and, and_true, or_true, true_or, or_false, false_or, not_true_eq_false, not_false_eq_true, ↓reduceIte, eq_self, ne_eq, ti_eq, ti_le, ti_lt, ti_ite, Int32.reduceToInt, ta_add, ta_sub, ta_mul, ta_neg, ta_div]; omega)))) | (with_reducible refine wi_ck ?_ ?_; (focus (first | omega | (simp only [Int32.reduceToInt]; omega) | (simp (disch := (first | omega | (simp (disch := first | omega | (simp only [Int32.reduceToInt]; omega)) only [Int32.reduceToInt, ta_add, ta_sub, ta_mul, ta_neg, ta_div]; omega))) only [ek, p1, Int32.reduceMul, up_1, cp_1, rng_1, fn_1, dj_1, Nat.reduceEqDiff, false_and, and_false, true_and, and_true, or_true, true_or, or_false, false_or, not_true_eq_false, not_false_eq_true, ↓reduceIte, eq_self, ne_eq, ti_eq, ti_le, ti_lt, ti_ite, Int32.reduceToInt, ta_add, ta_sub, ta_mul, ta_neg, ta_div]; done) | (simp (disch := (first | omega | (simp (disch := first | omega | (simp only [Int32.reduceToInt]; omega)) only [Int32.reduceToInt, ta_add, ta_sub, ta_mul, ta_neg, ta_div]; omega))) only [ek, p1, Int32.reduceMul, up_1, cp_1, rng_1, fn_1, dj_1, Nat.reduceEqDiff, false_and, and_false, true_and, and_true, or_true, true_or, or_false, false_or, not_true_eq_false, not_false_eq_true, ↓reduceIte, eq_self, ne_eq, ti_eq, ti_le, ti_lt, ti_ite, Int32.reduceToInt, ta_add, ta_sub, ta_mul, ta_neg, ta_div]; omega)))) | with_reducible refine wi_bd2 ?_ | with_reducible refine wi_bd1 ?_ | with_reducible refine wi_bd3 ?_ | (with_reducible refine wi_some ?_; try dsimp only)))
    exact key c1 (fun a i _ _ => by rw [p1]) p2 p3 ⟨by rw [p1, hQ, if_neg (by omega)]; omega, fun h => absurd h (by omega), fun _ _ => by rw [p1]⟩
  · have nQ : ix_n (c1.1 90 16) = Q := ni_k (by rw [p1]; exact hQ)
    have hQ' : (c1.1 90 16).toInt = Q := by rw [p1]; exact hQ
    have e16 : (ix_di c1 119 Q (nI k - c1.1 91 16)).1 90 16 = c1.1 90 16 := by simp only [up_1, Nat.reduceEqDiff, false_and, and_false, true_and, and_true, or_true, true_or, or_false, false_or, not_true_eq_false, not_false_eq_true, ↓reduceIte, eq_self, ne_eq]
    have ekF : nI k - c1.1 91 16 = nI (k - F) := Int32.toInt_inj.mp (by
      rw [nI_ti (by omega), p1]
      have : (nI k - c.1 91 16).toInt = (k : Int) - (c.1 91 16).toInt := by (focus (first | omega | (simp only [Int32.reduceToInt]; omega) | (simp (disch := (first | omega | (simp (disch := first | omega | (simp only [Int32.reduceToInt]; omega)) only [Int32.reduceToInt, ta_add, ta_sub, ta_mul, ta_neg, ta_div]; omega))) only [ek, Int32.reduceMul, up_1, cp_1, rng_1, fn_1, dj_1, Nat.reduceEqDiff, false_and, and_false, true_and, and_true, or_true, true_or, or_false, false_or, not_true_eq_false, not_false_eq_true, ↓reduceIte, eq_self, ne_eq, ti_eq, ti_le, ti_lt, ti_ite, Int32.reduceToInt, ta_add, ta_sub, ta_mul, ta_neg, ta_div]; done) | (simp (disch := (first | omega | (simp (disch := first | omega | (simp only [Int32.reduceToInt]; omega)) only [Int32.reduceToInt, ta_add, ta_sub, ta_mul, ta_neg, ta_div]; omega))) only [ek, Int32.reduceMul, up_1, cp_1, rng_1, fn_1, dj_1, Nat.reduceEqDiff, false_and, and_false, true_and, and_true, or_true, true_or, or_false, false_or, not_true_eq_false, not_false_eq_true, ↓reduceIte, eq_self, ne_eq, ti_eq, ti_le, ti_lt, ti_ite, Int32.reduceToInt, ta_add, ta_sub, ta_mul, ta_neg, ta_div]; omega)))
      omega)
    (repeat (first | rw [nQ] | rw [e16] | rw [ekF] | with_reducible refine wi_t (ly_o90 hz) ?_ | with_reducible refine wi_r (ly_r0_7 hz) ?_ | with_reducible refine wi_t (ly_o91 hz) ?_ | with_reducible refine wi_r (ly_r90_0 hz) ?_ | with_reducible refine wi_r (ly_r90_15 hz) ?_ | with_reducible refine wi_t (ly_a119 hz) ?_ | (with_reducible refine wi_x (ly_i119 hz) ?_ ?_ ?_; (focus (first | omega | (simp only [Int32.reduceToInt]; omega) | (simp (disch := (first | omega | (simp (disch := first | omega | (simp only [Int32.reduceToInt]; omega)) only [Int32.reduceToInt, ta_add, ta_sub, ta_mul, ta_neg, ta_div]; omega))) only [ek, p1, nl, hQ, ly_n119 hz, Int32.reduceMul, up_1, cp_1, rng_1, fn_1, dj_1, Nat.reduceEqDiff, false_and, and_false, true_and, and_true, or_true, true_or, or_false, false_or, not_true_eq_false, not_false_eq_true, ↓reduceIte, eq_self, ne_eq, ti_eq, ti_le, ti_lt, ti_ite, Int32.reduceToInt, ta_add, ta_sub, ta_mul, ta_neg, ta_div]; done) | (simp (disch := (first | omega | (simp (disch := first | omega | (simp only [Int32.reduceToInt]; omega)) only [Int32.reduceToInt, ta_add, ta_sub, ta_mul, ta_neg, ta_div]; omega))) only [ek, p1, nl, hQ, ly_n119 hz, Int32.reduceMul, up_1, cp_1, rng_1, fn_1, dj_1, Nat.reduceEqDiff, false_and, and_false, true_and, and_true, or_true, true_or, or_false, false_or, not_true_eq_false, not_false_eq_true, ↓reduceIte, eq_self, ne_eq, ti_eq, ti_le, ti_lt, ti_ite, Int32.reduceToInt, ta_add, ta_sub, ta_mul, ta_neg, ta_div]; omega))); (focus (first | omega | (simp only [Int32.reduceToInt]; omega) | (simp (disch := (first | omega | (simp (disch := first | omega | (simp only [Int32.reduceToInt]; omega)) only [Int32.reduceToInt, ta_add, ta_sub, ta_mul, ta_neg, ta_div]; omega))) only [ek, p1, nl, hQ, ly_n119 hz, Int32.reduceMul, up_1, cp_1, rng_1, fn_1, dj_1, Nat.reduceEqDiff, false_and, and_false, true_and, and_true, or_true, true_or, or_false, false_or, not_true_eq_false, not_false_eq_true, ↓reduceIte, eq_self, ne_eq, ti_eq, ti_le, ti_lt, ti_ite, Int32.reduceToInt, ta_add, ta_sub, ta_mul, ta_neg, ta_div]; done) | (simp (disch := (first | omega | (simp (disch := first | omega | (simp only [Int32.reduceToInt]; omega)) only [Int32.reduceToInt, ta_add, ta_sub, ta_mul, ta_neg, ta_div]; omega))) only [ek, p1, nl, hQ, ly_n119 hz, Int32.reduceMul, up_1, cp_1, rng_1, fn_1, dj_1, Nat.reduceEqDiff, false_and, and_false, true_and, and_true, or_true, true_or, or_false, false_or, not_true_eq_false, not_false_eq_true, ↓reduceIte, eq_self, ne_eq, ti_eq, ti_le, ti_lt, ti_ite, Int32.reduceToInt, ta_add, ta_sub, ta_mul, ta_neg, ta_div]; omega)))) | with_reducible refine wi_lt ?_ | (with_reducible refine wi_ifp ?_ ?_; (focus (first | omega | (simp only [Int32.reduceToInt]; omega) | (simp (disch := (first | omega | (simp (disch := first | omega | (simp only [Int32.reduceToInt]; omega)) only [Int32.reduceToInt, ta_add, ta_sub, ta_mul, ta_neg, ta_div]; omega))) only [ek, p1, nl, hQ, ly_n119 hz, Int32.reduceMul, up_1, cp_1, rng_1, fn_1, dj_1, Nat.reduceEqDiff, false_and, and_false, true_and, and_true, or_true, true_or, or_false, false_or, not_true_eq_false, not_false_eq_true, ↓reduceIte, eq_self, ne_eq, ti_eq, ti_le, ti_lt, ti_ite, Int32.reduceToInt, ta_add, ta_sub, ta_mul, ta_neg, ta_div]; done) | (simp (disch := (first | omega | (simp (disch := first | omega | (simp only [Int32.reduceToInt]; omega)) only [Int32.reduceToInt, ta_add, ta_sub, ta_mul, ta_neg, ta_div]; omega))) only [ek, p1, nl, hQ, ly_n119 hz, Int32.reduceMul, up_1, cp_1, rng_1, fn_1, dj_1, Nat.reduceEqDiff, false_and, and_false, true_and, and_true, or_true, true_or, or_false, false_or, not_true_eq_false, not_false_eq_true, ↓reduceIte, eq_self, ne_eq, ti_eq, ti_le, ti_lt, ti_ite, Int32.reduceToInt, ta_add, ta_sub, ta_mul, ta_neg, ta_div]; omega)))) | (with_reducible refine wi_ifn ?_ ?_; (focus (first | omega | (simp only [Int32.reduceToInt]; omega) | (simp (disch := (first | omega | (simp (disch := first | omega | (simp only [Int32.reduceToInt]; omega)) only [Int32.reduceToInt, ta_add, ta_sub, ta_mul, ta_neg, ta_div]; omega))) only [ek, p1, nl, hQ, ly_n119 hz, Int32.reduceMul, up_1, cp_1, rng_1, fn_1, dj_1, Nat.reduceEqDiff, false_and, and_false, true_and, and_true, or_true, true_or, or_false, false_or, not_true_eq_false, not_false_eq_true, ↓reduceIte, eq_self, ne_eq, ti_eq, ti_le, ti_lt, ti_ite, Int32.reduceToInt, ta_add, ta_sub, ta_mul, ta_neg, ta_div]; done) | (simp (disch := (first | omega | (simp (disch := first | omega | (simp only [Int32.reduceToInt]; omega)) only [Int32.reduceToInt, ta_add, ta_sub, ta_mul, ta_neg, ta_div]; omega))) only [ek, p1, nl, hQ, ly_n119 hz, Int32.reduceMul, up_1, cp_1, rng_1, fn_1, dj_1, Nat.reduceEqDiff, false_and, and_false, true_and, and_true, or_true, true_or, or_false, false_or, not_true_eq_false, not_false_eq_true, ↓reduceIte, eq_self, ne_eq, ti_eq, ti_le, ti_lt, ti_ite, Int32.reduceToInt, ta_add, ta_sub, ta_mul, ta_neg, ta_div]; omega)))) | (with_reducible refine wi_ck ?_ ?_; (focus (first | omega | (simp only [Int32.reduceToInt]; omega) | (simp (disch := (first | omega | (simp (disch := first | omega | (simp only [Int32.reduceToInt]; omega)) only [Int32.reduceToInt, ta_add, ta_sub, ta_mul, ta_neg, ta_div]; omega))) only [ek, p1, nl, hQ, ly_n119 hz, Int32.reduceMul, up_1, cp_1, rng_1, fn_1, dj_1, Nat.reduceEqDiff, false_and, and_false, true_and, and_true, or_true, true_or, or_false, false_or, not_true_eq_false, not_false_eq_true, ↓reduceIte, eq_self, ne_eq, ti_eq, ti_le, ti_lt, ti_ite, Int32.reduceToInt, ta_add, ta_sub, ta_mul, ta_neg, ta_div]; done) | (simp (disch := (first | omega | (simp (disch := first | omega | (simp only [Int32.reduceToInt]; omega)) only [Int32.reduceToInt, ta_add, ta_sub, ta_mul, ta_neg, ta_div]; omega))) only [ek, p1, nl, hQ, ly_n119 hz, Int32.reduceMul, up_1, cp_1, rng_1, fn_1, dj_1, Nat.reduceEqDiff, false_and, and_false, true_and, and_true, or_true, true_or, or_false, false_or, not_true_eq_false, not_false_eq_true, ↓reduceIte, eq_self, ne_eq, ti_eq, ti_le, ti_lt, ti_ite, Int32.reduceToInt, ta_add, ta_sub, ta_mul, ta_neg, ta_div]; omega)))) | with_reducible refine wi_bd2 ?_ | with_reducible refine wi_bd1 ?_ | with_reducible refine wi_bd3 ?_ | (with_reducible refine wi_some ?_; try dsimp only)))
    refine key _ (fun a i q1 q2 => ?_) p2 p3 ⟨?_, fun _ => ?_, fun i hi => ?_⟩
    · simp only [up_1]
      rw [if_neg (by omega), if_neg (by omega), p1]
    · simp only [up_1, Nat.reduceEqDiff, false_and, and_false, true_and, and_true, or_true, true_or, or_false, false_or, not_true_eq_false, not_false_eq_true, ↓reduceIte, eq_self, ne_eq]
      rw [if_pos (show F ≤ k by omega), p1]
      have : (c.1 90 16 + 1).toInt = (c.1 90 16).toInt + 1 := by (focus (first | omega | (simp only [Int32.reduceToInt]; omega) | (simp (disch := (first | omega | (simp (disch := first | omega | (simp only [Int32.reduceToInt]; omega)) only [Int32.reduceToInt, ta_add, ta_sub, ta_mul, ta_neg, ta_div]; omega))) only [Int32.reduceMul, up_1, cp_1, rng_1, fn_1, dj_1, Nat.reduceEqDiff, false_and, and_false, true_and, and_true, or_true, true_or, or_false, false_or, not_true_eq_false, not_false_eq_true, ↓reduceIte, eq_self, ne_eq, ti_eq, ti_le, ti_lt, ti_ite, Int32.reduceToInt, ta_add, ta_sub, ta_mul, ta_neg, ta_div]; done) | (simp (disch := (first | omega | (simp (disch := first | omega | (simp only [Int32.reduceToInt]; omega)) only [Int32.reduceToInt, ta_add, ta_sub, ta_mul, ta_neg, ta_div]; omega))) only [Int32.reduceMul, up_1, cp_1, rng_1, fn_1, dj_1, Nat.reduceEqDiff, false_and, and_false, true_and, and_true, or_true, true_or, or_false, false_or, not_true_eq_false, not_false_eq_true, ↓reduceIte, eq_self, ne_eq, ti_eq, ti_le, ti_lt, ti_ite, Int32.reduceToInt, ta_add, ta_sub, ta_mul, ta_neg, ta_div]; omega)))
      omega
    · simp only [up_1, Nat.reduceEqDiff, false_and, and_false, true_and, and_true, or_true, true_or, or_false, false_or, not_true_eq_false, not_false_eq_true, ↓reduceIte, eq_self, ne_eq]
    · simp only [up_1]
      rw [if_neg (by omega), if_neg (by omega), p1]
def gu_90 (c0 : ix_D2) (ks : Nat → Nat) (w : Nat) : Nat → Int64
  | 0 => 0
  | i + 1 => gp_ (c0.1 93) (c0.1 103) (fun m w => c0.2 113 (8 * m + w)) w (gu_90 c0 ks w i ||| gr_90 c0 (ks i) w) (ix_n (c0.1 94 (ks i))) (ix_n (c0.1 94 (ks i + 1)) - ix_n (c0.1 94 (ks i)))
theorem gu_c90 {ks' : Nat → Nat} {w : Nat} : ∀ i, (∀ j, j < i → ks j = ks' j) → gu_90 c0 ks w i = gu_90 c0 ks' w i
  | 0, _ => rfl
  | i + 1, h => by
    show gp_ _ _ _ _ (gu_90 c0 ks w i ||| gr_90 c0 (ks i) w) _ _ = gp_ _ _ _ _ (gu_90 c0 ks' w i ||| gr_90 c0 (ks' i) w) _ _
    rw [gu_c90 i (fun j hj => h j (by omega)), h i (by omega)]
/-- the walk, on both sides -/
def wk_90 (c0 r0 : ix_D2) (rn ks : Nat → Nat) (U : Nat) (c r : ix_D2) : Prop :=
  (∀ a i, a ≠ 117 → a ≠ 119 → (a ≠ 90 ∨ i ≠ 16) → c.1 a i = c0.1 a i) ∧ (∀ a i, a ≠ 114 → c.2 a i = c0.2 a i) ∧ (∀ a i, a ≠ 192 → a ≠ 193 → a ≠ 194 → (a ≠ 125 ∨ (i ≠ 104 ∧ i ≠ 106)) → r.1 a i = r0.1 a i) ∧ r.2 = r0.2 ∧ mr_ r (c.1 117) ∧ (r.1 125 106).toInt = (U : Int) ∧ (∀ i, i < U → (ks i : Int) < (c0.1 92 2).toInt ∧ r.1 194 i = nI (rn (ks i)) ∧ ∀ p, in_90 c0 (ks i) p → vl_ c0.1 101 (c0.1 93 p) ≠ 0) ∧ (c.1 90 16).toInt = (qc_ ks (ix_n (c0.1 91 16)) U : Int) ∧ (∀ i, i < U → ix_n (c0.1 91 16) ≤ ks i → c.1 119 (qc_ ks (ix_n (c0.1 91 16)) i) = nI (ks i - ix_n (c0.1 91 16))) ∧ ∀ w, w < 8 → c.2 114 w = gu_90 c0 ks w U
/-- one row taken in, on both sides -/
theorem e_tu90 (hz : ly_z z) (hn : 20000 ≤ n) (hb : bi_90 c0) (hrr : rr_90 c0 r0 rn) (htk : tk_90 c0) (hrt : rt_90 c0 r0 rn) (hla : la_90 c0) (h800 : (c0.1 92 2).toInt - (c0.1 91 16).toInt ≤ 800) (h500 : (c0.1 91 15).toInt ≤ 500) {U k S Y t : Nat} (hw : wk_90 c0 r0 rn ks U c r) (hU : U < 320) (hk : (k : Int) < (c0.1 92 2).toInt) (hS : S = ix_n (c0.1 94 k)) (hY : (S : Int) + Y = (c0.1 94 (k + 1)).toInt) (et : (t : Int) = (c0.1 91 12).toInt) (on : ∀ p, in_90 c0 k p → vl_ c0.1 101 (c0.1 93 p) ≠ 0) (hbut : ∀ p, in_90 c0 k p → ((c.1 117 (ix_n (ix_abs (c0.1 93 p)))).toInt = 2 ↔ (ix_n (ix_abs (c0.1 93 p)) : Int) = x.toInt)) (o1 : 0 ≤ (r.1 125 104).toInt) (o2 : (r.1 125 104).toInt ≤ 1000) : wp_t (f_X9_takeIn n z 90 (nI k) (c0.1 91 13) c) (fun u => wp_t (f_X12_useRow n z 125 1 (nI (rn k)) x r) (fun r' => wk_90 c0 r0 rn (fun i => if i = U then k else ks i) (U + 1) u.2 r' ∧ (∀ i, u.2.1 117 i = mj_ (c0.1 93) (c0.1 103) (c.1 117) S Y i) ∧ u.1.toInt = cn_90 c0 (mj_ (c0.1 93) (c0.1 103) (c.1 117) S Y) (c0.1 91 13).toInt t - cn_90 c0 (c.1 117) (c0.1 91 13).toInt t ∧ 0 ≤ u.1.toInt ∧ u.1.toInt ≤ 301 ∧ (r'.1 125 104).toInt = (r.1 125 104).toInt + u.1.toInt)) := by
  obtain ⟨w1, w2, w3, w4, w5, w6, w7, w8, w9, w10⟩ := hw
  have hT := hb.1.2.1
  have rb := rw_b hb.1 hk
  obtain ⟨G1, G2, G3, -⟩ := hrr.2.1
  obtain ⟨F, hF⟩ : ∃ F, F = ix_n (c0.1 91 16) := ⟨_, rfl⟩
  have hF' : (F : Int) = (c0.1 91 16).toInt := by rw [hF]; exact ni_c (by omega)
  rw [← hF] at w8 w9
  have nS := ni_c rb.1
  rw [← hS] at nS
  have f1 : c.1 91 = c0.1 91 := funext fun i => w1 _ _ (by omega) (by omega) (by omega)
  have f2 : c.1 92 = c0.1 92 := funext fun i => w1 _ _ (by omega) (by omega) (by omega)
  have f3 : c.1 93 = c0.1 93 := funext fun i => w1 _ _ (by omega) (by omega) (by omega)
  have f4 : c.1 94 = c0.1 94 := funext fun i => w1 _ _ (by omega) (by omega) (by omega)
  have f11 : c.1 101 = c0.1 101 := funext fun i => w1 _ _ (by omega) (by omega) (by omega)
  have f13 : c.1 103 = c0.1 103 := funext fun i => w1 _ _ (by omega) (by omega) (by omega)
  have f15 : c.1 105 = c0.1 105 := funext fun i => w1 _ _ (by omega) (by omega) (by omega)
  have l22 : c.2 112 = c0.2 112 := funext fun i => w2 _ _ (by omega)
  have l23 : c.2 113 = c0.2 113 := funext fun i => w2 _ _ (by omega)
  have egr : ∀ w, gr_90 c k w = gr_90 c0 k w := fun w => by unfold gr_90; rw [f1, l22]
  have ecn : ∀ mk L, cn_90 c mk L t = cn_90 c0 mk L t := fun mk L => by unfold cn_90; rw [f13, f15]
  have htk' : tk_90 c := by unfold tk_90 vl_; rw [f1, f11, f15]; exact htk
  have onT : ∀ p, S ≤ p → p < S + Y → ∃ i, i < t ∧ ix_n (ix_abs (c0.1 105 i)) = ix_n (ix_abs (c0.1 93 p)) := fun p p1 p2 => by
    have hi := rw_i hb.1 hk (p := p) (by omega)
    obtain ⟨b1, b2, b3, b4⟩ := na_b hi.1 hi.2.1 hi.2.2
    have hv := on p ⟨by omega, by omega⟩
    have : (c0.1 101 (ix_n (ix_abs (c0.1 93 p)))).toInt ≠ 0 := by
      intro e
      rw [vl_a] at hv
      split at hv <;> omega
    obtain ⟨i, i1, i2⟩ := hla.2.2.2.2.2 _ b1 b2 this
    exact ⟨i, by omega, i2⟩
  have hqb := qc_b (ks := ks) (F := F) U
  have hti := e_ti90 (n := n) (c := c) (x := c0.1 91 13) hz hn (rw_cg hb.1 (by rw [f2]) f4 f3) htk' (t := t) (k := k) (S := S) (Y := Y) (Q := qc_ ks F U) (F := F) (by rw [f1]; exact et) (by rw [f2]; exact hk) (by rw [f4]; exact hS) (by rw [f4]; exact hY) (by rw [f3, f15]; exact onT) (by rw [f1]; exact G1) (by rw [f1]; exact h500) (by rw [f1]; exact hF') (by omega) w8 (by omega)
  refine wp_m hti (fun u h => ?_)
  obtain ⟨u1, u2, u3, u4, u5, u6, u7, u8, u9, u10⟩ := h
  rw [f3, f13] at u3
  rw [ecn, ecn, f3, f13] at u4
  obtain ⟨ra1, ra2, ra3⟩ := hrr.1 k hk
  have q143 : r.1 143 = r0.1 143 := funext fun i => w3 _ _ (by omega) (by omega) (by omega) (by omega)
  have q144 : r.1 144 = r0.1 144 := funext fun i => w3 _ _ (by omega) (by omega) (by omega) (by omega)
  have q147 : r.1 147 = r0.1 147 := funext fun i => w3 _ _ (by omega) (by omega) (by omega) (by omega)
  have q148 : r.1 148 = r0.1 148 := funext fun i => w3 _ _ (by omega) (by omega) (by omega) (by omega)
  have q176 : r.1 176 = r0.1 176 := funext fun i => w3 _ _ (by omega) (by omega) (by omega) (by omega)
  have q177 : r.1 177 = r0.1 177 := funext fun i => w3 _ _ (by omega) (by omega) (by omega) (by omega)
  have q66 : r.1 125 66 = r0.1 125 66 := w3 _ _ (by omega) (by omega) (by omega) (by omega)
  have vz : vr_ r.1 1 (rn k) ∧ rz_ r.1 1 (rn k) = rz_ r0.1 1 (rn k) ∧ ∀ j, ri_ r.1 1 (rn k) j = ri_ r0.1 1 (rn k) j := by
    refine ⟨?_, ?_, fun j => ?_⟩
    · unfold vr_; rw [q143, q147, q176, q66]; exact ra1
    · unfold rz_; rw [q143, q147, q176, q66]
    · unfold ri_; rw [q143, q144, q148, q176, q177, q66]
  have hur := e_ur90 (n := n) (c := c0) (r := r) (x := x) hz hn (mk := c.1 117) (row := rn k) (Y := Y) (S := S) (t := t) (U := U) (L := (c0.1 91 13).toInt) vz.1 (by rw [vz.2.1]; omega) (by omega) (fun j hj => by rw [vz.2.2, ra3 j (by omega), ← hS]) (fun j hj => rw_i hb.1 hk (by omega)) htk et (fun j hj => onT (S + j) (by omega) (by omega)) (fun j hj => by
    obtain ⟨i, i1, i2⟩ := onT (S + j) (by omega) (by omega)
    have g1 := (hrt.2.2.1 i (by omega)).2.1
    have g2 := (hla.2.1 i (by omega)).1
    unfold le_90 at g2
    rw [i2] at g1 g2
    rw [w3 _ _ (by omega) (by omega) (by omega) (by omega)]
    exact ⟨g1, g2⟩) (by rw [w3 _ _ (by omega) (by omega) (by omega) (by omega), hrt.2.1]) w5 (fun j hj => hbut (S + j) ⟨by omega, by omega⟩) w6.symm hU o1 o2
  refine wp_m hur (fun r' h => ?_)
  obtain ⟨v1, v2, v3, v4, v5, v6, v7⟩ := h
  have ks' : ∀ j, j < U → ks j = (fun i => if i = U then k else ks i) j := fun j hj => (if_neg (by omega)).symm
  have eq1 : qc_ (fun i => if i = U then k else ks i) F U = qc_ ks F U := (qc_c U ks').symm
  have e27 : u.2.1 117 = mj_ (c0.1 93) (c0.1 103) (c.1 117) S Y := funext u3
  refine ⟨⟨fun a i p1 p2 p3 => (u1 a i p1 p2 p3).trans (w1 a i p1 p2 p3), fun a i p => (u2 a i p).trans (w2 a i p), fun a i p1 p2 p3 p4 => (v1 a i p1 p2 p3 p4).trans (w3 a i p1 p2 p3 p4), v2.trans w4, by rw [e27]; exact v3, by rw [v5]; omega, fun i hi => ?_, ?_, fun i hi hf => ?_, fun w hw => ?_⟩, u3, u4, u5, by omega, by rw [v4, u4]; omega⟩
  · dsimp only
    by_cases e : i = U
    · rw [if_pos e, e]; exact ⟨hk, v6, on⟩
    · rw [if_neg e, v7 i e]
      exact w7 i (by omega)
  · rw [u8, ← hF]
    show _ = ((qc_ (fun i => if i = U then k else ks i) F U + (if F ≤ (if U = U then k else ks U) then 1 else 0) : Nat) : Int)
    rw [eq1, if_pos rfl]
    split <;> omega
  · rw [← hF] at hf ⊢
    dsimp only at hf ⊢
    by_cases e : i = U
    · subst e
      rw [if_pos rfl] at hf ⊢
      rw [eq1]
      exact u9 hf
    · rw [if_neg e] at hf ⊢
      rw [qc_c i (fun j hj => (if_neg (by omega) : (if j = U then k else ks j) = ks j))]
      rw [u10 _ (qc_m (by omega) hf)]
      exact w9 i (by omega) hf
  · rw [u7 w hw, f3, f13, l23, egr, w10 w hw]
    show _ = gp_ _ _ _ w (gu_90 c0 (fun i => if i = U then k else ks i) w U ||| gr_90 c0 (if U = U then k else ks U) w) (ix_n (c0.1 94 (if U = U then k else ks U))) (ix_n (c0.1 94 ((if U = U then k else ks U) + 1)) - ix_n (c0.1 94 (if U = U then k else ks U)))
    rw [← gu_c90 U ks', if_pos rfl, ← hS]
    have n2 := ni_c (x := c0.1 94 (k + 1)) (by omega)
    rw [show ix_n (c0.1 94 (k + 1)) - S = Y by omega]
end WKA

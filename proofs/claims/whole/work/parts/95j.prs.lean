/-! TOLD: the tape read on both sides -/
section PSD
variable {n : Nat} {z : ix_Z} {c r d : ix_D2} {M i : Nat}
theorem e_prs (hz : ly_z z) (hn : 100 ≤ n) : ∀ q i, i + q = M → GO_ n z M i := by
  intro q
  induction q using Nat.strongRecOn with
  | ind q ihq =>
    intro i hiq
    have ih : ∀ j, i < j → j ≤ M → GO_ n z M j := fun j h1 h2 => ihq (M - j) (by omega) j (by omega)
    intro N1 N2 c r hN1 hN2
    refine ⟨fun T K V D b h => ?_, fun T k V D h => ?_⟩
    · have tp := h.1
      have hM := tp.1
      obtain ⟨N1, rfl⟩ : ∃ N, N1 = N + 1 := ⟨N1 - 1, by omega⟩
      obtain ⟨N2, rfl⟩ : ∃ N, N2 = N + 1 + 1 := ⟨N2 - 2, by omega⟩
      have p := h.2.2.2.1
      by_cases cM : i = M
      · unfold GOAL_
        have e12 : (c.1 43 12).toInt = 0 := by rw [h.2.1.1]; rfl
        have E := e_bz (n := n) (r := r) hz hM tp.2.2.1
        have q := st_pz (N2 := N2) hz h (by rw [cM]; exact E) (Or.inl (by decide))
        rw [cM] at q ⊢
        refine cl_e hz hM tp.2.1 (by omega) (fun _ => ?_) (fun q _ => by omega)
        refine wp_m q ?_
        rintro u rfl
        exact RES_f (Nat.le_refl _) fr_rf fr_rf
      have hi : i < M := by omega
      have hb := tp.2.2.2 i hi
      have E := e_ba (n := n) (r := r) (i := i) hz hM tp.2.2.1 hi
      by_cases cf : fuT V D
      · unfold GOAL_
        refine cl_0 hz hM tp.2.1 hi (ca_f hz h.2.1.1 h.2.1.2.2.1 p.1 h.2.1.2.2.2.2 cf) ?_
        refine wp_m (st_pz (N2 := N2) hz h E (Or.inr cf)) ?_
        rintro u rfl
        exact RES_f (by omega) fr_rf fr_rf
      by_cases c33 : (c.1 44 i).toInt = 33
      · exact st_pb hz h hi c33 cf (ih (i + 1) (by omega) (by omega)) hN1 hN2
      by_cases c120 : (c.1 44 i).toInt = 120
      · exact st_px hz hn h hi c120 cf ih hN1 hN2
      by_cases cs : 0 ≤ (sgB (c.1 44 i)).toInt
      · obtain ⟨N1, rfl⟩ : ∃ N, N1 = N + 1 := ⟨N1 - 1, by omega⟩
        exact st_po hz hn h hi cs cf (fun q => ih (i + 2) (by omega) q) hN1 hN2
      · unfold GOAL_
        have cs' : (sgB (c.1 44 i)).toInt < 0 := by omega
        have A := ca_p (n := n) hz h.2.1.1 h.2.1.2.2.1 p.1 h.2.1.2.2.2.2 (fun l hl => (p.2.1 l hl).2.1) cf (Or.inl rfl) (ca_n (n := n) (c := c) hz hn hb c120 c33 cs')
        rw [sg_1] at cs'
        refine cl_0 hz hM tp.2.1 hi A ?_
        refine wp_m (st_pz (N2 := N2) hz h E (Or.inl ?_)) ?_
        · unfold tpB at hb; omega
        · rintro u rfl
          exact RES_f (by omega) (fr_di (fr_di fr_rf (Or.inr ⟨rfl, by omega⟩)) (Or.inr ⟨rfl, by omega⟩)) fr_rf
    · cases D with
      | zero => exact st_b0 hz hn h hN1 hN2
      | succ l => exact st_b1 hz hn h (fun q => ih (i + 1) (by omega) q) hN1 hN2
theorem e_read (hz : ly_z z) (hn : 100 ≤ n) (h : TPc c.1 r.1 M) : wp_t (f_X4_readTape n z 43 c) (fun t => wp_t (f_X12_faultOfTape n z 125 r) (fun u => REZ_ M c r t u)) := by
  obtain ⟨c1, hc1⟩ : ∃ c1, c1 = ix_di (ix_di (ix_di (ix_di c 43 7 0) 43 11 0) 43 14 0) 43 12 0 := ⟨_, rfl⟩
  obtain ⟨r1, hr1⟩ : ∃ r1, r1 = ix_di (ix_di (ix_di (ix_di (ix_di (ix_di r 125 46 0) 125 42 0) 125 49 0) 125 50 0) 125 51 0) 125 52 1 := ⟨_, rfl⟩
  have f1 : fr_ok fT_C c c1 := by
    rw [hc1]
    exact fr_di (fr_di (fr_di (fr_di fr_rf (Or.inr ⟨rfl, by omega⟩)) (Or.inr ⟨rfl, by omega⟩)) (Or.inr ⟨rfl, by omega⟩)) (Or.inr ⟨rfl, by omega⟩)
  have f2 : fr_ok fT_R r r1 := by
    rw [hr1]
    exact fr_di (fr_di (fr_di (fr_di (fr_di (fr_di fr_rf (Or.inr (Or.inr ⟨rfl, by omega⟩))) (Or.inr (Or.inr ⟨rfl, by omega⟩))) (Or.inr (Or.inr ⟨rfl, by omega⟩))) (Or.inr (Or.inr ⟨rfl, by omega⟩))) (Or.inr (Or.inr ⟨rfl, by omega⟩))) (Or.inr (Or.inr ⟨rfl, by omega⟩))
  have hM := h.1
  have key : tPS_ c1 r1 M 0 (fun _ => (0, 0, 0, 0)) 0 (fun _ => (0, 0, 0)) 0 0 := by
    refine ⟨TPc_f h f1 f2, ⟨?_, ?_, ?_, ?_, fun l hl => by omega⟩, ⟨?_, ?_, ?_, ?_, ?_, ?_, fun l hl => by omega, fun j hj => by omega⟩, ⟨by omega, fun l hl => by omega, rfl, Nat.le_refl _, Nat.le_refl _, by omega, fun q => by omega⟩, fun k hk => by omega⟩
    all_goals first | (rw [hc1]; simp only [up_1, Nat.reduceEqDiff, false_and, and_false, true_and, and_true, or_true, true_or, or_false, false_or, not_true_eq_false, not_false_eq_true, ↓reduceIte, eq_self, ne_eq]; done) | (rw [hr1]; simp only [up_1, Nat.reduceEqDiff, false_and, and_false, true_and, and_true, or_true, true_or, or_false, false_or, not_true_eq_false, not_false_eq_true, ↓reduceIte, eq_self, ne_eq]; done) | (rw [hc1]; simp only [up_1, Nat.reduceEqDiff, false_and, and_false, true_and, and_true, or_true, true_or, or_false, false_or, not_true_eq_false, not_false_eq_true, ↓reduceIte, eq_self, ne_eq]; rfl) | (rw [hr1]; simp only [up_1, Nat.reduceEqDiff, false_and, and_false, true_and, and_true, or_true, true_or, or_false, false_or, not_true_eq_false, not_false_eq_true, ↓reduceIte, eq_self, ne_eq]; rfl)
  have g := ((e_prs (n := n) (M := M) hz hn M 0 (by omega)) n n c1 r1 (by omega) (by omega)).1 _ _ _ _ _ key
  have g := GO_tr g f1 f2
  (repeat (first | rw [← hc1] | with_reducible refine wi_t (ly_o43 hz) ?_ | with_reducible refine wi_r (ly_r0_2 hz) ?_ | with_reducible refine wi_lt ?_ | (with_reducible refine wi_ifp ?_ ?_; (focus (first | omega | (simp (disch := (first | omega | (simp (disch := first | omega | (simp only [Int32.reduceToInt]; omega)) only [Int32.reduceToInt, ta_add, ta_sub, ta_mul, ta_neg, ta_div]; omega))) only [up_1, cp_1, rng_1, fn_1, dj_1, Nat.reduceEqDiff, false_and, and_false, true_and, and_true, or_true, true_or, or_false, false_or, not_true_eq_false, not_false_eq_true, ↓reduceIte, eq_self, ne_eq, ti_eq, ti_le, ti_lt, ti_ite, Int32.reduceToInt, ta_add, ta_sub, ta_mul, ta_neg, ta_div]; done) | (simp (disch := (first | omega | (simp (disch := first | omega | (simp only [Int32.reduceToInt]; omega)) only [Int32.reduceToInt, ta_add, ta_sub, ta_mul, ta_neg, ta_div]; omega))) only [up_1, cp_1, rng_1, fn_1, dj_1, Nat.reduceEqDiff, false_and, and_false, true_and, and_true, or_true, true_or, or_false, false_or, not_true_eq_false, not_false_eq_true, ↓reduceIte, eq_self, ne_eq, ti_eq, ti_le, ti_lt, ti_ite, Int32.reduceToInt, ta_add, ta_sub, ta_mul, ta_neg, ta_div]; omega)))) | (with_reducible refine wi_ifn ?_ ?_; (focus (first | omega | (simp (disch := (first | omega | (simp (disch := first | omega | (simp only [Int32.reduceToInt]; omega)) only [Int32.reduceToInt, ta_add, ta_sub, ta_mul, ta_neg, ta_div]; omega))) only [up_1, cp_1, rng_1, fn_1, dj_1, Nat.reduceEqDiff, false_and, and_false, true_and, and_true, or_true, true_or, or_false, false_or, not_true_eq_false, not_false_eq_true, ↓reduceIte, eq_self, ne_eq, ti_eq, ti_le, ti_lt, ti_ite, Int32.reduceToInt, ta_add, ta_sub, ta_mul, ta_neg, ta_div]; done) | (simp (disch := (first | omega | (simp (disch := first | omega | (simp only [Int32.reduceToInt]; omega)) only [Int32.reduceToInt, ta_add, ta_sub, ta_mul, ta_neg, ta_div]; omega))) only [up_1, cp_1, rng_1, fn_1, dj_1, Nat.reduceEqDiff, false_and, and_false, true_and, and_true, or_true, true_or, or_false, false_or, not_true_eq_false, not_false_eq_true, ↓reduceIte, eq_self, ne_eq, ti_eq, ti_le, ti_lt, ti_ite, Int32.reduceToInt, ta_add, ta_sub, ta_mul, ta_neg, ta_div]; omega)))) | (with_reducible refine wi_ck ?_ ?_; (focus (first | omega | (simp (disch := (first | omega | (simp (disch := first | omega | (simp only [Int32.reduceToInt]; omega)) only [Int32.reduceToInt, ta_add, ta_sub, ta_mul, ta_neg, ta_div]; omega))) only [up_1, cp_1, rng_1, fn_1, dj_1, Nat.reduceEqDiff, false_and, and_false, true_and, and_true, or_true, true_or, or_false, false_or, not_true_eq_false, not_false_eq_true, ↓reduceIte, eq_self, ne_eq, ti_eq, ti_le, ti_lt, ti_ite, Int32.reduceToInt, ta_add, ta_sub, ta_mul, ta_neg, ta_div]; done) | (simp (disch := (first | omega | (simp (disch := first | omega | (simp only [Int32.reduceToInt]; omega)) only [Int32.reduceToInt, ta_add, ta_sub, ta_mul, ta_neg, ta_div]; omega))) only [up_1, cp_1, rng_1, fn_1, dj_1, Nat.reduceEqDiff, false_and, and_false, true_and, and_true, or_true, true_or, or_false, false_or, not_true_eq_false, not_false_eq_true, ↓reduceIte, eq_self, ne_eq, ti_eq, ti_le, ti_lt, ti_ite, Int32.reduceToInt, ta_add, ta_sub, ta_mul, ta_neg, ta_div]; omega)))) | with_reducible refine wi_bd2 ?_ | with_reducible refine wi_bd1 ?_ | with_reducible refine wi_bd3 ?_ | (with_reducible refine wi_some ?_; try dsimp only) | unfold f_X4_readTape))
  refine wp_m g fun t ht => ?_
  (repeat (first | rw [← hr1] | with_reducible refine wi_t (ly_o125 hz) ?_ | with_reducible refine wi_lt ?_ | (with_reducible refine wi_ifp ?_ ?_; (focus (first | omega | (simp (disch := (first | omega | (simp (disch := first | omega | (simp only [Int32.reduceToInt]; omega)) only [Int32.reduceToInt, ta_add, ta_sub, ta_mul, ta_neg, ta_div]; omega))) only [up_1, cp_1, rng_1, fn_1, dj_1, Nat.reduceEqDiff, false_and, and_false, true_and, and_true, or_true, true_or, or_false, false_or, not_true_eq_false, not_false_eq_true, ↓reduceIte, eq_self, ne_eq, ti_eq, ti_le, ti_lt, ti_ite, Int32.reduceToInt, ta_add, ta_sub, ta_mul, ta_neg, ta_div]; done) | (simp (disch := (first | omega | (simp (disch := first | omega | (simp only [Int32.reduceToInt]; omega)) only [Int32.reduceToInt, ta_add, ta_sub, ta_mul, ta_neg, ta_div]; omega))) only [up_1, cp_1, rng_1, fn_1, dj_1, Nat.reduceEqDiff, false_and, and_false, true_and, and_true, or_true, true_or, or_false, false_or, not_true_eq_false, not_false_eq_true, ↓reduceIte, eq_self, ne_eq, ti_eq, ti_le, ti_lt, ti_ite, Int32.reduceToInt, ta_add, ta_sub, ta_mul, ta_neg, ta_div]; omega)))) | (with_reducible refine wi_ifn ?_ ?_; (focus (first | omega | (simp (disch := (first | omega | (simp (disch := first | omega | (simp only [Int32.reduceToInt]; omega)) only [Int32.reduceToInt, ta_add, ta_sub, ta_mul, ta_neg, ta_div]; omega))) only [up_1, cp_1, rng_1, fn_1, dj_1, Nat.reduceEqDiff, false_and, and_false, true_and, and_true, or_true, true_or, or_false, false_or, not_true_eq_false, not_false_eq_true, ↓reduceIte, eq_self, ne_eq, ti_eq, ti_le, ti_lt, ti_ite, Int32.reduceToInt, ta_add, ta_sub, ta_mul, ta_neg, ta_div]; done) | (simp (disch := (first | omega | (simp (disch := first | omega | (simp only [Int32.reduceToInt]; omega)) only [Int32.reduceToInt, ta_add, ta_sub, ta_mul, ta_neg, ta_div]; omega))) only [up_1, cp_1, rng_1, fn_1, dj_1, Nat.reduceEqDiff, false_and, and_false, true_and, and_true, or_true, true_or, or_false, false_or, not_true_eq_false, not_false_eq_true, ↓reduceIte, eq_self, ne_eq, ti_eq, ti_le, ti_lt, ti_ite, Int32.reduceToInt, ta_add, ta_sub, ta_mul, ta_neg, ta_div]; omega)))) | (with_reducible refine wi_ck ?_ ?_; (focus (first | omega | (simp (disch := (first | omega | (simp (disch := first | omega | (simp only [Int32.reduceToInt]; omega)) only [Int32.reduceToInt, ta_add, ta_sub, ta_mul, ta_neg, ta_div]; omega))) only [up_1, cp_1, rng_1, fn_1, dj_1, Nat.reduceEqDiff, false_and, and_false, true_and, and_true, or_true, true_or, or_false, false_or, not_true_eq_false, not_false_eq_true, ↓reduceIte, eq_self, ne_eq, ti_eq, ti_le, ti_lt, ti_ite, Int32.reduceToInt, ta_add, ta_sub, ta_mul, ta_neg, ta_div]; done) | (simp (disch := (first | omega | (simp (disch := first | omega | (simp only [Int32.reduceToInt]; omega)) only [Int32.reduceToInt, ta_add, ta_sub, ta_mul, ta_neg, ta_div]; omega))) only [up_1, cp_1, rng_1, fn_1, dj_1, Nat.reduceEqDiff, false_and, and_false, true_and, and_true, or_true, true_or, or_false, false_or, not_true_eq_false, not_false_eq_true, ↓reduceIte, eq_self, ne_eq, ti_eq, ti_le, ti_lt, ti_ite, Int32.reduceToInt, ta_add, ta_sub, ta_mul, ta_neg, ta_div]; omega)))) | with_reducible refine wi_bd2 ?_ | with_reducible refine wi_bd1 ?_ | with_reducible refine wi_bd3 ?_ | (with_reducible refine wi_some ?_; try dsimp only) | unfold f_X12_faultOfTape))
  exact ht
end PSD

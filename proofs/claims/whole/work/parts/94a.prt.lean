/-! PRINT: texts, lists, notes -/
def bx_ (s i : Nat) : Int32 := (ix_byt.getD s []).getD i 0
def by_1 (s i : Nat) : Int32 := (((((ix_byt.getD s []).getD i 0) &&& 255).toUInt32 % 65536).toInt32)
theorem by_2 : ∀ s : Fin 6, ∀ i : Fin 5, by_1 s.val i.val = bx_ s.val i.val ∧ 0 ≤ (bx_ s.val i.val).toInt ∧ (bx_ s.val i.val).toInt ≤ 255 := by decide +kernel
theorem by_3 : ∀ s : Fin 6, ix_slen.getD s.val 0 ≤ 5 ∧ (ix_byt.getD s.val []).length = ix_slen.getD s.val 0 := by decide +kernel
theorem nar_c {v : Int32} (h : 0 ≤ v.toInt) (h2 : v.toInt ≤ 255) : narrow .char (.int v) = .int v := by
  have q : vp_nar .char v = v := by
    rw [vp_nar_char]
    have e : v = nI v.toInt.toNat := Int32.toInt_inj.mp (by rw [nI_ti (by omega)]; omega)
    have t : ∀ k : Fin 256, (nI k.val).toUInt32.toUInt16.toUInt32.toInt32 = nI k.val := by decide +kernel
    rw [e]
    exact t ⟨v.toInt.toNat, by omega⟩
  have w : narrow .char (.int v) = .int (vp_nar .char v) := rfl
  rw [w, q]
section PRT
variable {n : Nat} {z : ix_Z} {d r : ix_D2} {v x : Int32} {L M : List Int32} {g : Nat → Int32} {s i N : Nat}
theorem e_len (hs : s < 6) : f_J0_length_8abf5 n z s d = some (nI (ix_slen.getD s 0), d) := by
  rw [← wp_eq]
  unfold f_J0_length_8abf5 f_J0_coder_7d493
  refine wi_ck hs ?_
  refine wi_bd2 ?_
  refine wi_ifn (by decide) ?_
  refine wi_ck hs ?_
  refine wi_some ?_
  refine wi_some ?_
  have t : ∀ s : Fin 6, (nI (ix_slen.getD s.val 0)) >>> ((0 : Int32) &&& 31) = nI (ix_slen.getD s.val 0) := by decide +kernel
  dsimp only
  rw [t ⟨s, hs⟩]
theorem e_chr (hs : s < 6) (hi : i < ix_slen.getD s 0) : f_J0_charAt_5068e n z s (nI i) d = some (bx_ s i, d) := by
  have h5 : ix_slen.getD s 0 ≤ 5 ∧ (ix_byt.getD s []).length = ix_slen.getD s 0 := by_3 ⟨s, hs⟩
  have h2 := by_2 ⟨s, hs⟩ ⟨i, by omega⟩
  dsimp only at h2
  have hl := h5.1
  have ei : (nI i).toInt = i := nI_ti (by omega)
  have ni : ix_n (nI i) = i := nI_n (by omega)
  have el : (nI (ix_slen.getD s 0)).toInt = ix_slen.getD s 0 := nI_ti (by omega)
  have z1 : ¬ ((1 : Int32) = 0) := by decide
  have c1 : ¬ nI i < 0 := by rw [ti_lt, ei]; simp only [Int32.reduceToInt]; omega
  have c2 : nI i < nI (ix_slen.getD s 0) := by rw [ti_lt, ei, el]; omega
  have c3 : s < 6 ∧ vp_in (nI i) (ix_slen.getD s 0) := ⟨hs, (ni_vp (by omega)).mpr ⟨by rw [ti_le, ei]; simp only [Int32.reduceToInt]; omega, by rw [ti_lt, ei, ni_ofNat (by omega)]; omega⟩⟩
  have e1 : (((((ix_byt.getD s []).getD i 0) &&& 255).toUInt32 % 65536).toInt32) = bx_ s i := h2.1
  have c4 := nar_c (v := bx_ s i) h2.2.1 h2.2.2
  rw [← wp_eq]
  unfold f_J0_charAt_5068e f_J0_isLatin1_aae02
  refine wi_ck hs ?_
  refine wi_bd2 ?_
  refine wi_ifn z1 ?_
  refine wi_ck hs ?_
  refine wi_ifp rfl ?_
  refine wi_some ?_
  refine wi_ifn z1 ?_
  unfold f_J1_charAt_3b067 f_J0_checkIndex_df160 f_J3_checkIndex_8e157
  refine wi_bd2 ?_
  refine wi_ck hs ?_
  refine wi_bd1 ?_
  refine wi_bd2 ?_
  refine wi_ifn c1 ?_
  refine wi_ifp c2 ?_
  refine wi_some ?_
  refine wi_some ?_
  refine wi_ck c3 ?_
  rw [ni, e1]
  refine wi_ck c4 ?_
  refine wi_some ?_
  refine wi_ck c4 ?_
  exact wi_some rfl
/-- what stands in the literals -/
def tx_ (s : Nat) : List Int32 := ix_byt.getD s []
theorem tk_s {B : List Int32} {i : Nat} (h : i < B.length) : B.take (i + 1) = B.take i ++ [B.getD i 0] := by
  rw [List.take_succ_eq_append_getElem h, List.getD_eq_getElem?_getD, List.getElem?_eq_getElem h]
  rfl
/-- class: a literal written -/
theorem e_wT (hz : ly_z z) (hn : 100 ≤ n) (hs : s < 6) (h : oC_ d.1 L) (hl : L.length + 5 ≤ 13500) : wp_t (f_X4_writeText n z 43 s d) (fun d1 => oC_ d1.1 (L ++ tx_ s) ∧ fr_ok fo_C d d1) := by
  have h5 := by_3 ⟨s, hs⟩
  dsimp only at h5
  obtain ⟨hl5, hlen⟩ := h5
  unfold f_X4_writeText f_X4_writeText_2
  refine wp_fx2 (J := fun x2 e => ∃ i : Nat, i ≤ ix_slen.getD s 0 ∧ x2 = nI i ∧ oC_ e.1 (L ++ (tx_ s).take i) ∧ fr_ok fo_C d e) (μ := fun x2 _ => 10 - ix_n x2) ?_ n 0 d ⟨0, by omega, rfl, by rw [List.take_zero, List.append_nil]; exact h, fr_rf⟩ (by omega)
  rintro rec x2 e ⟨i, hi, rfl, j1, j2⟩ ih
  have ei : (nI i).toInt = i := nI_ti (by omega)
  have n0 : ix_n (nI i) = i := nI_n (by omega)
  have e1 : nI i + 1 = nI (i + 1) := nI_1 i
  have n1 : ix_n (nI (i + 1)) = i + 1 := nI_n (by omega)
  have el : (nI (ix_slen.getD s 0)).toInt = ix_slen.getD s 0 := nI_ti (by omega)
  have E0 := e_len (n := n) (z := z) (d := e) hs
  unfold b_X4_writeText_2
  by_cases c1 : ix_slen.getD s 0 ≤ i
  · have cl : nI (ix_slen.getD s 0) ≤ nI i := by rw [ti_le]; omega
    (repeat (first | with_reducible refine wi_ck hs ?_ | (with_reducible refine wi_e (E0) ?_; try dsimp only) | with_reducible refine wi_ifp cl ?_ | with_reducible refine wi_t (ly_o43 hz) ?_ | with_reducible refine wi_r (ly_r0_2 hz) ?_ | with_reducible refine wi_lt ?_ | (with_reducible refine wi_ifp ?_ ?_; (focus (first | omega | (simp (disch := (first | omega | (simp (disch := first | omega | (simp only [Int32.reduceToInt]; omega)) only [Int32.reduceToInt, ta_add, ta_sub, ta_mul, ta_neg, ta_div]; omega))) only [up_1, cp_1, rng_1, fn_1, dj_1, Nat.reduceEqDiff, false_and, and_false, true_and, and_true, or_true, true_or, or_false, false_or, not_true_eq_false, not_false_eq_true, ↓reduceIte, eq_self, ne_eq, ti_eq, ti_le, ti_lt, ti_ite, Int32.reduceToInt, ta_add, ta_sub, ta_mul, ta_neg, ta_div]; done) | (simp (disch := (first | omega | (simp (disch := first | omega | (simp only [Int32.reduceToInt]; omega)) only [Int32.reduceToInt, ta_add, ta_sub, ta_mul, ta_neg, ta_div]; omega))) only [up_1, cp_1, rng_1, fn_1, dj_1, Nat.reduceEqDiff, false_and, and_false, true_and, and_true, or_true, true_or, or_false, false_or, not_true_eq_false, not_false_eq_true, ↓reduceIte, eq_self, ne_eq, ti_eq, ti_le, ti_lt, ti_ite, Int32.reduceToInt, ta_add, ta_sub, ta_mul, ta_neg, ta_div]; omega)))) | (with_reducible refine wi_ifn ?_ ?_; (focus (first | omega | (simp (disch := (first | omega | (simp (disch := first | omega | (simp only [Int32.reduceToInt]; omega)) only [Int32.reduceToInt, ta_add, ta_sub, ta_mul, ta_neg, ta_div]; omega))) only [up_1, cp_1, rng_1, fn_1, dj_1, Nat.reduceEqDiff, false_and, and_false, true_and, and_true, or_true, true_or, or_false, false_or, not_true_eq_false, not_false_eq_true, ↓reduceIte, eq_self, ne_eq, ti_eq, ti_le, ti_lt, ti_ite, Int32.reduceToInt, ta_add, ta_sub, ta_mul, ta_neg, ta_div]; done) | (simp (disch := (first | omega | (simp (disch := first | omega | (simp only [Int32.reduceToInt]; omega)) only [Int32.reduceToInt, ta_add, ta_sub, ta_mul, ta_neg, ta_div]; omega))) only [up_1, cp_1, rng_1, fn_1, dj_1, Nat.reduceEqDiff, false_and, and_false, true_and, and_true, or_true, true_or, or_false, false_or, not_true_eq_false, not_false_eq_true, ↓reduceIte, eq_self, ne_eq, ti_eq, ti_le, ti_lt, ti_ite, Int32.reduceToInt, ta_add, ta_sub, ta_mul, ta_neg, ta_div]; omega)))) | (with_reducible refine wi_ck ?_ ?_; (focus (first | omega | (simp (disch := (first | omega | (simp (disch := first | omega | (simp only [Int32.reduceToInt]; omega)) only [Int32.reduceToInt, ta_add, ta_sub, ta_mul, ta_neg, ta_div]; omega))) only [up_1, cp_1, rng_1, fn_1, dj_1, Nat.reduceEqDiff, false_and, and_false, true_and, and_true, or_true, true_or, or_false, false_or, not_true_eq_false, not_false_eq_true, ↓reduceIte, eq_self, ne_eq, ti_eq, ti_le, ti_lt, ti_ite, Int32.reduceToInt, ta_add, ta_sub, ta_mul, ta_neg, ta_div]; done) | (simp (disch := (first | omega | (simp (disch := first | omega | (simp only [Int32.reduceToInt]; omega)) only [Int32.reduceToInt, ta_add, ta_sub, ta_mul, ta_neg, ta_div]; omega))) only [up_1, cp_1, rng_1, fn_1, dj_1, Nat.reduceEqDiff, false_and, and_false, true_and, and_true, or_true, true_or, or_false, false_or, not_true_eq_false, not_false_eq_true, ↓reduceIte, eq_self, ne_eq, ti_eq, ti_le, ti_lt, ti_ite, Int32.reduceToInt, ta_add, ta_sub, ta_mul, ta_neg, ta_div]; omega)))) | with_reducible refine wi_bd2 ?_ | with_reducible refine wi_bd1 ?_ | with_reducible refine wi_bd3 ?_ | (with_reducible refine wi_some ?_; try dsimp only)))
    rw [List.take_of_length_le (by unfold tx_; omega)] at j1
    exact ⟨j1, j2⟩
  · have cl : ¬ nI (ix_slen.getD s 0) ≤ nI i := by rw [ti_le]; omega
    have E1 := e_chr (n := n) (z := z) (d := e) hs (show i < ix_slen.getD s 0 by omega)
    have h2 := (by_2 ⟨s, hs⟩ ⟨i, by omega⟩).2
    dsimp only at h2
    have htl : ((tx_ s).take i).length ≤ 4 := by rw [List.length_take]; omega
    obtain ⟨e2, E2, q1, q2⟩ := e_wb (n := n) (x := bx_ s i) hz j1 (by rw [List.length_append]; omega) h2
    (repeat (first | with_reducible refine wi_ck hs ?_ | (with_reducible refine wi_e (E0) ?_; try dsimp only) | with_reducible refine wi_ifn cl ?_ | (with_reducible refine wi_e (E1) ?_; try dsimp only) | (with_reducible refine wi_e (E2) ?_; try dsimp only) | rw [e1] | with_reducible refine wi_t (ly_o43 hz) ?_ | with_reducible refine wi_r (ly_r0_2 hz) ?_ | with_reducible refine wi_lt ?_ | (with_reducible refine wi_ifp ?_ ?_; (focus (first | omega | (simp (disch := (first | omega | (simp (disch := first | omega | (simp only [Int32.reduceToInt]; omega)) only [Int32.reduceToInt, ta_add, ta_sub, ta_mul, ta_neg, ta_div]; omega))) only [up_1, cp_1, rng_1, fn_1, dj_1, Nat.reduceEqDiff, false_and, and_false, true_and, and_true, or_true, true_or, or_false, false_or, not_true_eq_false, not_false_eq_true, ↓reduceIte, eq_self, ne_eq, ti_eq, ti_le, ti_lt, ti_ite, Int32.reduceToInt, ta_add, ta_sub, ta_mul, ta_neg, ta_div]; done) | (simp (disch := (first | omega | (simp (disch := first | omega | (simp only [Int32.reduceToInt]; omega)) only [Int32.reduceToInt, ta_add, ta_sub, ta_mul, ta_neg, ta_div]; omega))) only [up_1, cp_1, rng_1, fn_1, dj_1, Nat.reduceEqDiff, false_and, and_false, true_and, and_true, or_true, true_or, or_false, false_or, not_true_eq_false, not_false_eq_true, ↓reduceIte, eq_self, ne_eq, ti_eq, ti_le, ti_lt, ti_ite, Int32.reduceToInt, ta_add, ta_sub, ta_mul, ta_neg, ta_div]; omega)))) | (with_reducible refine wi_ifn ?_ ?_; (focus (first | omega | (simp (disch := (first | omega | (simp (disch := first | omega | (simp only [Int32.reduceToInt]; omega)) only [Int32.reduceToInt, ta_add, ta_sub, ta_mul, ta_neg, ta_div]; omega))) only [up_1, cp_1, rng_1, fn_1, dj_1, Nat.reduceEqDiff, false_and, and_false, true_and, and_true, or_true, true_or, or_false, false_or, not_true_eq_false, not_false_eq_true, ↓reduceIte, eq_self, ne_eq, ti_eq, ti_le, ti_lt, ti_ite, Int32.reduceToInt, ta_add, ta_sub, ta_mul, ta_neg, ta_div]; done) | (simp (disch := (first | omega | (simp (disch := first | omega | (simp only [Int32.reduceToInt]; omega)) only [Int32.reduceToInt, ta_add, ta_sub, ta_mul, ta_neg, ta_div]; omega))) only [up_1, cp_1, rng_1, fn_1, dj_1, Nat.reduceEqDiff, false_and, and_false, true_and, and_true, or_true, true_or, or_false, false_or, not_true_eq_false, not_false_eq_true, ↓reduceIte, eq_self, ne_eq, ti_eq, ti_le, ti_lt, ti_ite, Int32.reduceToInt, ta_add, ta_sub, ta_mul, ta_neg, ta_div]; omega)))) | (with_reducible refine wi_ck ?_ ?_; (focus (first | omega | (simp (disch := (first | omega | (simp (disch := first | omega | (simp only [Int32.reduceToInt]; omega)) only [Int32.reduceToInt, ta_add, ta_sub, ta_mul, ta_neg, ta_div]; omega))) only [up_1, cp_1, rng_1, fn_1, dj_1, Nat.reduceEqDiff, false_and, and_false, true_and, and_true, or_true, true_or, or_false, false_or, not_true_eq_false, not_false_eq_true, ↓reduceIte, eq_self, ne_eq, ti_eq, ti_le, ti_lt, ti_ite, Int32.reduceToInt, ta_add, ta_sub, ta_mul, ta_neg, ta_div]; done) | (simp (disch := (first | omega | (simp (disch := first | omega | (simp only [Int32.reduceToInt]; omega)) only [Int32.reduceToInt, ta_add, ta_sub, ta_mul, ta_neg, ta_div]; omega))) only [up_1, cp_1, rng_1, fn_1, dj_1, Nat.reduceEqDiff, false_and, and_false, true_and, and_true, or_true, true_or, or_false, false_or, not_true_eq_false, not_false_eq_true, ↓reduceIte, eq_self, ne_eq, ti_eq, ti_le, ti_lt, ti_ite, Int32.reduceToInt, ta_add, ta_sub, ta_mul, ta_neg, ta_div]; omega)))) | with_reducible refine wi_bd2 ?_ | with_reducible refine wi_bd1 ?_ | with_reducible refine wi_bd3 ?_ | (with_reducible refine wi_some ?_; try dsimp only)))
    refine ih _ _ ⟨i + 1, by omega, rfl, ?_, fr_tr j2 q2⟩ (by rw [n1, n0]; omega)
    rw [tk_s (by unfold tx_; omega), ← List.append_assoc]
    exact q1
def wd_ : List Int32 := [115, 111, 109, 101, 0, 109, 111, 115, 116, 32, 0, 106, 117, 115, 116, 32, 0, 111, 100, 100, 0, 101, 118, 101, 110, 0]
def iv_wd (f : Nat → Nat → Int32) : Prop := ∀ i, i < 26 → f 159 i = wd_.getD i 0
/-- where a literal stands in the reference's words -/
def wa_ (s : Nat) : Nat := [0, 5, 0, 11, 17, 21].getD s 0
theorem wd_1 : ∀ s : Fin 6, 0 < s.val → wa_ s.val + ix_slen.getD s.val 0 < 26 ∧ wd_.getD (wa_ s.val + ix_slen.getD s.val 0) 0 = 0 ∧ ∀ i : Fin 5, i.val < ix_slen.getD s.val 0 → wd_.getD (wa_ s.val + i.val) 0 = bx_ s.val i.val ∧ bx_ s.val i.val ≠ 0 := by decide +kernel
theorem e_wW (hz : ly_z z) (hn : 100 ≤ n) (hs : s < 6) (hs0 : 0 < s) (iw : iv_wd r.1) (h : oR_ r.1 L) (hl : L.length + 5 ≤ 16384) : wp_t (f_X12_writeWord n z 125 (nI (wa_ s)) r) (fun d1 => oR_ d1.1 (L ++ tx_ s) ∧ fr_ok fo_R r d1) := by
  have h5 := by_3 ⟨s, hs⟩
  have hw := wd_1 ⟨s, hs⟩ hs0
  dsimp only at h5 hw
  obtain ⟨hl5, hlen⟩ := h5
  obtain ⟨w1, w2, w3⟩ := hw
  unfold f_X12_writeWord f_X12_writeWord_2
  refine wp_fx2 (J := fun x2 e => ∃ i : Nat, i ≤ ix_slen.getD s 0 ∧ x2 = nI (wa_ s + i) ∧ oR_ e.1 (L ++ (tx_ s).take i) ∧ fr_ok fo_R r e) (μ := fun x2 _ => 30 - ix_n x2) ?_ n _ r ⟨0, by omega, rfl, by rw [List.take_zero, List.append_nil]; exact h, fr_rf⟩ (by omega)
  rintro rec x2 e ⟨i, hi, rfl, j1, j2⟩ ih
  have ei : (nI (wa_ s + i)).toInt = (wa_ s : Int) + i := by rw [nI_ti (by omega)]; omega
  have n0 : ix_n (nI (wa_ s + i)) = wa_ s + i := nI_n (by omega)
  have e1 : nI (wa_ s + i) + 1 = nI (wa_ s + (i + 1)) := nI_1 (wa_ s + i)
  have n1 : ix_n (nI (wa_ s + (i + 1))) = wa_ s + (i + 1) := nI_n (by omega)
  have ev : e.1 159 (wa_ s + i) = wd_.getD (wa_ s + i) 0 := by rw [j2.1 _ _ (by unfold fo_R; omega)]; exact iw _ (by omega)
  unfold b_X12_writeWord_2
  by_cases c1 : ix_slen.getD s 0 ≤ i
  · have ez : e.1 159 (wa_ s + i) = 0 := by rw [ev, show i = ix_slen.getD s 0 by omega]; exact w2
    (repeat (first | rw [n0] | with_reducible refine wi_ifp ez ?_ | with_reducible refine wi_t (ly_o125 hz) ?_ | with_reducible refine wi_r (ly_r125_56 hz) ?_ | with_reducible refine wi_t (ly_a159 hz) ?_ | (with_reducible refine wi_x (ly_i159 hz) ?_ ?_ ?_; (focus (first | omega | (simp (disch := (first | omega | (simp (disch := first | omega | (simp only [Int32.reduceToInt]; omega)) only [Int32.reduceToInt, ta_add, ta_sub, ta_mul, ta_neg, ta_div]; omega))) only [ly_n159 hz, up_1, cp_1, rng_1, fn_1, dj_1, Nat.reduceEqDiff, false_and, and_false, true_and, and_true, or_true, true_or, or_false, false_or, not_true_eq_false, not_false_eq_true, ↓reduceIte, eq_self, ne_eq, ti_eq, ti_le, ti_lt, ti_ite, Int32.reduceToInt, ta_add, ta_sub, ta_mul, ta_neg, ta_div]; done) | (simp (disch := (first | omega | (simp (disch := first | omega | (simp only [Int32.reduceToInt]; omega)) only [Int32.reduceToInt, ta_add, ta_sub, ta_mul, ta_neg, ta_div]; omega))) only [ly_n159 hz, up_1, cp_1, rng_1, fn_1, dj_1, Nat.reduceEqDiff, false_and, and_false, true_and, and_true, or_true, true_or, or_false, false_or, not_true_eq_false, not_false_eq_true, ↓reduceIte, eq_self, ne_eq, ti_eq, ti_le, ti_lt, ti_ite, Int32.reduceToInt, ta_add, ta_sub, ta_mul, ta_neg, ta_div]; omega))); (focus (first | omega | (simp (disch := (first | omega | (simp (disch := first | omega | (simp only [Int32.reduceToInt]; omega)) only [Int32.reduceToInt, ta_add, ta_sub, ta_mul, ta_neg, ta_div]; omega))) only [ly_n159 hz, up_1, cp_1, rng_1, fn_1, dj_1, Nat.reduceEqDiff, false_and, and_false, true_and, and_true, or_true, true_or, or_false, false_or, not_true_eq_false, not_false_eq_true, ↓reduceIte, eq_self, ne_eq, ti_eq, ti_le, ti_lt, ti_ite, Int32.reduceToInt, ta_add, ta_sub, ta_mul, ta_neg, ta_div]; done) | (simp (disch := (first | omega | (simp (disch := first | omega | (simp only [Int32.reduceToInt]; omega)) only [Int32.reduceToInt, ta_add, ta_sub, ta_mul, ta_neg, ta_div]; omega))) only [ly_n159 hz, up_1, cp_1, rng_1, fn_1, dj_1, Nat.reduceEqDiff, false_and, and_false, true_and, and_true, or_true, true_or, or_false, false_or, not_true_eq_false, not_false_eq_true, ↓reduceIte, eq_self, ne_eq, ti_eq, ti_le, ti_lt, ti_ite, Int32.reduceToInt, ta_add, ta_sub, ta_mul, ta_neg, ta_div]; omega)))) | with_reducible refine wi_lt ?_ | (with_reducible refine wi_ifp ?_ ?_; (focus (first | omega | (simp (disch := (first | omega | (simp (disch := first | omega | (simp only [Int32.reduceToInt]; omega)) only [Int32.reduceToInt, ta_add, ta_sub, ta_mul, ta_neg, ta_div]; omega))) only [ly_n159 hz, up_1, cp_1, rng_1, fn_1, dj_1, Nat.reduceEqDiff, false_and, and_false, true_and, and_true, or_true, true_or, or_false, false_or, not_true_eq_false, not_false_eq_true, ↓reduceIte, eq_self, ne_eq, ti_eq, ti_le, ti_lt, ti_ite, Int32.reduceToInt, ta_add, ta_sub, ta_mul, ta_neg, ta_div]; done) | (simp (disch := (first | omega | (simp (disch := first | omega | (simp only [Int32.reduceToInt]; omega)) only [Int32.reduceToInt, ta_add, ta_sub, ta_mul, ta_neg, ta_div]; omega))) only [ly_n159 hz, up_1, cp_1, rng_1, fn_1, dj_1, Nat.reduceEqDiff, false_and, and_false, true_and, and_true, or_true, true_or, or_false, false_or, not_true_eq_false, not_false_eq_true, ↓reduceIte, eq_self, ne_eq, ti_eq, ti_le, ti_lt, ti_ite, Int32.reduceToInt, ta_add, ta_sub, ta_mul, ta_neg, ta_div]; omega)))) | (with_reducible refine wi_ifn ?_ ?_; (focus (first | omega | (simp (disch := (first | omega | (simp (disch := first | omega | (simp only [Int32.reduceToInt]; omega)) only [Int32.reduceToInt, ta_add, ta_sub, ta_mul, ta_neg, ta_div]; omega))) only [ly_n159 hz, up_1, cp_1, rng_1, fn_1, dj_1, Nat.reduceEqDiff, false_and, and_false, true_and, and_true, or_true, true_or, or_false, false_or, not_true_eq_false, not_false_eq_true, ↓reduceIte, eq_self, ne_eq, ti_eq, ti_le, ti_lt, ti_ite, Int32.reduceToInt, ta_add, ta_sub, ta_mul, ta_neg, ta_div]; done) | (simp (disch := (first | omega | (simp (disch := first | omega | (simp only [Int32.reduceToInt]; omega)) only [Int32.reduceToInt, ta_add, ta_sub, ta_mul, ta_neg, ta_div]; omega))) only [ly_n159 hz, up_1, cp_1, rng_1, fn_1, dj_1, Nat.reduceEqDiff, false_and, and_false, true_and, and_true, or_true, true_or, or_false, false_or, not_true_eq_false, not_false_eq_true, ↓reduceIte, eq_self, ne_eq, ti_eq, ti_le, ti_lt, ti_ite, Int32.reduceToInt, ta_add, ta_sub, ta_mul, ta_neg, ta_div]; omega)))) | (with_reducible refine wi_ck ?_ ?_; (focus (first | omega | (simp (disch := (first | omega | (simp (disch := first | omega | (simp only [Int32.reduceToInt]; omega)) only [Int32.reduceToInt, ta_add, ta_sub, ta_mul, ta_neg, ta_div]; omega))) only [ly_n159 hz, up_1, cp_1, rng_1, fn_1, dj_1, Nat.reduceEqDiff, false_and, and_false, true_and, and_true, or_true, true_or, or_false, false_or, not_true_eq_false, not_false_eq_true, ↓reduceIte, eq_self, ne_eq, ti_eq, ti_le, ti_lt, ti_ite, Int32.reduceToInt, ta_add, ta_sub, ta_mul, ta_neg, ta_div]; done) | (simp (disch := (first | omega | (simp (disch := first | omega | (simp only [Int32.reduceToInt]; omega)) only [Int32.reduceToInt, ta_add, ta_sub, ta_mul, ta_neg, ta_div]; omega))) only [ly_n159 hz, up_1, cp_1, rng_1, fn_1, dj_1, Nat.reduceEqDiff, false_and, and_false, true_and, and_true, or_true, true_or, or_false, false_or, not_true_eq_false, not_false_eq_true, ↓reduceIte, eq_self, ne_eq, ti_eq, ti_le, ti_lt, ti_ite, Int32.reduceToInt, ta_add, ta_sub, ta_mul, ta_neg, ta_div]; omega)))) | with_reducible refine wi_bd2 ?_ | with_reducible refine wi_bd1 ?_ | with_reducible refine wi_bd3 ?_ | (with_reducible refine wi_some ?_; try dsimp only)))
    rw [List.take_of_length_le (by unfold tx_; omega)] at j1
    exact ⟨j1, j2⟩
  · have h3 := w3 ⟨i, by omega⟩ (by show i < _; omega)
    dsimp only at h3
    rw [h3.1] at ev
    have ez : ¬ bx_ s i = 0 := h3.2
    have htl : ((tx_ s).take i).length ≤ 4 := by rw [List.length_take]; omega
    obtain ⟨e2, E2, q1, q2⟩ := e_wr (n := n) (x := bx_ s i) hz j1 (by rw [List.length_append]; omega)
    (repeat (first | rw [n0] | rw [ev] | with_reducible refine wi_ifn ez ?_ | (with_reducible refine wi_e (E2) ?_; try dsimp only) | rw [e1] | with_reducible refine wi_t (ly_o125 hz) ?_ | with_reducible refine wi_r (ly_r125_56 hz) ?_ | with_reducible refine wi_t (ly_a159 hz) ?_ | (with_reducible refine wi_x (ly_i159 hz) ?_ ?_ ?_; (focus (first | omega | (simp (disch := (first | omega | (simp (disch := first | omega | (simp only [Int32.reduceToInt]; omega)) only [Int32.reduceToInt, ta_add, ta_sub, ta_mul, ta_neg, ta_div]; omega))) only [ly_n159 hz, up_1, cp_1, rng_1, fn_1, dj_1, Nat.reduceEqDiff, false_and, and_false, true_and, and_true, or_true, true_or, or_false, false_or, not_true_eq_false, not_false_eq_true, ↓reduceIte, eq_self, ne_eq, ti_eq, ti_le, ti_lt, ti_ite, Int32.reduceToInt, ta_add, ta_sub, ta_mul, ta_neg, ta_div]; done) | (simp (disch := (first | omega | (simp (disch := first | omega | (simp only [Int32.reduceToInt]; omega)) only [Int32.reduceToInt, ta_add, ta_sub, ta_mul, ta_neg, ta_div]; omega))) only [ly_n159 hz, up_1, cp_1, rng_1, fn_1, dj_1, Nat.reduceEqDiff, false_and, and_false, true_and, and_true, or_true, true_or, or_false, false_or, not_true_eq_false, not_false_eq_true, ↓reduceIte, eq_self, ne_eq, ti_eq, ti_le, ti_lt, ti_ite, Int32.reduceToInt, ta_add, ta_sub, ta_mul, ta_neg, ta_div]; omega))); (focus (first | omega | (simp (disch := (first | omega | (simp (disch := first | omega | (simp only [Int32.reduceToInt]; omega)) only [Int32.reduceToInt, ta_add, ta_sub, ta_mul, ta_neg, ta_div]; omega))) only [ly_n159 hz, up_1, cp_1, rng_1, fn_1, dj_1, Nat.reduceEqDiff, false_and, and_false, true_and, and_true, or_true, true_or, or_false, false_or, not_true_eq_false, not_false_eq_true, ↓reduceIte, eq_self, ne_eq, ti_eq, ti_le, ti_lt, ti_ite, Int32.reduceToInt, ta_add, ta_sub, ta_mul, ta_neg, ta_div]; done) | (simp (disch := (first | omega | (simp (disch := first | omega | (simp only [Int32.reduceToInt]; omega)) only [Int32.reduceToInt, ta_add, ta_sub, ta_mul, ta_neg, ta_div]; omega))) only [ly_n159 hz, up_1, cp_1, rng_1, fn_1, dj_1, Nat.reduceEqDiff, false_and, and_false, true_and, and_true, or_true, true_or, or_false, false_or, not_true_eq_false, not_false_eq_true, ↓reduceIte, eq_self, ne_eq, ti_eq, ti_le, ti_lt, ti_ite, Int32.reduceToInt, ta_add, ta_sub, ta_mul, ta_neg, ta_div]; omega)))) | with_reducible refine wi_lt ?_ | (with_reducible refine wi_ifp ?_ ?_; (focus (first | omega | (simp (disch := (first | omega | (simp (disch := first | omega | (simp only [Int32.reduceToInt]; omega)) only [Int32.reduceToInt, ta_add, ta_sub, ta_mul, ta_neg, ta_div]; omega))) only [ly_n159 hz, up_1, cp_1, rng_1, fn_1, dj_1, Nat.reduceEqDiff, false_and, and_false, true_and, and_true, or_true, true_or, or_false, false_or, not_true_eq_false, not_false_eq_true, ↓reduceIte, eq_self, ne_eq, ti_eq, ti_le, ti_lt, ti_ite, Int32.reduceToInt, ta_add, ta_sub, ta_mul, ta_neg, ta_div]; done) | (simp (disch := (first | omega | (simp (disch := first | omega | (simp only [Int32.reduceToInt]; omega)) only [Int32.reduceToInt, ta_add, ta_sub, ta_mul, ta_neg, ta_div]; omega))) only [ly_n159 hz, up_1, cp_1, rng_1, fn_1, dj_1, Nat.reduceEqDiff, false_and, and_false, true_and, and_true, or_true, true_or, or_false, false_or, not_true_eq_false, not_false_eq_true, ↓reduceIte, eq_self, ne_eq, ti_eq, ti_le, ti_lt, ti_ite, Int32.reduceToInt, ta_add, ta_sub, ta_mul, ta_neg, ta_div]; omega)))) | (with_reducible refine wi_ifn ?_ ?_; (focus (first | omega | (simp (disch := (first | omega | (simp (disch := first | omega | (simp only [Int32.reduceToInt]; omega)) only [Int32.reduceToInt, ta_add, ta_sub, ta_mul, ta_neg, ta_div]; omega))) only [ly_n159 hz, up_1, cp_1, rng_1, fn_1, dj_1, Nat.reduceEqDiff, false_and, and_false, true_and, and_true, or_true, true_or, or_false, false_or, not_true_eq_false, not_false_eq_true, ↓reduceIte, eq_self, ne_eq, ti_eq, ti_le, ti_lt, ti_ite, Int32.reduceToInt, ta_add, ta_sub, ta_mul, ta_neg, ta_div]; done) | (simp (disch := (first | omega | (simp (disch := first | omega | (simp only [Int32.reduceToInt]; omega)) only [Int32.reduceToInt, ta_add, ta_sub, ta_mul, ta_neg, ta_div]; omega))) only [ly_n159 hz, up_1, cp_1, rng_1, fn_1, dj_1, Nat.reduceEqDiff, false_and, and_false, true_and, and_true, or_true, true_or, or_false, false_or, not_true_eq_false, not_false_eq_true, ↓reduceIte, eq_self, ne_eq, ti_eq, ti_le, ti_lt, ti_ite, Int32.reduceToInt, ta_add, ta_sub, ta_mul, ta_neg, ta_div]; omega)))) | (with_reducible refine wi_ck ?_ ?_; (focus (first | omega | (simp (disch := (first | omega | (simp (disch := first | omega | (simp only [Int32.reduceToInt]; omega)) only [Int32.reduceToInt, ta_add, ta_sub, ta_mul, ta_neg, ta_div]; omega))) only [ly_n159 hz, up_1, cp_1, rng_1, fn_1, dj_1, Nat.reduceEqDiff, false_and, and_false, true_and, and_true, or_true, true_or, or_false, false_or, not_true_eq_false, not_false_eq_true, ↓reduceIte, eq_self, ne_eq, ti_eq, ti_le, ti_lt, ti_ite, Int32.reduceToInt, ta_add, ta_sub, ta_mul, ta_neg, ta_div]; done) | (simp (disch := (first | omega | (simp (disch := first | omega | (simp only [Int32.reduceToInt]; omega)) only [Int32.reduceToInt, ta_add, ta_sub, ta_mul, ta_neg, ta_div]; omega))) only [ly_n159 hz, up_1, cp_1, rng_1, fn_1, dj_1, Nat.reduceEqDiff, false_and, and_false, true_and, and_true, or_true, true_or, or_false, false_or, not_true_eq_false, not_false_eq_true, ↓reduceIte, eq_self, ne_eq, ti_eq, ti_le, ti_lt, ti_ite, Int32.reduceToInt, ta_add, ta_sub, ta_mul, ta_neg, ta_div]; omega)))) | with_reducible refine wi_bd2 ?_ | with_reducible refine wi_bd1 ?_ | with_reducible refine wi_bd3 ?_ | (with_reducible refine wi_some ?_; try dsimp only)))
    refine ih _ _ ⟨i + 1, by omega, rfl, ?_, fr_tr j2 q2⟩ (by rw [n1, n0]; omega)
    rw [tk_s (by unfold tx_; omega), ← List.append_assoc]
    exact q1
end PRT

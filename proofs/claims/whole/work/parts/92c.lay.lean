/-! LAYING: rows of up to three items; a clause; a parity -/
def rw3 (a b c : Int32) : List Int32 := aw_ (aw_ (aw_ [] a) b) c
section LAZ
variable {n : Nat} {z : ix_Z} {c r : ix_D2} {A0 A A' : LA} {o : Option LA} {m : Nat} {L : List Int32} {v a b e : Int32}
theorem aw_l : (aw_ L v).length ≤ L.length + 1 := by
  unfold aw_
  split
  · omega
  · exact ad_le
theorem aw_m {u : Int32} (h : u ∈ aw_ L v) : u ∈ L ∨ (u = v ∧ v ≠ 0) := by
  unfold aw_ at h
  split at h
  · exact Or.inl h
  · next q =>
    rcases ad_mem h with g | g
    · exact Or.inl g
    · exact Or.inr ⟨g, q⟩
theorem aw_0 : aw_ L 0 = L := if_pos rfl
theorem aw_n (h : v ≠ 0) : aw_ L v = ad_ L v := if_neg h
theorem rw3_l : (rw3 a b e).length ≤ 3 := by
  unfold rw3
  have h1 := aw_l (L := []) (v := a)
  have h2 := aw_l (L := aw_ [] a) (v := b)
  have h3 := aw_l (L := aw_ (aw_ [] a) b) (v := e)
  simp only [List.length_nil] at h1
  omega
theorem rw3_m {u : Int32} (h : u ∈ rw3 a b e) : (u = a ∨ u = b ∨ u = e) ∧ u ≠ 0 := by
  unfold rw3 at h
  rcases aw_m h with h | ⟨h, q⟩
  · rcases aw_m h with h | ⟨h, q⟩
    · rcases aw_m h with h | ⟨h, q⟩
      · simp at h
      · exact ⟨Or.inl h, by rw [h]; exact q⟩
    · exact ⟨Or.inr (Or.inl h), by rw [h]; exact q⟩
  · exact ⟨Or.inr (Or.inr h), by rw [h]; exact q⟩
/-- an item of the names there are, or none -/
def okI (o : Option LA) (v : Int32) : Prop := ∀ A, o = some A → v = 0 ∨ (ok_i v ∧ ix_n (ix_abs v) ≤ A.1)
theorem okL3 (h1 : okI o a) (h2 : okI o b) (h3 : okI o e) : okL o (rw3 a b e) := by
  intro A hA u hu
  obtain ⟨q, q0⟩ := rw3_m hu
  rcases q with q | q | q
  · rcases h1 A hA with g | g
    · exact absurd (by rw [q]; exact g) q0
    · rw [q]; exact g
  · rcases h2 A hA with g | g
    · exact absurd (by rw [q]; exact g) q0
    · rw [q]; exact g
  · rcases h3 A hA with g | g
    · exact absurd (by rw [q]; exact g) q0
    · rw [q]; exact g
theorem okI_n (h : okI o v) (hb : -1000000 ≤ v.toInt) : okI o (-v) := by
  intro A hA
  rcases h A hA with q | q
  · exact Or.inl (by rw [q]; rfl)
  · exact Or.inr ⟨ok_neg q.1, by rw [na_n q.1.2.1 q.1.2.2]; exact q.2⟩
theorem okI_0 : okI o 0 := fun _ _ => Or.inl rfl
/-- names only grow along a laying -/
def gr_ (o o' : Option LA) : Prop := ∀ A', o' = some A' → ∃ A, o = some A ∧ A.1 ≤ A'.1
theorem gr_r : gr_ o o := fun A h => ⟨A, h, Nat.le_refl _⟩
theorem gr_t {o1 o2 o3 : Option LA} (h1 : gr_ o1 o2) (h2 : gr_ o2 o3) : gr_ o1 o3 := fun A h => by
  obtain ⟨B, h3, h4⟩ := h2 A h
  obtain ⟨C, h5, h6⟩ := h1 B h3
  exact ⟨C, h5, Nat.le_trans h6 h4⟩
theorem gr_n : gr_ o (o.bind nwN) := by
  intro A h
  cases o with
  | none => simp at h
  | some B =>
    refine ⟨B, rfl, ?_⟩
    have h : nwN B = some A := h
    unfold nwN at h
    split at h
    · simp at h
    · rw [← Option.some.inj h]; show B.1 ≤ B.1 + 1; omega
theorem gr_a : gr_ o (o.bind (fun A => apR A L)) := by
  intro A h
  cases o with
  | none => simp at h
  | some B =>
    refine ⟨B, rfl, ?_⟩
    have h : apR B L = some A := h
    unfold apR at h
    split at h
    · simp at h
    · rw [← Option.some.inj h]; exact Nat.le_refl _
theorem okI_g {o' : Option LA} (h : okI o v) (hg : gr_ o o') : okI o' v := fun A hA => by
  obtain ⟨B, h1, h2⟩ := hg A hA
  rcases h B h1 with q | q
  · exact Or.inl q
  · exact Or.inr ⟨q.1, Nat.le_trans q.2 h2⟩
theorem e_l3C (hz : ly_z z) (hn : 100 ≤ n) (h : CSL A0 c.1 o m []) (h1 : okI o a) (h2 : okI o b) (h3 : okI o e) : wp_t (f_X2_lay n z 51 a b e c) (fun c' => CSL A0 c'.1 (o.bind (fun A => apR A (rw3 a b e))) m [] ∧ fr_ok fL_C c c') := by
  obtain ⟨c1, E1, q1, f1⟩ := adC (n := n) (v := a) hz hn h (by simp)
  have l1 := aw_l (L := []) (v := a)
  obtain ⟨c2, E2, q2, f2⟩ := adC (n := n) (v := b) hz hn q1 (by simp only [List.length_nil] at l1; omega)
  have l2 := aw_l (L := aw_ [] a) (v := b)
  obtain ⟨c3, E3, q3, f3⟩ := adC (n := n) (v := e) hz hn q2 (by simp only [List.length_nil] at l1; omega)
  obtain ⟨c4, E4, q4, f4⟩ := ldC (n := n) hz q3 (by have := rw3_l (a := a) (b := b) (e := e); unfold rw3 at this; omega) (okL3 h1 h2 h3)
  (repeat (first | (with_reducible refine wi_e (E1) ?_; try dsimp only) | (with_reducible refine wi_e (E2) ?_; try dsimp only) | (with_reducible refine wi_e (E3) ?_; try dsimp only) | (with_reducible refine wi_e (E4) ?_; try dsimp only) | with_reducible refine wi_t (ly_o51 hz) ?_ | with_reducible refine wi_r (ly_r0_3 hz) ?_ | with_reducible refine wi_lt ?_ | (with_reducible refine wi_ifp ?_ ?_; (focus (first | omega | (simp (disch := (first | omega | (simp (disch := first | omega | (simp only [Int32.reduceToInt]; omega)) only [Int32.reduceToInt, ta_add, ta_sub, ta_mul, ta_neg, ta_div]; omega))) only [up_1, cp_1, rng_1, fn_1, dj_1, Nat.reduceEqDiff, false_and, and_false, true_and, and_true, or_true, true_or, or_false, false_or, not_true_eq_false, not_false_eq_true, ↓reduceIte, eq_self, ne_eq, ti_eq, ti_le, ti_lt, ti_ite, Int32.reduceToInt, ta_add, ta_sub, ta_mul, ta_neg, ta_div]; done) | (simp (disch := (first | omega | (simp (disch := first | omega | (simp only [Int32.reduceToInt]; omega)) only [Int32.reduceToInt, ta_add, ta_sub, ta_mul, ta_neg, ta_div]; omega))) only [up_1, cp_1, rng_1, fn_1, dj_1, Nat.reduceEqDiff, false_and, and_false, true_and, and_true, or_true, true_or, or_false, false_or, not_true_eq_false, not_false_eq_true, ↓reduceIte, eq_self, ne_eq, ti_eq, ti_le, ti_lt, ti_ite, Int32.reduceToInt, ta_add, ta_sub, ta_mul, ta_neg, ta_div]; omega)))) | (with_reducible refine wi_ifn ?_ ?_; (focus (first | omega | (simp (disch := (first | omega | (simp (disch := first | omega | (simp only [Int32.reduceToInt]; omega)) only [Int32.reduceToInt, ta_add, ta_sub, ta_mul, ta_neg, ta_div]; omega))) only [up_1, cp_1, rng_1, fn_1, dj_1, Nat.reduceEqDiff, false_and, and_false, true_and, and_true, or_true, true_or, or_false, false_or, not_true_eq_false, not_false_eq_true, ↓reduceIte, eq_self, ne_eq, ti_eq, ti_le, ti_lt, ti_ite, Int32.reduceToInt, ta_add, ta_sub, ta_mul, ta_neg, ta_div]; done) | (simp (disch := (first | omega | (simp (disch := first | omega | (simp only [Int32.reduceToInt]; omega)) only [Int32.reduceToInt, ta_add, ta_sub, ta_mul, ta_neg, ta_div]; omega))) only [up_1, cp_1, rng_1, fn_1, dj_1, Nat.reduceEqDiff, false_and, and_false, true_and, and_true, or_true, true_or, or_false, false_or, not_true_eq_false, not_false_eq_true, ↓reduceIte, eq_self, ne_eq, ti_eq, ti_le, ti_lt, ti_ite, Int32.reduceToInt, ta_add, ta_sub, ta_mul, ta_neg, ta_div]; omega)))) | (with_reducible refine wi_ck ?_ ?_; (focus (first | omega | (simp (disch := (first | omega | (simp (disch := first | omega | (simp only [Int32.reduceToInt]; omega)) only [Int32.reduceToInt, ta_add, ta_sub, ta_mul, ta_neg, ta_div]; omega))) only [up_1, cp_1, rng_1, fn_1, dj_1, Nat.reduceEqDiff, false_and, and_false, true_and, and_true, or_true, true_or, or_false, false_or, not_true_eq_false, not_false_eq_true, ↓reduceIte, eq_self, ne_eq, ti_eq, ti_le, ti_lt, ti_ite, Int32.reduceToInt, ta_add, ta_sub, ta_mul, ta_neg, ta_div]; done) | (simp (disch := (first | omega | (simp (disch := first | omega | (simp only [Int32.reduceToInt]; omega)) only [Int32.reduceToInt, ta_add, ta_sub, ta_mul, ta_neg, ta_div]; omega))) only [up_1, cp_1, rng_1, fn_1, dj_1, Nat.reduceEqDiff, false_and, and_false, true_and, and_true, or_true, true_or, or_false, false_or, not_true_eq_false, not_false_eq_true, ↓reduceIte, eq_self, ne_eq, ti_eq, ti_le, ti_lt, ti_ite, Int32.reduceToInt, ta_add, ta_sub, ta_mul, ta_neg, ta_div]; omega)))) | with_reducible refine wi_bd2 ?_ | with_reducible refine wi_bd1 ?_ | with_reducible refine wi_bd3 ?_ | (with_reducible refine wi_some ?_; try dsimp only) | unfold f_X2_lay))
  exact ⟨q4, fr_tr f1 (fr_tr f2 (fr_tr f3 f4))⟩
theorem e_l2R (hz : ly_z z) (hn : 100 ≤ n) (h : RSL A0 r.1 o []) (hok : okL o (ad_ (ad_ [] a) b)) : wp_t (f_X12_layTwo n z 125 a b r) (fun r' => RSL A0 r'.1 (o.bind (fun A => apR A (ad_ (ad_ [] a) b))) [] ∧ fr_ok fL_R r r') := by
  obtain ⟨c1, E1, q1, f1⟩ := laR (n := n) (v := a) hz hn h (by simp)
  have l1 := ad_le (L := []) (v := a)
  simp only [List.length_nil] at l1
  obtain ⟨c2, E2, q2, f2⟩ := laR (n := n) (v := b) hz hn q1 (by omega)
  have l2 := ad_le (L := ad_ [] a) (v := b)
  obtain ⟨c3, E3, q3, f3⟩ := enR (n := n) hz hn q2 (by omega) hok
  (repeat (first | (with_reducible refine wi_e (E1) ?_; try dsimp only) | (with_reducible refine wi_e (E2) ?_; try dsimp only) | (with_reducible refine wi_e (E3) ?_; try dsimp only) | with_reducible refine wi_t (ly_o125 hz) ?_ | with_reducible refine wi_lt ?_ | (with_reducible refine wi_ifp ?_ ?_; (focus (first | omega | (simp (disch := (first | omega | (simp (disch := first | omega | (simp only [Int32.reduceToInt]; omega)) only [Int32.reduceToInt, ta_add, ta_sub, ta_mul, ta_neg, ta_div]; omega))) only [up_1, cp_1, rng_1, fn_1, dj_1, Nat.reduceEqDiff, false_and, and_false, true_and, and_true, or_true, true_or, or_false, false_or, not_true_eq_false, not_false_eq_true, ↓reduceIte, eq_self, ne_eq, ti_eq, ti_le, ti_lt, ti_ite, Int32.reduceToInt, ta_add, ta_sub, ta_mul, ta_neg, ta_div]; done) | (simp (disch := (first | omega | (simp (disch := first | omega | (simp only [Int32.reduceToInt]; omega)) only [Int32.reduceToInt, ta_add, ta_sub, ta_mul, ta_neg, ta_div]; omega))) only [up_1, cp_1, rng_1, fn_1, dj_1, Nat.reduceEqDiff, false_and, and_false, true_and, and_true, or_true, true_or, or_false, false_or, not_true_eq_false, not_false_eq_true, ↓reduceIte, eq_self, ne_eq, ti_eq, ti_le, ti_lt, ti_ite, Int32.reduceToInt, ta_add, ta_sub, ta_mul, ta_neg, ta_div]; omega)))) | (with_reducible refine wi_ifn ?_ ?_; (focus (first | omega | (simp (disch := (first | omega | (simp (disch := first | omega | (simp only [Int32.reduceToInt]; omega)) only [Int32.reduceToInt, ta_add, ta_sub, ta_mul, ta_neg, ta_div]; omega))) only [up_1, cp_1, rng_1, fn_1, dj_1, Nat.reduceEqDiff, false_and, and_false, true_and, and_true, or_true, true_or, or_false, false_or, not_true_eq_false, not_false_eq_true, ↓reduceIte, eq_self, ne_eq, ti_eq, ti_le, ti_lt, ti_ite, Int32.reduceToInt, ta_add, ta_sub, ta_mul, ta_neg, ta_div]; done) | (simp (disch := (first | omega | (simp (disch := first | omega | (simp only [Int32.reduceToInt]; omega)) only [Int32.reduceToInt, ta_add, ta_sub, ta_mul, ta_neg, ta_div]; omega))) only [up_1, cp_1, rng_1, fn_1, dj_1, Nat.reduceEqDiff, false_and, and_false, true_and, and_true, or_true, true_or, or_false, false_or, not_true_eq_false, not_false_eq_true, ↓reduceIte, eq_self, ne_eq, ti_eq, ti_le, ti_lt, ti_ite, Int32.reduceToInt, ta_add, ta_sub, ta_mul, ta_neg, ta_div]; omega)))) | (with_reducible refine wi_ck ?_ ?_; (focus (first | omega | (simp (disch := (first | omega | (simp (disch := first | omega | (simp only [Int32.reduceToInt]; omega)) only [Int32.reduceToInt, ta_add, ta_sub, ta_mul, ta_neg, ta_div]; omega))) only [up_1, cp_1, rng_1, fn_1, dj_1, Nat.reduceEqDiff, false_and, and_false, true_and, and_true, or_true, true_or, or_false, false_or, not_true_eq_false, not_false_eq_true, ↓reduceIte, eq_self, ne_eq, ti_eq, ti_le, ti_lt, ti_ite, Int32.reduceToInt, ta_add, ta_sub, ta_mul, ta_neg, ta_div]; done) | (simp (disch := (first | omega | (simp (disch := first | omega | (simp only [Int32.reduceToInt]; omega)) only [Int32.reduceToInt, ta_add, ta_sub, ta_mul, ta_neg, ta_div]; omega))) only [up_1, cp_1, rng_1, fn_1, dj_1, Nat.reduceEqDiff, false_and, and_false, true_and, and_true, or_true, true_or, or_false, false_or, not_true_eq_false, not_false_eq_true, ↓reduceIte, eq_self, ne_eq, ti_eq, ti_le, ti_lt, ti_ite, Int32.reduceToInt, ta_add, ta_sub, ta_mul, ta_neg, ta_div]; omega)))) | with_reducible refine wi_bd2 ?_ | with_reducible refine wi_bd1 ?_ | with_reducible refine wi_bd3 ?_ | (with_reducible refine wi_some ?_; try dsimp only) | unfold f_X12_layTwo))
  exact ⟨q3, fr_tr f1 (fr_tr f2 f3)⟩
theorem e_l3R (hz : ly_z z) (hn : 100 ≤ n) (h : RSL A0 r.1 o []) (hok : okL o (ad_ (ad_ (ad_ [] a) b) e)) : wp_t (f_X12_layThree n z 125 a b e r) (fun r' => RSL A0 r'.1 (o.bind (fun A => apR A (ad_ (ad_ (ad_ [] a) b) e))) [] ∧ fr_ok fL_R r r') := by
  obtain ⟨c1, E1, q1, f1⟩ := laR (n := n) (v := a) hz hn h (by simp)
  have l1 := ad_le (L := []) (v := a)
  simp only [List.length_nil] at l1
  obtain ⟨c2, E2, q2, f2⟩ := laR (n := n) (v := b) hz hn q1 (by omega)
  have l2 := ad_le (L := ad_ [] a) (v := b)
  obtain ⟨c3, E3, q3, f3⟩ := laR (n := n) (v := e) hz hn q2 (by omega)
  have l3 := ad_le (L := ad_ (ad_ [] a) b) (v := e)
  obtain ⟨c4, E4, q4, f4⟩ := enR (n := n) hz hn q3 (by omega) hok
  (repeat (first | (with_reducible refine wi_e (E1) ?_; try dsimp only) | (with_reducible refine wi_e (E2) ?_; try dsimp only) | (with_reducible refine wi_e (E3) ?_; try dsimp only) | (with_reducible refine wi_e (E4) ?_; try dsimp only) | with_reducible refine wi_t (ly_o125 hz) ?_ | with_reducible refine wi_lt ?_ | (with_reducible refine wi_ifp ?_ ?_; (focus (first | omega | (simp (disch := (first | omega | (simp (disch := first | omega | (simp only [Int32.reduceToInt]; omega)) only [Int32.reduceToInt, ta_add, ta_sub, ta_mul, ta_neg, ta_div]; omega))) only [up_1, cp_1, rng_1, fn_1, dj_1, Nat.reduceEqDiff, false_and, and_false, true_and, and_true, or_true, true_or, or_false, false_or, not_true_eq_false, not_false_eq_true, ↓reduceIte, eq_self, ne_eq, ti_eq, ti_le, ti_lt, ti_ite, Int32.reduceToInt, ta_add, ta_sub, ta_mul, ta_neg, ta_div]; done) | (simp (disch := (first | omega | (simp (disch := first | omega | (simp only [Int32.reduceToInt]; omega)) only [Int32.reduceToInt, ta_add, ta_sub, ta_mul, ta_neg, ta_div]; omega))) only [up_1, cp_1, rng_1, fn_1, dj_1, Nat.reduceEqDiff, false_and, and_false, true_and, and_true, or_true, true_or, or_false, false_or, not_true_eq_false, not_false_eq_true, ↓reduceIte, eq_self, ne_eq, ti_eq, ti_le, ti_lt, ti_ite, Int32.reduceToInt, ta_add, ta_sub, ta_mul, ta_neg, ta_div]; omega)))) | (with_reducible refine wi_ifn ?_ ?_; (focus (first | omega | (simp (disch := (first | omega | (simp (disch := first | omega | (simp only [Int32.reduceToInt]; omega)) only [Int32.reduceToInt, ta_add, ta_sub, ta_mul, ta_neg, ta_div]; omega))) only [up_1, cp_1, rng_1, fn_1, dj_1, Nat.reduceEqDiff, false_and, and_false, true_and, and_true, or_true, true_or, or_false, false_or, not_true_eq_false, not_false_eq_true, ↓reduceIte, eq_self, ne_eq, ti_eq, ti_le, ti_lt, ti_ite, Int32.reduceToInt, ta_add, ta_sub, ta_mul, ta_neg, ta_div]; done) | (simp (disch := (first | omega | (simp (disch := first | omega | (simp only [Int32.reduceToInt]; omega)) only [Int32.reduceToInt, ta_add, ta_sub, ta_mul, ta_neg, ta_div]; omega))) only [up_1, cp_1, rng_1, fn_1, dj_1, Nat.reduceEqDiff, false_and, and_false, true_and, and_true, or_true, true_or, or_false, false_or, not_true_eq_false, not_false_eq_true, ↓reduceIte, eq_self, ne_eq, ti_eq, ti_le, ti_lt, ti_ite, Int32.reduceToInt, ta_add, ta_sub, ta_mul, ta_neg, ta_div]; omega)))) | (with_reducible refine wi_ck ?_ ?_; (focus (first | omega | (simp (disch := (first | omega | (simp (disch := first | omega | (simp only [Int32.reduceToInt]; omega)) only [Int32.reduceToInt, ta_add, ta_sub, ta_mul, ta_neg, ta_div]; omega))) only [up_1, cp_1, rng_1, fn_1, dj_1, Nat.reduceEqDiff, false_and, and_false, true_and, and_true, or_true, true_or, or_false, false_or, not_true_eq_false, not_false_eq_true, ↓reduceIte, eq_self, ne_eq, ti_eq, ti_le, ti_lt, ti_ite, Int32.reduceToInt, ta_add, ta_sub, ta_mul, ta_neg, ta_div]; done) | (simp (disch := (first | omega | (simp (disch := first | omega | (simp only [Int32.reduceToInt]; omega)) only [Int32.reduceToInt, ta_add, ta_sub, ta_mul, ta_neg, ta_div]; omega))) only [up_1, cp_1, rng_1, fn_1, dj_1, Nat.reduceEqDiff, false_and, and_false, true_and, and_true, or_true, true_or, or_false, false_or, not_true_eq_false, not_false_eq_true, ↓reduceIte, eq_self, ne_eq, ti_eq, ti_le, ti_lt, ti_ite, Int32.reduceToInt, ta_add, ta_sub, ta_mul, ta_neg, ta_div]; omega)))) | with_reducible refine wi_bd2 ?_ | with_reducible refine wi_bd1 ?_ | with_reducible refine wi_bd3 ?_ | (with_reducible refine wi_some ?_; try dsimp only) | unfold f_X12_layThree))
  exact ⟨q4, fr_tr f1 (fr_tr f2 (fr_tr f3 f4))⟩
/-- the class's clause -/
theorem e_liC (hz : ly_z z) (hn : 100 ≤ n) {rc ia N : Nat} (hr : ix_ok z [0, 3, 5, 9] rc) (hr0 : z.1 rc 0 = some ia) (hia : ia < z.2.2) (hi9 : 199 ≤ ia) (hik : z.2.1 ia = (20, N)) (hN : N ≤ 12) (h : CSL A0 c.1 o m []) (hnz : ∀ j, j < N → c.1 ia j ≠ 0) (hok : okL o (dd_ (c.1 ia) N)) : wp_t (f_X3_layInto n z rc 51 c) (fun c' => CSL A0 c'.1 (o.bind (fun A => apR A (dd_ (c.1 ia) N))) m [] ∧ fr_ok fL_C c c') := by
  have ka : ia < z.2.2 ∧ 20 ≤ (z.2.1 ia).1 ∧ (z.2.1 ia).1 < 26 := by rw [hik]; exact ⟨hia, Nat.le_of_ble_eq_true rfl, Nat.le_of_ble_eq_true rfl⟩
  have kl : (nI (z.2.1 ia).2).toInt = N := by rw [hik]; exact nI_ti (by show N < _; omega)
  unfold f_X3_layInto f_X3_layInto_2
  refine wp_fx2 (J := fun x2 e => ∃ i : Nat, i ≤ N ∧ x2 = nI i ∧ CSL A0 e.1 o m (dd_ (c.1 ia) i) ∧ fr_ok fL_C c e) (μ := fun x2 _ => N - ix_n x2) ?_ n 0 c ⟨0, by omega, rfl, h, fr_rf⟩ (by omega)
  rintro rec x2 e ⟨i, hi, rfl, j1, j2⟩ ih
  have ei : (nI i).toInt = i := nI_ti (by omega)
  have n0 : ix_n (nI i) = i := nI_n (by omega)
  have e1 : nI i + 1 = nI (i + 1) := nI_1 i
  have n1 : ix_n (nI (i + 1)) = i + 1 := nI_n (by omega)
  unfold b_X3_layInto_2
  by_cases c1 : N ≤ i
  · have hdl := dd_l (g := c.1 ia) i
    rw [show i = N by omega] at j1 hdl
    obtain ⟨e', E, q1, q2⟩ := ldC (n := n) hz j1 (by omega) hok
    (repeat (first | with_reducible refine wi_ck hr ?_ | with_reducible refine wi_r (hr0) ?_ | with_reducible refine wi_ck ka ?_ | (with_reducible refine wi_e (E) ?_; try dsimp only) | with_reducible refine wi_t (ly_o51 hz) ?_ | with_reducible refine wi_r (ly_r0_3 hz) ?_ | with_reducible refine wi_lt ?_ | (with_reducible refine wi_ifp ?_ ?_; (focus (first | omega | (simp (disch := (first | omega | (simp (disch := first | omega | (simp only [Int32.reduceToInt]; omega)) only [Int32.reduceToInt, ta_add, ta_sub, ta_mul, ta_neg, ta_div]; omega))) only [up_1, cp_1, rng_1, fn_1, dj_1, Nat.reduceEqDiff, false_and, and_false, true_and, and_true, or_true, true_or, or_false, false_or, not_true_eq_false, not_false_eq_true, ↓reduceIte, eq_self, ne_eq, ti_eq, ti_le, ti_lt, ti_ite, Int32.reduceToInt, ta_add, ta_sub, ta_mul, ta_neg, ta_div]; done) | (simp (disch := (first | omega | (simp (disch := first | omega | (simp only [Int32.reduceToInt]; omega)) only [Int32.reduceToInt, ta_add, ta_sub, ta_mul, ta_neg, ta_div]; omega))) only [up_1, cp_1, rng_1, fn_1, dj_1, Nat.reduceEqDiff, false_and, and_false, true_and, and_true, or_true, true_or, or_false, false_or, not_true_eq_false, not_false_eq_true, ↓reduceIte, eq_self, ne_eq, ti_eq, ti_le, ti_lt, ti_ite, Int32.reduceToInt, ta_add, ta_sub, ta_mul, ta_neg, ta_div]; omega)))) | (with_reducible refine wi_ifn ?_ ?_; (focus (first | omega | (simp (disch := (first | omega | (simp (disch := first | omega | (simp only [Int32.reduceToInt]; omega)) only [Int32.reduceToInt, ta_add, ta_sub, ta_mul, ta_neg, ta_div]; omega))) only [up_1, cp_1, rng_1, fn_1, dj_1, Nat.reduceEqDiff, false_and, and_false, true_and, and_true, or_true, true_or, or_false, false_or, not_true_eq_false, not_false_eq_true, ↓reduceIte, eq_self, ne_eq, ti_eq, ti_le, ti_lt, ti_ite, Int32.reduceToInt, ta_add, ta_sub, ta_mul, ta_neg, ta_div]; done) | (simp (disch := (first | omega | (simp (disch := first | omega | (simp only [Int32.reduceToInt]; omega)) only [Int32.reduceToInt, ta_add, ta_sub, ta_mul, ta_neg, ta_div]; omega))) only [up_1, cp_1, rng_1, fn_1, dj_1, Nat.reduceEqDiff, false_and, and_false, true_and, and_true, or_true, true_or, or_false, false_or, not_true_eq_false, not_false_eq_true, ↓reduceIte, eq_self, ne_eq, ti_eq, ti_le, ti_lt, ti_ite, Int32.reduceToInt, ta_add, ta_sub, ta_mul, ta_neg, ta_div]; omega)))) | (with_reducible refine wi_ck ?_ ?_; (focus (first | omega | (simp (disch := (first | omega | (simp (disch := first | omega | (simp only [Int32.reduceToInt]; omega)) only [Int32.reduceToInt, ta_add, ta_sub, ta_mul, ta_neg, ta_div]; omega))) only [up_1, cp_1, rng_1, fn_1, dj_1, Nat.reduceEqDiff, false_and, and_false, true_and, and_true, or_true, true_or, or_false, false_or, not_true_eq_false, not_false_eq_true, ↓reduceIte, eq_self, ne_eq, ti_eq, ti_le, ti_lt, ti_ite, Int32.reduceToInt, ta_add, ta_sub, ta_mul, ta_neg, ta_div]; done) | (simp (disch := (first | omega | (simp (disch := first | omega | (simp only [Int32.reduceToInt]; omega)) only [Int32.reduceToInt, ta_add, ta_sub, ta_mul, ta_neg, ta_div]; omega))) only [up_1, cp_1, rng_1, fn_1, dj_1, Nat.reduceEqDiff, false_and, and_false, true_and, and_true, or_true, true_or, or_false, false_or, not_true_eq_false, not_false_eq_true, ↓reduceIte, eq_self, ne_eq, ti_eq, ti_le, ti_lt, ti_ite, Int32.reduceToInt, ta_add, ta_sub, ta_mul, ta_neg, ta_div]; omega)))) | with_reducible refine wi_bd2 ?_ | with_reducible refine wi_bd1 ?_ | with_reducible refine wi_bd3 ?_ | (with_reducible refine wi_some ?_; try dsimp only)))
    exact ⟨q1, fr_tr j2 q2⟩
  · have kx : ix_ix z 20 ia (nI i) := ⟨hia, by rw [hik], by rw [hik]; exact (ni_vp (by omega)).mpr ⟨by rw [ti_le]; simp only [Int32.reduceToInt]; omega, by rw [ti_lt, ni_ofNat (by omega)]; omega⟩⟩
    have hdl := dd_l (g := c.1 ia) i
    have eit : e.1 ia i = c.1 ia i := j2.1 _ _ (by unfold fL_C; omega)
    obtain ⟨e', E, q1, q2⟩ := adC (n := n) (v := c.1 ia i) hz hn j1 (by omega)
    (repeat (first | with_reducible refine wi_ck hr ?_ | with_reducible refine wi_r (hr0) ?_ | with_reducible refine wi_ck ka ?_ | with_reducible refine wi_ck kx ?_ | rw [n0] | rw [eit] | (with_reducible refine wi_e (E) ?_; try dsimp only) | rw [e1] | with_reducible refine wi_t (ly_o51 hz) ?_ | with_reducible refine wi_r (ly_r0_3 hz) ?_ | with_reducible refine wi_lt ?_ | (with_reducible refine wi_ifp ?_ ?_; (focus (first | omega | (simp (disch := (first | omega | (simp (disch := first | omega | (simp only [Int32.reduceToInt]; omega)) only [Int32.reduceToInt, ta_add, ta_sub, ta_mul, ta_neg, ta_div]; omega))) only [up_1, cp_1, rng_1, fn_1, dj_1, Nat.reduceEqDiff, false_and, and_false, true_and, and_true, or_true, true_or, or_false, false_or, not_true_eq_false, not_false_eq_true, ↓reduceIte, eq_self, ne_eq, ti_eq, ti_le, ti_lt, ti_ite, Int32.reduceToInt, ta_add, ta_sub, ta_mul, ta_neg, ta_div]; done) | (simp (disch := (first | omega | (simp (disch := first | omega | (simp only [Int32.reduceToInt]; omega)) only [Int32.reduceToInt, ta_add, ta_sub, ta_mul, ta_neg, ta_div]; omega))) only [up_1, cp_1, rng_1, fn_1, dj_1, Nat.reduceEqDiff, false_and, and_false, true_and, and_true, or_true, true_or, or_false, false_or, not_true_eq_false, not_false_eq_true, ↓reduceIte, eq_self, ne_eq, ti_eq, ti_le, ti_lt, ti_ite, Int32.reduceToInt, ta_add, ta_sub, ta_mul, ta_neg, ta_div]; omega)))) | (with_reducible refine wi_ifn ?_ ?_; (focus (first | omega | (simp (disch := (first | omega | (simp (disch := first | omega | (simp only [Int32.reduceToInt]; omega)) only [Int32.reduceToInt, ta_add, ta_sub, ta_mul, ta_neg, ta_div]; omega))) only [up_1, cp_1, rng_1, fn_1, dj_1, Nat.reduceEqDiff, false_and, and_false, true_and, and_true, or_true, true_or, or_false, false_or, not_true_eq_false, not_false_eq_true, ↓reduceIte, eq_self, ne_eq, ti_eq, ti_le, ti_lt, ti_ite, Int32.reduceToInt, ta_add, ta_sub, ta_mul, ta_neg, ta_div]; done) | (simp (disch := (first | omega | (simp (disch := first | omega | (simp only [Int32.reduceToInt]; omega)) only [Int32.reduceToInt, ta_add, ta_sub, ta_mul, ta_neg, ta_div]; omega))) only [up_1, cp_1, rng_1, fn_1, dj_1, Nat.reduceEqDiff, false_and, and_false, true_and, and_true, or_true, true_or, or_false, false_or, not_true_eq_false, not_false_eq_true, ↓reduceIte, eq_self, ne_eq, ti_eq, ti_le, ti_lt, ti_ite, Int32.reduceToInt, ta_add, ta_sub, ta_mul, ta_neg, ta_div]; omega)))) | (with_reducible refine wi_ck ?_ ?_; (focus (first | omega | (simp (disch := (first | omega | (simp (disch := first | omega | (simp only [Int32.reduceToInt]; omega)) only [Int32.reduceToInt, ta_add, ta_sub, ta_mul, ta_neg, ta_div]; omega))) only [up_1, cp_1, rng_1, fn_1, dj_1, Nat.reduceEqDiff, false_and, and_false, true_and, and_true, or_true, true_or, or_false, false_or, not_true_eq_false, not_false_eq_true, ↓reduceIte, eq_self, ne_eq, ti_eq, ti_le, ti_lt, ti_ite, Int32.reduceToInt, ta_add, ta_sub, ta_mul, ta_neg, ta_div]; done) | (simp (disch := (first | omega | (simp (disch := first | omega | (simp only [Int32.reduceToInt]; omega)) only [Int32.reduceToInt, ta_add, ta_sub, ta_mul, ta_neg, ta_div]; omega))) only [up_1, cp_1, rng_1, fn_1, dj_1, Nat.reduceEqDiff, false_and, and_false, true_and, and_true, or_true, true_or, or_false, false_or, not_true_eq_false, not_false_eq_true, ↓reduceIte, eq_self, ne_eq, ti_eq, ti_le, ti_lt, ti_ite, Int32.reduceToInt, ta_add, ta_sub, ta_mul, ta_neg, ta_div]; omega)))) | with_reducible refine wi_bd2 ?_ | with_reducible refine wi_bd1 ?_ | with_reducible refine wi_bd3 ?_ | (with_reducible refine wi_some ?_; try dsimp only)))
    refine ih _ _ ⟨i + 1, by omega, rfl, ?_, fr_tr j2 q2⟩ (by rw [n1, n0]; omega)
    rw [aw_n (hnz i (by omega))] at q1
    exact q1
end LAZ

/-! THE CLASS'S FORCING TO ITS END, against partial truths -/
def cV (c : ix_D2) : Nat → Int := fun m => (c.1 101 m).toInt
/-- c goes on from c0: more on the trail, all at the level of c0 -/
def ext_ (c0 c : ix_D2) : Prop := (c0.1 91 12).toInt ≤ (c.1 91 12).toInt ∧ (∀ i : Nat, (i : Int) < (c0.1 91 12).toInt → c.1 105 i = c0.1 105 i) ∧ (∀ m : Nat, (∀ i : Nat, (c0.1 91 12).toInt ≤ i → (i : Int) < (c.1 91 12).toInt → ix_n (ix_abs (c.1 105 i)) ≠ m) → c.1 101 m = c0.1 101 m ∧ c.1 103 m = c0.1 103 m) ∧ (∀ i : Nat, (c0.1 91 12).toInt ≤ i → (i : Int) < (c.1 91 12).toInt → c.1 103 (ix_n (ix_abs (c.1 105 i))) = c0.1 91 13) ∧ (∀ a k, a ≠ 98 → a ≠ 101 → a ≠ 103 → a ≠ 104 → a ≠ 105 → (a ≠ 91 ∨ k ≠ 12) → c.1 a k = c0.1 a k) ∧ ∀ a k, a ≠ 99 → a ≠ 100 → c.2 a k = c0.2 a k
/-- the board: rows, trail, no row gone, each value on the trail -/
def bT_ (c : ix_D2) : Prop := bi_90 c ∧ tk_90 c ∧ (∀ k : Nat, (k : Int) < (c.1 92 2).toInt → (c.1 98 k).toInt < 1000000) ∧ ∀ m : Nat, 1 ≤ m → m ≤ 300 → (c.1 101 m).toInt ≠ 0 → ∃ i : Nat, (i : Int) < (c.1 91 12).toInt ∧ ix_n (ix_abs (c.1 105 i)) = m
/-- all rows of the board are quiet under V -/
def qA_ (c : ix_D2) (V : Nat → Int) : Prop := ∀ k : Nat, (k : Int) < (c.1 92 2).toInt → qV V (c.1 93) (ix_n (c.1 94 k)) (ix_n (c.1 94 (k + 1)))
section BST
variable {n : Nat} {z : ix_Z} {c0 c c3 : ix_D2} {v y x : Int32} {P : (Nat → Int) → Prop}
theorem ext_r : ext_ c c := ⟨Int.le_refl _, fun _ _ => rfl, fun _ _ => ⟨rfl, rfl⟩, fun i h1 h2 => by omega, fun _ _ _ _ _ _ _ _ => rfl, fun _ _ _ _ => rfl⟩
theorem vl_t : vl_ c.1 101 v = tV (cV c) v := by
  rw [vl_a]
  rfl
theorem wv_t : wv_ c.1 101 v = wV (cV c) v := by
  unfold wv_ wV
  rw [vl_t]
theorem cV_k (h : bi_90 c) : vkV (cV c) := fun m hm => h.2.2.2.2 m hm
/-- a row of the board: its items, its weight -/
theorem rw_3 (h : bi_90 c) {k : Nat} (hk : (k : Int) < (c.1 92 2).toInt) : ix_n (c.1 94 k) ≤ ix_n (c.1 94 (k + 1)) ∧ (∀ p, ix_n (c.1 94 k) ≤ p → p < ix_n (c.1 94 (k + 1)) → ok_i (c.1 93 p)) ∧ lw_s c.1 93 94 101 k = sm_ (fun p => wV (cV c) (c.1 93 p)) (ix_n (c.1 94 k)) (ix_n (c.1 94 (k + 1))) := by
  have b := rw_b h.1 hk
  have n0 := ni_c b.1
  have n1 := ni_c (show 0 ≤ (c.1 94 (k + 1)).toInt by omega)
  refine ⟨by omega, fun p h1 h2 => rw_i h.1 hk (by omega), ?_⟩
  unfold lw_s
  exact sm_c fun p _ _ => wv_t
theorem as_T (hb : bT_ c) (he : ext_ c0 c) (hv : ok_i v) (h0 : vl_ c.1 101 v = 0) (h3 : ∀ a k, a ≠ 98 → c3.1 a k = (am_90 v y c).1 a k) (h3l : ∀ a k, a ≠ 99 → a ≠ 100 → c3.2 a k = c.2 a k) (h4 : ∀ k : Nat, (k : Int) < (c.1 92 2).toInt → (1000000 ≤ (c3.1 98 k).toInt ↔ 1000000 ≤ (c.1 98 k).toInt)) (hb3 : bi_90 c3) : bT_ c3 ∧ ext_ c0 c3 ∧ (c3.1 91 12).toInt = (c.1 91 12).toInt + 1 ∧ (∀ m, m ≠ ix_n (ix_abs v) → cV c3 m = cV c m) ∧ cV c3 (ix_n (ix_abs v)) = (if 0 < v.toInt then 1 else -1) := by
  obtain ⟨-, ht, hg, hful⟩ := hb
  obtain ⟨v0, v1, v2⟩ := hv
  obtain ⟨hne, hroom⟩ := tk_room90 ht v0 v1 v2 h0
  obtain ⟨t1, t2, t3, t4⟩ := ht
  obtain ⟨t, et⟩ : ∃ t : Nat, (t : Int) = (c.1 91 12).toInt := ⟨ix_n (c.1 91 12), ni_c t1⟩
  have nt : ix_n (c.1 91 12) = t := ni_k et.symm
  obtain ⟨b1, b2, b3, b4⟩ := na_b v0 v1 v2
  obtain ⟨A, hA⟩ : ∃ A, A = ix_n (ix_abs v) := ⟨_, rfl⟩
  rw [← hA] at hne b1 b2 b3 b4 ⊢
  have o : ∀ a k, a ≠ 98 → a ≠ 101 → a ≠ 103 → a ≠ 104 → a ≠ 105 → (a ≠ 91 ∨ k ≠ 12) → c3.1 a k = c.1 a k := fun a k g8 g1 g2 g3 g4 g5 => by rw [h3 a k g8]; exact am_o90 g1 g2 g3 g4 g5
  have e11 : ∀ m, c3.1 101 m = if m = A then (if 0 < v.toInt then 1 else -1) else c.1 101 m := fun m => by rw [h3 _ _ (by omega), hA]; unfold am_90; simp only [up_1, Nat.reduceEqDiff, false_and, and_false, true_and, and_true, or_true, true_or, or_false, false_or, not_true_eq_false, not_false_eq_true, ↓reduceIte, eq_self, ne_eq]
  have e13 : ∀ m, c3.1 103 m = if m = A then c.1 91 13 else c.1 103 m := fun m => by rw [h3 _ _ (by omega), hA]; unfold am_90; simp only [up_1, Nat.reduceEqDiff, false_and, and_false, true_and, and_true, or_true, true_or, or_false, false_or, not_true_eq_false, not_false_eq_true, ↓reduceIte, eq_self, ne_eq]
  have e15 : ∀ m, c3.1 105 m = if m = t then v else c.1 105 m := fun m => by rw [h3 _ _ (by omega), ← nt]; unfold am_90; simp only [up_1, Nat.reduceEqDiff, false_and, and_false, true_and, and_true, or_true, true_or, or_false, false_or, not_true_eq_false, not_false_eq_true, ↓reduceIte, eq_self, ne_eq]
  have e12 : (c3.1 91 12).toInt = (t : Int) + 1 := by
    rw [h3 _ _ (by omega)]
    unfold am_90
    rw [up_1, if_pos ⟨rfl, rfl⟩]
    (focus (first | omega | (simp (disch := (first | omega | (simp (disch := first | omega | (simp only [Int32.reduceToInt]; omega)) only [Int32.reduceToInt, ta_add, ta_sub, ta_mul, ta_neg, ta_div]; omega))) only [up_1, cp_1, rng_1, fn_1, dj_1, Nat.reduceEqDiff, false_and, and_false, true_and, and_true, or_true, true_or, or_false, false_or, not_true_eq_false, not_false_eq_true, ↓reduceIte, eq_self, ne_eq, ti_eq, ti_le, ti_lt, ti_ite, Int32.reduceToInt, ta_add, ta_sub, ta_mul, ta_neg, ta_div]; done) | (simp (disch := (first | omega | (simp (disch := first | omega | (simp only [Int32.reduceToInt]; omega)) only [Int32.reduceToInt, ta_add, ta_sub, ta_mul, ta_neg, ta_div]; omega))) only [up_1, cp_1, rng_1, fn_1, dj_1, Nat.reduceEqDiff, false_and, and_false, true_and, and_true, or_true, true_or, or_false, false_or, not_true_eq_false, not_false_eq_true, ↓reduceIte, eq_self, ne_eq, ti_eq, ti_le, ti_lt, ti_ite, Int32.reduceToInt, ta_add, ta_sub, ta_mul, ta_neg, ta_div]; omega)))
  have e105 : ∀ i, i < t → c3.1 105 i = c.1 105 i := fun i hi => by rw [e15, if_neg (by omega)]
  have e105t : c3.1 105 t = v := by rw [e15, if_pos rfl]
  have hvA : vl_ c3.1 101 v = 1 := by
    rw [vl_a, ← hA, e11, if_pos rfl]
    by_cases q : 0 < v.toInt
    · rw [if_pos q, if_pos q]; rfl
    · rw [if_neg q, if_neg q]; rfl
  have hvo : ∀ u : Int32, ix_n (ix_abs u) ≠ A → vl_ c3.1 101 u = vl_ c.1 101 u := fun u hu => by
    rw [vl_a, vl_a, e11, if_neg hu]
  refine ⟨⟨hb3, ⟨by omega, by omega, fun i hi => ?_, fun i j hij hj => ?_⟩, fun k hk => ?_, fun m m1 m2 m3 => ?_⟩, ⟨?_, fun i hi => ?_, fun m hm => ?_, fun i h1 h2 => ?_, fun a k g8 g1 g2 g3 g4 g5 => ?_, fun a k g1 g2 => ?_⟩, by omega, fun m hm => ?_, ?_⟩
  · rw [e12] at hi
    by_cases ci : i = t
    · rw [ci, e105t]; exact ⟨v0, v1, v2, hvA⟩
    · rw [e105 i (by omega)]
      have q := t3 i (by omega)
      exact ⟨q.1, q.2.1, q.2.2.1, by rw [hvo _ (hne i (by omega))]; exact q.2.2.2⟩
  · rw [e12] at hj
    rw [e105 i (by omega)]
    by_cases cj : j = t
    · rw [cj, e105t, ← hA]; exact hne i (by omega)
    · rw [e105 j (by omega)]; exact t4 i j hij (by omega)
  · rw [o 92 2 (by omega) (by omega) (by omega) (by omega) (by omega) (by omega)] at hk
    have q1 := hg k hk
    have q2 := h4 k hk
    omega
  · rw [e12]
    by_cases cm : m = A
    · exact ⟨t, by omega, by rw [e105t, cm, hA]⟩
    · rw [e11, if_neg cm] at m3
      obtain ⟨i, i1, i2⟩ := hful m m1 m2 m3
      exact ⟨i, by omega, by rw [e105 i (by omega)]; exact i2⟩
  · have := he.1; omega
  · have := he.1
    rw [e105 i (by omega)]; exact he.2.1 i hi
  · have q0 := he.1
    have hmA : m ≠ A := fun q => hm t (by omega) (by omega) (by rw [e105t, q, hA])
    rw [e11, if_neg hmA, e13, if_neg hmA]
    refine he.2.2.1 m fun i h1 h2 => ?_
    have := hm i h1 (by omega)
    rw [e105 i (by omega)] at this
    exact this
  · by_cases ci : i = t
    · rw [ci, e105t, e13, if_pos hA.symm]
      exact he.2.2.2.2.1 91 13 (by omega) (by omega) (by omega) (by omega) (by omega) (by omega)
    · rw [e105 i (by omega), e13, if_neg (hne i (by omega))]
      exact he.2.2.2.1 i h1 (by omega)
  · rw [o a k g8 g1 g2 g3 g4 g5]; exact he.2.2.2.2.1 a k g8 g1 g2 g3 g4 g5
  · rw [h3l a k g1 g2]; exact he.2.2.2.2.2 a k g1 g2
  · unfold cV; rw [e11, if_neg hm]
  · unfold cV; rw [e11, if_pos rfl]
    split <;> rfl
theorem e_stP (hz : ly_z z) (hn : 20000 ≤ n) (hPq : ∀ V, P V → qA_ c0 V) : ∀ (m : Nat) (c : ix_D2) (x1 : Int32) (nC : Nat), bT_ c → ext_ c0 c → (∀ V, P V → xV (cV c) V) → (300 : Int) - (c.1 91 12).toInt ≤ m → 0 ≤ x1.toInt → x1.toInt ≤ (c.1 91 12).toInt → m < nC →
    wp_t (ix_fix (b_X1_settle_2 n z 91) (fun _ _ => none) nC x1 c) (fun t => bT_ t.2 ∧ ext_ c0 t.2 ∧ ((t.1.toInt < 0 ∧ (∀ V, P V → xV (cV t.2) V) ∧ qA_ t.2 (cV t.2)) ∨ (0 ≤ t.1.toInt ∧ ∀ V, ¬ P V))) := by
  intro m
  induction m using Nat.strongRecOn with
  | ind m ih =>
  intro c x1 nC hbT he hP hm hx0 hx hC
  have hb : bi_90 c := hbT.1
  obtain ⟨k1, k2, -, -⟩ := hbT.2.1
  have hT := hb.1.2.1
  obtain ⟨NC, rfl⟩ : ∃ N, nC = N + 1 := ⟨nC - 1, by omega⟩
  obtain ⟨⟨q1, cq⟩, E1, ecq, Q⟩ := e_fq90 (n := n) (d := c) hz hn hT hb.2.2.1
  obtain ⟨⟨u1, cu⟩, E2, ecu, W⟩ := e_fu90 (n := n) (d := c) hz hn hT hb.2.2.1
  dsimp only at ecq ecu Q W
  rw [ecq] at E1
  rw [ecu] at E2
  have e92 : c.1 92 2 = c0.1 92 2 := he.2.2.2.2.1 _ _ (by omega) (by omega) (by omega) (by omega) (by omega) (by omega)
  have e93 : c.1 93 = c0.1 93 := funext fun k => he.2.2.2.2.1 _ _ (by omega) (by omega) (by omega) (by omega) (by omega) (by omega)
  have e94 : c.1 94 = c0.1 94 := funext fun k => he.2.2.2.2.1 _ _ (by omega) (by omega) (by omega) (by omega) (by omega) (by omega)
  have hPc : ∀ V, P V → qA_ c V := fun V hV => by unfold qA_; rw [e92, e93, e94]; exact hPq V hV
  have hlw : ∀ k : Nat, (k : Int) < (c.1 92 2).toInt → (c.1 98 k).toInt = sm_ (fun p => wV (cV c) (c.1 93 p)) (ix_n (c.1 94 k)) (ix_n (c.1 94 (k + 1))) := fun k hk => by
    rw [← (rw_3 hb hk).2.2]
    have hg := hbT.2.2.1 k hk
    have hlo := lw_b hb.1 (by omega) hb.2.2.2.2 hk
    rcases hb.2.2.2.1 k hk with q | q
    · exact q
    · omega
  show wp_t (b_X1_settle_2 n z 91 _ x1 c) _
  unfold b_X1_settle_2
  rcases Q with ⟨Q1, Q2⟩ | ⟨k, Q1, Q2, Q3, -⟩
  · have hq0 : q1.toInt < 0 := by rw [Q1]; decide
    rcases W with ⟨W1, W2⟩ | ⟨u, W1, W2, W3, -⟩
    · have hu0 : u1.toInt < 0 := by rw [W1]; decide
      (repeat (first | (with_reducible refine wi_e (E1) ?_; try dsimp only) | (with_reducible refine wi_e (E2) ?_; try dsimp only) | with_reducible refine wi_t (ly_o91 hz) ?_ | with_reducible refine wi_r (ly_r90_0 hz) ?_ | with_reducible refine wi_lt ?_ | (with_reducible refine wi_ifp ?_ ?_; (focus (first | omega | (simp (disch := (first | omega | (simp (disch := first | omega | (simp only [Int32.reduceToInt]; omega)) only [Int32.reduceToInt, ta_add, ta_sub, ta_mul, ta_neg, ta_div]; omega))) only [up_1, cp_1, rng_1, fn_1, dj_1, Nat.reduceEqDiff, false_and, and_false, true_and, and_true, or_true, true_or, or_false, false_or, not_true_eq_false, not_false_eq_true, ↓reduceIte, eq_self, ne_eq, ti_eq, ti_le, ti_lt, ti_ite, Int32.reduceToInt, ta_add, ta_sub, ta_mul, ta_neg, ta_div]; done) | (simp (disch := (first | omega | (simp (disch := first | omega | (simp only [Int32.reduceToInt]; omega)) only [Int32.reduceToInt, ta_add, ta_sub, ta_mul, ta_neg, ta_div]; omega))) only [up_1, cp_1, rng_1, fn_1, dj_1, Nat.reduceEqDiff, false_and, and_false, true_and, and_true, or_true, true_or, or_false, false_or, not_true_eq_false, not_false_eq_true, ↓reduceIte, eq_self, ne_eq, ti_eq, ti_le, ti_lt, ti_ite, Int32.reduceToInt, ta_add, ta_sub, ta_mul, ta_neg, ta_div]; omega)))) | (with_reducible refine wi_ifn ?_ ?_; (focus (first | omega | (simp (disch := (first | omega | (simp (disch := first | omega | (simp only [Int32.reduceToInt]; omega)) only [Int32.reduceToInt, ta_add, ta_sub, ta_mul, ta_neg, ta_div]; omega))) only [up_1, cp_1, rng_1, fn_1, dj_1, Nat.reduceEqDiff, false_and, and_false, true_and, and_true, or_true, true_or, or_false, false_or, not_true_eq_false, not_false_eq_true, ↓reduceIte, eq_self, ne_eq, ti_eq, ti_le, ti_lt, ti_ite, Int32.reduceToInt, ta_add, ta_sub, ta_mul, ta_neg, ta_div]; done) | (simp (disch := (first | omega | (simp (disch := first | omega | (simp only [Int32.reduceToInt]; omega)) only [Int32.reduceToInt, ta_add, ta_sub, ta_mul, ta_neg, ta_div]; omega))) only [up_1, cp_1, rng_1, fn_1, dj_1, Nat.reduceEqDiff, false_and, and_false, true_and, and_true, or_true, true_or, or_false, false_or, not_true_eq_false, not_false_eq_true, ↓reduceIte, eq_self, ne_eq, ti_eq, ti_le, ti_lt, ti_ite, Int32.reduceToInt, ta_add, ta_sub, ta_mul, ta_neg, ta_div]; omega)))) | (with_reducible refine wi_ck ?_ ?_; (focus (first | omega | (simp (disch := (first | omega | (simp (disch := first | omega | (simp only [Int32.reduceToInt]; omega)) only [Int32.reduceToInt, ta_add, ta_sub, ta_mul, ta_neg, ta_div]; omega))) only [up_1, cp_1, rng_1, fn_1, dj_1, Nat.reduceEqDiff, false_and, and_false, true_and, and_true, or_true, true_or, or_false, false_or, not_true_eq_false, not_false_eq_true, ↓reduceIte, eq_self, ne_eq, ti_eq, ti_le, ti_lt, ti_ite, Int32.reduceToInt, ta_add, ta_sub, ta_mul, ta_neg, ta_div]; done) | (simp (disch := (first | omega | (simp (disch := first | omega | (simp only [Int32.reduceToInt]; omega)) only [Int32.reduceToInt, ta_add, ta_sub, ta_mul, ta_neg, ta_div]; omega))) only [up_1, cp_1, rng_1, fn_1, dj_1, Nat.reduceEqDiff, false_and, and_false, true_and, and_true, or_true, true_or, or_false, false_or, not_true_eq_false, not_false_eq_true, ↓reduceIte, eq_self, ne_eq, ti_eq, ti_le, ti_lt, ti_ite, Int32.reduceToInt, ta_add, ta_sub, ta_mul, ta_neg, ta_div]; omega)))) | with_reducible refine wi_bd2 ?_ | with_reducible refine wi_bd1 ?_ | with_reducible refine wi_bd3 ?_ | (with_reducible refine wi_some ?_; try dsimp only)))
      refine ⟨hbT, he, Or.inl ⟨hq0, hP, fun k hk => ?_⟩⟩
      have q := rw_3 hb hk
      have s := sQ3 (U := cV c) (cV_k hb) q.1 q.2.1
      rw [← hlw k hk] at s
      have w0 := Q2 k hk
      have w1 := W2 k hk
      rcases s.2 with ⟨e, _⟩ | ⟨e, _⟩ | ⟨_, e⟩
      · exact absurd e w0
      · exact absurd e w1
      · exact e
    · have hu0 : 0 ≤ u1.toInt := by rw [W2, nI_ti (by omega)]; omega
      have q := rw_3 hb W1
      have s := sQ3 (U := cV c) (cV_k hb) q.1 q.2.1
      rw [← hlw u W1, W3] at s
      obtain ⟨p, p1, p2, p3, p4⟩ : ∃ p, ix_n (c.1 94 u) ≤ p ∧ p < ix_n (c.1 94 (u + 1)) ∧ tV (cV c) (c.1 93 p) = 0 ∧ ∀ q, ix_n (c.1 94 u) ≤ q → q < ix_n (c.1 94 (u + 1)) → q ≠ p → tV (cV c) (c.1 93 q) = -1 := by
        rcases s.2 with ⟨e, _⟩ | ⟨_, e⟩ | ⟨e, _⟩
        · omega
        · exact e
        · omega
      have b := rw_b hb.1 W1
      have n0 := ni_c b.1
      have n1 := ni_c (show 0 ≤ (c.1 94 (u + 1)).toInt by omega)
      have hok := q.2.1 p p1 p2
      obtain ⟨⟨o1, co⟩, E3, eco, O⟩ := e_oi90 (n := n) (d := c) hz hn hb.1 hb.2.2.2.2 W1
      dsimp only at eco O
      rw [eco] at E3
      have et : o1 = c.1 93 p := by
        rcases O with ⟨_, h2⟩ | ⟨p', g1, g2, g3, g4, _⟩
        · exact absurd (by rw [vl_t]; exact p3) (h2 p (by omega) (by omega))
        · rw [g3]
          by_cases cp : p' = p
          · rw [cp]
          · have := p4 p' (by omega) (by omega) cp
            rw [vl_t] at g4
            omega
      obtain ⟨v, ev⟩ : ∃ v, v = c.1 93 p := ⟨_, rfl⟩
      rw [← ev] at et p3 hok
      rw [et] at E3
      have hvl : vl_ c.1 101 v = 0 := by rw [vl_t]; exact p3
      have hroom := (tk_room90 hbT.2.1 hok.1 hok.2.1 hok.2.2 hvl).2
      obtain ⟨c3, E4, hb3, h3, h3l, h4⟩ := e_as90 (n := n) (d := c) (v := v) (y := nI u) hz hn hb hok.1 hok.2.1 hok.2.2 hvl k1 (by omega)
      obtain ⟨x1', x2, x3, x4, x5⟩ := as_T hbT he hok hvl h3 h3l h4 hb3
      rw [W2] at E2 hu0
      (repeat (first | (with_reducible refine wi_e (E1) ?_; try dsimp only) | (with_reducible refine wi_e (E2) ?_; try dsimp only) | (with_reducible refine wi_e (E3) ?_; try dsimp only) | (with_reducible refine wi_e (E4) ?_; try dsimp only) | with_reducible refine wi_t (ly_o91 hz) ?_ | with_reducible refine wi_r (ly_r90_0 hz) ?_ | with_reducible refine wi_lt ?_ | (with_reducible refine wi_ifp ?_ ?_; (focus (first | omega | (simp (disch := (first | omega | (simp (disch := first | omega | (simp only [Int32.reduceToInt]; omega)) only [Int32.reduceToInt, ta_add, ta_sub, ta_mul, ta_neg, ta_div]; omega))) only [up_1, cp_1, rng_1, fn_1, dj_1, Nat.reduceEqDiff, false_and, and_false, true_and, and_true, or_true, true_or, or_false, false_or, not_true_eq_false, not_false_eq_true, ↓reduceIte, eq_self, ne_eq, ti_eq, ti_le, ti_lt, ti_ite, Int32.reduceToInt, ta_add, ta_sub, ta_mul, ta_neg, ta_div]; done) | (simp (disch := (first | omega | (simp (disch := first | omega | (simp only [Int32.reduceToInt]; omega)) only [Int32.reduceToInt, ta_add, ta_sub, ta_mul, ta_neg, ta_div]; omega))) only [up_1, cp_1, rng_1, fn_1, dj_1, Nat.reduceEqDiff, false_and, and_false, true_and, and_true, or_true, true_or, or_false, false_or, not_true_eq_false, not_false_eq_true, ↓reduceIte, eq_self, ne_eq, ti_eq, ti_le, ti_lt, ti_ite, Int32.reduceToInt, ta_add, ta_sub, ta_mul, ta_neg, ta_div]; omega)))) | (with_reducible refine wi_ifn ?_ ?_; (focus (first | omega | (simp (disch := (first | omega | (simp (disch := first | omega | (simp only [Int32.reduceToInt]; omega)) only [Int32.reduceToInt, ta_add, ta_sub, ta_mul, ta_neg, ta_div]; omega))) only [up_1, cp_1, rng_1, fn_1, dj_1, Nat.reduceEqDiff, false_and, and_false, true_and, and_true, or_true, true_or, or_false, false_or, not_true_eq_false, not_false_eq_true, ↓reduceIte, eq_self, ne_eq, ti_eq, ti_le, ti_lt, ti_ite, Int32.reduceToInt, ta_add, ta_sub, ta_mul, ta_neg, ta_div]; done) | (simp (disch := (first | omega | (simp (disch := first | omega | (simp only [Int32.reduceToInt]; omega)) only [Int32.reduceToInt, ta_add, ta_sub, ta_mul, ta_neg, ta_div]; omega))) only [up_1, cp_1, rng_1, fn_1, dj_1, Nat.reduceEqDiff, false_and, and_false, true_and, and_true, or_true, true_or, or_false, false_or, not_true_eq_false, not_false_eq_true, ↓reduceIte, eq_self, ne_eq, ti_eq, ti_le, ti_lt, ti_ite, Int32.reduceToInt, ta_add, ta_sub, ta_mul, ta_neg, ta_div]; omega)))) | (with_reducible refine wi_ck ?_ ?_; (focus (first | omega | (simp (disch := (first | omega | (simp (disch := first | omega | (simp only [Int32.reduceToInt]; omega)) only [Int32.reduceToInt, ta_add, ta_sub, ta_mul, ta_neg, ta_div]; omega))) only [up_1, cp_1, rng_1, fn_1, dj_1, Nat.reduceEqDiff, false_and, and_false, true_and, and_true, or_true, true_or, or_false, false_or, not_true_eq_false, not_false_eq_true, ↓reduceIte, eq_self, ne_eq, ti_eq, ti_le, ti_lt, ti_ite, Int32.reduceToInt, ta_add, ta_sub, ta_mul, ta_neg, ta_div]; done) | (simp (disch := (first | omega | (simp (disch := first | omega | (simp only [Int32.reduceToInt]; omega)) only [Int32.reduceToInt, ta_add, ta_sub, ta_mul, ta_neg, ta_div]; omega))) only [up_1, cp_1, rng_1, fn_1, dj_1, Nat.reduceEqDiff, false_and, and_false, true_and, and_true, or_true, true_or, or_false, false_or, not_true_eq_false, not_false_eq_true, ↓reduceIte, eq_self, ne_eq, ti_eq, ti_le, ti_lt, ti_ite, Int32.reduceToInt, ta_add, ta_sub, ta_mul, ta_neg, ta_div]; omega)))) | with_reducible refine wi_bd2 ?_ | with_reducible refine wi_bd1 ?_ | with_reducible refine wi_bd3 ?_ | (with_reducible refine wi_some ?_; try dsimp only)))
      have hx' : (x1 + 1).toInt = x1.toInt + 1 := by (focus (first | omega | (simp (disch := (first | omega | (simp (disch := first | omega | (simp only [Int32.reduceToInt]; omega)) only [Int32.reduceToInt, ta_add, ta_sub, ta_mul, ta_neg, ta_div]; omega))) only [up_1, cp_1, rng_1, fn_1, dj_1, Nat.reduceEqDiff, false_and, and_false, true_and, and_true, or_true, true_or, or_false, false_or, not_true_eq_false, not_false_eq_true, ↓reduceIte, eq_self, ne_eq, ti_eq, ti_le, ti_lt, ti_ite, Int32.reduceToInt, ta_add, ta_sub, ta_mul, ta_neg, ta_div]; done) | (simp (disch := (first | omega | (simp (disch := first | omega | (simp only [Int32.reduceToInt]; omega)) only [Int32.reduceToInt, ta_add, ta_sub, ta_mul, ta_neg, ta_div]; omega))) only [up_1, cp_1, rng_1, fn_1, dj_1, Nat.reduceEqDiff, false_and, and_false, true_and, and_true, or_true, true_or, or_false, false_or, not_true_eq_false, not_false_eq_true, ↓reduceIte, eq_self, ne_eq, ti_eq, ti_le, ti_lt, ti_ite, Int32.reduceToInt, ta_add, ta_sub, ta_mul, ta_neg, ta_div]; omega)))
      refine ih (m - 1) (by omega) c3 (x1 + 1) NC x1' x2 (fun V hV => ?_) (by omega) (by omega) (by omega) (by omega)
      refine xV_a (hP V hV) hok x4 x5 ?_
      rw [ev]
      exact qV_1 (hP V hV) q.2.1 p4 (hPc V hV u W1)
  · have hq0 : 0 ≤ q1.toInt := by rw [Q2, nI_ti (by omega)]; omega
    (repeat (first | (with_reducible refine wi_e (E1) ?_; try dsimp only) | (with_reducible refine wi_e (E2) ?_; try dsimp only) | with_reducible refine wi_t (ly_o91 hz) ?_ | with_reducible refine wi_r (ly_r90_0 hz) ?_ | with_reducible refine wi_lt ?_ | (with_reducible refine wi_ifp ?_ ?_; (focus (first | omega | (simp (disch := (first | omega | (simp (disch := first | omega | (simp only [Int32.reduceToInt]; omega)) only [Int32.reduceToInt, ta_add, ta_sub, ta_mul, ta_neg, ta_div]; omega))) only [up_1, cp_1, rng_1, fn_1, dj_1, Nat.reduceEqDiff, false_and, and_false, true_and, and_true, or_true, true_or, or_false, false_or, not_true_eq_false, not_false_eq_true, ↓reduceIte, eq_self, ne_eq, ti_eq, ti_le, ti_lt, ti_ite, Int32.reduceToInt, ta_add, ta_sub, ta_mul, ta_neg, ta_div]; done) | (simp (disch := (first | omega | (simp (disch := first | omega | (simp only [Int32.reduceToInt]; omega)) only [Int32.reduceToInt, ta_add, ta_sub, ta_mul, ta_neg, ta_div]; omega))) only [up_1, cp_1, rng_1, fn_1, dj_1, Nat.reduceEqDiff, false_and, and_false, true_and, and_true, or_true, true_or, or_false, false_or, not_true_eq_false, not_false_eq_true, ↓reduceIte, eq_self, ne_eq, ti_eq, ti_le, ti_lt, ti_ite, Int32.reduceToInt, ta_add, ta_sub, ta_mul, ta_neg, ta_div]; omega)))) | (with_reducible refine wi_ifn ?_ ?_; (focus (first | omega | (simp (disch := (first | omega | (simp (disch := first | omega | (simp only [Int32.reduceToInt]; omega)) only [Int32.reduceToInt, ta_add, ta_sub, ta_mul, ta_neg, ta_div]; omega))) only [up_1, cp_1, rng_1, fn_1, dj_1, Nat.reduceEqDiff, false_and, and_false, true_and, and_true, or_true, true_or, or_false, false_or, not_true_eq_false, not_false_eq_true, ↓reduceIte, eq_self, ne_eq, ti_eq, ti_le, ti_lt, ti_ite, Int32.reduceToInt, ta_add, ta_sub, ta_mul, ta_neg, ta_div]; done) | (simp (disch := (first | omega | (simp (disch := first | omega | (simp only [Int32.reduceToInt]; omega)) only [Int32.reduceToInt, ta_add, ta_sub, ta_mul, ta_neg, ta_div]; omega))) only [up_1, cp_1, rng_1, fn_1, dj_1, Nat.reduceEqDiff, false_and, and_false, true_and, and_true, or_true, true_or, or_false, false_or, not_true_eq_false, not_false_eq_true, ↓reduceIte, eq_self, ne_eq, ti_eq, ti_le, ti_lt, ti_ite, Int32.reduceToInt, ta_add, ta_sub, ta_mul, ta_neg, ta_div]; omega)))) | (with_reducible refine wi_ck ?_ ?_; (focus (first | omega | (simp (disch := (first | omega | (simp (disch := first | omega | (simp only [Int32.reduceToInt]; omega)) only [Int32.reduceToInt, ta_add, ta_sub, ta_mul, ta_neg, ta_div]; omega))) only [up_1, cp_1, rng_1, fn_1, dj_1, Nat.reduceEqDiff, false_and, and_false, true_and, and_true, or_true, true_or, or_false, false_or, not_true_eq_false, not_false_eq_true, ↓reduceIte, eq_self, ne_eq, ti_eq, ti_le, ti_lt, ti_ite, Int32.reduceToInt, ta_add, ta_sub, ta_mul, ta_neg, ta_div]; done) | (simp (disch := (first | omega | (simp (disch := first | omega | (simp only [Int32.reduceToInt]; omega)) only [Int32.reduceToInt, ta_add, ta_sub, ta_mul, ta_neg, ta_div]; omega))) only [up_1, cp_1, rng_1, fn_1, dj_1, Nat.reduceEqDiff, false_and, and_false, true_and, and_true, or_true, true_or, or_false, false_or, not_true_eq_false, not_false_eq_true, ↓reduceIte, eq_self, ne_eq, ti_eq, ti_le, ti_lt, ti_ite, Int32.reduceToInt, ta_add, ta_sub, ta_mul, ta_neg, ta_div]; omega)))) | with_reducible refine wi_bd2 ?_ | with_reducible refine wi_bd1 ?_ | with_reducible refine wi_bd3 ?_ | (with_reducible refine wi_some ?_; try dsimp only)))
    refine ⟨hbT, he, Or.inr ⟨hq0, fun V hV => ?_⟩⟩
    have q := rw_3 hb Q1
    have s := sQ3 (U := cV c) (cV_k hb) q.1 q.2.1
    rw [← hlw k Q1, Q3] at s
    rcases s.2 with ⟨_, e⟩ | ⟨e, _⟩ | ⟨e, _⟩
    · exact qV_0 (hP V hV) q.2.1 e (hPc V hV k Q1)
    · omega
    · omega
end BST

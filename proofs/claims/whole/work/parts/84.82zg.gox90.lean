/-! go and solving: frames, ends (90, 1) -/
section GOX
variable {n : Nat} {z : ix_Z} {c c' r r' : ix_D2} {rn : Nat → Nat} {v x y w : Int32} {k g : Nat}
theorem R_t90 (h : R_90 c r rn) (e1 : ∀ a i, (a ≠ 115 ∨ i ≠ 0) → c'.1 a i = c.1 a i) (e2 : c'.2 = c.2) : R_90 c' r rn := by
  obtain ⟨hb, hrr, htk, hrt, ⟨hla, hll, hql⟩, hrs, hwg, hnb, hty, haq, hcq⟩ := h
  have f : ∀ a, a ≠ 115 → c'.1 a = c.1 a := fun a h => funext fun i => e1 a i (Or.inl h)
  have t25 : ∀ k, k ≠ 0 → c'.1 115 k = c.1 115 k := fun k hk => e1 _ _ (Or.inr hk)
  have f1 := f 91 (by decide)
  have f2 := f 92 (by decide)
  have f3 := f 93 (by decide)
  have f4 := f 94 (by decide)
  have f8 := f 98 (by decide)
  have f11 := f 101 (by decide)
  have f12 := f 102 (by decide)
  have f13 := f 103 (by decide)
  have f14 := f 104 (by decide)
  have f15 := f 105 (by decide)
  have f20 := f 110 (by decide)
  have f21 := f 111 (by decide)
  have f26 := f 116 (by decide)
  have f0 := f 90 (by decide)
  refine ⟨bi_c90 hb (fun a i p => e1 a i (by omega)) (fun i => by rw [e2]) (fun i => by rw [e2]), rr_c90 hrr (fun a i p => e1 a i (by omega)), ?_, ?_, ⟨?_, ?_, ?_⟩, ?_, ?_, ?_, ?_, ?_, ?_⟩
  · unfold tk_90 vl_; rw [f1, f11, f15]; exact htk
  · unfold rt_90; rw [f1, f2, f12, f13, f14, f15]; exact hrt
  · unfold la_90 le_90 in_90; rw [f1, f2, f3, f4, f11, f13, f14, f15]; exact hla
  · rw [f1]; exact hll
  · unfold ql_90 in_90 vl_; rw [f1, f2, f3, f4, f8, f11, f13]; exact hql
  · unfold rs_90 rs1_90 rs2_90 le_90; rw [f1, f13, f15, t25 8 (by decide), e2]; exact hrs
  · unfold wg_90; rw [f1, e2]; exact hwg
  · unfold nb_90; rw [f1, f2, f3, f4, f15]; exact hnb
  · unfold ty_90; rw [f1, f2, f4, f8, f21, f0, t25 4 (by decide), t25 5 (by decide), t25 7 (by decide), t25 8 (by decide)]
    exact ⟨fun k hk => by rw [t25 k (by unfold tt_ at hk; omega)]; exact hty.1 k hk, hty.2⟩
  · unfold aq_90; rw [f1, f20, f0]; exact haq
  · unfold cq_90; rw [f26]; exact hcq
theorem fc_fm90 (h : fm_90 c r c' r') : fc_90 c c' := fun a k g => ⟨h.1 a k (by omega) (by omega) (by omega) (by omega), h.2.1 a k (by omega)⟩
theorem fq_fm90 (h : fm_90 c r c' r') : fq_q1 r r' := fun a k hs => ⟨h.2.2.1 a k (by have := sn_mq1 hs; omega) (by have := sn_oq1 hs; omega), h.2.2.2 a k (sn_184q1 hs)⟩
theorem fc_nz90 (h : nz_90 c r rn c' r') : fc_90 c c' ∧ c'.1 115 1 = c.1 115 1 := by
  obtain ⟨Y, fr, hY, ⟨F, T, A, S, _, _, _, _, _, _, h1, _, _, _, _, h2, _⟩, _⟩ := h
  exact ⟨fun a k g => ⟨h1 a k (by omega) (by omega) (by omega) (by omega) (by omega) (by omega) (by omega) (by omega) (by omega), h2 a k (by omega) (by omega)⟩, h1 _ _ (by omega) (by omega) (by omega) (by omega) (by omega) (by omega) (by omega) (by omega) (by omega)⟩
theorem fq_nz90 (h : nz_90 c r rn c' r') : fq_q1 r r' ∧ r'.1 125 89 = r.1 125 89 := by
  obtain ⟨Y, fr, hY, ⟨F, T, A, S, _, _, _, _, hT, hA, _, _, _, _, _, _, h1, _, _, _, h2, _⟩, _⟩ := h
  refine ⟨fun a k hs => ⟨h1 a k ?_ ?_ ?_ ?_ ?_ ?_, h2 a k (sn_184q1 hs) ?_⟩, h1 _ _ (by omega) (by omega) (by omega) (by omega) (by omega) (by omega)⟩
  · have := sn_177q1 hs; omega
  · have := sn_176q1 hs; omega
  · have := sn_qq1 hs; omega
  · have := sn_mq1 hs; omega
  · have := sn_oq1 hs; omega
  · by_cases h0 : 1 = 0
    · right
      refine ⟨fun e => hs (sr_yq1 h0 (by omega) (by omega)), fun e => hs (sr_yq1 h0 (by omega) (by omega)), fun e => hs (sr_yq1 h0 (by omega) (by omega)), ?_⟩
      by_cases e : a = 125
      · right
        refine ⟨fun e2 => hs ?_, fun e2 => hs ?_, fun e2 => hs ?_⟩ <;> rw [e] <;> exact sr_zq1 h0 (by omega)
      · exact Or.inl e
    · exact Or.inl h0
  · have := sn_182q1 hs; omega
/-- the reference's rows of the case are all there (on the first solver) -/
def h0_90 (r : ix_D2) : Prop := 1 = 0 → ∀ m : Nat, (m : Int) < (r.1 162 1).toInt → (r.1 163 (500 * 1 + m)).toInt ≠ 0
theorem h0_c90 (h : h0_90 r) (e : fq_q1 r r') : h0_90 r' := fun h0 m hm => by
  have e1 : r'.1 162 1 = r.1 162 1 := (e _ _ (by unfold sq_q1; omega)).1
  have e2 : r'.1 163 (500 * 1 + m) = r.1 163 (500 * 1 + m) := (e _ _ (by unfold sq_q1; omega)).1
  rw [e1] at hm
  rw [e2]
  exact h h0 m hm
theorem id_90 (hr : rr_90 c r rn) (h : h0_90 r) : 1 = 0 → ∀ k : Nat, (k : Int) < (c.1 91 15).toInt → rn k = k := by
  intro h0
  obtain ⟨_, _, _, _, _, m1, m2, m3, _⟩ := hr.2.1
  have hge : ∀ k : Nat, (k : Int) < (c.1 91 15).toInt → k ≤ rn k := by
    intro k
    induction k with
    | zero => intro _; omega
    | succ k ih => intro hk; have := ih (by omega); have := m3 k (k + 1) (by omega) hk; omega
  intro k
  induction k using Nat.strongRecOn with
  | _ k ih =>
    intro hk
    have h1 := hge k hk
    by_cases e : rn k = k
    · exact e
    · have h2 := m1 k hk
      obtain ⟨j, j1, j2⟩ := m2 k (by omega) (h h0 k (by omega))
      rcases Nat.lt_trichotomy j k with q | q | q
      · have := ih j q j1; omega
      · rw [q] at j2; exact absurd j2 e
      · have := m3 k j q j1; omega
theorem st_190 {a b : Int32} : (a - 1) + (b + 1) = a + b := Int32.toInt_inj.mp (by
  have : (1 : Int32).toInt = 1 := rfl
  have := ti_b a
  have := ti_b b
  rw [ti_add, ti_add, ti_sub, ti_add]
  omega)
/-- the end of go and solving -/
def ge_90 (c r : ix_D2) (u w : Int32 × ix_D2) : Prop := u.1 = w.1 ∧ fc_90 c u.2 ∧ fq_q1 r w.2 ∧ u.2.1 115 0 = u.1 ∧ w.2.1 125 89 + u.2.1 115 1 = r.1 125 89 + c.1 115 1 ∧ 0 ≤ (w.2.1 125 89).toInt ∧ (w.2.1 125 89).toInt ≤ (r.1 125 89).toInt ∧ (u.1 = 1 → ∀ m : Nat, 1 ≤ m → (m : Int) ≤ (u.2.1 91 14).toInt → (u.2.1 101 m).toInt ≠ 0) ∧ (∀ P : Nat → Int64 → Prop, cl_ P → sQ_q1 P r → sQ_q1 P w.2) ∧ ∃ rn, ((u.1 = 1 ∨ u.1 = -1004 ∨ u.1 = -1003) ∧ R_90 u.2 w.2 rn) ∨ (u.1 = 0 ∧ ∃ c1 r1 c2, R_90 c1 r1 rn ∧ h0_90 r1 ∧ nz_90 c1 r1 rn c2 w.2 ∧ u.2 = ix_di c2 115 0 0)
theorem ge_t90 {u w : Int32 × ix_D2} (h : ge_90 c' r' u w) (f1 : fc_90 c c') (f2 : fq_q1 r r') (e : r'.1 125 89 + c'.1 115 1 = r.1 125 89 + c.1 115 1) (el : (r'.1 125 89).toInt ≤ (r.1 125 89).toInt) (fP : ∀ P : Nat → Int64 → Prop, cl_ P → sQ_q1 P r → sQ_q1 P r') : ge_90 c r u w := by
  obtain ⟨g1, g2, g3, g4, g5, g6, g7, g8, g9, g10⟩ := h
  exact ⟨g1, fc_t90 f1 g2, fq_tq1 f2 g3, g4, g5.trans e, g6, Int.le_trans g7 el, g8, fun P hP hQ => g9 P hP (fP P hP hQ), g10⟩
/-- at the end of a case: what R or NO give -/
theorem ge_R90 {x : Int32} (h : R_90 c' r' rn) (f1 : fc_90 c c') (f2 : fq_q1 r r') (hx : x = 1 ∨ x = -1004 ∨ x = -1003) (hy : x = 1 → ∀ m : Nat, 1 ≤ m → (m : Int) ≤ (c'.1 91 14).toInt → (c'.1 101 m).toInt ≠ 0) (e : c'.1 115 1 = c.1 115 1) (e2 : r'.1 125 89 = r.1 125 89) (e3 : 0 ≤ (r.1 125 89).toInt) (fP : ∀ P : Nat → Int64 → Prop, cl_ P → sQ_q1 P r → sQ_q1 P r') : ge_90 c r (x, ix_di c' 115 0 x) (x, r') := by
  refine ⟨rfl, fun a k hg => ?_, f2, ?_, ?_, by rw [e2]; exact e3, by rw [e2]; exact Int.le_refl _, fun hx1 m m1 m2 => ?_, fP, rn, Or.inl ⟨hx, R_t90 h (fun a i p => by rw [up_1, if_neg (by omega)]) rfl⟩⟩
  · show (ix_di c' 115 0 x).1 a k = _ ∧ _
    rw [up_1, if_neg (by omega)]
    exact f1 a k hg
  · show (ix_di c' 115 0 x).1 115 0 = x
    rw [up_1, if_pos ⟨rfl, rfl⟩]
  · show r'.1 125 89 + (ix_di c' 115 0 x).1 115 1 = _
    rw [up_1, if_neg (fun q => absurd q.2 (by decide)), e, e2]
  · have q1 : (ix_di c' 115 0 x).1 91 14 = c'.1 91 14 := by rw [up_1, if_neg (fun q => absurd q.1 (by decide))]
    have q2 : (ix_di c' 115 0 x).1 101 m = c'.1 101 m := by rw [up_1, if_neg (fun q => absurd q.1 (by decide))]
    show ((ix_di c' 115 0 x).1 101 m).toInt ≠ 0
    rw [q2]
    have m3 : (m : Int) ≤ ((ix_di c' 115 0 x).1 91 14).toInt := m2
    rw [q1] at m3
    exact hy hx1 m m1 m3
theorem ge_fn90 {u w : Int32 × ix_D2} (h : R_90 c r rn) (h0 : h0_90 r) (hf : fn_90 c r rn u w) (e3 : 0 ≤ (r.1 125 89).toInt) : ge_90 c r (u.1, ix_di u.2 115 0 u.1) w := by
  obtain ⟨u1, c'⟩ := u
  obtain ⟨w1, r'⟩ := w
  rcases hf with ⟨h1, h2, h3⟩ | ⟨h1, h2, h3, h4⟩
  · dsimp only at h1 h2 h3 ⊢
    subst h1 h2
    exact ge_R90 (R_fm90 h h3) (fc_fm90 h3) (fq_fm90 h3) (Or.inr (Or.inr rfl)) (fun q => absurd q (by decide)) (h3.1 _ _ (by omega) (by omega) (by omega) (by omega)) (h3.2.2.1 _ _ (by omega) (by omega)) e3 (fun P _ hQ => sQ_cq1 hQ (fun a i d => h3.2.2.1 a i (by omega) (by omega)) h3.2.2.2)
  · dsimp only at h1 h2 h3 h4 ⊢
    subst h1 h2
    have f1 := fc_nz90 h3
    have f2 := fq_nz90 h3
    refine ⟨rfl, fun a k hg => ?_, f2.1, ?_, ?_, by rw [f2.2]; exact e3, by rw [f2.2]; exact Int.le_refl _, fun q => absurd (show (0 : Int32) = 1 from q) (by decide), h4, rn, Or.inr ⟨rfl, c, r, c', h, h0, h3, rfl⟩⟩
    · show (ix_di c' 115 0 0).1 a k = _ ∧ _
      rw [up_1, if_neg (by omega)]
      exact f1.1 a k hg
    · show (ix_di c' 115 0 0).1 115 0 = 0
      rw [up_1, if_pos ⟨rfl, rfl⟩]
    · show r'.1 125 89 + (ix_di c' 115 0 0).1 115 1 = _
      rw [up_1, if_neg (fun q => absurd q.2 (by decide)), f1.2, f2.2]
/-- the loops' ends -/
theorem e_gx90 (hz : ly_z z) {N : Nat} {x2 x3 : Int32} (h2 : x2.toInt ≠ 2) : ix_fix (b_X9_go_4 n z 90) (fun _ _ _ => none) (N + 1) x2 x3 c = some (x2, ix_di c 115 0 x2) := by
  have n0 : ix_n (0 : Int32) = 0 := rfl
  rw [← wp_eq]
  show wp_t (b_X9_go_4 n z 90 (ix_fix (b_X9_go_4 n z 90) (fun _ _ _ => none) N) x2 x3 c) _
  unfold b_X9_go_4
  by_cases c3 : x3.toInt < 0
  · (repeat (first | rw [n0] | with_reducible refine wi_t (ly_o90 hz) ?_ | with_reducible refine wi_r (ly_r0_7 hz) ?_ | with_reducible refine wi_r (ly_r90_10 hz) ?_ | with_reducible refine wi_t (ly_a115 hz) ?_ | (with_reducible refine wi_x (ly_i115 hz) ?_ ?_ ?_; (focus (first | omega | (simp only [Int32.reduceToInt]; omega) | (simp (disch := (first | omega | (simp (disch := first | omega | (simp only [Int32.reduceToInt]; omega)) only [Int32.reduceToInt, ta_add, ta_sub, ta_mul, ta_neg, ta_div]; omega))) only [ly_n115 hz, Int32.reduceMul, up_1, cp_1, rng_1, fn_1, dj_1, Nat.reduceEqDiff, false_and, and_false, true_and, and_true, or_true, true_or, or_false, false_or, not_true_eq_false, not_false_eq_true, ↓reduceIte, eq_self, ne_eq, ti_eq, ti_le, ti_lt, ti_ite, Int32.reduceToInt, ta_add, ta_sub, ta_mul, ta_neg, ta_div]; done) | (simp (disch := (first | omega | (simp (disch := first | omega | (simp only [Int32.reduceToInt]; omega)) only [Int32.reduceToInt, ta_add, ta_sub, ta_mul, ta_neg, ta_div]; omega))) only [ly_n115 hz, Int32.reduceMul, up_1, cp_1, rng_1, fn_1, dj_1, Nat.reduceEqDiff, false_and, and_false, true_and, and_true, or_true, true_or, or_false, false_or, not_true_eq_false, not_false_eq_true, ↓reduceIte, eq_self, ne_eq, ti_eq, ti_le, ti_lt, ti_ite, Int32.reduceToInt, ta_add, ta_sub, ta_mul, ta_neg, ta_div]; omega))); (focus (first | omega | (simp only [Int32.reduceToInt]; omega) | (simp (disch := (first | omega | (simp (disch := first | omega | (simp only [Int32.reduceToInt]; omega)) only [Int32.reduceToInt, ta_add, ta_sub, ta_mul, ta_neg, ta_div]; omega))) only [ly_n115 hz, Int32.reduceMul, up_1, cp_1, rng_1, fn_1, dj_1, Nat.reduceEqDiff, false_and, and_false, true_and, and_true, or_true, true_or, or_false, false_or, not_true_eq_false, not_false_eq_true, ↓reduceIte, eq_self, ne_eq, ti_eq, ti_le, ti_lt, ti_ite, Int32.reduceToInt, ta_add, ta_sub, ta_mul, ta_neg, ta_div]; done) | (simp (disch := (first | omega | (simp (disch := first | omega | (simp only [Int32.reduceToInt]; omega)) only [Int32.reduceToInt, ta_add, ta_sub, ta_mul, ta_neg, ta_div]; omega))) only [ly_n115 hz, Int32.reduceMul, up_1, cp_1, rng_1, fn_1, dj_1, Nat.reduceEqDiff, false_and, and_false, true_and, and_true, or_true, true_or, or_false, false_or, not_true_eq_false, not_false_eq_true, ↓reduceIte, eq_self, ne_eq, ti_eq, ti_le, ti_lt, ti_ite, Int32.reduceToInt, ta_add, ta_sub, ta_mul, ta_neg, ta_div]; omega)))) | with_reducible refine wi_lt ?_ | (with_reducible refine wi_ifp ?_ ?_; (focus (first | omega | (simp only [Int32.reduceToInt]; omega) | (simp (disch := (first | omega | (simp (disch := first | omega | (simp only [Int32.reduceToInt]; omega)) only [Int32.reduceToInt, ta_add, ta_sub, ta_mul, ta_neg, ta_div]; omega))) only [ly_n115 hz, Int32.reduceMul, up_1, cp_1, rng_1, fn_1, dj_1, Nat.reduceEqDiff, false_and, and_false, true_and, and_true, or_true, true_or, or_false, false_or, not_true_eq_false, not_false_eq_true, ↓reduceIte, eq_self, ne_eq, ti_eq, ti_le, ti_lt, ti_ite, Int32.reduceToInt, ta_add, ta_sub, ta_mul, ta_neg, ta_div]; done) | (simp (disch := (first | omega | (simp (disch := first | omega | (simp only [Int32.reduceToInt]; omega)) only [Int32.reduceToInt, ta_add, ta_sub, ta_mul, ta_neg, ta_div]; omega))) only [ly_n115 hz, Int32.reduceMul, up_1, cp_1, rng_1, fn_1, dj_1, Nat.reduceEqDiff, false_and, and_false, true_and, and_true, or_true, true_or, or_false, false_or, not_true_eq_false, not_false_eq_true, ↓reduceIte, eq_self, ne_eq, ti_eq, ti_le, ti_lt, ti_ite, Int32.reduceToInt, ta_add, ta_sub, ta_mul, ta_neg, ta_div]; omega)))) | (with_reducible refine wi_ifn ?_ ?_; (focus (first | omega | (simp only [Int32.reduceToInt]; omega) | (simp (disch := (first | omega | (simp (disch := first | omega | (simp only [Int32.reduceToInt]; omega)) only [Int32.reduceToInt, ta_add, ta_sub, ta_mul, ta_neg, ta_div]; omega))) only [ly_n115 hz, Int32.reduceMul, up_1, cp_1, rng_1, fn_1, dj_1, Nat.reduceEqDiff, false_and, and_false, true_and, and_true, or_true, true_or, or_false, false_or, not_true_eq_false, not_false_eq_true, ↓reduceIte, eq_self, ne_eq, ti_eq, ti_le, ti_lt, ti_ite, Int32.reduceToInt, ta_add, ta_sub, ta_mul, ta_neg, ta_div]; done) | (simp (disch := (first | omega | (simp (disch := first | omega | (simp only [Int32.reduceToInt]; omega)) only [Int32.reduceToInt, ta_add, ta_sub, ta_mul, ta_neg, ta_div]; omega))) only [ly_n115 hz, Int32.reduceMul, up_1, cp_1, rng_1, fn_1, dj_1, Nat.reduceEqDiff, false_and, and_false, true_and, and_true, or_true, true_or, or_false, false_or, not_true_eq_false, not_false_eq_true, ↓reduceIte, eq_self, ne_eq, ti_eq, ti_le, ti_lt, ti_ite, Int32.reduceToInt, ta_add, ta_sub, ta_mul, ta_neg, ta_div]; omega)))) | (with_reducible refine wi_ck ?_ ?_; (focus (first | omega | (simp only [Int32.reduceToInt]; omega) | (simp (disch := (first | omega | (simp (disch := first | omega | (simp only [Int32.reduceToInt]; omega)) only [Int32.reduceToInt, ta_add, ta_sub, ta_mul, ta_neg, ta_div]; omega))) only [ly_n115 hz, Int32.reduceMul, up_1, cp_1, rng_1, fn_1, dj_1, Nat.reduceEqDiff, false_and, and_false, true_and, and_true, or_true, true_or, or_false, false_or, not_true_eq_false, not_false_eq_true, ↓reduceIte, eq_self, ne_eq, ti_eq, ti_le, ti_lt, ti_ite, Int32.reduceToInt, ta_add, ta_sub, ta_mul, ta_neg, ta_div]; done) | (simp (disch := (first | omega | (simp (disch := first | omega | (simp only [Int32.reduceToInt]; omega)) only [Int32.reduceToInt, ta_add, ta_sub, ta_mul, ta_neg, ta_div]; omega))) only [ly_n115 hz, Int32.reduceMul, up_1, cp_1, rng_1, fn_1, dj_1, Nat.reduceEqDiff, false_and, and_false, true_and, and_true, or_true, true_or, or_false, false_or, not_true_eq_false, not_false_eq_true, ↓reduceIte, eq_self, ne_eq, ti_eq, ti_le, ti_lt, ti_ite, Int32.reduceToInt, ta_add, ta_sub, ta_mul, ta_neg, ta_div]; omega)))) | with_reducible refine wi_bd2 ?_ | with_reducible refine wi_bd1 ?_ | with_reducible refine wi_bd3 ?_ | (with_reducible refine wi_some ?_; try dsimp only) | unfold f_X9_go_126))
    all_goals rfl
  · (repeat (first | rw [n0] | with_reducible refine wi_t (ly_o90 hz) ?_ | with_reducible refine wi_r (ly_r0_7 hz) ?_ | with_reducible refine wi_r (ly_r90_10 hz) ?_ | with_reducible refine wi_t (ly_a115 hz) ?_ | (with_reducible refine wi_x (ly_i115 hz) ?_ ?_ ?_; (focus (first | omega | (simp only [Int32.reduceToInt]; omega) | (simp (disch := (first | omega | (simp (disch := first | omega | (simp only [Int32.reduceToInt]; omega)) only [Int32.reduceToInt, ta_add, ta_sub, ta_mul, ta_neg, ta_div]; omega))) only [ly_n115 hz, Int32.reduceMul, up_1, cp_1, rng_1, fn_1, dj_1, Nat.reduceEqDiff, false_and, and_false, true_and, and_true, or_true, true_or, or_false, false_or, not_true_eq_false, not_false_eq_true, ↓reduceIte, eq_self, ne_eq, ti_eq, ti_le, ti_lt, ti_ite, Int32.reduceToInt, ta_add, ta_sub, ta_mul, ta_neg, ta_div]; done) | (simp (disch := (first | omega | (simp (disch := first | omega | (simp only [Int32.reduceToInt]; omega)) only [Int32.reduceToInt, ta_add, ta_sub, ta_mul, ta_neg, ta_div]; omega))) only [ly_n115 hz, Int32.reduceMul, up_1, cp_1, rng_1, fn_1, dj_1, Nat.reduceEqDiff, false_and, and_false, true_and, and_true, or_true, true_or, or_false, false_or, not_true_eq_false, not_false_eq_true, ↓reduceIte, eq_self, ne_eq, ti_eq, ti_le, ti_lt, ti_ite, Int32.reduceToInt, ta_add, ta_sub, ta_mul, ta_neg, ta_div]; omega))); (focus (first | omega | (simp only [Int32.reduceToInt]; omega) | (simp (disch := (first | omega | (simp (disch := first | omega | (simp only [Int32.reduceToInt]; omega)) only [Int32.reduceToInt, ta_add, ta_sub, ta_mul, ta_neg, ta_div]; omega))) only [ly_n115 hz, Int32.reduceMul, up_1, cp_1, rng_1, fn_1, dj_1, Nat.reduceEqDiff, false_and, and_false, true_and, and_true, or_true, true_or, or_false, false_or, not_true_eq_false, not_false_eq_true, ↓reduceIte, eq_self, ne_eq, ti_eq, ti_le, ti_lt, ti_ite, Int32.reduceToInt, ta_add, ta_sub, ta_mul, ta_neg, ta_div]; done) | (simp (disch := (first | omega | (simp (disch := first | omega | (simp only [Int32.reduceToInt]; omega)) only [Int32.reduceToInt, ta_add, ta_sub, ta_mul, ta_neg, ta_div]; omega))) only [ly_n115 hz, Int32.reduceMul, up_1, cp_1, rng_1, fn_1, dj_1, Nat.reduceEqDiff, false_and, and_false, true_and, and_true, or_true, true_or, or_false, false_or, not_true_eq_false, not_false_eq_true, ↓reduceIte, eq_self, ne_eq, ti_eq, ti_le, ti_lt, ti_ite, Int32.reduceToInt, ta_add, ta_sub, ta_mul, ta_neg, ta_div]; omega)))) | with_reducible refine wi_lt ?_ | (with_reducible refine wi_ifp ?_ ?_; (focus (first | omega | (simp only [Int32.reduceToInt]; omega) | (simp (disch := (first | omega | (simp (disch := first | omega | (simp only [Int32.reduceToInt]; omega)) only [Int32.reduceToInt, ta_add, ta_sub, ta_mul, ta_neg, ta_div]; omega))) only [ly_n115 hz, Int32.reduceMul, up_1, cp_1, rng_1, fn_1, dj_1, Nat.reduceEqDiff, false_and, and_false, true_and, and_true, or_true, true_or, or_false, false_or, not_true_eq_false, not_false_eq_true, ↓reduceIte, eq_self, ne_eq, ti_eq, ti_le, ti_lt, ti_ite, Int32.reduceToInt, ta_add, ta_sub, ta_mul, ta_neg, ta_div]; done) | (simp (disch := (first | omega | (simp (disch := first | omega | (simp only [Int32.reduceToInt]; omega)) only [Int32.reduceToInt, ta_add, ta_sub, ta_mul, ta_neg, ta_div]; omega))) only [ly_n115 hz, Int32.reduceMul, up_1, cp_1, rng_1, fn_1, dj_1, Nat.reduceEqDiff, false_and, and_false, true_and, and_true, or_true, true_or, or_false, false_or, not_true_eq_false, not_false_eq_true, ↓reduceIte, eq_self, ne_eq, ti_eq, ti_le, ti_lt, ti_ite, Int32.reduceToInt, ta_add, ta_sub, ta_mul, ta_neg, ta_div]; omega)))) | (with_reducible refine wi_ifn ?_ ?_; (focus (first | omega | (simp only [Int32.reduceToInt]; omega) | (simp (disch := (first | omega | (simp (disch := first | omega | (simp only [Int32.reduceToInt]; omega)) only [Int32.reduceToInt, ta_add, ta_sub, ta_mul, ta_neg, ta_div]; omega))) only [ly_n115 hz, Int32.reduceMul, up_1, cp_1, rng_1, fn_1, dj_1, Nat.reduceEqDiff, false_and, and_false, true_and, and_true, or_true, true_or, or_false, false_or, not_true_eq_false, not_false_eq_true, ↓reduceIte, eq_self, ne_eq, ti_eq, ti_le, ti_lt, ti_ite, Int32.reduceToInt, ta_add, ta_sub, ta_mul, ta_neg, ta_div]; done) | (simp (disch := (first | omega | (simp (disch := first | omega | (simp only [Int32.reduceToInt]; omega)) only [Int32.reduceToInt, ta_add, ta_sub, ta_mul, ta_neg, ta_div]; omega))) only [ly_n115 hz, Int32.reduceMul, up_1, cp_1, rng_1, fn_1, dj_1, Nat.reduceEqDiff, false_and, and_false, true_and, and_true, or_true, true_or, or_false, false_or, not_true_eq_false, not_false_eq_true, ↓reduceIte, eq_self, ne_eq, ti_eq, ti_le, ti_lt, ti_ite, Int32.reduceToInt, ta_add, ta_sub, ta_mul, ta_neg, ta_div]; omega)))) | (with_reducible refine wi_ck ?_ ?_; (focus (first | omega | (simp only [Int32.reduceToInt]; omega) | (simp (disch := (first | omega | (simp (disch := first | omega | (simp only [Int32.reduceToInt]; omega)) only [Int32.reduceToInt, ta_add, ta_sub, ta_mul, ta_neg, ta_div]; omega))) only [ly_n115 hz, Int32.reduceMul, up_1, cp_1, rng_1, fn_1, dj_1, Nat.reduceEqDiff, false_and, and_false, true_and, and_true, or_true, true_or, or_false, false_or, not_true_eq_false, not_false_eq_true, ↓reduceIte, eq_self, ne_eq, ti_eq, ti_le, ti_lt, ti_ite, Int32.reduceToInt, ta_add, ta_sub, ta_mul, ta_neg, ta_div]; done) | (simp (disch := (first | omega | (simp (disch := first | omega | (simp only [Int32.reduceToInt]; omega)) only [Int32.reduceToInt, ta_add, ta_sub, ta_mul, ta_neg, ta_div]; omega))) only [ly_n115 hz, Int32.reduceMul, up_1, cp_1, rng_1, fn_1, dj_1, Nat.reduceEqDiff, false_and, and_false, true_and, and_true, or_true, true_or, or_false, false_or, not_true_eq_false, not_false_eq_true, ↓reduceIte, eq_self, ne_eq, ti_eq, ti_le, ti_lt, ti_ite, Int32.reduceToInt, ta_add, ta_sub, ta_mul, ta_neg, ta_div]; omega)))) | with_reducible refine wi_bd2 ?_ | with_reducible refine wi_bd1 ?_ | with_reducible refine wi_bd3 ?_ | (with_reducible refine wi_some ?_; try dsimp only) | unfold f_X9_go_126))
    all_goals rfl
theorem e_sxq1 {M : Nat} {x2 : Int32} (h2 : x2.toInt ≠ 7) : ix_fix (b_X12_solving_3 n z 125 1) (fun _ _ => none) (M + 1) x2 r = some (x2, r) := by
  rw [← wp_eq]
  show wp_t (b_X12_solving_3 n z 125 1 (ix_fix (b_X12_solving_3 n z 125 1) (fun _ _ => none) M) x2 r) _
  unfold b_X12_solving_3
  (repeat (first | with_reducible refine wi_t (ly_o125 hz) ?_ | with_reducible refine wi_lt ?_ | (with_reducible refine wi_ifp ?_ ?_; (focus (first | omega | (simp only [Int32.reduceToInt]; omega) | (simp (disch := (first | omega | (simp (disch := first | omega | (simp only [Int32.reduceToInt]; omega)) only [Int32.reduceToInt, ta_add, ta_sub, ta_mul, ta_neg, ta_div]; omega))) only [h2, Int32.reduceMul, up_1, cp_1, rng_1, fn_1, dj_1, Nat.reduceEqDiff, false_and, and_false, true_and, and_true, or_true, true_or, or_false, false_or, not_true_eq_false, not_false_eq_true, ↓reduceIte, eq_self, ne_eq, ti_eq, ti_le, ti_lt, ti_ite, Int32.reduceToInt, ta_add, ta_sub, ta_mul, ta_neg, ta_div]; done) | (simp (disch := (first | omega | (simp (disch := first | omega | (simp only [Int32.reduceToInt]; omega)) only [Int32.reduceToInt, ta_add, ta_sub, ta_mul, ta_neg, ta_div]; omega))) only [h2, Int32.reduceMul, up_1, cp_1, rng_1, fn_1, dj_1, Nat.reduceEqDiff, false_and, and_false, true_and, and_true, or_true, true_or, or_false, false_or, not_true_eq_false, not_false_eq_true, ↓reduceIte, eq_self, ne_eq, ti_eq, ti_le, ti_lt, ti_ite, Int32.reduceToInt, ta_add, ta_sub, ta_mul, ta_neg, ta_div]; omega)))) | (with_reducible refine wi_ifn ?_ ?_; (focus (first | omega | (simp only [Int32.reduceToInt]; omega) | (simp (disch := (first | omega | (simp (disch := first | omega | (simp only [Int32.reduceToInt]; omega)) only [Int32.reduceToInt, ta_add, ta_sub, ta_mul, ta_neg, ta_div]; omega))) only [h2, Int32.reduceMul, up_1, cp_1, rng_1, fn_1, dj_1, Nat.reduceEqDiff, false_and, and_false, true_and, and_true, or_true, true_or, or_false, false_or, not_true_eq_false, not_false_eq_true, ↓reduceIte, eq_self, ne_eq, ti_eq, ti_le, ti_lt, ti_ite, Int32.reduceToInt, ta_add, ta_sub, ta_mul, ta_neg, ta_div]; done) | (simp (disch := (first | omega | (simp (disch := first | omega | (simp only [Int32.reduceToInt]; omega)) only [Int32.reduceToInt, ta_add, ta_sub, ta_mul, ta_neg, ta_div]; omega))) only [h2, Int32.reduceMul, up_1, cp_1, rng_1, fn_1, dj_1, Nat.reduceEqDiff, false_and, and_false, true_and, and_true, or_true, true_or, or_false, false_or, not_true_eq_false, not_false_eq_true, ↓reduceIte, eq_self, ne_eq, ti_eq, ti_le, ti_lt, ti_ite, Int32.reduceToInt, ta_add, ta_sub, ta_mul, ta_neg, ta_div]; omega)))) | (with_reducible refine wi_ck ?_ ?_; (focus (first | omega | (simp only [Int32.reduceToInt]; omega) | (simp (disch := (first | omega | (simp (disch := first | omega | (simp only [Int32.reduceToInt]; omega)) only [Int32.reduceToInt, ta_add, ta_sub, ta_mul, ta_neg, ta_div]; omega))) only [h2, Int32.reduceMul, up_1, cp_1, rng_1, fn_1, dj_1, Nat.reduceEqDiff, false_and, and_false, true_and, and_true, or_true, true_or, or_false, false_or, not_true_eq_false, not_false_eq_true, ↓reduceIte, eq_self, ne_eq, ti_eq, ti_le, ti_lt, ti_ite, Int32.reduceToInt, ta_add, ta_sub, ta_mul, ta_neg, ta_div]; done) | (simp (disch := (first | omega | (simp (disch := first | omega | (simp only [Int32.reduceToInt]; omega)) only [Int32.reduceToInt, ta_add, ta_sub, ta_mul, ta_neg, ta_div]; omega))) only [h2, Int32.reduceMul, up_1, cp_1, rng_1, fn_1, dj_1, Nat.reduceEqDiff, false_and, and_false, true_and, and_true, or_true, true_or, or_false, false_or, not_true_eq_false, not_false_eq_true, ↓reduceIte, eq_self, ne_eq, ti_eq, ti_le, ti_lt, ti_ite, Int32.reduceToInt, ta_add, ta_sub, ta_mul, ta_neg, ta_div]; omega)))) | with_reducible refine wi_bd2 ?_ | with_reducible refine wi_bd1 ?_ | with_reducible refine wi_bd3 ?_ | (with_reducible refine wi_some ?_; try dsimp only)))
  all_goals rfl
end GOX

/-! FORCING TO ITS END: class settle on the board beside, the reference's force -/
/-- the class's memory with no bars and no learnt rows behind its T rows -/
def cS_ (T : Nat) (c : ix_D2) : ix_D2 := ix_di (ix_di c 91 15 (nI T)) 91 16 (nI T)
def F_ (c r : ix_D2) (T : Nat) : Prop := bi_90 c ∧ (c.1 92 2).toInt = T ∧ T ≤ 500 ∧ rr_90 (cS_ T c) r (fun k => k) ∧ tk_90 (cS_ T c) ∧ rt_90 (cS_ T c) r (fun k => k) ∧ la_90 (cS_ T c) ∧ c.1 91 13 = 0
section SET
variable {n : Nat} {z : ix_Z} {c c' c3 r r' d : ix_D2} {T : Nat} {x v y : Int32}
theorem cS_o {a k : Nat} (h : a ≠ 91 ∨ (k ≠ 15 ∧ k ≠ 16)) : (cS_ T c).1 a k = c.1 a k := by
  unfold cS_
  rw [up_1, if_neg (by omega), up_1, if_neg (by omega)]
theorem cS_l : (cS_ T c).2 = c.2 := rfl
theorem cS_5 : (cS_ T c).1 91 15 = nI T := by
  unfold cS_
  rw [up_1, if_neg (by omega), up_1, if_pos ⟨rfl, rfl⟩]
theorem cS_6 : (cS_ T c).1 91 16 = nI T := by
  unfold cS_
  rw [up_1, if_pos ⟨rfl, rfl⟩]
theorem cS_f {a : Nat} (h : a ≠ 91) : (cS_ T c).1 a = c.1 a := funext fun k => cS_o (Or.inl h)
theorem bi_S (h : bi_90 c) : bi_90 (cS_ T c) := bi_c90 h (fun a k g => cS_o (by omega)) (fun k => rfl) (fun k => rfl)
theorem e_set (hz : ly_z z) (hn : 20000 ≤ n) : ∀ (m : Nat) (c r r' : ix_D2) (x1 : Int32) (nC nR : Nat), F_ c r T → fp_90 (cS_ T c) r (fun k => k) T r' → (300 : Int) - (c.1 91 12).toInt ≤ m → x1.toInt = (c.1 91 12).toInt → m < nC → m < nR →
    wp_t (ix_fix (b_X1_settle_2 n z 91) (fun _ _ => none) nC x1 c) (fun t => fc_90 c t.2 ∧ wp_t (ix_fix (b_X12_force_10 n z 125) (fun _ => none) nR r') (fun u => F_ t.2 u.2 T ∧ fq_q1 r' u.2 ∧ ((t.1.toInt < 0 ∧ u.1 = 1) ∨ (0 ≤ t.1.toInt ∧ u.1 = 0)))) := by
  intro m
  induction m using Nat.strongRecOn with
  | ind m ih =>
  intro c r r' x1 nC nR hF hfp hm hx hC hR
  obtain ⟨hb, hT, hT5, hrr, htk, hrt, hla, hl0⟩ := hF
  obtain ⟨hff, hq⟩ := hfp
  have htk' := htk
  obtain ⟨k1, k2, -, -⟩ := htk
  rw [cS_o (by omega)] at k1 k2
  obtain ⟨NC, rfl⟩ : ∃ N, nC = N + 1 := ⟨nC - 1, by omega⟩
  obtain ⟨NR, rfl⟩ : ∃ N, nR = N + 1 := ⟨nR - 1, by omega⟩
  have hrr' : rr_90 (cS_ T c) r' (fun k => k) := rr_ff90 hrr hff
  have hrt' : rt_90 (cS_ T c) r' (fun k => k) := by
    have e168 : r'.1 168 = r.1 168 := funext fun i => hff.1 _ _ (by omega)
    have e169 : r'.1 169 = r.1 169 := funext fun i => hff.1 _ _ (by omega)
    have e170 : r'.1 170 = r.1 170 := funext fun i => hff.1 _ _ (by omega)
    have e173 : r'.1 173 = r.1 173 := funext fun i => hff.1 _ _ (by omega)
    have e174 : r'.1 174 = r.1 174 := funext fun i => hff.1 _ _ (by omega)
    have e175 : r'.1 175 = r.1 175 := funext fun i => hff.1 _ _ (by omega)
    unfold rt_90; rw [e168, e169, e170, e173, e174, e175]; exact hrt
  have hF' : F_ c r' T := ⟨hb, hT, hT5, hrr', htk', hrt', hla, hl0⟩
  obtain ⟨⟨q1, cq⟩, E1, ecq, Q⟩ := e_fq90 (n := n) (d := c) hz hn (by omega) hb.2.2.1
  obtain ⟨⟨u1, cu⟩, E2, ecu, U⟩ := e_fu90 (n := n) (d := c) hz hn (by omega) hb.2.2.1
  dsimp only at ecq ecu Q U
  rw [ecq] at E1
  rw [ecu] at E2
  have c98 : ∀ i, (cS_ T c).1 98 i = c.1 98 i := fun i => cS_o (by omega)
  have c92 : (cS_ T c).1 92 2 = c.1 92 2 := cS_o (by omega)
  have c93 : ∀ i, (cS_ T c).1 93 i = c.1 93 i := fun i => cS_o (by omega)
  have c94 : ∀ i, (cS_ T c).1 94 i = c.1 94 i := fun i => cS_o (by omega)
  have cvl : ∀ v, vl_ (cS_ T c).1 101 v = vl_ c.1 101 v := fun v => by unfold vl_; rw [cS_f (by omega)]
  unfold qu_90 sc_90 at hq
  simp only [c98, c92, c93, c94, cvl] at hq
  have fcr : fc_90 c c := fun _ _ _ => ⟨rfl, rfl⟩
  show wp_t (b_X1_settle_2 n z 91 _ x1 c) _
  unfold b_X1_settle_2
  rcases hq with ⟨k, kq1, kq2, kq3, kq4⟩ | ⟨s1, s2, s3⟩
  · /- a quarrel -/
    have hq0 : 0 ≤ q1.toInt := by
      rcases Q with ⟨_, Q⟩ | ⟨k', Q1, Q2, _, _⟩
      · exact absurd kq2 (Q k kq1)
      · rw [Q2, nI_ti (by omega)]; omega
    have h98 : 0 ≤ (r'.1 125 98).toInt := by rw [kq4, nI_ti (by omega)]; omega
    (repeat (first | (with_reducible refine wi_e (E1) ?_; try dsimp only) | (with_reducible refine wi_e (E2) ?_; try dsimp only) | with_reducible refine wi_t (ly_o91 hz) ?_ | with_reducible refine wi_r (ly_r90_0 hz) ?_ | with_reducible refine wi_lt ?_ | (with_reducible refine wi_ifp ?_ ?_; (focus (first | omega | (simp (disch := (first | omega | (simp (disch := first | omega | (simp only [Int32.reduceToInt]; omega)) only [Int32.reduceToInt, ta_add, ta_sub, ta_mul, ta_neg, ta_div]; omega))) only [up_1, cp_1, rng_1, fn_1, dj_1, Nat.reduceEqDiff, false_and, and_false, true_and, and_true, or_true, true_or, or_false, false_or, not_true_eq_false, not_false_eq_true, ↓reduceIte, eq_self, ne_eq, ti_eq, ti_le, ti_lt, ti_ite, Int32.reduceToInt, ta_add, ta_sub, ta_mul, ta_neg, ta_div]; done) | (simp (disch := (first | omega | (simp (disch := first | omega | (simp only [Int32.reduceToInt]; omega)) only [Int32.reduceToInt, ta_add, ta_sub, ta_mul, ta_neg, ta_div]; omega))) only [up_1, cp_1, rng_1, fn_1, dj_1, Nat.reduceEqDiff, false_and, and_false, true_and, and_true, or_true, true_or, or_false, false_or, not_true_eq_false, not_false_eq_true, ↓reduceIte, eq_self, ne_eq, ti_eq, ti_le, ti_lt, ti_ite, Int32.reduceToInt, ta_add, ta_sub, ta_mul, ta_neg, ta_div]; omega)))) | (with_reducible refine wi_ifn ?_ ?_; (focus (first | omega | (simp (disch := (first | omega | (simp (disch := first | omega | (simp only [Int32.reduceToInt]; omega)) only [Int32.reduceToInt, ta_add, ta_sub, ta_mul, ta_neg, ta_div]; omega))) only [up_1, cp_1, rng_1, fn_1, dj_1, Nat.reduceEqDiff, false_and, and_false, true_and, and_true, or_true, true_or, or_false, false_or, not_true_eq_false, not_false_eq_true, ↓reduceIte, eq_self, ne_eq, ti_eq, ti_le, ti_lt, ti_ite, Int32.reduceToInt, ta_add, ta_sub, ta_mul, ta_neg, ta_div]; done) | (simp (disch := (first | omega | (simp (disch := first | omega | (simp only [Int32.reduceToInt]; omega)) only [Int32.reduceToInt, ta_add, ta_sub, ta_mul, ta_neg, ta_div]; omega))) only [up_1, cp_1, rng_1, fn_1, dj_1, Nat.reduceEqDiff, false_and, and_false, true_and, and_true, or_true, true_or, or_false, false_or, not_true_eq_false, not_false_eq_true, ↓reduceIte, eq_self, ne_eq, ti_eq, ti_le, ti_lt, ti_ite, Int32.reduceToInt, ta_add, ta_sub, ta_mul, ta_neg, ta_div]; omega)))) | (with_reducible refine wi_ck ?_ ?_; (focus (first | omega | (simp (disch := (first | omega | (simp (disch := first | omega | (simp only [Int32.reduceToInt]; omega)) only [Int32.reduceToInt, ta_add, ta_sub, ta_mul, ta_neg, ta_div]; omega))) only [up_1, cp_1, rng_1, fn_1, dj_1, Nat.reduceEqDiff, false_and, and_false, true_and, and_true, or_true, true_or, or_false, false_or, not_true_eq_false, not_false_eq_true, ↓reduceIte, eq_self, ne_eq, ti_eq, ti_le, ti_lt, ti_ite, Int32.reduceToInt, ta_add, ta_sub, ta_mul, ta_neg, ta_div]; done) | (simp (disch := (first | omega | (simp (disch := first | omega | (simp only [Int32.reduceToInt]; omega)) only [Int32.reduceToInt, ta_add, ta_sub, ta_mul, ta_neg, ta_div]; omega))) only [up_1, cp_1, rng_1, fn_1, dj_1, Nat.reduceEqDiff, false_and, and_false, true_and, and_true, or_true, true_or, or_false, false_or, not_true_eq_false, not_false_eq_true, ↓reduceIte, eq_self, ne_eq, ti_eq, ti_le, ti_lt, ti_ite, Int32.reduceToInt, ta_add, ta_sub, ta_mul, ta_neg, ta_div]; omega)))) | with_reducible refine wi_bd2 ?_ | with_reducible refine wi_bd1 ?_ | with_reducible refine wi_bd3 ?_ | (with_reducible refine wi_some ?_; try dsimp only)))
    refine ⟨fcr, ?_⟩
    show wp_t (b_X12_force_10 n z 125 _ r') _
    unfold b_X12_force_10
    (repeat (first | with_reducible refine wi_t (ly_o125 hz) ?_ | with_reducible refine wi_lt ?_ | (with_reducible refine wi_ifp ?_ ?_; (focus (first | omega | (simp (disch := (first | omega | (simp (disch := first | omega | (simp only [Int32.reduceToInt]; omega)) only [Int32.reduceToInt, ta_add, ta_sub, ta_mul, ta_neg, ta_div]; omega))) only [up_1, cp_1, rng_1, fn_1, dj_1, Nat.reduceEqDiff, false_and, and_false, true_and, and_true, or_true, true_or, or_false, false_or, not_true_eq_false, not_false_eq_true, ↓reduceIte, eq_self, ne_eq, ti_eq, ti_le, ti_lt, ti_ite, Int32.reduceToInt, ta_add, ta_sub, ta_mul, ta_neg, ta_div]; done) | (simp (disch := (first | omega | (simp (disch := first | omega | (simp only [Int32.reduceToInt]; omega)) only [Int32.reduceToInt, ta_add, ta_sub, ta_mul, ta_neg, ta_div]; omega))) only [up_1, cp_1, rng_1, fn_1, dj_1, Nat.reduceEqDiff, false_and, and_false, true_and, and_true, or_true, true_or, or_false, false_or, not_true_eq_false, not_false_eq_true, ↓reduceIte, eq_self, ne_eq, ti_eq, ti_le, ti_lt, ti_ite, Int32.reduceToInt, ta_add, ta_sub, ta_mul, ta_neg, ta_div]; omega)))) | (with_reducible refine wi_ifn ?_ ?_; (focus (first | omega | (simp (disch := (first | omega | (simp (disch := first | omega | (simp only [Int32.reduceToInt]; omega)) only [Int32.reduceToInt, ta_add, ta_sub, ta_mul, ta_neg, ta_div]; omega))) only [up_1, cp_1, rng_1, fn_1, dj_1, Nat.reduceEqDiff, false_and, and_false, true_and, and_true, or_true, true_or, or_false, false_or, not_true_eq_false, not_false_eq_true, ↓reduceIte, eq_self, ne_eq, ti_eq, ti_le, ti_lt, ti_ite, Int32.reduceToInt, ta_add, ta_sub, ta_mul, ta_neg, ta_div]; done) | (simp (disch := (first | omega | (simp (disch := first | omega | (simp only [Int32.reduceToInt]; omega)) only [Int32.reduceToInt, ta_add, ta_sub, ta_mul, ta_neg, ta_div]; omega))) only [up_1, cp_1, rng_1, fn_1, dj_1, Nat.reduceEqDiff, false_and, and_false, true_and, and_true, or_true, true_or, or_false, false_or, not_true_eq_false, not_false_eq_true, ↓reduceIte, eq_self, ne_eq, ti_eq, ti_le, ti_lt, ti_ite, Int32.reduceToInt, ta_add, ta_sub, ta_mul, ta_neg, ta_div]; omega)))) | (with_reducible refine wi_ck ?_ ?_; (focus (first | omega | (simp (disch := (first | omega | (simp (disch := first | omega | (simp only [Int32.reduceToInt]; omega)) only [Int32.reduceToInt, ta_add, ta_sub, ta_mul, ta_neg, ta_div]; omega))) only [up_1, cp_1, rng_1, fn_1, dj_1, Nat.reduceEqDiff, false_and, and_false, true_and, and_true, or_true, true_or, or_false, false_or, not_true_eq_false, not_false_eq_true, ↓reduceIte, eq_self, ne_eq, ti_eq, ti_le, ti_lt, ti_ite, Int32.reduceToInt, ta_add, ta_sub, ta_mul, ta_neg, ta_div]; done) | (simp (disch := (first | omega | (simp (disch := first | omega | (simp only [Int32.reduceToInt]; omega)) only [Int32.reduceToInt, ta_add, ta_sub, ta_mul, ta_neg, ta_div]; omega))) only [up_1, cp_1, rng_1, fn_1, dj_1, Nat.reduceEqDiff, false_and, and_false, true_and, and_true, or_true, true_or, or_false, false_or, not_true_eq_false, not_false_eq_true, ↓reduceIte, eq_self, ne_eq, ti_eq, ti_le, ti_lt, ti_ite, Int32.reduceToInt, ta_add, ta_sub, ta_mul, ta_neg, ta_div]; omega)))) | with_reducible refine wi_bd2 ?_ | with_reducible refine wi_bd1 ?_ | with_reducible refine wi_bd3 ?_ | (with_reducible refine wi_some ?_; try dsimp only) | unfold f_X12_force_45))
    exact ⟨hF', fq_rfq1, Or.inr ⟨hq0, rfl⟩⟩
  · have hq0 : q1.toInt < 0 := by
      rcases Q with ⟨Q, _⟩ | ⟨k', Q1, _, Q3, _⟩
      · rw [Q]; decide
      · exact absurd Q3 (s1 k' (by omega))
    rcases s3 with ⟨n1, n2⟩ | ⟨u, uT, uv1, uv2, uv3, p, p1, p2, p3, p4⟩
    · /- nothing is forced -/
      have hu0 : u1.toInt < 0 := by
        rcases U with ⟨U, _⟩ | ⟨k', U1, _, U3, _⟩
        · rw [U]; decide
        · exact absurd U3 (n1 k' (by omega))
      (repeat (first | (with_reducible refine wi_e (E1) ?_; try dsimp only) | (with_reducible refine wi_e (E2) ?_; try dsimp only) | with_reducible refine wi_t (ly_o91 hz) ?_ | with_reducible refine wi_r (ly_r90_0 hz) ?_ | with_reducible refine wi_lt ?_ | (with_reducible refine wi_ifp ?_ ?_; (focus (first | omega | (simp (disch := (first | omega | (simp (disch := first | omega | (simp only [Int32.reduceToInt]; omega)) only [Int32.reduceToInt, ta_add, ta_sub, ta_mul, ta_neg, ta_div]; omega))) only [up_1, cp_1, rng_1, fn_1, dj_1, Nat.reduceEqDiff, false_and, and_false, true_and, and_true, or_true, true_or, or_false, false_or, not_true_eq_false, not_false_eq_true, ↓reduceIte, eq_self, ne_eq, ti_eq, ti_le, ti_lt, ti_ite, Int32.reduceToInt, ta_add, ta_sub, ta_mul, ta_neg, ta_div]; done) | (simp (disch := (first | omega | (simp (disch := first | omega | (simp only [Int32.reduceToInt]; omega)) only [Int32.reduceToInt, ta_add, ta_sub, ta_mul, ta_neg, ta_div]; omega))) only [up_1, cp_1, rng_1, fn_1, dj_1, Nat.reduceEqDiff, false_and, and_false, true_and, and_true, or_true, true_or, or_false, false_or, not_true_eq_false, not_false_eq_true, ↓reduceIte, eq_self, ne_eq, ti_eq, ti_le, ti_lt, ti_ite, Int32.reduceToInt, ta_add, ta_sub, ta_mul, ta_neg, ta_div]; omega)))) | (with_reducible refine wi_ifn ?_ ?_; (focus (first | omega | (simp (disch := (first | omega | (simp (disch := first | omega | (simp only [Int32.reduceToInt]; omega)) only [Int32.reduceToInt, ta_add, ta_sub, ta_mul, ta_neg, ta_div]; omega))) only [up_1, cp_1, rng_1, fn_1, dj_1, Nat.reduceEqDiff, false_and, and_false, true_and, and_true, or_true, true_or, or_false, false_or, not_true_eq_false, not_false_eq_true, ↓reduceIte, eq_self, ne_eq, ti_eq, ti_le, ti_lt, ti_ite, Int32.reduceToInt, ta_add, ta_sub, ta_mul, ta_neg, ta_div]; done) | (simp (disch := (first | omega | (simp (disch := first | omega | (simp only [Int32.reduceToInt]; omega)) only [Int32.reduceToInt, ta_add, ta_sub, ta_mul, ta_neg, ta_div]; omega))) only [up_1, cp_1, rng_1, fn_1, dj_1, Nat.reduceEqDiff, false_and, and_false, true_and, and_true, or_true, true_or, or_false, false_or, not_true_eq_false, not_false_eq_true, ↓reduceIte, eq_self, ne_eq, ti_eq, ti_le, ti_lt, ti_ite, Int32.reduceToInt, ta_add, ta_sub, ta_mul, ta_neg, ta_div]; omega)))) | (with_reducible refine wi_ck ?_ ?_; (focus (first | omega | (simp (disch := (first | omega | (simp (disch := first | omega | (simp only [Int32.reduceToInt]; omega)) only [Int32.reduceToInt, ta_add, ta_sub, ta_mul, ta_neg, ta_div]; omega))) only [up_1, cp_1, rng_1, fn_1, dj_1, Nat.reduceEqDiff, false_and, and_false, true_and, and_true, or_true, true_or, or_false, false_or, not_true_eq_false, not_false_eq_true, ↓reduceIte, eq_self, ne_eq, ti_eq, ti_le, ti_lt, ti_ite, Int32.reduceToInt, ta_add, ta_sub, ta_mul, ta_neg, ta_div]; done) | (simp (disch := (first | omega | (simp (disch := first | omega | (simp only [Int32.reduceToInt]; omega)) only [Int32.reduceToInt, ta_add, ta_sub, ta_mul, ta_neg, ta_div]; omega))) only [up_1, cp_1, rng_1, fn_1, dj_1, Nat.reduceEqDiff, false_and, and_false, true_and, and_true, or_true, true_or, or_false, false_or, not_true_eq_false, not_false_eq_true, ↓reduceIte, eq_self, ne_eq, ti_eq, ti_le, ti_lt, ti_ite, Int32.reduceToInt, ta_add, ta_sub, ta_mul, ta_neg, ta_div]; omega)))) | with_reducible refine wi_bd2 ?_ | with_reducible refine wi_bd1 ?_ | with_reducible refine wi_bd3 ?_ | (with_reducible refine wi_some ?_; try dsimp only)))
      refine ⟨fcr, ?_⟩
      show wp_t (b_X12_force_10 n z 125 _ r') _
      unfold b_X12_force_10
      (repeat (first | with_reducible refine wi_t (ly_o125 hz) ?_ | with_reducible refine wi_lt ?_ | (with_reducible refine wi_ifp ?_ ?_; (focus (first | omega | (simp (disch := (first | omega | (simp (disch := first | omega | (simp only [Int32.reduceToInt]; omega)) only [Int32.reduceToInt, ta_add, ta_sub, ta_mul, ta_neg, ta_div]; omega))) only [up_1, cp_1, rng_1, fn_1, dj_1, Nat.reduceEqDiff, false_and, and_false, true_and, and_true, or_true, true_or, or_false, false_or, not_true_eq_false, not_false_eq_true, ↓reduceIte, eq_self, ne_eq, ti_eq, ti_le, ti_lt, ti_ite, Int32.reduceToInt, ta_add, ta_sub, ta_mul, ta_neg, ta_div]; done) | (simp (disch := (first | omega | (simp (disch := first | omega | (simp only [Int32.reduceToInt]; omega)) only [Int32.reduceToInt, ta_add, ta_sub, ta_mul, ta_neg, ta_div]; omega))) only [up_1, cp_1, rng_1, fn_1, dj_1, Nat.reduceEqDiff, false_and, and_false, true_and, and_true, or_true, true_or, or_false, false_or, not_true_eq_false, not_false_eq_true, ↓reduceIte, eq_self, ne_eq, ti_eq, ti_le, ti_lt, ti_ite, Int32.reduceToInt, ta_add, ta_sub, ta_mul, ta_neg, ta_div]; omega)))) | (with_reducible refine wi_ifn ?_ ?_; (focus (first | omega | (simp (disch := (first | omega | (simp (disch := first | omega | (simp only [Int32.reduceToInt]; omega)) only [Int32.reduceToInt, ta_add, ta_sub, ta_mul, ta_neg, ta_div]; omega))) only [up_1, cp_1, rng_1, fn_1, dj_1, Nat.reduceEqDiff, false_and, and_false, true_and, and_true, or_true, true_or, or_false, false_or, not_true_eq_false, not_false_eq_true, ↓reduceIte, eq_self, ne_eq, ti_eq, ti_le, ti_lt, ti_ite, Int32.reduceToInt, ta_add, ta_sub, ta_mul, ta_neg, ta_div]; done) | (simp (disch := (first | omega | (simp (disch := first | omega | (simp only [Int32.reduceToInt]; omega)) only [Int32.reduceToInt, ta_add, ta_sub, ta_mul, ta_neg, ta_div]; omega))) only [up_1, cp_1, rng_1, fn_1, dj_1, Nat.reduceEqDiff, false_and, and_false, true_and, and_true, or_true, true_or, or_false, false_or, not_true_eq_false, not_false_eq_true, ↓reduceIte, eq_self, ne_eq, ti_eq, ti_le, ti_lt, ti_ite, Int32.reduceToInt, ta_add, ta_sub, ta_mul, ta_neg, ta_div]; omega)))) | (with_reducible refine wi_ck ?_ ?_; (focus (first | omega | (simp (disch := (first | omega | (simp (disch := first | omega | (simp only [Int32.reduceToInt]; omega)) only [Int32.reduceToInt, ta_add, ta_sub, ta_mul, ta_neg, ta_div]; omega))) only [up_1, cp_1, rng_1, fn_1, dj_1, Nat.reduceEqDiff, false_and, and_false, true_and, and_true, or_true, true_or, or_false, false_or, not_true_eq_false, not_false_eq_true, ↓reduceIte, eq_self, ne_eq, ti_eq, ti_le, ti_lt, ti_ite, Int32.reduceToInt, ta_add, ta_sub, ta_mul, ta_neg, ta_div]; done) | (simp (disch := (first | omega | (simp (disch := first | omega | (simp only [Int32.reduceToInt]; omega)) only [Int32.reduceToInt, ta_add, ta_sub, ta_mul, ta_neg, ta_div]; omega))) only [up_1, cp_1, rng_1, fn_1, dj_1, Nat.reduceEqDiff, false_and, and_false, true_and, and_true, or_true, true_or, or_false, false_or, not_true_eq_false, not_false_eq_true, ↓reduceIte, eq_self, ne_eq, ti_eq, ti_le, ti_lt, ti_ite, Int32.reduceToInt, ta_add, ta_sub, ta_mul, ta_neg, ta_div]; omega)))) | with_reducible refine wi_bd2 ?_ | with_reducible refine wi_bd1 ?_ | with_reducible refine wi_bd3 ?_ | (with_reducible refine wi_some ?_; try dsimp only) | unfold f_X12_force_45))
      exact ⟨hF', fq_rfq1, Or.inl ⟨hq0, rfl⟩⟩
    · /- one more -/
      have hu1 : u1 = nI u := by
        rcases U with ⟨_, U⟩ | ⟨k', U1, U2, U3, U4⟩
        · exact absurd uv1 (U u (by omega))
        · have : k' = u := by
            rcases Nat.lt_trichotomy k' u with g | g | g
            · exact absurd U3 (uv2 k' g)
            · exact g
            · exact absurd uv1 (U4 u g)
          rw [U2, this]
      have hu0 : 0 ≤ u1.toInt := by rw [hu1, nI_ti (by omega)]; omega
      have hk : (u : Int) < (c.1 92 2).toInt := by omega
      have hp : in_90 c u p := ⟨p1, p2⟩
      have hit := rw_i hb.1 hk p2
      have hun := un_90 hb hk uv1 hp p4
      obtain ⟨v, ev⟩ : ∃ v, v = c.1 93 p := ⟨_, rfl⟩
      rw [← ev] at hit p3 p4
      obtain ⟨v0, v1, v2⟩ := hit
      obtain ⟨hne, hroom⟩ := tk_room90 htk' v0 v1 v2 (by rw [cvl]; exact p4)
      rw [cS_o (by omega)] at hroom
      obtain ⟨⟨o1, co⟩, E3, eco, O⟩ := e_oi90 (n := n) (d := c) hz hn hb.1 hb.2.2.2.2 hk
      dsimp only at eco O
      rw [eco] at E3
      have et : o1 = v := by
        rcases O with ⟨_, h2⟩ | ⟨p', g1, g2, g3, g4, _⟩
        · exact absurd (by rw [← ev]; exact p4) (h2 p p1 p2)
        · rcases hun p' ⟨g1, g2⟩ with e | e
          · rw [g3, e, ev]
          · omega
      subst et
      obtain ⟨c3, E4, hb3, h3, h3l, h4⟩ := e_as90 (n := n) (d := c) (v := o1) (y := nI u) hz hn hb v0 v1 v2 p4 k1 (by omega)
      rw [hu1] at E2 hu0
      (repeat (first | (with_reducible refine wi_e (E1) ?_; try dsimp only) | (with_reducible refine wi_e (E2) ?_; try dsimp only) | (with_reducible refine wi_e (E3) ?_; try dsimp only) | (with_reducible refine wi_e (E4) ?_; try dsimp only) | with_reducible refine wi_t (ly_o91 hz) ?_ | with_reducible refine wi_r (ly_r90_0 hz) ?_ | with_reducible refine wi_lt ?_ | (with_reducible refine wi_ifp ?_ ?_; (focus (first | omega | (simp (disch := (first | omega | (simp (disch := first | omega | (simp only [Int32.reduceToInt]; omega)) only [Int32.reduceToInt, ta_add, ta_sub, ta_mul, ta_neg, ta_div]; omega))) only [up_1, cp_1, rng_1, fn_1, dj_1, Nat.reduceEqDiff, false_and, and_false, true_and, and_true, or_true, true_or, or_false, false_or, not_true_eq_false, not_false_eq_true, ↓reduceIte, eq_self, ne_eq, ti_eq, ti_le, ti_lt, ti_ite, Int32.reduceToInt, ta_add, ta_sub, ta_mul, ta_neg, ta_div]; done) | (simp (disch := (first | omega | (simp (disch := first | omega | (simp only [Int32.reduceToInt]; omega)) only [Int32.reduceToInt, ta_add, ta_sub, ta_mul, ta_neg, ta_div]; omega))) only [up_1, cp_1, rng_1, fn_1, dj_1, Nat.reduceEqDiff, false_and, and_false, true_and, and_true, or_true, true_or, or_false, false_or, not_true_eq_false, not_false_eq_true, ↓reduceIte, eq_self, ne_eq, ti_eq, ti_le, ti_lt, ti_ite, Int32.reduceToInt, ta_add, ta_sub, ta_mul, ta_neg, ta_div]; omega)))) | (with_reducible refine wi_ifn ?_ ?_; (focus (first | omega | (simp (disch := (first | omega | (simp (disch := first | omega | (simp only [Int32.reduceToInt]; omega)) only [Int32.reduceToInt, ta_add, ta_sub, ta_mul, ta_neg, ta_div]; omega))) only [up_1, cp_1, rng_1, fn_1, dj_1, Nat.reduceEqDiff, false_and, and_false, true_and, and_true, or_true, true_or, or_false, false_or, not_true_eq_false, not_false_eq_true, ↓reduceIte, eq_self, ne_eq, ti_eq, ti_le, ti_lt, ti_ite, Int32.reduceToInt, ta_add, ta_sub, ta_mul, ta_neg, ta_div]; done) | (simp (disch := (first | omega | (simp (disch := first | omega | (simp only [Int32.reduceToInt]; omega)) only [Int32.reduceToInt, ta_add, ta_sub, ta_mul, ta_neg, ta_div]; omega))) only [up_1, cp_1, rng_1, fn_1, dj_1, Nat.reduceEqDiff, false_and, and_false, true_and, and_true, or_true, true_or, or_false, false_or, not_true_eq_false, not_false_eq_true, ↓reduceIte, eq_self, ne_eq, ti_eq, ti_le, ti_lt, ti_ite, Int32.reduceToInt, ta_add, ta_sub, ta_mul, ta_neg, ta_div]; omega)))) | (with_reducible refine wi_ck ?_ ?_; (focus (first | omega | (simp (disch := (first | omega | (simp (disch := first | omega | (simp only [Int32.reduceToInt]; omega)) only [Int32.reduceToInt, ta_add, ta_sub, ta_mul, ta_neg, ta_div]; omega))) only [up_1, cp_1, rng_1, fn_1, dj_1, Nat.reduceEqDiff, false_and, and_false, true_and, and_true, or_true, true_or, or_false, false_or, not_true_eq_false, not_false_eq_true, ↓reduceIte, eq_self, ne_eq, ti_eq, ti_le, ti_lt, ti_ite, Int32.reduceToInt, ta_add, ta_sub, ta_mul, ta_neg, ta_div]; done) | (simp (disch := (first | omega | (simp (disch := first | omega | (simp only [Int32.reduceToInt]; omega)) only [Int32.reduceToInt, ta_add, ta_sub, ta_mul, ta_neg, ta_div]; omega))) only [up_1, cp_1, rng_1, fn_1, dj_1, Nat.reduceEqDiff, false_and, and_false, true_and, and_true, or_true, true_or, or_false, false_or, not_true_eq_false, not_false_eq_true, ↓reduceIte, eq_self, ne_eq, ti_eq, ti_le, ti_lt, ti_ite, Int32.reduceToInt, ta_add, ta_sub, ta_mul, ta_neg, ta_div]; omega)))) | with_reducible refine wi_bd2 ?_ | with_reducible refine wi_bd1 ?_ | with_reducible refine wi_bd3 ?_ | (with_reducible refine wi_some ?_; try dsimp only)))
      have c3o : ∀ a i, a ≠ 98 → a ≠ 101 → a ≠ 103 → a ≠ 104 → a ≠ 105 → (a ≠ 91 ∨ i ≠ 12) → c3.1 a i = c.1 a i := fun a i g8 g1 g2 g3 g4 g5 => by rw [h3 a i g8]; exact am_o90 g1 g2 g3 g4 g5
      have e92 : c3.1 92 2 = c.1 92 2 := c3o _ _ (by omega) (by omega) (by omega) (by omega) (by omega) (by omega)
      have e13 : c3.1 91 13 = c.1 91 13 := c3o _ _ (by omega) (by omega) (by omega) (by omega) (by omega) (by omega)
      have e12 : (c3.1 91 12).toInt = (c.1 91 12).toInt + 1 := by
        rw [h3 _ _ (by omega)]
        unfold am_90
        (focus (first | omega | (simp (disch := (first | omega | (simp (disch := first | omega | (simp only [Int32.reduceToInt]; omega)) only [Int32.reduceToInt, ta_add, ta_sub, ta_mul, ta_neg, ta_div]; omega))) only [up_1, cp_1, rng_1, fn_1, dj_1, Nat.reduceEqDiff, false_and, and_false, true_and, and_true, or_true, true_or, or_false, false_or, not_true_eq_false, not_false_eq_true, ↓reduceIte, eq_self, ne_eq, ti_eq, ti_le, ti_lt, ti_ite, Int32.reduceToInt, ta_add, ta_sub, ta_mul, ta_neg, ta_div]; done) | (simp (disch := (first | omega | (simp (disch := first | omega | (simp only [Int32.reduceToInt]; omega)) only [Int32.reduceToInt, ta_add, ta_sub, ta_mul, ta_neg, ta_div]; omega))) only [up_1, cp_1, rng_1, fn_1, dj_1, Nat.reduceEqDiff, false_and, and_false, true_and, and_true, or_true, true_or, or_false, false_or, not_true_eq_false, not_false_eq_true, ↓reduceIte, eq_self, ne_eq, ti_eq, ti_le, ti_lt, ti_ite, Int32.reduceToInt, ta_add, ta_sub, ta_mul, ta_neg, ta_div]; omega)))
      have hS3 : ∀ a k, a ≠ 98 → (cS_ T c3).1 a k = (am_90 o1 (nI u) (cS_ T c)).1 a k := fun a k g => by
        by_cases g1 : a = 91 ∧ (k = 15 ∨ k = 16)
        · rcases g1 with ⟨rfl, rfl | rfl⟩
          · rw [cS_5, am_o90 (by omega) (by omega) (by omega) (by omega) (by omega), cS_5]
          · rw [cS_6, am_o90 (by omega) (by omega) (by omega) (by omega) (by omega), cS_6]
        · rw [cS_o (by omega), h3 a k g]
          unfold am_90
          rw [cS_o (show (91 : Nat) ≠ 91 ∨ ((13 : Nat) ≠ 15 ∧ (13 : Nat) ≠ 16) by omega), cS_o (show (91 : Nat) ≠ 91 ∨ ((12 : Nat) ≠ 15 ∧ (12 : Nat) ≠ 16) by omega)]
          simp only [up_1]
          rw [cS_o (a := a) (k := k) (by omega)]
      have hkp : ∀ p', in_90 (cS_ T c) u p' → (cS_ T c).1 93 p' = o1 ∨ vl_ (cS_ T c).1 101 ((cS_ T c).1 93 p') = -1 := fun p' g => by
        unfold in_90 at g
        rw [c94, c94] at g
        rw [c93, cvl]
        rcases hun p' g with e | e
        · exact Or.inl (by rw [e, ev])
        · exact Or.inr e
      have l13 : ((cS_ T c).1 91 13).toInt = 0 := by rw [cS_o (by omega), hl0]; rfl
      have l12 : (cS_ T c).1 91 12 = c.1 91 12 := cS_o (by omega)
      obtain ⟨x1', x2, x3, x4, x5, x6, x7, x8⟩ := as_R90 (c := cS_ T c) (r := r') (rn := fun k => k) (v := o1) (y := nI u) (y' := nI u) (c3 := cS_ T c3) hrr' htk' hrt' hla v0 v1 v2 (by rw [cvl]; exact p4) (Or.inr ⟨u, by rw [c92]; exact hk, rfl, rfl, ⟨p, by unfold in_90; rw [c94, c94]; exact hp, by rw [c93]; exact ev.symm⟩, hkp⟩) (by rw [l13, l12]; omega) (by rw [c92]; omega) (fun k p g1 g2 => by
        unfold in_90 at g2
        rw [c94, c94] at g2
        rw [c92] at g1
        rw [c93]
        exact rw_i hb.1 g1 g2.2) hS3 (fun k g => by rw [c92] at g; rw [cS_o (by omega), cS_o (by omega)]; exact h4 k g)
      have hF3 : F_ c3 (bm_q1 o1 (nI u) r') T := ⟨hb3, by rw [e92]; exact hT, hT5, x1', x2, x3, x4, by rw [e13]; exact hl0⟩
      have e174 : r'.1 174 1 = c.1 91 12 := by rw [hrt'.1, l12]
      have e175 : (r'.1 175 1).toInt = 0 := by rw [hrt'.2.1]; exact l13
      have hra := hrr'.1 u (by rw [c92]; exact hk)
      dsimp only at hra
      rw [c94, c94] at hra
      obtain ⟨w1, w2, w3⟩ := hra
      have rbk := rw_b hb.1 hk
      obtain ⟨r2, E5, y1, y2, -⟩ := e_b4q1 (n := n) (v := o1) (r := r') (row := u) (Y := ix_n (rz_ r'.1 1 u)) hz hn v0 v1 v2 (by rw [e174]; exact k1) (by rw [e174]; exact hroom) e175 (Or.inl (by omega)) w1 (ni_c (rz_b w1).1) (fun j hj => by
        have nj := ni_c (rz_b w1).1
        rw [w3 j (by omega), c93]
        have ns := ni_c rbk.1
        have := rw_i hb.1 hk (p := ix_n (c.1 94 u) + j) (by omega)
        omega)
      have hF4 : F_ c3 r2 T := by
        obtain ⟨f1, f2, f3, f4, f5, f6, f7, f8⟩ := hF3
        refine ⟨f1, f2, f3, ?_, f5, ?_, f7, f8⟩
        · exact rr_f90 f4 (fun a k _ => by rw [y1])
        · unfold rt_90; rw [y1]; exact f6
      obtain ⟨r3, E6, y5⟩ := e_fd90 (n := n) (c := cS_ T c3) (r := r2) (rn := fun k => k) (T := T) hz hn (bi_S hb3) hF4.2.2.2.1 (by rw [cS_o (by omega), e92]; omega)
      have hx' : (x1 + 1).toInt = x1.toInt + 1 := by (focus (first | omega | (simp (disch := (first | omega | (simp (disch := first | omega | (simp only [Int32.reduceToInt]; omega)) only [Int32.reduceToInt, ta_add, ta_sub, ta_mul, ta_neg, ta_div]; omega))) only [up_1, cp_1, rng_1, fn_1, dj_1, Nat.reduceEqDiff, false_and, and_false, true_and, and_true, or_true, true_or, or_false, false_or, not_true_eq_false, not_false_eq_true, ↓reduceIte, eq_self, ne_eq, ti_eq, ti_le, ti_lt, ti_ite, Int32.reduceToInt, ta_add, ta_sub, ta_mul, ta_neg, ta_div]; done) | (simp (disch := (first | omega | (simp (disch := first | omega | (simp only [Int32.reduceToInt]; omega)) only [Int32.reduceToInt, ta_add, ta_sub, ta_mul, ta_neg, ta_div]; omega))) only [up_1, cp_1, rng_1, fn_1, dj_1, Nat.reduceEqDiff, false_and, and_false, true_and, and_true, or_true, true_or, or_false, false_or, not_true_eq_false, not_false_eq_true, ↓reduceIte, eq_self, ne_eq, ti_eq, ti_le, ti_lt, ti_ite, Int32.reduceToInt, ta_add, ta_sub, ta_mul, ta_neg, ta_div]; omega)))
      have IH := ih (m - 1) (by omega) c3 r2 r3 (x1 + 1) NC NR hF4 y5 (by omega) (by omega) (by omega) (by omega)
      refine wp_m IH fun t ht => ⟨?_, ?_⟩
      · refine fc_t90 (fun a k g => ⟨?_, ?_⟩) ht.1
        · exact c3o a k (by omega) (by omega) (by omega) (by omega) (by omega) (by omega)
        · exact h3l a k (by omega) (by omega)
      · have h98 : (r'.1 125 98).toInt = -1005 := s2
        have h99 : 0 ≤ (r'.1 125 99).toInt := by rw [uv3, nI_ti (by omega)]; omega
        show wp_t (b_X12_force_10 n z 125 _ r') _
        unfold b_X12_force_10
        rw [← p3, ← uv3] at E5
        (repeat (first | (with_reducible refine wi_e (E5) ?_; try dsimp only) | (with_reducible refine wi_e (E6) ?_; try dsimp only) | with_reducible refine wi_t (ly_o125 hz) ?_ | with_reducible refine wi_lt ?_ | (with_reducible refine wi_ifp ?_ ?_; (focus (first | omega | (simp (disch := (first | omega | (simp (disch := first | omega | (simp only [Int32.reduceToInt]; omega)) only [Int32.reduceToInt, ta_add, ta_sub, ta_mul, ta_neg, ta_div]; omega))) only [up_1, cp_1, rng_1, fn_1, dj_1, Nat.reduceEqDiff, false_and, and_false, true_and, and_true, or_true, true_or, or_false, false_or, not_true_eq_false, not_false_eq_true, ↓reduceIte, eq_self, ne_eq, ti_eq, ti_le, ti_lt, ti_ite, Int32.reduceToInt, ta_add, ta_sub, ta_mul, ta_neg, ta_div]; done) | (simp (disch := (first | omega | (simp (disch := first | omega | (simp only [Int32.reduceToInt]; omega)) only [Int32.reduceToInt, ta_add, ta_sub, ta_mul, ta_neg, ta_div]; omega))) only [up_1, cp_1, rng_1, fn_1, dj_1, Nat.reduceEqDiff, false_and, and_false, true_and, and_true, or_true, true_or, or_false, false_or, not_true_eq_false, not_false_eq_true, ↓reduceIte, eq_self, ne_eq, ti_eq, ti_le, ti_lt, ti_ite, Int32.reduceToInt, ta_add, ta_sub, ta_mul, ta_neg, ta_div]; omega)))) | (with_reducible refine wi_ifn ?_ ?_; (focus (first | omega | (simp (disch := (first | omega | (simp (disch := first | omega | (simp only [Int32.reduceToInt]; omega)) only [Int32.reduceToInt, ta_add, ta_sub, ta_mul, ta_neg, ta_div]; omega))) only [up_1, cp_1, rng_1, fn_1, dj_1, Nat.reduceEqDiff, false_and, and_false, true_and, and_true, or_true, true_or, or_false, false_or, not_true_eq_false, not_false_eq_true, ↓reduceIte, eq_self, ne_eq, ti_eq, ti_le, ti_lt, ti_ite, Int32.reduceToInt, ta_add, ta_sub, ta_mul, ta_neg, ta_div]; done) | (simp (disch := (first | omega | (simp (disch := first | omega | (simp only [Int32.reduceToInt]; omega)) only [Int32.reduceToInt, ta_add, ta_sub, ta_mul, ta_neg, ta_div]; omega))) only [up_1, cp_1, rng_1, fn_1, dj_1, Nat.reduceEqDiff, false_and, and_false, true_and, and_true, or_true, true_or, or_false, false_or, not_true_eq_false, not_false_eq_true, ↓reduceIte, eq_self, ne_eq, ti_eq, ti_le, ti_lt, ti_ite, Int32.reduceToInt, ta_add, ta_sub, ta_mul, ta_neg, ta_div]; omega)))) | (with_reducible refine wi_ck ?_ ?_; (focus (first | omega | (simp (disch := (first | omega | (simp (disch := first | omega | (simp only [Int32.reduceToInt]; omega)) only [Int32.reduceToInt, ta_add, ta_sub, ta_mul, ta_neg, ta_div]; omega))) only [up_1, cp_1, rng_1, fn_1, dj_1, Nat.reduceEqDiff, false_and, and_false, true_and, and_true, or_true, true_or, or_false, false_or, not_true_eq_false, not_false_eq_true, ↓reduceIte, eq_self, ne_eq, ti_eq, ti_le, ti_lt, ti_ite, Int32.reduceToInt, ta_add, ta_sub, ta_mul, ta_neg, ta_div]; done) | (simp (disch := (first | omega | (simp (disch := first | omega | (simp only [Int32.reduceToInt]; omega)) only [Int32.reduceToInt, ta_add, ta_sub, ta_mul, ta_neg, ta_div]; omega))) only [up_1, cp_1, rng_1, fn_1, dj_1, Nat.reduceEqDiff, false_and, and_false, true_and, and_true, or_true, true_or, or_false, false_or, not_true_eq_false, not_false_eq_true, ↓reduceIte, eq_self, ne_eq, ti_eq, ti_le, ti_lt, ti_ite, Int32.reduceToInt, ta_add, ta_sub, ta_mul, ta_neg, ta_div]; omega)))) | with_reducible refine wi_bd2 ?_ | with_reducible refine wi_bd1 ?_ | with_reducible refine wi_bd3 ?_ | (with_reducible refine wi_some ?_; try dsimp only) | unfold f_X12_force_45))
        refine wp_m ht.2 fun w' hu => ⟨hu.1, ?_, hu.2.2⟩
        refine fq_tq1 (fq_tq1 ?_ (fq_ffq1 y5.1)) hu.2.1
        have b4 := (na_b v0 v1 v2)
        refine fq_lgq1 (r' := bm_q1 o1 (nI u) r') (fq_bmq1 fq_rfq1 v0 v1 v2 (by rw [e174]; exact k1) (by rw [e174]; exact hroom)) y1 (fun a i g1 g2 _ => ?_)
        rw [y2 a i g1 (by omega)]
        rfl
end SET

/-! learn up to its going back (90, 1) -/
section LRA
variable {n : Nat} {z : ix_Z} {c c0 r r0 : ix_D2} {rn : Nat → Nat} {v x y w : Int32}
/-- a property that all sources have: reference -/
def sQ_q1 (P : Nat → Int64 → Prop) (r : ix_D2) : Prop := (∀ m w : Nat, (m : Int) < (r.1 162 1).toInt → w < 8 → P w (if w = m / 64 then bt_ (m % 64) else 0)) ∧ (∀ k w : Nat, (k : Int) < (r.1 178 1).toInt → w < 8 → P w (r.2 182 (8 * (800 * 1 + k) + w))) ∧ ∀ i w : Nat, (i : Int) < (r.1 174 1).toInt → (r.1 168 (301 * 1 + ix_n (ix_abs (r.1 173 (300 * 1 + i))))).toInt = 0 → w < 8 → P w (r.2 183 (8 * (301 * 1 + ix_n (ix_abs (r.1 173 (300 * 1 + i)))) + w))
theorem gs_P90 {P : Nat → Int64 → Prop} (hP : cl_ P) (hQ : sQ_q1 P r0) (hr : rr_90 c0 r0 rn) (h8 : c0.1 115 8 = r0.1 178 1) (h82 : (c0.1 115 8).toInt = (c0.1 92 2).toInt - (c0.1 91 16).toInt) {k w : Nat} (hk : (k : Int) < (c0.1 92 2).toInt) (hw : w < 8) : P w (gs_q1 r0 (rn k) w) := by
  obtain ⟨G1, G2, G3, G4, G5, G6, G7, G8, G9, G10, G11, G12, G13, G14, G15⟩ := hr.2.1
  unfold gs_q1
  by_cases e1 : (k : Int) < (c0.1 91 15).toInt
  · have q := (G6 k e1).1
    rw [if_pos (by omega)]
    exact hQ.1 _ w q hw
  · by_cases e2 : (k : Int) < (c0.1 91 16).toInt
    · have q := G11 k (by omega) e2
      have q2 : (c0.1 91 16).toInt - (c0.1 91 15).toInt ≤ 64 := by
        by_cases e3 : (1 = 1 ∨ (r0.1 125 58).toInt ≠ 0)
        · have := G9 e3; omega
        · have := G10 e3; omega
      rw [if_neg (by omega), if_pos (by omega)]
      exact hP.1 w
    · have q := (G14 k (by omega) hk).1
      rw [if_neg (by omega), if_neg (by omega)]
      exact hQ.2.1 _ w (by rw [← h8]; omega) hw
theorem nm_P90 {P : Nat → Int64 → Prop} (hQ : sQ_q1 P r0) (hv : rv_90 c0 r0) (hl : la_90 c0) (hrt : rt_90 c0 r0 rn) {m w : Nat} (m1 : 1 ≤ m) (m2 : m ≤ 300) (hm : (r0.1 167 (301 * 1 + m)).toInt ≠ 2) (h0 : (r0.1 168 (301 * 1 + m)).toInt = 0) (hw : w < 8) : P w (r0.2 183 (8 * (301 * 1 + m) + w)) := by
  have hc : (c0.1 101 m).toInt ≠ 0 := fun q => hm (by rw [hv m m2, q]; rfl)
  obtain ⟨i, i1, i2⟩ := hl.2.2.2.2.2 m m1 m2 hc
  have e := (hrt.2.2.1 i i1).1
  have q := hQ.2.2 i w (by rw [hrt.1]; exact i1)
  rw [e, i2] at q
  exact q h0 hw
theorem gv_Pq1 {P : Nat → Int64 → Prop} (hP : cl_ P) {row sz : Nat → Nat} {w : Nat} : ∀ U, (∀ i, i < U → P w (gs_q1 r (row i) w) ∧ ∀ j, j < sz i → ((ix_n (ix_abs (ri_ r.1 1 (row i) j)) : Int) ≠ 0 ∧ (r.1 167 (301 * 1 + ix_n (ix_abs (ri_ r.1 1 (row i) j)))).toInt ≠ 2 ∧ (r.1 168 (301 * 1 + ix_n (ix_abs (ri_ r.1 1 (row i) j)))).toInt = 0) → P w (r.2 183 (8 * (301 * 1 + ix_n (ix_abs (ri_ r.1 1 (row i) j))) + w))) → P w (gv_q1 r row sz w U)
  | 0, _ => hP.1 w
  | U + 1, h => by
    have ih := gv_Pq1 hP U (fun i hi => h i (by omega))
    exact gl_P hP (hP.2 _ _ _ ih (h U (by omega)).1) _ (fun j hj hc => (h U (by omega)).2 j hj hc)
def l6_90 (c0 r0 : ix_D2) (rn : Nat → Nat) (k : Nat) (c r : ix_D2) (Y : Nat) (to x8 : Int32) (fr : Nat → Int32) : Prop :=
  (∀ a i, a ≠ 111 → a ≠ 116 → a ≠ 117 → a ≠ 118 → a ≠ 119 → (a ≠ 90 ∨ (i ≠ 14 ∧ i ≠ 16)) → c.1 a i = c0.1 a i) ∧
  (∀ a i, a ≠ 109 → (a ≠ 90 ∨ i ≠ 3) → a ≠ 114 → c.2 a i = c0.2 a i) ∧
  (∀ a i, (a < 191 ∨ 194 < a) → (a ≠ 125 ∨ (i ≠ 89 ∧ i ≠ 104 ∧ i ≠ 106)) → (a ≠ 187 ∨ (i ≠ 10 * 1 + 1 ∧ i ≠ 10 * 1 + 4)) → (a ≠ 181 ∨ i < 800 * 1 ∨ 800 * 1 + 800 ≤ i) → r.1 a i = r0.1 a i) ∧
  (∀ a i, (a ≠ 171 ∨ i ≤ 301 * 1 ∨ 301 * 1 + 300 < i) → (a ≠ 172 ∨ i ≠ 1) → a ≠ 184 → r.2 a i = r0.2 a i) ∧
  ((c.1 90 14).toInt = (Y : Int) ∧ 1 ≤ Y ∧ Y ≤ 301 ∧ ∀ i, i < Y → c.1 118 i = fr i ∧ r.1 191 i = fr i) ∧
  (∃ j : Nat, (j : Int) < (c0.1 91 12).toInt ∧ fr 0 = -(c0.1 105 j) ∧ le_90 c0 j = (c0.1 91 13).toInt) ∧
  (∀ i, 1 ≤ i → i < Y → ∃ j : Nat, (j : Int) < (c0.1 91 12).toInt ∧ fr i = -(c0.1 105 j) ∧ le_90 c0 j ≤ to.toInt) ∧
  (0 ≤ to.toInt ∧ to.toInt < (c0.1 91 13).toInt ∧ (to.toInt = 0 ∨ ∃ j : Nat, (j : Int) < (c0.1 91 12).toInt ∧ le_90 c0 j = to.toInt)) ∧
  fy_ (c0.1 103) (c.1 118) (Y - 1) = to ∧
  wg_90 c r ∧ (∀ j : Nat, (j : Int) < (c0.1 115 8).toInt → c.1 111 j = r.1 181 (800 * 1 + j)) ∧
  ((∀ k : Nat, (k : Int) < (c0.1 91 15).toInt → rn k = k) → (∀ w, w < 8 → c.2 114 w = r.2 184 w) ∧ c.1 116 0 = nI (rn k)) ∧
  ((c0.1 115 8).toInt < 800 ∧ (r0.1 176 (801 * 1 + ix_n (c0.1 115 8))).toInt + Y ≤ 8000) ∧
  (r.1 187 (10 * 1 + 1) = r0.1 187 (10 * 1 + 1) + 1 ∧ r.1 187 (10 * 1 + 4) = r0.1 187 (10 * 1 + 4) + 1 ∧ r.1 125 89 = r0.1 125 89 - 1) ∧
  c.1 116 1 = c0.1 91 13 ∧ c.1 116 3 = x8 ∧ c.1 116 4 = nI Y ∧
  (∀ P : Nat → Int64 → Prop, cl_ P → sQ_q1 P r0 → ∀ w, w < 8 → P w (r.2 184 w))
def fl_90 (c0 r0 c r : ix_D2) : Prop := (∀ a i, a ≠ 117 → a ≠ 118 → a ≠ 119 → (a ≠ 90 ∨ (i ≠ 14 ∧ i ≠ 16)) → c.1 a i = c0.1 a i) ∧ (∀ a i, a ≠ 114 → c.2 a i = c0.2 a i) ∧ (∀ a i, (a < 191 ∨ 194 < a) → (a ≠ 125 ∨ (i ≠ 104 ∧ i ≠ 106)) → r.1 a i = r0.1 a i) ∧ r.2 = r0.2
set_option maxHeartbeats 4000000 in
theorem e_la90 (hz : ly_z z) (hn : 20000 ≤ n) (h : R_90 c0 r0 rn) {k : Nat} (hL : 0 < (c0.1 91 13).toInt) (hk : (k : Int) < (c0.1 92 2).toInt) (hk0 : (c0.1 98 k).toInt = 0) (h98 : r0.1 125 98 = nI (rn k)) (h89 : 0 < (r0.1 125 89).toInt) {Q : Int32 × ix_D2 → Int32 × ix_D2 → Prop}
    (HF : ∀ c2 r2 : ix_D2, fl_90 c0 r0 c2 r2 → Q (-1003, c2) (-1003, r2))
    (H : ∀ (rec4 : Int32 → ix_D2 → Option (Int32 × ix_D2)) (x4 : Int32) (c6 : ix_D2) (rec9 : Int32 → ix_D2 → Option (Int32 × ix_D2)) (x9 : Int32) (r5 : ix_D2) (Y : Nat) (to x8 : Int32) (fr : Nat → Int32), x4.toInt = (c6.1 90 16).toInt → x9.toInt = (r5.1 125 106).toInt → l6_90 c0 r0 rn k c6 r5 Y to x8 fr → wp_t (b_X9_learn_82 n z 90 rec4 x4 c6) (fun u => wp_t (b_X12_learn_227 n z 125 1 (nI (rn k)) (c0.1 91 13) (nI Y) to x8 rec9 x9 r5) (fun w => Q u w))) : wp_t (f_X9_learn n z 90 (nI k) c0) (fun u => wp_t (f_X12_learn n z 125 1 r0) (fun w => Q u w)) := by
  obtain ⟨hb, hrr, htk, hrt, ⟨hla, hll, hql⟩, hrs, hwg, hnb, hty, haq, hcq⟩ := h
  obtain ⟨y1, y2, y3, y4, y5, y6, y7, y8, y9, y10, y11, y12, y13, y14, y15, y16, y17, y18⟩ := hty
  obtain ⟨G1, G2, G3, G4, G5, G6, G7, G8, G9, G10, G11, G12, G13, G14, G15⟩ := hrr.2.1
  have hT3 := hb.1.2.1
  have ht0 := htk.1
  have ht2 := htk.2.1
  obtain ⟨t, et⟩ : ∃ t : Nat, (t : Int) = (c0.1 91 12).toInt := ⟨ix_n (c0.1 91 12), ni_c ht0⟩
  obtain ⟨F, hF⟩ : ∃ F : Nat, (F : Int) = (c0.1 91 16).toInt := ⟨ix_n (c0.1 91 16), ni_c (by omega)⟩
  obtain ⟨T, hT⟩ : ∃ T : Nat, (T : Int) = (c0.1 115 8).toInt := ⟨ix_n (c0.1 115 8), ni_c (by omega)⟩
  have nT : ix_n (c0.1 115 8) = T := ni_k hT.symm
  have nF : ix_n (c0.1 91 16) = F := ni_k hF.symm
  obtain ⟨A, hA⟩ : ∃ A : Nat, (A : Int) = (r0.1 176 (801 * 1 + T)).toInt := ⟨ix_n (r0.1 176 (801 * 1 + T)), ni_c (by
    have q := (y11 T (by omega)).1
    have m4 := rw_m hb.1 (k := F) (l := F + T) (by omega) (by omega)
    rw [nF] at q
    omega)⟩
  have hA2 : (A : Int) = (c0.1 94 (F + T)).toInt - (c0.1 94 F).toInt := by
    have q := (y11 T (by omega)).1
    rw [nF] at q
    omega
  have hA3 := (y11 T (by omega)).2
  have h500 : (c0.1 91 15).toInt ≤ 500 := by
    apply Classical.byContradiction
    intro hgt
    have hm : ∀ i : Nat, (i : Int) < (c0.1 91 15).toInt → i ≤ rn i := by
      intro i
      induction i with
      | zero => intro _; exact Nat.zero_le _
      | succ i ih => intro hi; have a := ih (by omega); have b := G8 i (i + 1) (by omega) hi; omega
    have a := hm 500 (by omega)
    have b := (G6 500 (by omega)).1
    omega
  have hkf : ∀ p, in_90 c0 k p → vl_ c0.1 101 (c0.1 93 p) = -1 := by
    intro p hp
    have l1 := hb.2.2.2.1 k hk
    have l2 := lw_b hb.1 (by omega) hb.2.2.2.2 hk
    have l3 : lw_s c0.1 93 94 101 k = 0 := by omega
    have rb := rw_b hb.1 hk
    have n1 := ni_c rb.1
    have n2 := ni_c (x := c0.1 94 (k + 1)) (by omega)
    let g : Nat → Int := fun p => if (p : Int) < (c0.1 94 (k + 1)).toInt then wv_ c0.1 101 (c0.1 93 p) else 0
    have hg0 : ∀ p, 0 ≤ g p := by
      intro p
      show 0 ≤ (if (p : Int) < (c0.1 94 (k + 1)).toInt then wv_ c0.1 101 (c0.1 93 p) else 0)
      by_cases e : (p : Int) < (c0.1 94 (k + 1)).toInt
      · rw [if_pos e]
        have := rw_i hb.1 hk e
        exact (wv_b hb.2.2.2.2 (by omega) (by omega)).1
      · rw [if_neg e]; exact Int.le_refl 0
    have e : sm_ g (ix_n (c0.1 94 k)) (ix_n (c0.1 94 (k + 1))) = 0 := by
      rw [← l3]
      unfold lw_s
      refine sm_c (fun p p1 p2 => ?_)
      show (if (p : Int) < (c0.1 94 (k + 1)).toInt then wv_ c0.1 101 (c0.1 93 p) else 0) = _
      rw [if_pos (by omega)]
    obtain ⟨p1, p2⟩ := hp
    have q := (sm_0 hg0).2.mp e p (by omega) (by omega)
    have q : wv_ c0.1 101 (c0.1 93 p) = 0 := by
      have e2 : g p = wv_ c0.1 101 (c0.1 93 p) := if_pos p2
      rw [← e2]; exact q
    have hi := rw_i hb.1 hk p2
    have hv2 := vl_b hb.2.2.2.2 (v := c0.1 93 p) (by omega) (by omega)
    unfold wv_ at q
    rcases hv2 with g | g | g
    · rw [g] at q; exact absurd q (by decide)
    · rw [g] at q; exact absurd q (by decide)
    · exact g
  have hwb := e_wb90 (n := n) (c0 := c0) (r0 := r0) (rn := rn) hz hn hb hrr htk hrt hla hql (by omega) h500 (t := t) (k := k) et hL hk (by omega) hkf
  (repeat (first | with_reducible refine wi_t (ly_o90 hz) ?_ | with_reducible refine wi_r (ly_r0_7 hz) ?_ | with_reducible refine wi_t (ly_o91 hz) ?_ | with_reducible refine wi_r (ly_r90_0 hz) ?_ | with_reducible refine wi_lt ?_ | (with_reducible refine wi_ifp ?_ ?_; (focus (first | omega | (simp only [Int32.reduceToInt]; omega) | (simp (disch := (first | omega | (simp (disch := first | omega | (simp only [Int32.reduceToInt]; omega)) only [Int32.reduceToInt, ta_add, ta_sub, ta_mul, ta_neg, ta_div]; omega))) only [Int32.reduceMul, up_1, cp_1, rng_1, fn_1, dj_1, Nat.reduceEqDiff, false_and, and_false, true_and, and_true, or_true, true_or, or_false, false_or, not_true_eq_false, not_false_eq_true, ↓reduceIte, eq_self, ne_eq, ti_eq, ti_le, ti_lt, ti_ite, Int32.reduceToInt, ta_add, ta_sub, ta_mul, ta_neg, ta_div]; done) | (simp (disch := (first | omega | (simp (disch := first | omega | (simp only [Int32.reduceToInt]; omega)) only [Int32.reduceToInt, ta_add, ta_sub, ta_mul, ta_neg, ta_div]; omega))) only [Int32.reduceMul, up_1, cp_1, rng_1, fn_1, dj_1, Nat.reduceEqDiff, false_and, and_false, true_and, and_true, or_true, true_or, or_false, false_or, not_true_eq_false, not_false_eq_true, ↓reduceIte, eq_self, ne_eq, ti_eq, ti_le, ti_lt, ti_ite, Int32.reduceToInt, ta_add, ta_sub, ta_mul, ta_neg, ta_div]; omega)))) | (with_reducible refine wi_ifn ?_ ?_; (focus (first | omega | (simp only [Int32.reduceToInt]; omega) | (simp (disch := (first | omega | (simp (disch := first | omega | (simp only [Int32.reduceToInt]; omega)) only [Int32.reduceToInt, ta_add, ta_sub, ta_mul, ta_neg, ta_div]; omega))) only [Int32.reduceMul, up_1, cp_1, rng_1, fn_1, dj_1, Nat.reduceEqDiff, false_and, and_false, true_and, and_true, or_true, true_or, or_false, false_or, not_true_eq_false, not_false_eq_true, ↓reduceIte, eq_self, ne_eq, ti_eq, ti_le, ti_lt, ti_ite, Int32.reduceToInt, ta_add, ta_sub, ta_mul, ta_neg, ta_div]; done) | (simp (disch := (first | omega | (simp (disch := first | omega | (simp only [Int32.reduceToInt]; omega)) only [Int32.reduceToInt, ta_add, ta_sub, ta_mul, ta_neg, ta_div]; omega))) only [Int32.reduceMul, up_1, cp_1, rng_1, fn_1, dj_1, Nat.reduceEqDiff, false_and, and_false, true_and, and_true, or_true, true_or, or_false, false_or, not_true_eq_false, not_false_eq_true, ↓reduceIte, eq_self, ne_eq, ti_eq, ti_le, ti_lt, ti_ite, Int32.reduceToInt, ta_add, ta_sub, ta_mul, ta_neg, ta_div]; omega)))) | (with_reducible refine wi_ck ?_ ?_; (focus (first | omega | (simp only [Int32.reduceToInt]; omega) | (simp (disch := (first | omega | (simp (disch := first | omega | (simp only [Int32.reduceToInt]; omega)) only [Int32.reduceToInt, ta_add, ta_sub, ta_mul, ta_neg, ta_div]; omega))) only [Int32.reduceMul, up_1, cp_1, rng_1, fn_1, dj_1, Nat.reduceEqDiff, false_and, and_false, true_and, and_true, or_true, true_or, or_false, false_or, not_true_eq_false, not_false_eq_true, ↓reduceIte, eq_self, ne_eq, ti_eq, ti_le, ti_lt, ti_ite, Int32.reduceToInt, ta_add, ta_sub, ta_mul, ta_neg, ta_div]; done) | (simp (disch := (first | omega | (simp (disch := first | omega | (simp only [Int32.reduceToInt]; omega)) only [Int32.reduceToInt, ta_add, ta_sub, ta_mul, ta_neg, ta_div]; omega))) only [Int32.reduceMul, up_1, cp_1, rng_1, fn_1, dj_1, Nat.reduceEqDiff, false_and, and_false, true_and, and_true, or_true, true_or, or_false, false_or, not_true_eq_false, not_false_eq_true, ↓reduceIte, eq_self, ne_eq, ti_eq, ti_le, ti_lt, ti_ite, Int32.reduceToInt, ta_add, ta_sub, ta_mul, ta_neg, ta_div]; omega)))) | with_reducible refine wi_bd2 ?_ | with_reducible refine wi_bd1 ?_ | with_reducible refine wi_bd3 ?_ | (with_reducible refine wi_some ?_; try dsimp only) | unfold f_X9_learn))
  refine wp_m hwb (fun u h => ?_)
  obtain ⟨last, c1⟩ := u
  obtain ⟨r1, ru, rl, hr1, hr1o, hru, hrl, ks, U, hwk, hU, hmk, j0, j1, j2, j3, j4, j5⟩ := h
  dsimp only at hrl hwk hmk j2 j3 j5 ⊢
  obtain ⟨w1, w2, w3, w4, w5, w6, w7, w8, w9, w10⟩ := hwk
  rw [nF] at w8 w9
  have f1 : c1.1 91 = c0.1 91 := funext fun i => w1 _ _ (by omega) (by omega) (by omega)
  have f2 : c1.1 92 = c0.1 92 := funext fun i => w1 _ _ (by omega) (by omega) (by omega)
  have f3 : c1.1 93 = c0.1 93 := funext fun i => w1 _ _ (by omega) (by omega) (by omega)
  have f4 : c1.1 94 = c0.1 94 := funext fun i => w1 _ _ (by omega) (by omega) (by omega)
  have f11 : c1.1 101 = c0.1 101 := funext fun i => w1 _ _ (by omega) (by omega) (by omega)
  have f13 : c1.1 103 = c0.1 103 := funext fun i => w1 _ _ (by omega) (by omega) (by omega)
  have f15 : c1.1 105 = c0.1 105 := funext fun i => w1 _ _ (by omega) (by omega) (by omega)
  have htk1 : tk_90 c1 := by unfold tk_90 vl_; rw [f1, f11, f15]; exact htk
  have hmf := e_mf90 (n := n) (c := c1) (v := last) hz hn htk1 (t := t) (by rw [f1]; exact et)
  refine wi_bd1 ?_
  refine wp_m hmf (fun c2 h => ?_)
  obtain ⟨m1, m2, m3, m4⟩ := h
  rw [f15] at m3 m4
  obtain ⟨Y, hY⟩ : ∃ Y, Y = (fw_ (c0.1 105) (c1.1 117) last t t).2 := ⟨_, rfl⟩
  obtain ⟨fr, hfr⟩ : ∃ fr, fr = (fw_ (c0.1 105) (c1.1 117) last t t).1 := ⟨_, rfl⟩
  have hYb := fw_b (tr := c0.1 105) (mk := c1.1 117) (last := last) (t := t) t
  have hY0 := fw_0 (tr := c0.1 105) (mk := c1.1 117) (last := last) (t := t) t
  have hYm := fw_m (tr := c0.1 105) (mk := c1.1 117) (last := last) (t := t) t
  rw [← hY] at m3 m4 hYb hYm
  rw [← hfr] at m4 hY0 hYm
  have htr3 : ∀ j, j < t → -300 ≤ (c0.1 105 j).toInt ∧ (c0.1 105 j).toInt ≤ 300 := fun j hj => by have := htk.2.2.1 j (by omega); exact ⟨this.2.1, this.2.2.1⟩
  obtain ⟨to, hto⟩ : ∃ to, to = fx_ (c0.1 105) (c1.1 117) (c0.1 103) last t t := ⟨_, rfl⟩
  have hfx := fx_b (tr := c0.1 105) (mk := c1.1 117) (lv := c0.1 103) (last := last) (t := t) t (Nat.le_refl t)
  have hfy := fx_y (tr := c0.1 105) (mk := c1.1 117) (lv := c0.1 103) (last := last) (t := t) htr3 t (Nat.le_refl t)
  rw [← hto, ← hY, ← hfr] at hfy
  rw [← hto] at hfx
  /- the level to go back to is below -/
  have hlt : ∀ j, j < t → c0.1 105 j ≠ last → (c1.1 117 (ix_n (ix_abs (c0.1 105 j)))).toInt = 1 → le_90 c0 j < (c0.1 91 13).toInt := fun j q1 q2 q3 => by
    have a := (hla.2.1 j (by omega)).2.1
    have b := j5 j q1 (fun e => q2 (by rw [e]; exact j2.symm)) q3
    omega
  have htoL : to.toInt < (c0.1 91 13).toInt := by
    rcases hfx.1 with e | ⟨j, q1, q2, q3, q4⟩
    · rw [e]; exact hL
    · have := hlt j q1 q2 q3
      rw [q4]; exact this
  have o2 : ∀ a i, a ≠ 117 → a ≠ 118 → a ≠ 119 → (a ≠ 90 ∨ (i ≠ 14 ∧ i ≠ 16)) → c2.1 a i = c0.1 a i := fun a i p1 p2 p3 p4 => (m1 a i p2 (by omega)).trans (w1 a i p1 p3 (by omega))
  have g1 : c2.1 91 = c0.1 91 := funext fun i => o2 _ _ (by omega) (by omega) (by omega) (by omega)
  have g2 : c2.1 92 = c0.1 92 := funext fun i => o2 _ _ (by omega) (by omega) (by omega) (by omega)
  have g3 : c2.1 93 = c0.1 93 := funext fun i => o2 _ _ (by omega) (by omega) (by omega) (by omega)
  have g4 : c2.1 94 = c0.1 94 := funext fun i => o2 _ _ (by omega) (by omega) (by omega) (by omega)
  /- the reference up to its fresh items -/
  refine wp_sw ?_
  have nq : ix_n 1 = 1 := rfl
  have n0 : ix_n (0 : Int32) = 0 := rfl
  obtain ⟨rA, hrA⟩ : ∃ rA, rA = ix_di (ix_di r1 125 106 0) 125 104 0 := ⟨_, rfl⟩
  rw [← hrA] at hru
  have qA98 : rA.1 125 98 = nI (rn k) := by rw [hrA]; simp only [up_1, Nat.reduceEqDiff, false_and, and_false, true_and, and_true, or_true, true_or, or_false, false_or, not_true_eq_false, not_false_eq_true, ↓reduceIte, eq_self, ne_eq]; rw [hr1o _ _ (by omega) (by omega)]; exact h98
  have qA75 : rA.1 175 1 = c0.1 91 13 := by rw [hrA]; simp only [up_1, Nat.reduceEqDiff, false_and, and_false, true_and, and_true, or_true, true_or, or_false, false_or, not_true_eq_false, not_false_eq_true, ↓reduceIte, eq_self, ne_eq]; rw [hr1o _ _ (by omega) (by omega)]; exact hrt.2.1
  obtain ⟨rB, hrB⟩ : ∃ rB, rB = ix_di rl 191 0 (-last) := ⟨_, rfl⟩
  have oB : ∀ a i, (a < 191 ∨ 194 < a) → (a ≠ 125 ∨ (i ≠ 104 ∧ i ≠ 106)) → rB.1 a i = r0.1 a i := fun a i p1 p2 => by rw [hrB, up_1, if_neg (by omega)]; exact w3 a i (by omega) (by omega) (by omega) p2
  have qB74 : rB.1 174 1 = c0.1 91 12 := by rw [oB _ _ (by omega) (by omega)]; exact hrt.1
  have ex7 : (c0.1 91 12 - 1).toInt = (t : Int) - 1 := (td_s (by omega)).trans (by omega)
  have h89' : ¬ (r0.1 125 89).toInt = 0 := by omega
  have hmrB : mr_ rB (c1.1 117) := fun m hm => by
    have e2 : rB.1 192 m = rl.1 192 m := by rw [hrB, up_1, if_neg (by omega)]
    have e3 : rB.1 193 m = rl.1 193 m := by rw [hrB, up_1, if_neg (by omega)]
    rw [e2, e3]
    exact w5 m hm
  (repeat (first | (with_reducible refine wi_e (hr1) ?_; try dsimp only) | rw [← hrA] | rw [qA98] | rw [nq] | rw [qA75] | (with_reducible refine wi_e (hru) ?_; try dsimp only) | (with_reducible refine wi_e (hrl) ?_; try dsimp only) | rw [n0] | rw [← hrB] | rw [qB74] | with_reducible refine wi_t (ly_o125 hz) ?_ | with_reducible refine wi_r (ly_r125_76 hz) ?_ | with_reducible refine wi_t (ly_a174 hz) ?_ | (with_reducible refine wi_x (ly_i174 hz) ?_ ?_ ?_; (focus (first | omega | (simp only [Int32.reduceToInt]; omega) | (simp (disch := (first | omega | (simp (disch := first | omega | (simp only [Int32.reduceToInt]; omega)) only [Int32.reduceToInt, ta_add, ta_sub, ta_mul, ta_neg, ta_div]; omega))) only [ly_n174 hz, ly_n175 hz, ly_n191 hz, Int32.reduceMul, up_1, cp_1, rng_1, fn_1, dj_1, Nat.reduceEqDiff, false_and, and_false, true_and, and_true, or_true, true_or, or_false, false_or, not_true_eq_false, not_false_eq_true, ↓reduceIte, eq_self, ne_eq, ti_eq, ti_le, ti_lt, ti_ite, Int32.reduceToInt, ta_add, ta_sub, ta_mul, ta_neg, ta_div]; done) | (simp (disch := (first | omega | (simp (disch := first | omega | (simp only [Int32.reduceToInt]; omega)) only [Int32.reduceToInt, ta_add, ta_sub, ta_mul, ta_neg, ta_div]; omega))) only [ly_n174 hz, ly_n175 hz, ly_n191 hz, Int32.reduceMul, up_1, cp_1, rng_1, fn_1, dj_1, Nat.reduceEqDiff, false_and, and_false, true_and, and_true, or_true, true_or, or_false, false_or, not_true_eq_false, not_false_eq_true, ↓reduceIte, eq_self, ne_eq, ti_eq, ti_le, ti_lt, ti_ite, Int32.reduceToInt, ta_add, ta_sub, ta_mul, ta_neg, ta_div]; omega))); (focus (first | omega | (simp only [Int32.reduceToInt]; omega) | (simp (disch := (first | omega | (simp (disch := first | omega | (simp only [Int32.reduceToInt]; omega)) only [Int32.reduceToInt, ta_add, ta_sub, ta_mul, ta_neg, ta_div]; omega))) only [ly_n174 hz, ly_n175 hz, ly_n191 hz, Int32.reduceMul, up_1, cp_1, rng_1, fn_1, dj_1, Nat.reduceEqDiff, false_and, and_false, true_and, and_true, or_true, true_or, or_false, false_or, not_true_eq_false, not_false_eq_true, ↓reduceIte, eq_self, ne_eq, ti_eq, ti_le, ti_lt, ti_ite, Int32.reduceToInt, ta_add, ta_sub, ta_mul, ta_neg, ta_div]; done) | (simp (disch := (first | omega | (simp (disch := first | omega | (simp only [Int32.reduceToInt]; omega)) only [Int32.reduceToInt, ta_add, ta_sub, ta_mul, ta_neg, ta_div]; omega))) only [ly_n174 hz, ly_n175 hz, ly_n191 hz, Int32.reduceMul, up_1, cp_1, rng_1, fn_1, dj_1, Nat.reduceEqDiff, false_and, and_false, true_and, and_true, or_true, true_or, or_false, false_or, not_true_eq_false, not_false_eq_true, ↓reduceIte, eq_self, ne_eq, ti_eq, ti_le, ti_lt, ti_ite, Int32.reduceToInt, ta_add, ta_sub, ta_mul, ta_neg, ta_div]; omega)))) | with_reducible refine wi_r (ly_r125_77 hz) ?_ | with_reducible refine wi_t (ly_a175 hz) ?_ | (with_reducible refine wi_x (ly_i175 hz) ?_ ?_ ?_; (focus (first | omega | (simp only [Int32.reduceToInt]; omega) | (simp (disch := (first | omega | (simp (disch := first | omega | (simp only [Int32.reduceToInt]; omega)) only [Int32.reduceToInt, ta_add, ta_sub, ta_mul, ta_neg, ta_div]; omega))) only [ly_n174 hz, ly_n175 hz, ly_n191 hz, Int32.reduceMul, up_1, cp_1, rng_1, fn_1, dj_1, Nat.reduceEqDiff, false_and, and_false, true_and, and_true, or_true, true_or, or_false, false_or, not_true_eq_false, not_false_eq_true, ↓reduceIte, eq_self, ne_eq, ti_eq, ti_le, ti_lt, ti_ite, Int32.reduceToInt, ta_add, ta_sub, ta_mul, ta_neg, ta_div]; done) | (simp (disch := (first | omega | (simp (disch := first | omega | (simp only [Int32.reduceToInt]; omega)) only [Int32.reduceToInt, ta_add, ta_sub, ta_mul, ta_neg, ta_div]; omega))) only [ly_n174 hz, ly_n175 hz, ly_n191 hz, Int32.reduceMul, up_1, cp_1, rng_1, fn_1, dj_1, Nat.reduceEqDiff, false_and, and_false, true_and, and_true, or_true, true_or, or_false, false_or, not_true_eq_false, not_false_eq_true, ↓reduceIte, eq_self, ne_eq, ti_eq, ti_le, ti_lt, ti_ite, Int32.reduceToInt, ta_add, ta_sub, ta_mul, ta_neg, ta_div]; omega))); (focus (first | omega | (simp only [Int32.reduceToInt]; omega) | (simp (disch := (first | omega | (simp (disch := first | omega | (simp only [Int32.reduceToInt]; omega)) only [Int32.reduceToInt, ta_add, ta_sub, ta_mul, ta_neg, ta_div]; omega))) only [ly_n174 hz, ly_n175 hz, ly_n191 hz, Int32.reduceMul, up_1, cp_1, rng_1, fn_1, dj_1, Nat.reduceEqDiff, false_and, and_false, true_and, and_true, or_true, true_or, or_false, false_or, not_true_eq_false, not_false_eq_true, ↓reduceIte, eq_self, ne_eq, ti_eq, ti_le, ti_lt, ti_ite, Int32.reduceToInt, ta_add, ta_sub, ta_mul, ta_neg, ta_div]; done) | (simp (disch := (first | omega | (simp (disch := first | omega | (simp only [Int32.reduceToInt]; omega)) only [Int32.reduceToInt, ta_add, ta_sub, ta_mul, ta_neg, ta_div]; omega))) only [ly_n174 hz, ly_n175 hz, ly_n191 hz, Int32.reduceMul, up_1, cp_1, rng_1, fn_1, dj_1, Nat.reduceEqDiff, false_and, and_false, true_and, and_true, or_true, true_or, or_false, false_or, not_true_eq_false, not_false_eq_true, ↓reduceIte, eq_self, ne_eq, ti_eq, ti_le, ti_lt, ti_ite, Int32.reduceToInt, ta_add, ta_sub, ta_mul, ta_neg, ta_div]; omega)))) | with_reducible refine wi_r (ly_r125_101 hz) ?_ | with_reducible refine wi_t (ly_a191 hz) ?_ | (with_reducible refine wi_x (ly_i191 hz) ?_ ?_ ?_; (focus (first | omega | (simp only [Int32.reduceToInt]; omega) | (simp (disch := (first | omega | (simp (disch := first | omega | (simp only [Int32.reduceToInt]; omega)) only [Int32.reduceToInt, ta_add, ta_sub, ta_mul, ta_neg, ta_div]; omega))) only [ly_n174 hz, ly_n175 hz, ly_n191 hz, Int32.reduceMul, up_1, cp_1, rng_1, fn_1, dj_1, Nat.reduceEqDiff, false_and, and_false, true_and, and_true, or_true, true_or, or_false, false_or, not_true_eq_false, not_false_eq_true, ↓reduceIte, eq_self, ne_eq, ti_eq, ti_le, ti_lt, ti_ite, Int32.reduceToInt, ta_add, ta_sub, ta_mul, ta_neg, ta_div]; done) | (simp (disch := (first | omega | (simp (disch := first | omega | (simp only [Int32.reduceToInt]; omega)) only [Int32.reduceToInt, ta_add, ta_sub, ta_mul, ta_neg, ta_div]; omega))) only [ly_n174 hz, ly_n175 hz, ly_n191 hz, Int32.reduceMul, up_1, cp_1, rng_1, fn_1, dj_1, Nat.reduceEqDiff, false_and, and_false, true_and, and_true, or_true, true_or, or_false, false_or, not_true_eq_false, not_false_eq_true, ↓reduceIte, eq_self, ne_eq, ti_eq, ti_le, ti_lt, ti_ite, Int32.reduceToInt, ta_add, ta_sub, ta_mul, ta_neg, ta_div]; omega))); (focus (first | omega | (simp only [Int32.reduceToInt]; omega) | (simp (disch := (first | omega | (simp (disch := first | omega | (simp only [Int32.reduceToInt]; omega)) only [Int32.reduceToInt, ta_add, ta_sub, ta_mul, ta_neg, ta_div]; omega))) only [ly_n174 hz, ly_n175 hz, ly_n191 hz, Int32.reduceMul, up_1, cp_1, rng_1, fn_1, dj_1, Nat.reduceEqDiff, false_and, and_false, true_and, and_true, or_true, true_or, or_false, false_or, not_true_eq_false, not_false_eq_true, ↓reduceIte, eq_self, ne_eq, ti_eq, ti_le, ti_lt, ti_ite, Int32.reduceToInt, ta_add, ta_sub, ta_mul, ta_neg, ta_div]; done) | (simp (disch := (first | omega | (simp (disch := first | omega | (simp only [Int32.reduceToInt]; omega)) only [Int32.reduceToInt, ta_add, ta_sub, ta_mul, ta_neg, ta_div]; omega))) only [ly_n174 hz, ly_n175 hz, ly_n191 hz, Int32.reduceMul, up_1, cp_1, rng_1, fn_1, dj_1, Nat.reduceEqDiff, false_and, and_false, true_and, and_true, or_true, true_or, or_false, false_or, not_true_eq_false, not_false_eq_true, ↓reduceIte, eq_self, ne_eq, ti_eq, ti_le, ti_lt, ti_ite, Int32.reduceToInt, ta_add, ta_sub, ta_mul, ta_neg, ta_div]; omega)))) | with_reducible refine wi_lt ?_ | (with_reducible refine wi_ifp ?_ ?_; (focus (first | omega | (simp only [Int32.reduceToInt]; omega) | (simp (disch := (first | omega | (simp (disch := first | omega | (simp only [Int32.reduceToInt]; omega)) only [Int32.reduceToInt, ta_add, ta_sub, ta_mul, ta_neg, ta_div]; omega))) only [ly_n174 hz, ly_n175 hz, ly_n191 hz, Int32.reduceMul, up_1, cp_1, rng_1, fn_1, dj_1, Nat.reduceEqDiff, false_and, and_false, true_and, and_true, or_true, true_or, or_false, false_or, not_true_eq_false, not_false_eq_true, ↓reduceIte, eq_self, ne_eq, ti_eq, ti_le, ti_lt, ti_ite, Int32.reduceToInt, ta_add, ta_sub, ta_mul, ta_neg, ta_div]; done) | (simp (disch := (first | omega | (simp (disch := first | omega | (simp only [Int32.reduceToInt]; omega)) only [Int32.reduceToInt, ta_add, ta_sub, ta_mul, ta_neg, ta_div]; omega))) only [ly_n174 hz, ly_n175 hz, ly_n191 hz, Int32.reduceMul, up_1, cp_1, rng_1, fn_1, dj_1, Nat.reduceEqDiff, false_and, and_false, true_and, and_true, or_true, true_or, or_false, false_or, not_true_eq_false, not_false_eq_true, ↓reduceIte, eq_self, ne_eq, ti_eq, ti_le, ti_lt, ti_ite, Int32.reduceToInt, ta_add, ta_sub, ta_mul, ta_neg, ta_div]; omega)))) | (with_reducible refine wi_ifn ?_ ?_; (focus (first | omega | (simp only [Int32.reduceToInt]; omega) | (simp (disch := (first | omega | (simp (disch := first | omega | (simp only [Int32.reduceToInt]; omega)) only [Int32.reduceToInt, ta_add, ta_sub, ta_mul, ta_neg, ta_div]; omega))) only [ly_n174 hz, ly_n175 hz, ly_n191 hz, Int32.reduceMul, up_1, cp_1, rng_1, fn_1, dj_1, Nat.reduceEqDiff, false_and, and_false, true_and, and_true, or_true, true_or, or_false, false_or, not_true_eq_false, not_false_eq_true, ↓reduceIte, eq_self, ne_eq, ti_eq, ti_le, ti_lt, ti_ite, Int32.reduceToInt, ta_add, ta_sub, ta_mul, ta_neg, ta_div]; done) | (simp (disch := (first | omega | (simp (disch := first | omega | (simp only [Int32.reduceToInt]; omega)) only [Int32.reduceToInt, ta_add, ta_sub, ta_mul, ta_neg, ta_div]; omega))) only [ly_n174 hz, ly_n175 hz, ly_n191 hz, Int32.reduceMul, up_1, cp_1, rng_1, fn_1, dj_1, Nat.reduceEqDiff, false_and, and_false, true_and, and_true, or_true, true_or, or_false, false_or, not_true_eq_false, not_false_eq_true, ↓reduceIte, eq_self, ne_eq, ti_eq, ti_le, ti_lt, ti_ite, Int32.reduceToInt, ta_add, ta_sub, ta_mul, ta_neg, ta_div]; omega)))) | (with_reducible refine wi_ck ?_ ?_; (focus (first | omega | (simp only [Int32.reduceToInt]; omega) | (simp (disch := (first | omega | (simp (disch := first | omega | (simp only [Int32.reduceToInt]; omega)) only [Int32.reduceToInt, ta_add, ta_sub, ta_mul, ta_neg, ta_div]; omega))) only [ly_n174 hz, ly_n175 hz, ly_n191 hz, Int32.reduceMul, up_1, cp_1, rng_1, fn_1, dj_1, Nat.reduceEqDiff, false_and, and_false, true_and, and_true, or_true, true_or, or_false, false_or, not_true_eq_false, not_false_eq_true, ↓reduceIte, eq_self, ne_eq, ti_eq, ti_le, ti_lt, ti_ite, Int32.reduceToInt, ta_add, ta_sub, ta_mul, ta_neg, ta_div]; done) | (simp (disch := (first | omega | (simp (disch := first | omega | (simp only [Int32.reduceToInt]; omega)) only [Int32.reduceToInt, ta_add, ta_sub, ta_mul, ta_neg, ta_div]; omega))) only [ly_n174 hz, ly_n175 hz, ly_n191 hz, Int32.reduceMul, up_1, cp_1, rng_1, fn_1, dj_1, Nat.reduceEqDiff, false_and, and_false, true_and, and_true, or_true, true_or, or_false, false_or, not_true_eq_false, not_false_eq_true, ↓reduceIte, eq_self, ne_eq, ti_eq, ti_le, ti_lt, ti_ite, Int32.reduceToInt, ta_add, ta_sub, ta_mul, ta_neg, ta_div]; omega)))) | with_reducible refine wi_bd2 ?_ | with_reducible refine wi_bd1 ?_ | with_reducible refine wi_bd3 ?_ | (with_reducible refine wi_some ?_; try dsimp only) | unfold f_X12_learn))
  refine e_l76q1 (n := n) (r := rB) hz hn (tr := c0.1 105) (mk := c1.1 117) (lv := c0.1 103) (t := t) (by omega) (fun j hj => ?_) (fun j hj => ?_) hmrB (by rw [hrB, up_1, if_pos ⟨rfl, rfl⟩]) ex7 (fun rec7 x7 r2 hx7 p1 p2 p3 => ?_)
  · obtain ⟨b0, b1, b2, _⟩ := htk.2.2.1 j (by omega)
    exact ⟨by rw [oB _ _ (by omega) (by omega)]; exact (hrt.2.2.1 j (by omega)).1, b0, b1, b2⟩
  · rw [oB _ _ (by omega) (by omega)]; exact (hrt.2.2.1 j (by omega)).2.1
  rw [← hY, ← hto]
  rw [← hY, ← hfr] at p3
  have o5 : ∀ a i, (a < 191 ∨ 194 < a) → (a ≠ 125 ∨ (i ≠ 104 ∧ i ≠ 106)) → r2.1 a i = r0.1 a i := fun a i q1 q2 => (p1 a i (by omega)).trans (oB a i q1 q2)
  have eY : (nI Y).toInt = Y := nI_ti (by omega)
  have e14 : c2.1 90 14 = nI Y := Int32.toInt_inj.mp (by rw [eY]; exact m3)
  obtain ⟨b, hb1, hb2, hb3⟩ := e_rm90 (n := n) (c := c2) (r := r2) (x := nI Y) hz (rw_cg hb.1 (by rw [g2]) g4 g3) (F := F) (T := T) (A := A) (Y := Y) (by rw [g1]; exact hF) (by rw [g2]; omega) (by rw [o5 _ _ (by omega) (by omega), ← y3]; exact hT.symm) (by omega) (by rw [o5 _ _ (by omega) (by omega)]; exact hA.symm) (by rw [g4]; exact hA2) (by omega) eY (by omega)
  unfold b_X12_learn_76
  rcases hb3 with ⟨rfl, hb3⟩ | ⟨rfl, hb3, hb4⟩
  · (repeat (first | (with_reducible refine wi_e (hb2) ?_; try dsimp only) | with_reducible refine wi_t (ly_o125 hz) ?_ | with_reducible refine wi_lt ?_ | (with_reducible refine wi_ifp ?_ ?_; (focus (first | omega | (simp only [Int32.reduceToInt]; omega) | (simp (disch := (first | omega | (simp (disch := first | omega | (simp only [Int32.reduceToInt]; omega)) only [Int32.reduceToInt, ta_add, ta_sub, ta_mul, ta_neg, ta_div]; omega))) only [Int32.reduceMul, up_1, cp_1, rng_1, fn_1, dj_1, Nat.reduceEqDiff, false_and, and_false, true_and, and_true, or_true, true_or, or_false, false_or, not_true_eq_false, not_false_eq_true, ↓reduceIte, eq_self, ne_eq, ti_eq, ti_le, ti_lt, ti_ite, Int32.reduceToInt, ta_add, ta_sub, ta_mul, ta_neg, ta_div]; done) | (simp (disch := (first | omega | (simp (disch := first | omega | (simp only [Int32.reduceToInt]; omega)) only [Int32.reduceToInt, ta_add, ta_sub, ta_mul, ta_neg, ta_div]; omega))) only [Int32.reduceMul, up_1, cp_1, rng_1, fn_1, dj_1, Nat.reduceEqDiff, false_and, and_false, true_and, and_true, or_true, true_or, or_false, false_or, not_true_eq_false, not_false_eq_true, ↓reduceIte, eq_self, ne_eq, ti_eq, ti_le, ti_lt, ti_ite, Int32.reduceToInt, ta_add, ta_sub, ta_mul, ta_neg, ta_div]; omega)))) | (with_reducible refine wi_ifn ?_ ?_; (focus (first | omega | (simp only [Int32.reduceToInt]; omega) | (simp (disch := (first | omega | (simp (disch := first | omega | (simp only [Int32.reduceToInt]; omega)) only [Int32.reduceToInt, ta_add, ta_sub, ta_mul, ta_neg, ta_div]; omega))) only [Int32.reduceMul, up_1, cp_1, rng_1, fn_1, dj_1, Nat.reduceEqDiff, false_and, and_false, true_and, and_true, or_true, true_or, or_false, false_or, not_true_eq_false, not_false_eq_true, ↓reduceIte, eq_self, ne_eq, ti_eq, ti_le, ti_lt, ti_ite, Int32.reduceToInt, ta_add, ta_sub, ta_mul, ta_neg, ta_div]; done) | (simp (disch := (first | omega | (simp (disch := first | omega | (simp only [Int32.reduceToInt]; omega)) only [Int32.reduceToInt, ta_add, ta_sub, ta_mul, ta_neg, ta_div]; omega))) only [Int32.reduceMul, up_1, cp_1, rng_1, fn_1, dj_1, Nat.reduceEqDiff, false_and, and_false, true_and, and_true, or_true, true_or, or_false, false_or, not_true_eq_false, not_false_eq_true, ↓reduceIte, eq_self, ne_eq, ti_eq, ti_le, ti_lt, ti_ite, Int32.reduceToInt, ta_add, ta_sub, ta_mul, ta_neg, ta_div]; omega)))) | (with_reducible refine wi_ck ?_ ?_; (focus (first | omega | (simp only [Int32.reduceToInt]; omega) | (simp (disch := (first | omega | (simp (disch := first | omega | (simp only [Int32.reduceToInt]; omega)) only [Int32.reduceToInt, ta_add, ta_sub, ta_mul, ta_neg, ta_div]; omega))) only [Int32.reduceMul, up_1, cp_1, rng_1, fn_1, dj_1, Nat.reduceEqDiff, false_and, and_false, true_and, and_true, or_true, true_or, or_false, false_or, not_true_eq_false, not_false_eq_true, ↓reduceIte, eq_self, ne_eq, ti_eq, ti_le, ti_lt, ti_ite, Int32.reduceToInt, ta_add, ta_sub, ta_mul, ta_neg, ta_div]; done) | (simp (disch := (first | omega | (simp (disch := first | omega | (simp only [Int32.reduceToInt]; omega)) only [Int32.reduceToInt, ta_add, ta_sub, ta_mul, ta_neg, ta_div]; omega))) only [Int32.reduceMul, up_1, cp_1, rng_1, fn_1, dj_1, Nat.reduceEqDiff, false_and, and_false, true_and, and_true, or_true, true_or, or_false, false_or, not_true_eq_false, not_false_eq_true, ↓reduceIte, eq_self, ne_eq, ti_eq, ti_le, ti_lt, ti_ite, Int32.reduceToInt, ta_add, ta_sub, ta_mul, ta_neg, ta_div]; omega)))) | with_reducible refine wi_bd2 ?_ | with_reducible refine wi_bd1 ?_ | with_reducible refine wi_bd3 ?_ | (with_reducible refine wi_some ?_; try dsimp only)))
    (repeat (first | rw [e14] | (with_reducible refine wi_e (hb1) ?_; try dsimp only) | with_reducible refine wi_t (ly_o90 hz) ?_ | with_reducible refine wi_r (ly_r0_7 hz) ?_ | with_reducible refine wi_t (ly_o91 hz) ?_ | with_reducible refine wi_r (ly_r90_0 hz) ?_ | with_reducible refine wi_lt ?_ | (with_reducible refine wi_ifp ?_ ?_; (focus (first | omega | (simp only [Int32.reduceToInt]; omega) | (simp (disch := (first | omega | (simp (disch := first | omega | (simp only [Int32.reduceToInt]; omega)) only [Int32.reduceToInt, ta_add, ta_sub, ta_mul, ta_neg, ta_div]; omega))) only [Int32.reduceMul, up_1, cp_1, rng_1, fn_1, dj_1, Nat.reduceEqDiff, false_and, and_false, true_and, and_true, or_true, true_or, or_false, false_or, not_true_eq_false, not_false_eq_true, ↓reduceIte, eq_self, ne_eq, ti_eq, ti_le, ti_lt, ti_ite, Int32.reduceToInt, ta_add, ta_sub, ta_mul, ta_neg, ta_div]; done) | (simp (disch := (first | omega | (simp (disch := first | omega | (simp only [Int32.reduceToInt]; omega)) only [Int32.reduceToInt, ta_add, ta_sub, ta_mul, ta_neg, ta_div]; omega))) only [Int32.reduceMul, up_1, cp_1, rng_1, fn_1, dj_1, Nat.reduceEqDiff, false_and, and_false, true_and, and_true, or_true, true_or, or_false, false_or, not_true_eq_false, not_false_eq_true, ↓reduceIte, eq_self, ne_eq, ti_eq, ti_le, ti_lt, ti_ite, Int32.reduceToInt, ta_add, ta_sub, ta_mul, ta_neg, ta_div]; omega)))) | (with_reducible refine wi_ifn ?_ ?_; (focus (first | omega | (simp only [Int32.reduceToInt]; omega) | (simp (disch := (first | omega | (simp (disch := first | omega | (simp only [Int32.reduceToInt]; omega)) only [Int32.reduceToInt, ta_add, ta_sub, ta_mul, ta_neg, ta_div]; omega))) only [Int32.reduceMul, up_1, cp_1, rng_1, fn_1, dj_1, Nat.reduceEqDiff, false_and, and_false, true_and, and_true, or_true, true_or, or_false, false_or, not_true_eq_false, not_false_eq_true, ↓reduceIte, eq_self, ne_eq, ti_eq, ti_le, ti_lt, ti_ite, Int32.reduceToInt, ta_add, ta_sub, ta_mul, ta_neg, ta_div]; done) | (simp (disch := (first | omega | (simp (disch := first | omega | (simp only [Int32.reduceToInt]; omega)) only [Int32.reduceToInt, ta_add, ta_sub, ta_mul, ta_neg, ta_div]; omega))) only [Int32.reduceMul, up_1, cp_1, rng_1, fn_1, dj_1, Nat.reduceEqDiff, false_and, and_false, true_and, and_true, or_true, true_or, or_false, false_or, not_true_eq_false, not_false_eq_true, ↓reduceIte, eq_self, ne_eq, ti_eq, ti_le, ti_lt, ti_ite, Int32.reduceToInt, ta_add, ta_sub, ta_mul, ta_neg, ta_div]; omega)))) | (with_reducible refine wi_ck ?_ ?_; (focus (first | omega | (simp only [Int32.reduceToInt]; omega) | (simp (disch := (first | omega | (simp (disch := first | omega | (simp only [Int32.reduceToInt]; omega)) only [Int32.reduceToInt, ta_add, ta_sub, ta_mul, ta_neg, ta_div]; omega))) only [Int32.reduceMul, up_1, cp_1, rng_1, fn_1, dj_1, Nat.reduceEqDiff, false_and, and_false, true_and, and_true, or_true, true_or, or_false, false_or, not_true_eq_false, not_false_eq_true, ↓reduceIte, eq_self, ne_eq, ti_eq, ti_le, ti_lt, ti_ite, Int32.reduceToInt, ta_add, ta_sub, ta_mul, ta_neg, ta_div]; done) | (simp (disch := (first | omega | (simp (disch := first | omega | (simp only [Int32.reduceToInt]; omega)) only [Int32.reduceToInt, ta_add, ta_sub, ta_mul, ta_neg, ta_div]; omega))) only [Int32.reduceMul, up_1, cp_1, rng_1, fn_1, dj_1, Nat.reduceEqDiff, false_and, and_false, true_and, and_true, or_true, true_or, or_false, false_or, not_true_eq_false, not_false_eq_true, ↓reduceIte, eq_self, ne_eq, ti_eq, ti_le, ti_lt, ti_ite, Int32.reduceToInt, ta_add, ta_sub, ta_mul, ta_neg, ta_div]; omega)))) | with_reducible refine wi_bd2 ?_ | with_reducible refine wi_bd1 ?_ | with_reducible refine wi_bd3 ?_ | (with_reducible refine wi_some ?_; try dsimp only)))
    exact HF c2 r2 ⟨o2, fun a i p => by rw [m2]; exact w2 a i p, o5, by rw [p2, hrB]; exact w4⟩
  · obtain ⟨mN, hno, hmN⟩ := e_no90 (n := n) (c := c2) (r := r0) (rn := rn) (k := k) hz (rr_c90 hrr (fun a i g => o2 a i (by omega) (by omega) (by omega) (by omega))) (by rw [g2]; exact hk) (by rw [g2]; exact hT3)
    rw [g1] at hmN
    /- the reference's counts -/
    obtain ⟨r3, hr3⟩ : ∃ r3, r3 = ix_di (ix_di (ix_di r2 125 89 (r0.1 125 89 - 1)) 187 (10 * 1 + 1) (r0.1 187 (10 * 1 + 1) + 1)) 187 (10 * 1 + 4) (r0.1 187 (10 * 1 + 4) + 1) := ⟨_, rfl⟩
    have q89 : r2.1 125 89 = r0.1 125 89 := o5 _ _ (by omega) (by omega)
    have nA1 : ix_n (10 * 1 + 1) = 10 * 1 + 1 := rfl
    have nA4 : ix_n (10 * 1 + 4) = 10 * 1 + 4 := rfl
    have q871 : (ix_di r2 125 89 (r0.1 125 89 - 1)).1 187 (10 * 1 + 1) = r0.1 187 (10 * 1 + 1) := by rw [up_1, if_neg (fun q => absurd q.1 (by decide))]; exact o5 _ _ (by omega) (by omega)
    have q874 : (ix_di (ix_di r2 125 89 (r0.1 125 89 - 1)) 187 (10 * 1 + 1) (r0.1 187 (10 * 1 + 1) + 1)).1 187 (10 * 1 + 4) = r0.1 187 (10 * 1 + 4) := by rw [up_1, if_neg (fun q => absurd q.2 (by decide)), up_1, if_neg (fun q => absurd q.1 (by decide))]; exact o5 _ _ (by omega) (by omega)
    have o3 : ∀ a i, (a < 191 ∨ 194 < a) → (a ≠ 125 ∨ (i ≠ 89 ∧ i ≠ 104 ∧ i ≠ 106)) → (a ≠ 187 ∨ (i ≠ 10 * 1 + 1 ∧ i ≠ 10 * 1 + 4)) → r3.1 a i = r0.1 a i := fun a i q1 q2 q3 => by
      rw [hr3]; simp only [up_1]
      rw [if_neg (by omega), if_neg (by omega), if_neg (by omega)]
      exact o5 a i q1 (by omega)
    have l3 : r3.2 = r0.2 := by rw [hr3]; show r2.2 = r0.2; rw [p2, hrB]; exact w4
    have q191 : ∀ a i, 191 ≤ a → a ≤ 194 → r3.1 a i = r2.1 a i := fun a i q1 q2 => by rw [hr3]; simp only [up_1]; rw [if_neg (by omega), if_neg (by omega), if_neg (by omega)]
    have q106 : r3.1 125 106 = rl.1 125 106 := by rw [hr3]; simp only [up_1, Nat.reduceEqDiff, false_and, and_false, true_and, and_true, or_true, true_or, or_false, false_or, not_true_eq_false, not_false_eq_true, ↓reduceIte, eq_self, ne_eq]; rw [p1 _ _ (by omega), hrB, up_1, if_neg (by omega)]
    (repeat (first | (with_reducible refine wi_e (hb2) ?_; try dsimp only) | rw [q89] | rw [nA1] | rw [q871] | rw [nA4] | rw [q874] | rw [← hr3] | with_reducible refine wi_t (ly_o125 hz) ?_ | with_reducible refine wi_r (ly_r125_90 hz) ?_ | with_reducible refine wi_t (ly_a187 hz) ?_ | (with_reducible refine wi_x (ly_i187 hz) ?_ ?_ ?_; (focus (first | omega | (simp only [Int32.reduceToInt]; omega) | (simp (disch := (first | omega | (simp (disch := first | omega | (simp only [Int32.reduceToInt]; omega)) only [Int32.reduceToInt, ta_add, ta_sub, ta_mul, ta_neg, ta_div]; omega))) only [q89, ly_n187 hz, Int32.reduceMul, up_1, cp_1, rng_1, fn_1, dj_1, Nat.reduceEqDiff, false_and, and_false, true_and, and_true, or_true, true_or, or_false, false_or, not_true_eq_false, not_false_eq_true, ↓reduceIte, eq_self, ne_eq, ti_eq, ti_le, ti_lt, ti_ite, Int32.reduceToInt, ta_add, ta_sub, ta_mul, ta_neg, ta_div]; done) | (simp (disch := (first | omega | (simp (disch := first | omega | (simp only [Int32.reduceToInt]; omega)) only [Int32.reduceToInt, ta_add, ta_sub, ta_mul, ta_neg, ta_div]; omega))) only [q89, ly_n187 hz, Int32.reduceMul, up_1, cp_1, rng_1, fn_1, dj_1, Nat.reduceEqDiff, false_and, and_false, true_and, and_true, or_true, true_or, or_false, false_or, not_true_eq_false, not_false_eq_true, ↓reduceIte, eq_self, ne_eq, ti_eq, ti_le, ti_lt, ti_ite, Int32.reduceToInt, ta_add, ta_sub, ta_mul, ta_neg, ta_div]; omega))); (focus (first | omega | (simp only [Int32.reduceToInt]; omega) | (simp (disch := (first | omega | (simp (disch := first | omega | (simp only [Int32.reduceToInt]; omega)) only [Int32.reduceToInt, ta_add, ta_sub, ta_mul, ta_neg, ta_div]; omega))) only [q89, ly_n187 hz, Int32.reduceMul, up_1, cp_1, rng_1, fn_1, dj_1, Nat.reduceEqDiff, false_and, and_false, true_and, and_true, or_true, true_or, or_false, false_or, not_true_eq_false, not_false_eq_true, ↓reduceIte, eq_self, ne_eq, ti_eq, ti_le, ti_lt, ti_ite, Int32.reduceToInt, ta_add, ta_sub, ta_mul, ta_neg, ta_div]; done) | (simp (disch := (first | omega | (simp (disch := first | omega | (simp only [Int32.reduceToInt]; omega)) only [Int32.reduceToInt, ta_add, ta_sub, ta_mul, ta_neg, ta_div]; omega))) only [q89, ly_n187 hz, Int32.reduceMul, up_1, cp_1, rng_1, fn_1, dj_1, Nat.reduceEqDiff, false_and, and_false, true_and, and_true, or_true, true_or, or_false, false_or, not_true_eq_false, not_false_eq_true, ↓reduceIte, eq_self, ne_eq, ti_eq, ti_le, ti_lt, ti_ite, Int32.reduceToInt, ta_add, ta_sub, ta_mul, ta_neg, ta_div]; omega)))) | with_reducible refine wi_lt ?_ | (with_reducible refine wi_ifp ?_ ?_; (focus (first | omega | (simp only [Int32.reduceToInt]; omega) | (simp (disch := (first | omega | (simp (disch := first | omega | (simp only [Int32.reduceToInt]; omega)) only [Int32.reduceToInt, ta_add, ta_sub, ta_mul, ta_neg, ta_div]; omega))) only [q89, ly_n187 hz, Int32.reduceMul, up_1, cp_1, rng_1, fn_1, dj_1, Nat.reduceEqDiff, false_and, and_false, true_and, and_true, or_true, true_or, or_false, false_or, not_true_eq_false, not_false_eq_true, ↓reduceIte, eq_self, ne_eq, ti_eq, ti_le, ti_lt, ti_ite, Int32.reduceToInt, ta_add, ta_sub, ta_mul, ta_neg, ta_div]; done) | (simp (disch := (first | omega | (simp (disch := first | omega | (simp only [Int32.reduceToInt]; omega)) only [Int32.reduceToInt, ta_add, ta_sub, ta_mul, ta_neg, ta_div]; omega))) only [q89, ly_n187 hz, Int32.reduceMul, up_1, cp_1, rng_1, fn_1, dj_1, Nat.reduceEqDiff, false_and, and_false, true_and, and_true, or_true, true_or, or_false, false_or, not_true_eq_false, not_false_eq_true, ↓reduceIte, eq_self, ne_eq, ti_eq, ti_le, ti_lt, ti_ite, Int32.reduceToInt, ta_add, ta_sub, ta_mul, ta_neg, ta_div]; omega)))) | (with_reducible refine wi_ifn ?_ ?_; (focus (first | omega | (simp only [Int32.reduceToInt]; omega) | (simp (disch := (first | omega | (simp (disch := first | omega | (simp only [Int32.reduceToInt]; omega)) only [Int32.reduceToInt, ta_add, ta_sub, ta_mul, ta_neg, ta_div]; omega))) only [q89, ly_n187 hz, Int32.reduceMul, up_1, cp_1, rng_1, fn_1, dj_1, Nat.reduceEqDiff, false_and, and_false, true_and, and_true, or_true, true_or, or_false, false_or, not_true_eq_false, not_false_eq_true, ↓reduceIte, eq_self, ne_eq, ti_eq, ti_le, ti_lt, ti_ite, Int32.reduceToInt, ta_add, ta_sub, ta_mul, ta_neg, ta_div]; done) | (simp (disch := (first | omega | (simp (disch := first | omega | (simp only [Int32.reduceToInt]; omega)) only [Int32.reduceToInt, ta_add, ta_sub, ta_mul, ta_neg, ta_div]; omega))) only [q89, ly_n187 hz, Int32.reduceMul, up_1, cp_1, rng_1, fn_1, dj_1, Nat.reduceEqDiff, false_and, and_false, true_and, and_true, or_true, true_or, or_false, false_or, not_true_eq_false, not_false_eq_true, ↓reduceIte, eq_self, ne_eq, ti_eq, ti_le, ti_lt, ti_ite, Int32.reduceToInt, ta_add, ta_sub, ta_mul, ta_neg, ta_div]; omega)))) | (with_reducible refine wi_ck ?_ ?_; (focus (first | omega | (simp only [Int32.reduceToInt]; omega) | (simp (disch := (first | omega | (simp (disch := first | omega | (simp only [Int32.reduceToInt]; omega)) only [Int32.reduceToInt, ta_add, ta_sub, ta_mul, ta_neg, ta_div]; omega))) only [q89, ly_n187 hz, Int32.reduceMul, up_1, cp_1, rng_1, fn_1, dj_1, Nat.reduceEqDiff, false_and, and_false, true_and, and_true, or_true, true_or, or_false, false_or, not_true_eq_false, not_false_eq_true, ↓reduceIte, eq_self, ne_eq, ti_eq, ti_le, ti_lt, ti_ite, Int32.reduceToInt, ta_add, ta_sub, ta_mul, ta_neg, ta_div]; done) | (simp (disch := (first | omega | (simp (disch := first | omega | (simp only [Int32.reduceToInt]; omega)) only [Int32.reduceToInt, ta_add, ta_sub, ta_mul, ta_neg, ta_div]; omega))) only [q89, ly_n187 hz, Int32.reduceMul, up_1, cp_1, rng_1, fn_1, dj_1, Nat.reduceEqDiff, false_and, and_false, true_and, and_true, or_true, true_or, or_false, false_or, not_true_eq_false, not_false_eq_true, ↓reduceIte, eq_self, ne_eq, ti_eq, ti_le, ti_lt, ti_ite, Int32.reduceToInt, ta_add, ta_sub, ta_mul, ta_neg, ta_div]; omega)))) | with_reducible refine wi_bd2 ?_ | with_reducible refine wi_bd1 ?_ | with_reducible refine wi_bd3 ?_ | (with_reducible refine wi_some ?_; try dsimp only) | unfold f_X12_takesStep))
    refine wp_s3 ?_
    /- the class's telling -/
    have n1 : ix_n (1 : Int32) = 1 := rfl
    have n3 : ix_n (3 : Int32) = 3 := rfl
    have n4 : ix_n (4 : Int32) = 4 := rfl
    obtain ⟨c3, hc3⟩ : ∃ c3, c3 = ix_di (ix_di c2 116 0 mN) 116 1 (c0.1 91 13) := ⟨_, rfl⟩
    have oc3 : ∀ a i, a ≠ 116 → c3.1 a i = c2.1 a i := fun a i p => by rw [hc3]; simp only [up_1]; rw [if_neg (fun q => p q.1), if_neg (fun q => p q.1)]
    (repeat (first | rw [e14] | (with_reducible refine wi_e (hb1) ?_; try dsimp only) | (with_reducible refine wi_e (hno) ?_; try dsimp only) | rw [n0] | rw [n1] | rw [← hc3] | with_reducible refine wi_t (ly_o90 hz) ?_ | with_reducible refine wi_r (ly_r0_7 hz) ?_ | with_reducible refine wi_t (ly_o91 hz) ?_ | with_reducible refine wi_r (ly_r90_0 hz) ?_ | with_reducible refine wi_r (ly_r90_11 hz) ?_ | with_reducible refine wi_t (ly_a116 hz) ?_ | (with_reducible refine wi_x (ly_i116 hz) ?_ ?_ ?_; (focus (first | omega | (simp only [Int32.reduceToInt]; omega) | (simp (disch := (first | omega | (simp (disch := first | omega | (simp only [Int32.reduceToInt]; omega)) only [Int32.reduceToInt, ta_add, ta_sub, ta_mul, ta_neg, ta_div]; omega))) only [ly_n116 hz, Int32.reduceMul, up_1, cp_1, rng_1, fn_1, dj_1, Nat.reduceEqDiff, false_and, and_false, true_and, and_true, or_true, true_or, or_false, false_or, not_true_eq_false, not_false_eq_true, ↓reduceIte, eq_self, ne_eq, ti_eq, ti_le, ti_lt, ti_ite, Int32.reduceToInt, ta_add, ta_sub, ta_mul, ta_neg, ta_div]; done) | (simp (disch := (first | omega | (simp (disch := first | omega | (simp only [Int32.reduceToInt]; omega)) only [Int32.reduceToInt, ta_add, ta_sub, ta_mul, ta_neg, ta_div]; omega))) only [ly_n116 hz, Int32.reduceMul, up_1, cp_1, rng_1, fn_1, dj_1, Nat.reduceEqDiff, false_and, and_false, true_and, and_true, or_true, true_or, or_false, false_or, not_true_eq_false, not_false_eq_true, ↓reduceIte, eq_self, ne_eq, ti_eq, ti_le, ti_lt, ti_ite, Int32.reduceToInt, ta_add, ta_sub, ta_mul, ta_neg, ta_div]; omega))); (focus (first | omega | (simp only [Int32.reduceToInt]; omega) | (simp (disch := (first | omega | (simp (disch := first | omega | (simp only [Int32.reduceToInt]; omega)) only [Int32.reduceToInt, ta_add, ta_sub, ta_mul, ta_neg, ta_div]; omega))) only [ly_n116 hz, Int32.reduceMul, up_1, cp_1, rng_1, fn_1, dj_1, Nat.reduceEqDiff, false_and, and_false, true_and, and_true, or_true, true_or, or_false, false_or, not_true_eq_false, not_false_eq_true, ↓reduceIte, eq_self, ne_eq, ti_eq, ti_le, ti_lt, ti_ite, Int32.reduceToInt, ta_add, ta_sub, ta_mul, ta_neg, ta_div]; done) | (simp (disch := (first | omega | (simp (disch := first | omega | (simp only [Int32.reduceToInt]; omega)) only [Int32.reduceToInt, ta_add, ta_sub, ta_mul, ta_neg, ta_div]; omega))) only [ly_n116 hz, Int32.reduceMul, up_1, cp_1, rng_1, fn_1, dj_1, Nat.reduceEqDiff, false_and, and_false, true_and, and_true, or_true, true_or, or_false, false_or, not_true_eq_false, not_false_eq_true, ↓reduceIte, eq_self, ne_eq, ti_eq, ti_le, ti_lt, ti_ite, Int32.reduceToInt, ta_add, ta_sub, ta_mul, ta_neg, ta_div]; omega)))) | with_reducible refine wi_lt ?_ | (with_reducible refine wi_ifp ?_ ?_; (focus (first | omega | (simp only [Int32.reduceToInt]; omega) | (simp (disch := (first | omega | (simp (disch := first | omega | (simp only [Int32.reduceToInt]; omega)) only [Int32.reduceToInt, ta_add, ta_sub, ta_mul, ta_neg, ta_div]; omega))) only [ly_n116 hz, Int32.reduceMul, up_1, cp_1, rng_1, fn_1, dj_1, Nat.reduceEqDiff, false_and, and_false, true_and, and_true, or_true, true_or, or_false, false_or, not_true_eq_false, not_false_eq_true, ↓reduceIte, eq_self, ne_eq, ti_eq, ti_le, ti_lt, ti_ite, Int32.reduceToInt, ta_add, ta_sub, ta_mul, ta_neg, ta_div]; done) | (simp (disch := (first | omega | (simp (disch := first | omega | (simp only [Int32.reduceToInt]; omega)) only [Int32.reduceToInt, ta_add, ta_sub, ta_mul, ta_neg, ta_div]; omega))) only [ly_n116 hz, Int32.reduceMul, up_1, cp_1, rng_1, fn_1, dj_1, Nat.reduceEqDiff, false_and, and_false, true_and, and_true, or_true, true_or, or_false, false_or, not_true_eq_false, not_false_eq_true, ↓reduceIte, eq_self, ne_eq, ti_eq, ti_le, ti_lt, ti_ite, Int32.reduceToInt, ta_add, ta_sub, ta_mul, ta_neg, ta_div]; omega)))) | (with_reducible refine wi_ifn ?_ ?_; (focus (first | omega | (simp only [Int32.reduceToInt]; omega) | (simp (disch := (first | omega | (simp (disch := first | omega | (simp only [Int32.reduceToInt]; omega)) only [Int32.reduceToInt, ta_add, ta_sub, ta_mul, ta_neg, ta_div]; omega))) only [ly_n116 hz, Int32.reduceMul, up_1, cp_1, rng_1, fn_1, dj_1, Nat.reduceEqDiff, false_and, and_false, true_and, and_true, or_true, true_or, or_false, false_or, not_true_eq_false, not_false_eq_true, ↓reduceIte, eq_self, ne_eq, ti_eq, ti_le, ti_lt, ti_ite, Int32.reduceToInt, ta_add, ta_sub, ta_mul, ta_neg, ta_div]; done) | (simp (disch := (first | omega | (simp (disch := first | omega | (simp only [Int32.reduceToInt]; omega)) only [Int32.reduceToInt, ta_add, ta_sub, ta_mul, ta_neg, ta_div]; omega))) only [ly_n116 hz, Int32.reduceMul, up_1, cp_1, rng_1, fn_1, dj_1, Nat.reduceEqDiff, false_and, and_false, true_and, and_true, or_true, true_or, or_false, false_or, not_true_eq_false, not_false_eq_true, ↓reduceIte, eq_self, ne_eq, ti_eq, ti_le, ti_lt, ti_ite, Int32.reduceToInt, ta_add, ta_sub, ta_mul, ta_neg, ta_div]; omega)))) | (with_reducible refine wi_ck ?_ ?_; (focus (first | omega | (simp only [Int32.reduceToInt]; omega) | (simp (disch := (first | omega | (simp (disch := first | omega | (simp only [Int32.reduceToInt]; omega)) only [Int32.reduceToInt, ta_add, ta_sub, ta_mul, ta_neg, ta_div]; omega))) only [ly_n116 hz, Int32.reduceMul, up_1, cp_1, rng_1, fn_1, dj_1, Nat.reduceEqDiff, false_and, and_false, true_and, and_true, or_true, true_or, or_false, false_or, not_true_eq_false, not_false_eq_true, ↓reduceIte, eq_self, ne_eq, ti_eq, ti_le, ti_lt, ti_ite, Int32.reduceToInt, ta_add, ta_sub, ta_mul, ta_neg, ta_div]; done) | (simp (disch := (first | omega | (simp (disch := first | omega | (simp only [Int32.reduceToInt]; omega)) only [Int32.reduceToInt, ta_add, ta_sub, ta_mul, ta_neg, ta_div]; omega))) only [ly_n116 hz, Int32.reduceMul, up_1, cp_1, rng_1, fn_1, dj_1, Nat.reduceEqDiff, false_and, and_false, true_and, and_true, or_true, true_or, or_false, false_or, not_true_eq_false, not_false_eq_true, ↓reduceIte, eq_self, ne_eq, ti_eq, ti_le, ti_lt, ti_ite, Int32.reduceToInt, ta_add, ta_sub, ta_mul, ta_neg, ta_div]; omega)))) | with_reducible refine wi_bd2 ?_ | with_reducible refine wi_bd1 ?_ | with_reducible refine wi_bd3 ?_ | (with_reducible refine wi_some ?_; try dsimp only)))
    have hwg3 : wg_90 c3 r3 := by
      have a1 : c3.1 91 14 = c0.1 91 14 := by rw [oc3 _ _ (by omega), g1]
      have a2 : c3.2 = c2.2 := by rw [hc3]; rfl
      have a3 : c3.2 109 = c0.2 109 := funext fun i => by rw [a2, m2]; exact w2 _ _ (by omega)
      have a4 : c3.2 90 3 = c0.2 90 3 := by rw [a2, m2]; exact w2 _ _ (by omega)
      have a5 : r3.1 161 = r0.1 161 := funext fun i => o3 _ _ (by omega) (by omega) (by omega)
      unfold wg_90
      rw [a1, a3, a4, a5, l3]
      exact hwg
    have c327 : c3.1 117 = c1.1 117 := funext fun i => by rw [oc3 _ _ (by omega)]; exact m1 _ _ (by omega) (by omega)
    have hmr3 : mr_ r3 (c3.1 117) := fun m hm => by
      have e2 : r3.1 192 m = rB.1 192 m := by rw [q191 _ _ (by omega) (by omega)]; exact p1 _ _ (by omega)
      have e3 : r3.1 193 m = rB.1 193 m := by rw [q191 _ _ (by omega) (by omega)]; exact p1 _ _ (by omega)
      rw [e2, e3, c327]
      exact hmrB m hm
    have hj0 := htk.2.2.1 j0 (by omega)
    have hra := e_ra90 (n := n) (c0 := c3) (r0 := r3) hz hn hwg3 hmr3 ⟨ix_n (ix_abs (c0.1 105 j0)), (na_b hj0.1 hj0.2.1 hj0.2.2.1).1, by rw [oc3 _ _ (by omega), g1]; exact hnb.2 j0 (by omega), by rw [c327, j3]; decide⟩
    refine wp_m hra (fun tu h => ?_)
    obtain ⟨x8, c4⟩ := tu
    obtain ⟨⟨x8', r4⟩, hw4, e84, hwg4, j41, j42, j43, j44⟩ := h
    dsimp only at e84 hwg4 j41 j42 j43 j44 ⊢
    subst e84
    have q14 : c4.1 90 14 = nI Y := by rw [j41, oc3 _ _ (by omega)]; exact e14
    obtain ⟨c5, hc5⟩ : ∃ c5, c5 = ix_di (ix_di c4 116 3 x8) 116 4 (nI Y) := ⟨_, rfl⟩
    have oc5 : ∀ a i, a ≠ 116 → c5.1 a i = c2.1 a i := fun a i p => by rw [hc5]; simp only [up_1]; rw [if_neg (fun q => p q.1), if_neg (fun q => p q.1), j41]; exact oc3 a i p
    have q14' : (ix_di c4 116 3 x8).1 90 14 = nI Y := by rw [up_1, if_neg (fun q => absurd q.1 (by decide))]; exact q14
    (repeat (first | rw [n3] | rw [n4] | rw [q14'] | rw [← hc5] | with_reducible refine wi_t (ly_o90 hz) ?_ | with_reducible refine wi_r (ly_r0_7 hz) ?_ | with_reducible refine wi_r (ly_r90_11 hz) ?_ | with_reducible refine wi_t (ly_a116 hz) ?_ | (with_reducible refine wi_x (ly_i116 hz) ?_ ?_ ?_; (focus (first | omega | (simp only [Int32.reduceToInt]; omega) | (simp (disch := (first | omega | (simp (disch := first | omega | (simp only [Int32.reduceToInt]; omega)) only [Int32.reduceToInt, ta_add, ta_sub, ta_mul, ta_neg, ta_div]; omega))) only [ly_n116 hz, Int32.reduceMul, up_1, cp_1, rng_1, fn_1, dj_1, Nat.reduceEqDiff, false_and, and_false, true_and, and_true, or_true, true_or, or_false, false_or, not_true_eq_false, not_false_eq_true, ↓reduceIte, eq_self, ne_eq, ti_eq, ti_le, ti_lt, ti_ite, Int32.reduceToInt, ta_add, ta_sub, ta_mul, ta_neg, ta_div]; done) | (simp (disch := (first | omega | (simp (disch := first | omega | (simp only [Int32.reduceToInt]; omega)) only [Int32.reduceToInt, ta_add, ta_sub, ta_mul, ta_neg, ta_div]; omega))) only [ly_n116 hz, Int32.reduceMul, up_1, cp_1, rng_1, fn_1, dj_1, Nat.reduceEqDiff, false_and, and_false, true_and, and_true, or_true, true_or, or_false, false_or, not_true_eq_false, not_false_eq_true, ↓reduceIte, eq_self, ne_eq, ti_eq, ti_le, ti_lt, ti_ite, Int32.reduceToInt, ta_add, ta_sub, ta_mul, ta_neg, ta_div]; omega))); (focus (first | omega | (simp only [Int32.reduceToInt]; omega) | (simp (disch := (first | omega | (simp (disch := first | omega | (simp only [Int32.reduceToInt]; omega)) only [Int32.reduceToInt, ta_add, ta_sub, ta_mul, ta_neg, ta_div]; omega))) only [ly_n116 hz, Int32.reduceMul, up_1, cp_1, rng_1, fn_1, dj_1, Nat.reduceEqDiff, false_and, and_false, true_and, and_true, or_true, true_or, or_false, false_or, not_true_eq_false, not_false_eq_true, ↓reduceIte, eq_self, ne_eq, ti_eq, ti_le, ti_lt, ti_ite, Int32.reduceToInt, ta_add, ta_sub, ta_mul, ta_neg, ta_div]; done) | (simp (disch := (first | omega | (simp (disch := first | omega | (simp only [Int32.reduceToInt]; omega)) only [Int32.reduceToInt, ta_add, ta_sub, ta_mul, ta_neg, ta_div]; omega))) only [ly_n116 hz, Int32.reduceMul, up_1, cp_1, rng_1, fn_1, dj_1, Nat.reduceEqDiff, false_and, and_false, true_and, and_true, or_true, true_or, or_false, false_or, not_true_eq_false, not_false_eq_true, ↓reduceIte, eq_self, ne_eq, ti_eq, ti_le, ti_lt, ti_ite, Int32.reduceToInt, ta_add, ta_sub, ta_mul, ta_neg, ta_div]; omega)))) | with_reducible refine wi_lt ?_ | (with_reducible refine wi_ifp ?_ ?_; (focus (first | omega | (simp only [Int32.reduceToInt]; omega) | (simp (disch := (first | omega | (simp (disch := first | omega | (simp only [Int32.reduceToInt]; omega)) only [Int32.reduceToInt, ta_add, ta_sub, ta_mul, ta_neg, ta_div]; omega))) only [ly_n116 hz, Int32.reduceMul, up_1, cp_1, rng_1, fn_1, dj_1, Nat.reduceEqDiff, false_and, and_false, true_and, and_true, or_true, true_or, or_false, false_or, not_true_eq_false, not_false_eq_true, ↓reduceIte, eq_self, ne_eq, ti_eq, ti_le, ti_lt, ti_ite, Int32.reduceToInt, ta_add, ta_sub, ta_mul, ta_neg, ta_div]; done) | (simp (disch := (first | omega | (simp (disch := first | omega | (simp only [Int32.reduceToInt]; omega)) only [Int32.reduceToInt, ta_add, ta_sub, ta_mul, ta_neg, ta_div]; omega))) only [ly_n116 hz, Int32.reduceMul, up_1, cp_1, rng_1, fn_1, dj_1, Nat.reduceEqDiff, false_and, and_false, true_and, and_true, or_true, true_or, or_false, false_or, not_true_eq_false, not_false_eq_true, ↓reduceIte, eq_self, ne_eq, ti_eq, ti_le, ti_lt, ti_ite, Int32.reduceToInt, ta_add, ta_sub, ta_mul, ta_neg, ta_div]; omega)))) | (with_reducible refine wi_ifn ?_ ?_; (focus (first | omega | (simp only [Int32.reduceToInt]; omega) | (simp (disch := (first | omega | (simp (disch := first | omega | (simp only [Int32.reduceToInt]; omega)) only [Int32.reduceToInt, ta_add, ta_sub, ta_mul, ta_neg, ta_div]; omega))) only [ly_n116 hz, Int32.reduceMul, up_1, cp_1, rng_1, fn_1, dj_1, Nat.reduceEqDiff, false_and, and_false, true_and, and_true, or_true, true_or, or_false, false_or, not_true_eq_false, not_false_eq_true, ↓reduceIte, eq_self, ne_eq, ti_eq, ti_le, ti_lt, ti_ite, Int32.reduceToInt, ta_add, ta_sub, ta_mul, ta_neg, ta_div]; done) | (simp (disch := (first | omega | (simp (disch := first | omega | (simp only [Int32.reduceToInt]; omega)) only [Int32.reduceToInt, ta_add, ta_sub, ta_mul, ta_neg, ta_div]; omega))) only [ly_n116 hz, Int32.reduceMul, up_1, cp_1, rng_1, fn_1, dj_1, Nat.reduceEqDiff, false_and, and_false, true_and, and_true, or_true, true_or, or_false, false_or, not_true_eq_false, not_false_eq_true, ↓reduceIte, eq_self, ne_eq, ti_eq, ti_le, ti_lt, ti_ite, Int32.reduceToInt, ta_add, ta_sub, ta_mul, ta_neg, ta_div]; omega)))) | (with_reducible refine wi_ck ?_ ?_; (focus (first | omega | (simp only [Int32.reduceToInt]; omega) | (simp (disch := (first | omega | (simp (disch := first | omega | (simp only [Int32.reduceToInt]; omega)) only [Int32.reduceToInt, ta_add, ta_sub, ta_mul, ta_neg, ta_div]; omega))) only [ly_n116 hz, Int32.reduceMul, up_1, cp_1, rng_1, fn_1, dj_1, Nat.reduceEqDiff, false_and, and_false, true_and, and_true, or_true, true_or, or_false, false_or, not_true_eq_false, not_false_eq_true, ↓reduceIte, eq_self, ne_eq, ti_eq, ti_le, ti_lt, ti_ite, Int32.reduceToInt, ta_add, ta_sub, ta_mul, ta_neg, ta_div]; done) | (simp (disch := (first | omega | (simp (disch := first | omega | (simp only [Int32.reduceToInt]; omega)) only [Int32.reduceToInt, ta_add, ta_sub, ta_mul, ta_neg, ta_div]; omega))) only [ly_n116 hz, Int32.reduceMul, up_1, cp_1, rng_1, fn_1, dj_1, Nat.reduceEqDiff, false_and, and_false, true_and, and_true, or_true, true_or, or_false, false_or, not_true_eq_false, not_false_eq_true, ↓reduceIte, eq_self, ne_eq, ti_eq, ti_le, ti_lt, ti_ite, Int32.reduceToInt, ta_add, ta_sub, ta_mul, ta_neg, ta_div]; omega)))) | with_reducible refine wi_bd2 ?_ | with_reducible refine wi_bd1 ?_ | with_reducible refine wi_bd3 ?_ | (with_reducible refine wi_some ?_; try dsimp only)))
    have c529 : ∀ i, c5.1 119 i = c1.1 119 i := fun i => by rw [oc5 _ _ (by omega)]; exact m1 _ _ (by omega) (by omega)
    have c516 : (c5.1 90 16).toInt = (qc_ ks F U : Int) := by rw [oc5 _ _ (by omega), m1 _ _ (by omega) (by omega)]; exact w8
    have hqb := qc_b (ks := ks) (F := F) U
    have hksT : ∀ i, i < U → F ≤ ks i → ks i - F < T := fun i hi hf => by have := (w7 i hi).1; omega
    refine e_l8290 (n := n) (c := c5) hz hn (P := qc_ ks F U) (by omega) c516 (qq := fun p => ix_n (c5.1 119 p)) (fun p hp => ?_) (fun rec4 x4 c6 hx4 k1 k2 k3 => ?_)
    · obtain ⟨i, i1, i2, i3⟩ := qc_s hp
      have q := w9 i i1 i2
      rw [i3] at q
      have hlt' := hksT i i1 i2
      show c5.1 119 p = nI (ix_n (c5.1 119 p)) ∧ ix_n (c5.1 119 p) < 800
      rw [c529, q, nI_n (by omega)]
      exact ⟨rfl, by omega⟩
    refine wp_sw ?_
    refine wi_e hw4 ?_
    refine wp_sw ?_
    dsimp only
    have hcs := e_csq1 (n := n) (r := r4) hz hn
    refine wi_bd1 ?_
    refine wp_m hcs (fun r4' h => ?_)
    obtain ⟨⟨u1, u2⟩, u3⟩ := h
    have i4 : r4'.1 = r3.1 := u1.trans j42
    have rr3 : ∀ i, i < U → vr_ r4'.1 1 (rn (ks i)) ∧ rz_ r4'.1 1 (rn (ks i)) = rz_ r0.1 1 (rn (ks i)) ∧ ri_ r4'.1 1 (rn (ks i)) = ri_ r0.1 1 (rn (ks i)) := fun i hi => by
      have q := (hrr.1 (ks i) (w7 i hi).1).1
      rw [i4]
      have e143 : r3.1 143 = r0.1 143 := funext fun i => o3 _ _ (by omega) (by omega) (by omega)
      have e144 : r3.1 144 = r0.1 144 := funext fun i => o3 _ _ (by omega) (by omega) (by omega)
      have e147 : r3.1 147 = r0.1 147 := funext fun i => o3 _ _ (by omega) (by omega) (by omega)
      have e148 : r3.1 148 = r0.1 148 := funext fun i => o3 _ _ (by omega) (by omega) (by omega)
      have e176 : r3.1 176 = r0.1 176 := funext fun i => o3 _ _ (by omega) (by omega) (by omega)
      have e177 : r3.1 177 = r0.1 177 := funext fun i => o3 _ _ (by omega) (by omega) (by omega)
      have e66 : r3.1 125 66 = r0.1 125 66 := o3 _ _ (by omega) (by omega) (by omega)
      refine ⟨?_, ?_, funext fun j => ?_⟩
      · unfold vr_; rw [e143, e147, e176, e66]; exact q
      · unfold rz_; rw [e143, e147, e176, e66]
      · unfold ri_; rw [e143, e144, e148, e176, e177, e66]
    have hrow : ∀ i, i < U → (ix_n (c0.1 94 (ks i + 1)) - ix_n (c0.1 94 (ks i)) : Nat) = (rz_ r0.1 1 (rn (ks i))).toInt ∧ ∀ j, j < ix_n (c0.1 94 (ks i + 1)) - ix_n (c0.1 94 (ks i)) → ri_ r0.1 1 (rn (ks i)) j = c0.1 93 (ix_n (c0.1 94 (ks i)) + j) ∧ in_90 c0 (ks i) (ix_n (c0.1 94 (ks i)) + j) := fun i hi => by
      obtain ⟨a1, a2, a3⟩ := hrr.1 (ks i) (w7 i hi).1
      have rb := rw_b hb.1 (w7 i hi).1
      have n1 := ni_c rb.1
      have n2 := ni_c (x := c0.1 94 (ks i + 1)) (by omega)
      refine ⟨by omega, fun j hj => ⟨a3 j (by omega), by unfold in_90; omega⟩⟩
    have q106' : (r4'.1 125 106).toInt = (U : Int) := by rw [i4, q106]; exact w6
    refine e_l227q1 (n := n) (r := r4') hz hn (U := U) (by omega) (row := fun i => rn (ks i)) (sz := fun i => ix_n (c0.1 94 (ks i + 1)) - ix_n (c0.1 94 (ks i))) q106' (fun i hi => ?_) u3 (fun rec9 x9 r5 hx9 v1 v2 v3 v4 => ?_)
    · refine ⟨?_, (rr3 i hi).1, ?_, fun j hj => ?_⟩
      · rw [i4, q191 _ _ (by omega) (by omega), p1 _ _ (by omega), hrB, up_1, if_neg (by omega)]
        exact (w7 i hi).2.1
      · rw [(rr3 i hi).2.1]; exact (hrow i hi).1
      · rw [(rr3 i hi).2.2]
        obtain ⟨a1, a2⟩ := (hrow i hi).2 j hj
        rw [a1]
        exact (rw_i hb.1 (w7 i hi).1 a2.2).2
    refine wp_sw ?_
    refine H rec4 x4 c6 rec9 x9 r5 Y to x8 fr (by rw [k1 _ _ (by omega), c516]; exact hx4) (by rw [v1 _ _ (by omega), q106']; exact hx9) ?_
    have o6 : ∀ a i, a ≠ 111 → a ≠ 116 → a ≠ 117 → a ≠ 118 → a ≠ 119 → (a ≠ 90 ∨ (i ≠ 14 ∧ i ≠ 16)) → c6.1 a i = c0.1 a i := fun a i b1 b2 b3 b4 b5 b6 => by rw [k1 a i b1, oc5 a i b2]; exact o2 a i b3 b4 b5 b6
    have l6 : ∀ a i, c6.2 a i = c4.2 a i := fun a i => by rw [k2, hc5]; rfl
    have l4 : ∀ a i, a ≠ 109 → (a ≠ 90 ∨ i ≠ 3) → c4.2 a i = c2.2 a i := fun a i b1 b2 => by rw [j43 a i (Or.inl b1) b2, hc3]; rfl
    have or5 : ∀ a i, (a < 191 ∨ 194 < a) → (a ≠ 125 ∨ (i ≠ 89 ∧ i ≠ 104 ∧ i ≠ 106)) → (a ≠ 187 ∨ (i ≠ 10 * 1 + 1 ∧ i ≠ 10 * 1 + 4)) → (a ≠ 181 ∨ i < 800 * 1 ∨ 800 * 1 + 800 ≤ i) → r5.1 a i = r0.1 a i := fun a i b1 b2 b3 b4 => by rw [v1 a i b4, i4]; exact o3 a i b1 b2 b3
    refine ⟨o6, fun a i b1 b2 b3 => ?_, or5, fun a i b1 b2 b3 => ?_, ⟨?_, by omega, by omega, fun i hi => ⟨?_, ?_⟩⟩, ⟨j0, by omega, ?_, j4⟩, fun i i1 i2 => ?_, ⟨hfx.2.1, htoL, ?_⟩, ?_, ?_, fun j hj => ?_, fun hid => ⟨fun w hw => ?_, ?_⟩, ⟨by omega, ?_⟩, ⟨?_, ?_, ?_⟩, ?_, ?_, ?_, fun P hP hQ w hw => ?_⟩
    · rw [l6, l4 a i b1 b2, m2]; exact w2 a i b3
    · rw [v2 a i b3, u2 a i b3, j44 a i b1 b2, l3]
    · rw [k1 _ _ (by omega), oc5 _ _ (by omega)]; exact m3
    · rw [k1 _ _ (by omega), oc5 _ _ (by omega)]; exact m4 i hi
    · rw [v1 _ _ (by omega), i4, q191 _ _ (by omega) (by omega)]; exact p3 i hi
    · rw [hY0, j2]
    · obtain ⟨j, b1, b2, b3, b4, b5⟩ := hYm i i1 i2 (Nat.le_refl t)
      exact ⟨j, by omega, b3, hfx.2.2 j b1 b2 b4 b5⟩
    · rcases hfx.1 with e | ⟨j, b1, b2, b3, b4⟩
      · left; rw [e]; rfl
      · right; exact ⟨j, by omega, by rw [b4]; rfl⟩
    · rw [hfy]
      refine fy_c _ (fun i i1 i2 => ?_)
      rw [k1 _ _ (by omega), oc5 _ _ (by omega)]; exact m4 i (by omega)
    · obtain ⟨z1, z2, z3, z4, z5, z6, z7⟩ := hwg4
      have a1 : c6.1 91 14 = c4.1 91 14 := by rw [k1 _ _ (by omega), oc5 _ _ (by omega), j41, oc3 _ _ (by omega)]
      have a5 : r5.1 161 = r4.1 161 := funext fun i => by rw [v1 _ _ (by omega), u1]
      have a6 : r5.2 171 = r4.2 171 := funext fun i => by rw [v2 _ _ (by omega), u2 _ _ (by omega)]
      have a7 : r5.2 172 = r4.2 172 := funext fun i => by rw [v2 _ _ (by omega), u2 _ _ (by omega)]
      have a8 : c6.2 = c4.2 := funext fun a => funext fun i => l6 a i
      unfold wg_90
      rw [a1, a5, a6, a7, a8]
      exact ⟨z1, z2, z3, z4, z5, z6, z7⟩
    · have hus : us_ (fun j => r4'.1 181 (800 * 1 + j)) (fun i => rn (ks i)) 2000 U = us_ (fun j => r4'.1 181 (800 * 1 + j)) ks F U := us_r U (fun i hi => by
        have hki := (w7 i hi).1
        by_cases e : F ≤ ks i
        · have := (G14 (ks i) (by omega) hki).1
          omega
        · by_cases e2 : (ks i : Int) < (c0.1 91 15).toInt
          · have := (G6 (ks i) e2).1; omega
          · have := G11 (ks i) (by omega) (by omega)
            have : (c0.1 91 16).toInt - (c0.1 91 15).toInt ≤ 64 := by
              by_cases e3 : (1 = 1 ∨ (r0.1 125 58).toInt ≠ 0)
              · have := G9 e3; omega
              · have := G10 e3; omega
            omega)
      rw [k3 j, v4 j, hus, us_x (q := fun p => ix_n (c5.1 119 p)) U (fun i hi hf => by
        have q := w9 i hi hf
        have := hksT i hi hf
        show ix_n (c5.1 119 (qc_ ks F i)) = ks i - F
        rw [c529, q, nI_n (by omega)])]
      refine ux_c _ ?_
      rw [oc5 _ _ (by omega), o2 _ _ (by omega) (by omega) (by omega) (by omega), i4, o3 _ _ (by omega) (by omega) (by omega)]
      exact y10 j hj
    · rw [l6, l4 _ _ (by omega) (by omega), m2, w10 w hw, v3 w hw]
      obtain ⟨s1, s2⟩ := hrs hid
      have key : ∀ i, i ≤ U → gu_90 c0 ks w i = gv_q1 r4' (fun i => rn (ks i)) (fun i => ix_n (c0.1 94 (ks i + 1)) - ix_n (c0.1 94 (ks i))) w i := by
        intro i
        induction i with
        | zero => intro _; rfl
        | succ i ihi =>
          intro hi
          have ihi := ihi (by omega)
          have egr : gr_90 c0 (ks i) w = gs_q1 r4' (rn (ks i)) w := by
            rw [gr_e90 (c := c0) (r := r0) hrr hid s1 y4 (w7 i (by omega)).1 hw]
            unfold gs_q1
            rw [u2 _ _ (by omega), j44 _ _ (by omega) (by omega), l3]
          show gp_ _ _ _ w (gu_90 c0 ks w i ||| gr_90 c0 (ks i) w) _ _ = gl_ _ _ _ w (gv_q1 r4' _ _ w i ||| gs_q1 r4' (rn (ks i)) w) _
          rw [gp_l, ihi, egr]
          refine gl_cg _ (fun j hj => ?_)
          obtain ⟨a1, a2⟩ := (hrow i (by omega)).2 j hj
          have hit := rw_i hb.1 (w7 i (by omega)).1 a2.2
          obtain ⟨b1, b2, b3, b4⟩ := na_b hit.1 hit.2.1 hit.2.2
          have hv := (w7 i (by omega)).2.2 _ a2
          have hv0 : (c0.1 101 (ix_n (ix_abs (c0.1 93 (ix_n (c0.1 94 (ks i)) + j))))).toInt ≠ 0 := by
            intro e
            rw [vl_a] at hv
            split at hv <;> omega
          obtain ⟨i', i1', i2'⟩ := hla.2.2.2.2.2 _ b1 b2 hv0
          have x21 := (hrt.2.2.1 i' i1').2.1
          rw [i2'] at x21
          have e168 : ∀ m, r4'.1 168 m = r0.1 168 m := fun m => by rw [i4]; exact o3 _ _ (by omega) (by omega) (by omega)
          have e167 : ∀ m, r4'.1 167 m = r0.1 167 m := fun m => by rw [i4]; exact o3 _ _ (by omega) (by omega) (by omega)
          have v2' : (r0.1 167 (301 * 1 + ix_n (ix_abs (c0.1 93 (ix_n (c0.1 94 (ks i)) + j))))).toInt ≠ 2 := by
            rw [hrr.2.2 _ b2]
            unfold sv_
            rw [if_neg hv0]
            split <;> decide
          refine ⟨by rw [(rr3 i (by omega)).2.2]; exact a1.symm, ?_, fun hl0 => ?_⟩
          · rw [e167, e168, x21]
            exact ⟨fun q => ⟨by omega, v2', q⟩, fun q => q.2.2⟩
          · have := s2 i' w i1' (by unfold le_90; rw [i2']; exact hl0) hw
            rw [i2'] at this
            rw [u2 _ _ (by omega), j44 _ _ (by omega) (by omega), l3]
            exact this
      exact key U (Nat.le_refl U)
    · rw [k1 _ _ (by omega), hc5]
      simp only [up_1, Nat.reduceEqDiff, false_and, and_false, true_and, and_true, or_true, true_or, or_false, false_or, not_true_eq_false, not_false_eq_true, ↓reduceIte, eq_self, ne_eq]
      rw [j41, hc3]
      simp only [up_1, Nat.reduceEqDiff, false_and, and_false, true_and, and_true, or_true, true_or, or_false, false_or, not_true_eq_false, not_false_eq_true, ↓reduceIte, eq_self, ne_eq]
      exact hmN hid
    · rw [nT, ← hA]; omega
    · rw [v1 _ _ (by omega), i4, hr3, up_1, if_neg (fun q => absurd q.2 (by decide)), up_1, if_pos ⟨rfl, rfl⟩]
    · rw [v1 _ _ (by omega), i4, hr3, up_1, if_pos ⟨rfl, rfl⟩]
    · rw [v1 _ _ (by omega), i4, hr3, up_1, if_neg (fun q => absurd q.1 (by decide)), up_1, if_neg (fun q => absurd q.1 (by decide)), up_1, if_pos ⟨rfl, rfl⟩]
    · rw [k1 _ _ (by omega), hc5]
      simp only [up_1, Nat.reduceEqDiff, false_and, and_false, true_and, and_true, or_true, true_or, or_false, false_or, not_true_eq_false, not_false_eq_true, ↓reduceIte, eq_self, ne_eq]
      rw [j41, hc3]
      simp only [up_1, Nat.reduceEqDiff, false_and, and_false, true_and, and_true, or_true, true_or, or_false, false_or, not_true_eq_false, not_false_eq_true, ↓reduceIte, eq_self, ne_eq]
    · rw [k1 _ _ (by omega), hc5]
      simp only [up_1, Nat.reduceEqDiff, false_and, and_false, true_and, and_true, or_true, true_or, or_false, false_or, not_true_eq_false, not_false_eq_true, ↓reduceIte, eq_self, ne_eq]
    · rw [k1 _ _ (by omega), hc5]
      simp only [up_1, Nat.reduceEqDiff, false_and, and_false, true_and, and_true, or_true, true_or, or_false, false_or, not_true_eq_false, not_false_eq_true, ↓reduceIte, eq_self, ne_eq]
    · rw [v3 w hw]
      have e168 : ∀ m, r4'.1 168 m = r0.1 168 m := fun m => by rw [i4]; exact o3 _ _ (by omega) (by omega) (by omega)
      have e167 : ∀ m, r4'.1 167 m = r0.1 167 m := fun m => by rw [i4]; exact o3 _ _ (by omega) (by omega) (by omega)
      refine gv_Pq1 hP U (fun i hi => ⟨?_, fun j hj hc => ?_⟩)
      · have q := gs_P90 hP hQ hrr y3 y4 (w7 i hi).1 hw
        have eg : gs_q1 r4' (rn (ks i)) w = gs_q1 r0 (rn (ks i)) w := by
          unfold gs_q1
          rw [u2 _ _ (by omega), j44 _ _ (by omega) (by omega), l3]
        show P w (gs_q1 r4' (rn (ks i)) w)
        rw [eg]
        exact q
      · try dsimp only at hc ⊢
        obtain ⟨a1, a2⟩ := (hrow i hi).2 j hj
        have hit := rw_i hb.1 (w7 i hi).1 a2.2
        obtain ⟨b1, b2, b3, b4⟩ := na_b hit.1 hit.2.1 hit.2.2
        have er : ri_ r4'.1 1 (rn (ks i)) j = c0.1 93 (ix_n (c0.1 94 (ks i)) + j) := by rw [(rr3 i hi).2.2]; exact a1
        rw [er, e167, e168] at hc
        rw [er, u2 _ _ (by omega), j44 _ _ (by omega) (by omega), l3]
        exact nm_P90 hQ hrr.2.2 hla hrt b1 b2 hc.2.1 hc.2.2 hw
end LRA

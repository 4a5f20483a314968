/-! learn up to its going back (60, 0) -/
section LRA
variable {n : Nat} {z : ix_Z} {c c0 r r0 : ix_D2} {rn : Nat → Nat} {v x y w : Int32}
def l6_60 (c0 r0 : ix_D2) (rn : Nat → Nat) (k : Nat) (c r : ix_D2) (Y : Nat) (to x8 : Int32) (fr : Nat → Int32) : Prop :=
  (∀ a i, a ≠ 81 → a ≠ 86 → a ≠ 87 → a ≠ 88 → a ≠ 89 → (a ≠ 60 ∨ (i ≠ 14 ∧ i ≠ 16)) → c.1 a i = c0.1 a i) ∧
  (∀ a i, a ≠ 79 → (a ≠ 60 ∨ i ≠ 3) → a ≠ 84 → c.2 a i = c0.2 a i) ∧
  (∀ a i, (a < 191 ∨ 194 < a) → (a ≠ 125 ∨ (i ≠ 89 ∧ i ≠ 104 ∧ i ≠ 106)) → (a ≠ 187 ∨ (i ≠ 10 * 0 + 1 ∧ i ≠ 10 * 0 + 4)) → (a ≠ 181 ∨ i < 800 * 0 ∨ 800 * 0 + 800 ≤ i) → r.1 a i = r0.1 a i) ∧
  (∀ a i, (a ≠ 171 ∨ i ≤ 301 * 0 ∨ 301 * 0 + 300 < i) → (a ≠ 172 ∨ i ≠ 0) → a ≠ 184 → r.2 a i = r0.2 a i) ∧
  ((c.1 60 14).toInt = (Y : Int) ∧ 1 ≤ Y ∧ Y ≤ 301 ∧ ∀ i, i < Y → c.1 88 i = fr i ∧ r.1 191 i = fr i) ∧
  (∃ j : Nat, (j : Int) < (c0.1 61 12).toInt ∧ fr 0 = -(c0.1 75 j) ∧ le_60 c0 j = (c0.1 61 13).toInt) ∧
  (∀ i, 1 ≤ i → i < Y → ∃ j : Nat, (j : Int) < (c0.1 61 12).toInt ∧ fr i = -(c0.1 75 j) ∧ le_60 c0 j ≤ to.toInt) ∧
  (0 ≤ to.toInt ∧ to.toInt < (c0.1 61 13).toInt ∧ (to.toInt = 0 ∨ ∃ j : Nat, (j : Int) < (c0.1 61 12).toInt ∧ le_60 c0 j = to.toInt)) ∧
  fy_ (c0.1 73) (c.1 88) (Y - 1) = to ∧
  wg_60 c r ∧ (∀ j : Nat, (j : Int) < (c0.1 85 8).toInt → c.1 81 j = r.1 181 (800 * 0 + j)) ∧
  ((∀ k : Nat, (k : Int) < (c0.1 61 15).toInt → rn k = k) → (∀ w, w < 8 → c.2 84 w = r.2 184 w) ∧ c.1 86 0 = nI (rn k)) ∧
  ((c0.1 85 8).toInt < 800 ∧ (r0.1 176 (801 * 0 + ix_n (c0.1 85 8))).toInt + Y ≤ 8000) ∧
  (r.1 187 (10 * 0 + 1) = r0.1 187 (10 * 0 + 1) + 1 ∧ r.1 187 (10 * 0 + 4) = r0.1 187 (10 * 0 + 4) + 1 ∧ r.1 125 89 = r0.1 125 89 - 1) ∧
  c.1 86 1 = c0.1 61 13 ∧ c.1 86 3 = x8 ∧ c.1 86 4 = nI Y
def fl_60 (c0 r0 c r : ix_D2) : Prop := (∀ a i, a ≠ 87 → a ≠ 88 → a ≠ 89 → (a ≠ 60 ∨ (i ≠ 14 ∧ i ≠ 16)) → c.1 a i = c0.1 a i) ∧ (∀ a i, a ≠ 84 → c.2 a i = c0.2 a i) ∧ (∀ a i, (a < 191 ∨ 194 < a) → (a ≠ 125 ∨ (i ≠ 104 ∧ i ≠ 106)) → r.1 a i = r0.1 a i) ∧ r.2 = r0.2
set_option maxHeartbeats 4000000 in
theorem e_la60 (hz : ly_z z) (hn : 20000 ≤ n) (h : R_60 c0 r0 rn) {k : Nat} (hL : 0 < (c0.1 61 13).toInt) (hk : (k : Int) < (c0.1 62 2).toInt) (hk0 : (c0.1 68 k).toInt = 0) (h98 : r0.1 125 98 = nI (rn k)) (h89 : 0 < (r0.1 125 89).toInt) {Q : Int32 × ix_D2 → Int32 × ix_D2 → Prop}
    (HF : ∀ c2 r2 : ix_D2, fl_60 c0 r0 c2 r2 → Q (-1003, c2) (-1003, r2))
    (H : ∀ (rec4 : Int32 → ix_D2 → Option (Int32 × ix_D2)) (x4 : Int32) (c6 : ix_D2) (rec9 : Int32 → ix_D2 → Option (Int32 × ix_D2)) (x9 : Int32) (r5 : ix_D2) (Y : Nat) (to x8 : Int32) (fr : Nat → Int32), x4.toInt = (c6.1 60 16).toInt → x9.toInt = (r5.1 125 106).toInt → l6_60 c0 r0 rn k c6 r5 Y to x8 fr → wp_t (b_X9_learn_82 n z 60 rec4 x4 c6) (fun u => wp_t (b_X12_learn_227 n z 125 0 (nI (rn k)) (c0.1 61 13) (nI Y) to x8 rec9 x9 r5) (fun w => Q u w))) : wp_t (f_X9_learn n z 60 (nI k) c0) (fun u => wp_t (f_X12_learn n z 125 0 r0) (fun w => Q u w)) := by
  obtain ⟨hb, hrr, htk, hrt, ⟨hla, hll, hql⟩, hrs, hwg, hnb, hty, haq, hcq⟩ := h
  obtain ⟨y1, y2, y3, y4, y5, y6, y7, y8, y9, y10, y11, y12, y13, y14, y15, y16, y17, y18⟩ := hty
  obtain ⟨G1, G2, G3, G4, G5, G6, G7, G8, G9, G10, G11, G12, G13, G14, G15⟩ := hrr.2.1
  have hT3 := hb.1.2.1
  have ht0 := htk.1
  have ht2 := htk.2.1
  obtain ⟨t, et⟩ : ∃ t : Nat, (t : Int) = (c0.1 61 12).toInt := ⟨ix_n (c0.1 61 12), ni_c ht0⟩
  obtain ⟨F, hF⟩ : ∃ F : Nat, (F : Int) = (c0.1 61 16).toInt := ⟨ix_n (c0.1 61 16), ni_c (by omega)⟩
  obtain ⟨T, hT⟩ : ∃ T : Nat, (T : Int) = (c0.1 85 8).toInt := ⟨ix_n (c0.1 85 8), ni_c (by omega)⟩
  have nT : ix_n (c0.1 85 8) = T := ni_k hT.symm
  have nF : ix_n (c0.1 61 16) = F := ni_k hF.symm
  obtain ⟨A, hA⟩ : ∃ A : Nat, (A : Int) = (r0.1 176 (801 * 0 + T)).toInt := ⟨ix_n (r0.1 176 (801 * 0 + T)), ni_c (by
    have q := (y11 T (by omega)).1
    have m4 := rw_m hb.1 (k := F) (l := F + T) (by omega) (by omega)
    rw [nF] at q
    omega)⟩
  have hA2 : (A : Int) = (c0.1 64 (F + T)).toInt - (c0.1 64 F).toInt := by
    have q := (y11 T (by omega)).1
    rw [nF] at q
    omega
  have hA3 := (y11 T (by omega)).2
  have h500 : (c0.1 61 15).toInt ≤ 500 := by
    apply Classical.byContradiction
    intro hgt
    have hm : ∀ i : Nat, (i : Int) < (c0.1 61 15).toInt → i ≤ rn i := by
      intro i
      induction i with
      | zero => intro _; exact Nat.zero_le _
      | succ i ih => intro hi; have a := ih (by omega); have b := G8 i (i + 1) (by omega) hi; omega
    have a := hm 500 (by omega)
    have b := (G6 500 (by omega)).1
    omega
  have hkf : ∀ p, in_60 c0 k p → vl_ c0.1 71 (c0.1 63 p) = -1 := by
    intro p hp
    have l1 := hb.2.2.2.1 k hk
    have l2 := lw_b hb.1 (by omega) hb.2.2.2.2 hk
    have l3 : lw_s c0.1 63 64 71 k = 0 := by omega
    have rb := rw_b hb.1 hk
    have n1 := ni_c rb.1
    have n2 := ni_c (x := c0.1 64 (k + 1)) (by omega)
    let g : Nat → Int := fun p => if (p : Int) < (c0.1 64 (k + 1)).toInt then wv_ c0.1 71 (c0.1 63 p) else 0
    have hg0 : ∀ p, 0 ≤ g p := by
      intro p
      show 0 ≤ (if (p : Int) < (c0.1 64 (k + 1)).toInt then wv_ c0.1 71 (c0.1 63 p) else 0)
      by_cases e : (p : Int) < (c0.1 64 (k + 1)).toInt
      · rw [if_pos e]
        have := rw_i hb.1 hk e
        exact (wv_b hb.2.2.2.2 (by omega) (by omega)).1
      · rw [if_neg e]; exact Int.le_refl 0
    have e : sm_ g (ix_n (c0.1 64 k)) (ix_n (c0.1 64 (k + 1))) = 0 := by
      rw [← l3]
      unfold lw_s
      refine sm_c (fun p p1 p2 => ?_)
      show (if (p : Int) < (c0.1 64 (k + 1)).toInt then wv_ c0.1 71 (c0.1 63 p) else 0) = _
      rw [if_pos (by omega)]
    obtain ⟨p1, p2⟩ := hp
    have q := (sm_0 hg0).2.mp e p (by omega) (by omega)
    have q : wv_ c0.1 71 (c0.1 63 p) = 0 := by
      have e2 : g p = wv_ c0.1 71 (c0.1 63 p) := if_pos p2
      rw [← e2]; exact q
    have hi := rw_i hb.1 hk p2
    have hv2 := vl_b hb.2.2.2.2 (v := c0.1 63 p) (by omega) (by omega)
    unfold wv_ at q
    rcases hv2 with g | g | g
    · rw [g] at q; exact absurd q (by decide)
    · rw [g] at q; exact absurd q (by decide)
    · exact g
  have hwb := e_wb60 (n := n) (c0 := c0) (r0 := r0) (rn := rn) hz hn hb hrr htk hrt hla hql (by omega) h500 (t := t) (k := k) et hL hk (by omega) hkf
  (repeat (first | with_reducible refine wi_t (ly_o60 hz) ?_ | with_reducible refine wi_r (ly_r0_6 hz) ?_ | with_reducible refine wi_t (ly_o61 hz) ?_ | with_reducible refine wi_r (ly_r60_0 hz) ?_ | with_reducible refine wi_lt ?_ | (with_reducible refine wi_ifp ?_ ?_; (focus (first | omega | (simp only [Int32.reduceToInt]; omega) | (simp (disch := (first | omega | (simp (disch := first | omega | (simp only [Int32.reduceToInt]; omega)) only [Int32.reduceToInt, ta_add, ta_sub, ta_mul, ta_neg, ta_div]; omega))) only [Int32.reduceMul, up_1, cp_1, rng_1, fn_1, dj_1, Nat.reduceEqDiff, false_and, and_false, true_and, and_true, or_true, true_or, or_false, false_or, not_true_eq_false, not_false_eq_true, ↓reduceIte, eq_self, ne_eq, ti_eq, ti_le, ti_lt, ti_ite, Int32.reduceToInt, ta_add, ta_sub, ta_mul, ta_neg, ta_div]; done) | (simp (disch := (first | omega | (simp (disch := first | omega | (simp only [Int32.reduceToInt]; omega)) only [Int32.reduceToInt, ta_add, ta_sub, ta_mul, ta_neg, ta_div]; omega))) only [Int32.reduceMul, up_1, cp_1, rng_1, fn_1, dj_1, Nat.reduceEqDiff, false_and, and_false, true_and, and_true, or_true, true_or, or_false, false_or, not_true_eq_false, not_false_eq_true, ↓reduceIte, eq_self, ne_eq, ti_eq, ti_le, ti_lt, ti_ite, Int32.reduceToInt, ta_add, ta_sub, ta_mul, ta_neg, ta_div]; omega)))) | (with_reducible refine wi_ifn ?_ ?_; (focus (first | omega | (simp only [Int32.reduceToInt]; omega) | (simp (disch := (first | omega | (simp (disch := first | omega | (simp only [Int32.reduceToInt]; omega)) only [Int32.reduceToInt, ta_add, ta_sub, ta_mul, ta_neg, ta_div]; omega))) only [Int32.reduceMul, up_1, cp_1, rng_1, fn_1, dj_1, Nat.reduceEqDiff, false_and, and_false, true_and, and_true, or_true, true_or, or_false, false_or, not_true_eq_false, not_false_eq_true, ↓reduceIte, eq_self, ne_eq, ti_eq, ti_le, ti_lt, ti_ite, Int32.reduceToInt, ta_add, ta_sub, ta_mul, ta_neg, ta_div]; done) | (simp (disch := (first | omega | (simp (disch := first | omega | (simp only [Int32.reduceToInt]; omega)) only [Int32.reduceToInt, ta_add, ta_sub, ta_mul, ta_neg, ta_div]; omega))) only [Int32.reduceMul, up_1, cp_1, rng_1, fn_1, dj_1, Nat.reduceEqDiff, false_and, and_false, true_and, and_true, or_true, true_or, or_false, false_or, not_true_eq_false, not_false_eq_true, ↓reduceIte, eq_self, ne_eq, ti_eq, ti_le, ti_lt, ti_ite, Int32.reduceToInt, ta_add, ta_sub, ta_mul, ta_neg, ta_div]; omega)))) | (with_reducible refine wi_ck ?_ ?_; (focus (first | omega | (simp only [Int32.reduceToInt]; omega) | (simp (disch := (first | omega | (simp (disch := first | omega | (simp only [Int32.reduceToInt]; omega)) only [Int32.reduceToInt, ta_add, ta_sub, ta_mul, ta_neg, ta_div]; omega))) only [Int32.reduceMul, up_1, cp_1, rng_1, fn_1, dj_1, Nat.reduceEqDiff, false_and, and_false, true_and, and_true, or_true, true_or, or_false, false_or, not_true_eq_false, not_false_eq_true, ↓reduceIte, eq_self, ne_eq, ti_eq, ti_le, ti_lt, ti_ite, Int32.reduceToInt, ta_add, ta_sub, ta_mul, ta_neg, ta_div]; done) | (simp (disch := (first | omega | (simp (disch := first | omega | (simp only [Int32.reduceToInt]; omega)) only [Int32.reduceToInt, ta_add, ta_sub, ta_mul, ta_neg, ta_div]; omega))) only [Int32.reduceMul, up_1, cp_1, rng_1, fn_1, dj_1, Nat.reduceEqDiff, false_and, and_false, true_and, and_true, or_true, true_or, or_false, false_or, not_true_eq_false, not_false_eq_true, ↓reduceIte, eq_self, ne_eq, ti_eq, ti_le, ti_lt, ti_ite, Int32.reduceToInt, ta_add, ta_sub, ta_mul, ta_neg, ta_div]; omega)))) | with_reducible refine wi_bd2 ?_ | with_reducible refine wi_bd1 ?_ | with_reducible refine wi_bd3 ?_ | (with_reducible refine wi_some ?_; try dsimp only) | unfold f_X9_learn))
  refine wp_m hwb (fun u h => ?_)
  obtain ⟨last, c1⟩ := u
  obtain ⟨r1, ru, rl, hr1, hr1o, hru, hrl, ks, U, hwk, hU, hmk, j0, j1, j2, j3, j4, j5⟩ := h
  dsimp only at hrl hwk hmk j2 j3 j5 ⊢
  obtain ⟨w1, w2, w3, w4, w5, w6, w7, w8, w9, w10⟩ := hwk
  rw [nF] at w8 w9
  have f1 : c1.1 61 = c0.1 61 := funext fun i => w1 _ _ (by omega) (by omega) (by omega)
  have f2 : c1.1 62 = c0.1 62 := funext fun i => w1 _ _ (by omega) (by omega) (by omega)
  have f3 : c1.1 63 = c0.1 63 := funext fun i => w1 _ _ (by omega) (by omega) (by omega)
  have f4 : c1.1 64 = c0.1 64 := funext fun i => w1 _ _ (by omega) (by omega) (by omega)
  have f11 : c1.1 71 = c0.1 71 := funext fun i => w1 _ _ (by omega) (by omega) (by omega)
  have f13 : c1.1 73 = c0.1 73 := funext fun i => w1 _ _ (by omega) (by omega) (by omega)
  have f15 : c1.1 75 = c0.1 75 := funext fun i => w1 _ _ (by omega) (by omega) (by omega)
  have htk1 : tk_60 c1 := by unfold tk_60 vl_; rw [f1, f11, f15]; exact htk
  have hmf := e_mf60 (n := n) (c := c1) (v := last) hz hn htk1 (t := t) (by rw [f1]; exact et)
  refine wi_bd1 ?_
  refine wp_m hmf (fun c2 h => ?_)
  obtain ⟨m1, m2, m3, m4⟩ := h
  rw [f15] at m3 m4
  obtain ⟨Y, hY⟩ : ∃ Y, Y = (fw_ (c0.1 75) (c1.1 87) last t t).2 := ⟨_, rfl⟩
  obtain ⟨fr, hfr⟩ : ∃ fr, fr = (fw_ (c0.1 75) (c1.1 87) last t t).1 := ⟨_, rfl⟩
  have hYb := fw_b (tr := c0.1 75) (mk := c1.1 87) (last := last) (t := t) t
  have hY0 := fw_0 (tr := c0.1 75) (mk := c1.1 87) (last := last) (t := t) t
  have hYm := fw_m (tr := c0.1 75) (mk := c1.1 87) (last := last) (t := t) t
  rw [← hY] at m3 m4 hYb hYm
  rw [← hfr] at m4 hY0 hYm
  have htr3 : ∀ j, j < t → -300 ≤ (c0.1 75 j).toInt ∧ (c0.1 75 j).toInt ≤ 300 := fun j hj => by have := htk.2.2.1 j (by omega); exact ⟨this.2.1, this.2.2.1⟩
  obtain ⟨to, hto⟩ : ∃ to, to = fx_ (c0.1 75) (c1.1 87) (c0.1 73) last t t := ⟨_, rfl⟩
  have hfx := fx_b (tr := c0.1 75) (mk := c1.1 87) (lv := c0.1 73) (last := last) (t := t) t (Nat.le_refl t)
  have hfy := fx_y (tr := c0.1 75) (mk := c1.1 87) (lv := c0.1 73) (last := last) (t := t) htr3 t (Nat.le_refl t)
  rw [← hto, ← hY, ← hfr] at hfy
  rw [← hto] at hfx
  /- the level to go back to is below -/
  have hlt : ∀ j, j < t → c0.1 75 j ≠ last → (c1.1 87 (ix_n (ix_abs (c0.1 75 j)))).toInt = 1 → le_60 c0 j < (c0.1 61 13).toInt := fun j q1 q2 q3 => by
    have a := (hla.2.1 j (by omega)).2.1
    have b := j5 j q1 (fun e => q2 (by rw [e]; exact j2.symm)) q3
    omega
  have htoL : to.toInt < (c0.1 61 13).toInt := by
    rcases hfx.1 with e | ⟨j, q1, q2, q3, q4⟩
    · rw [e]; exact hL
    · have := hlt j q1 q2 q3
      rw [q4]; exact this
  have o2 : ∀ a i, a ≠ 87 → a ≠ 88 → a ≠ 89 → (a ≠ 60 ∨ (i ≠ 14 ∧ i ≠ 16)) → c2.1 a i = c0.1 a i := fun a i p1 p2 p3 p4 => (m1 a i p2 (by omega)).trans (w1 a i p1 p3 (by omega))
  have g1 : c2.1 61 = c0.1 61 := funext fun i => o2 _ _ (by omega) (by omega) (by omega) (by omega)
  have g2 : c2.1 62 = c0.1 62 := funext fun i => o2 _ _ (by omega) (by omega) (by omega) (by omega)
  have g3 : c2.1 63 = c0.1 63 := funext fun i => o2 _ _ (by omega) (by omega) (by omega) (by omega)
  have g4 : c2.1 64 = c0.1 64 := funext fun i => o2 _ _ (by omega) (by omega) (by omega) (by omega)
  /- the reference up to its fresh items -/
  refine wp_sw ?_
  have nq : ix_n 0 = 0 := rfl
  have n0 : ix_n (0 : Int32) = 0 := rfl
  obtain ⟨rA, hrA⟩ : ∃ rA, rA = ix_di (ix_di r1 125 106 0) 125 104 0 := ⟨_, rfl⟩
  rw [← hrA] at hru
  have qA98 : rA.1 125 98 = nI (rn k) := by rw [hrA]; simp only [up_1, Nat.reduceEqDiff, false_and, and_false, true_and, and_true, or_true, true_or, or_false, false_or, not_true_eq_false, not_false_eq_true, ↓reduceIte, eq_self, ne_eq]; rw [hr1o _ _ (by omega) (by omega)]; exact h98
  have qA75 : rA.1 175 0 = c0.1 61 13 := by rw [hrA]; simp only [up_1, Nat.reduceEqDiff, false_and, and_false, true_and, and_true, or_true, true_or, or_false, false_or, not_true_eq_false, not_false_eq_true, ↓reduceIte, eq_self, ne_eq]; rw [hr1o _ _ (by omega) (by omega)]; exact hrt.2.1
  obtain ⟨rB, hrB⟩ : ∃ rB, rB = ix_di rl 191 0 (-last) := ⟨_, rfl⟩
  have oB : ∀ a i, (a < 191 ∨ 194 < a) → (a ≠ 125 ∨ (i ≠ 104 ∧ i ≠ 106)) → rB.1 a i = r0.1 a i := fun a i p1 p2 => by rw [hrB, up_1, if_neg (by omega)]; exact w3 a i (by omega) (by omega) (by omega) p2
  have qB74 : rB.1 174 0 = c0.1 61 12 := by rw [oB _ _ (by omega) (by omega)]; exact hrt.1
  have ex7 : (c0.1 61 12 - 1).toInt = (t : Int) - 1 := (td_s (by omega)).trans (by omega)
  have h89' : ¬ (r0.1 125 89).toInt = 0 := by omega
  have hmrB : mr_ rB (c1.1 87) := fun m hm => by
    rw [hrB, up_1, if_neg (fun q => absurd q.1 (by decide)), up_1, if_neg (fun q => absurd q.1 (by decide))]
    exact w5 m hm
  (repeat (first | (with_reducible refine wi_e (hr1) ?_; try dsimp only) | rw [← hrA] | rw [qA98] | rw [nq] | rw [qA75] | (with_reducible refine wi_e (hru) ?_; try dsimp only) | (with_reducible refine wi_e (hrl) ?_; try dsimp only) | rw [n0] | rw [← hrB] | rw [qB74] | with_reducible refine wi_t (ly_o125 hz) ?_ | with_reducible refine wi_r (ly_r125_76 hz) ?_ | with_reducible refine wi_t (ly_a174 hz) ?_ | (with_reducible refine wi_x (ly_i174 hz) ?_ ?_ ?_; (focus (first | omega | (simp only [Int32.reduceToInt]; omega) | (simp (disch := (first | omega | (simp (disch := first | omega | (simp only [Int32.reduceToInt]; omega)) only [Int32.reduceToInt, ta_add, ta_sub, ta_mul, ta_neg, ta_div]; omega))) only [ly_n174 hz, ly_n175 hz, ly_n191 hz, Int32.reduceMul, up_1, cp_1, rng_1, fn_1, dj_1, Nat.reduceEqDiff, false_and, and_false, true_and, and_true, or_true, true_or, or_false, false_or, not_true_eq_false, not_false_eq_true, ↓reduceIte, eq_self, ne_eq, ti_eq, ti_le, ti_lt, ti_ite, Int32.reduceToInt, ta_add, ta_sub, ta_mul, ta_neg, ta_div]; done) | (simp (disch := (first | omega | (simp (disch := first | omega | (simp only [Int32.reduceToInt]; omega)) only [Int32.reduceToInt, ta_add, ta_sub, ta_mul, ta_neg, ta_div]; omega))) only [ly_n174 hz, ly_n175 hz, ly_n191 hz, Int32.reduceMul, up_1, cp_1, rng_1, fn_1, dj_1, Nat.reduceEqDiff, false_and, and_false, true_and, and_true, or_true, true_or, or_false, false_or, not_true_eq_false, not_false_eq_true, ↓reduceIte, eq_self, ne_eq, ti_eq, ti_le, ti_lt, ti_ite, Int32.reduceToInt, ta_add, ta_sub, ta_mul, ta_neg, ta_div]; omega))); (focus (first | omega | (simp only [Int32.reduceToInt]; omega) | (simp (disch := (first | omega | (simp (disch := first | omega | (simp only [Int32.reduceToInt]; omega)) only [Int32.reduceToInt, ta_add, ta_sub, ta_mul, ta_neg, ta_div]; omega))) only [ly_n174 hz, ly_n175 hz, ly_n191 hz, Int32.reduceMul, up_1, cp_1, rng_1, fn_1, dj_1, Nat.reduceEqDiff, false_and, and_false, true_and, and_true, or_true, true_or, or_false, false_or, not_true_eq_false, not_false_eq_true, ↓reduceIte, eq_self, ne_eq, ti_eq, ti_le, ti_lt, ti_ite, Int32.reduceToInt, ta_add, ta_sub, ta_mul, ta_neg, ta_div]; done) | (simp (disch := (first | omega | (simp (disch := first | omega | (simp only [Int32.reduceToInt]; omega)) only [Int32.reduceToInt, ta_add, ta_sub, ta_mul, ta_neg, ta_div]; omega))) only [ly_n174 hz, ly_n175 hz, ly_n191 hz, Int32.reduceMul, up_1, cp_1, rng_1, fn_1, dj_1, Nat.reduceEqDiff, false_and, and_false, true_and, and_true, or_true, true_or, or_false, false_or, not_true_eq_false, not_false_eq_true, ↓reduceIte, eq_self, ne_eq, ti_eq, ti_le, ti_lt, ti_ite, Int32.reduceToInt, ta_add, ta_sub, ta_mul, ta_neg, ta_div]; omega)))) | with_reducible refine wi_r (ly_r125_77 hz) ?_ | with_reducible refine wi_t (ly_a175 hz) ?_ | (with_reducible refine wi_x (ly_i175 hz) ?_ ?_ ?_; (focus (first | omega | (simp only [Int32.reduceToInt]; omega) | (simp (disch := (first | omega | (simp (disch := first | omega | (simp only [Int32.reduceToInt]; omega)) only [Int32.reduceToInt, ta_add, ta_sub, ta_mul, ta_neg, ta_div]; omega))) only [ly_n174 hz, ly_n175 hz, ly_n191 hz, Int32.reduceMul, up_1, cp_1, rng_1, fn_1, dj_1, Nat.reduceEqDiff, false_and, and_false, true_and, and_true, or_true, true_or, or_false, false_or, not_true_eq_false, not_false_eq_true, ↓reduceIte, eq_self, ne_eq, ti_eq, ti_le, ti_lt, ti_ite, Int32.reduceToInt, ta_add, ta_sub, ta_mul, ta_neg, ta_div]; done) | (simp (disch := (first | omega | (simp (disch := first | omega | (simp only [Int32.reduceToInt]; omega)) only [Int32.reduceToInt, ta_add, ta_sub, ta_mul, ta_neg, ta_div]; omega))) only [ly_n174 hz, ly_n175 hz, ly_n191 hz, Int32.reduceMul, up_1, cp_1, rng_1, fn_1, dj_1, Nat.reduceEqDiff, false_and, and_false, true_and, and_true, or_true, true_or, or_false, false_or, not_true_eq_false, not_false_eq_true, ↓reduceIte, eq_self, ne_eq, ti_eq, ti_le, ti_lt, ti_ite, Int32.reduceToInt, ta_add, ta_sub, ta_mul, ta_neg, ta_div]; omega))); (focus (first | omega | (simp only [Int32.reduceToInt]; omega) | (simp (disch := (first | omega | (simp (disch := first | omega | (simp only [Int32.reduceToInt]; omega)) only [Int32.reduceToInt, ta_add, ta_sub, ta_mul, ta_neg, ta_div]; omega))) only [ly_n174 hz, ly_n175 hz, ly_n191 hz, Int32.reduceMul, up_1, cp_1, rng_1, fn_1, dj_1, Nat.reduceEqDiff, false_and, and_false, true_and, and_true, or_true, true_or, or_false, false_or, not_true_eq_false, not_false_eq_true, ↓reduceIte, eq_self, ne_eq, ti_eq, ti_le, ti_lt, ti_ite, Int32.reduceToInt, ta_add, ta_sub, ta_mul, ta_neg, ta_div]; done) | (simp (disch := (first | omega | (simp (disch := first | omega | (simp only [Int32.reduceToInt]; omega)) only [Int32.reduceToInt, ta_add, ta_sub, ta_mul, ta_neg, ta_div]; omega))) only [ly_n174 hz, ly_n175 hz, ly_n191 hz, Int32.reduceMul, up_1, cp_1, rng_1, fn_1, dj_1, Nat.reduceEqDiff, false_and, and_false, true_and, and_true, or_true, true_or, or_false, false_or, not_true_eq_false, not_false_eq_true, ↓reduceIte, eq_self, ne_eq, ti_eq, ti_le, ti_lt, ti_ite, Int32.reduceToInt, ta_add, ta_sub, ta_mul, ta_neg, ta_div]; omega)))) | with_reducible refine wi_r (ly_r125_101 hz) ?_ | with_reducible refine wi_t (ly_a191 hz) ?_ | (with_reducible refine wi_x (ly_i191 hz) ?_ ?_ ?_; (focus (first | omega | (simp only [Int32.reduceToInt]; omega) | (simp (disch := (first | omega | (simp (disch := first | omega | (simp only [Int32.reduceToInt]; omega)) only [Int32.reduceToInt, ta_add, ta_sub, ta_mul, ta_neg, ta_div]; omega))) only [ly_n174 hz, ly_n175 hz, ly_n191 hz, Int32.reduceMul, up_1, cp_1, rng_1, fn_1, dj_1, Nat.reduceEqDiff, false_and, and_false, true_and, and_true, or_true, true_or, or_false, false_or, not_true_eq_false, not_false_eq_true, ↓reduceIte, eq_self, ne_eq, ti_eq, ti_le, ti_lt, ti_ite, Int32.reduceToInt, ta_add, ta_sub, ta_mul, ta_neg, ta_div]; done) | (simp (disch := (first | omega | (simp (disch := first | omega | (simp only [Int32.reduceToInt]; omega)) only [Int32.reduceToInt, ta_add, ta_sub, ta_mul, ta_neg, ta_div]; omega))) only [ly_n174 hz, ly_n175 hz, ly_n191 hz, Int32.reduceMul, up_1, cp_1, rng_1, fn_1, dj_1, Nat.reduceEqDiff, false_and, and_false, true_and, and_true, or_true, true_or, or_false, false_or, not_true_eq_false, not_false_eq_true, ↓reduceIte, eq_self, ne_eq, ti_eq, ti_le, ti_lt, ti_ite, Int32.reduceToInt, ta_add, ta_sub, ta_mul, ta_neg, ta_div]; omega))); (focus (first | omega | (simp only [Int32.reduceToInt]; omega) | (simp (disch := (first | omega | (simp (disch := first | omega | (simp only [Int32.reduceToInt]; omega)) only [Int32.reduceToInt, ta_add, ta_sub, ta_mul, ta_neg, ta_div]; omega))) only [ly_n174 hz, ly_n175 hz, ly_n191 hz, Int32.reduceMul, up_1, cp_1, rng_1, fn_1, dj_1, Nat.reduceEqDiff, false_and, and_false, true_and, and_true, or_true, true_or, or_false, false_or, not_true_eq_false, not_false_eq_true, ↓reduceIte, eq_self, ne_eq, ti_eq, ti_le, ti_lt, ti_ite, Int32.reduceToInt, ta_add, ta_sub, ta_mul, ta_neg, ta_div]; done) | (simp (disch := (first | omega | (simp (disch := first | omega | (simp only [Int32.reduceToInt]; omega)) only [Int32.reduceToInt, ta_add, ta_sub, ta_mul, ta_neg, ta_div]; omega))) only [ly_n174 hz, ly_n175 hz, ly_n191 hz, Int32.reduceMul, up_1, cp_1, rng_1, fn_1, dj_1, Nat.reduceEqDiff, false_and, and_false, true_and, and_true, or_true, true_or, or_false, false_or, not_true_eq_false, not_false_eq_true, ↓reduceIte, eq_self, ne_eq, ti_eq, ti_le, ti_lt, ti_ite, Int32.reduceToInt, ta_add, ta_sub, ta_mul, ta_neg, ta_div]; omega)))) | with_reducible refine wi_lt ?_ | (with_reducible refine wi_ifp ?_ ?_; (focus (first | omega | (simp only [Int32.reduceToInt]; omega) | (simp (disch := (first | omega | (simp (disch := first | omega | (simp only [Int32.reduceToInt]; omega)) only [Int32.reduceToInt, ta_add, ta_sub, ta_mul, ta_neg, ta_div]; omega))) only [ly_n174 hz, ly_n175 hz, ly_n191 hz, Int32.reduceMul, up_1, cp_1, rng_1, fn_1, dj_1, Nat.reduceEqDiff, false_and, and_false, true_and, and_true, or_true, true_or, or_false, false_or, not_true_eq_false, not_false_eq_true, ↓reduceIte, eq_self, ne_eq, ti_eq, ti_le, ti_lt, ti_ite, Int32.reduceToInt, ta_add, ta_sub, ta_mul, ta_neg, ta_div]; done) | (simp (disch := (first | omega | (simp (disch := first | omega | (simp only [Int32.reduceToInt]; omega)) only [Int32.reduceToInt, ta_add, ta_sub, ta_mul, ta_neg, ta_div]; omega))) only [ly_n174 hz, ly_n175 hz, ly_n191 hz, Int32.reduceMul, up_1, cp_1, rng_1, fn_1, dj_1, Nat.reduceEqDiff, false_and, and_false, true_and, and_true, or_true, true_or, or_false, false_or, not_true_eq_false, not_false_eq_true, ↓reduceIte, eq_self, ne_eq, ti_eq, ti_le, ti_lt, ti_ite, Int32.reduceToInt, ta_add, ta_sub, ta_mul, ta_neg, ta_div]; omega)))) | (with_reducible refine wi_ifn ?_ ?_; (focus (first | omega | (simp only [Int32.reduceToInt]; omega) | (simp (disch := (first | omega | (simp (disch := first | omega | (simp only [Int32.reduceToInt]; omega)) only [Int32.reduceToInt, ta_add, ta_sub, ta_mul, ta_neg, ta_div]; omega))) only [ly_n174 hz, ly_n175 hz, ly_n191 hz, Int32.reduceMul, up_1, cp_1, rng_1, fn_1, dj_1, Nat.reduceEqDiff, false_and, and_false, true_and, and_true, or_true, true_or, or_false, false_or, not_true_eq_false, not_false_eq_true, ↓reduceIte, eq_self, ne_eq, ti_eq, ti_le, ti_lt, ti_ite, Int32.reduceToInt, ta_add, ta_sub, ta_mul, ta_neg, ta_div]; done) | (simp (disch := (first | omega | (simp (disch := first | omega | (simp only [Int32.reduceToInt]; omega)) only [Int32.reduceToInt, ta_add, ta_sub, ta_mul, ta_neg, ta_div]; omega))) only [ly_n174 hz, ly_n175 hz, ly_n191 hz, Int32.reduceMul, up_1, cp_1, rng_1, fn_1, dj_1, Nat.reduceEqDiff, false_and, and_false, true_and, and_true, or_true, true_or, or_false, false_or, not_true_eq_false, not_false_eq_true, ↓reduceIte, eq_self, ne_eq, ti_eq, ti_le, ti_lt, ti_ite, Int32.reduceToInt, ta_add, ta_sub, ta_mul, ta_neg, ta_div]; omega)))) | (with_reducible refine wi_ck ?_ ?_; (focus (first | omega | (simp only [Int32.reduceToInt]; omega) | (simp (disch := (first | omega | (simp (disch := first | omega | (simp only [Int32.reduceToInt]; omega)) only [Int32.reduceToInt, ta_add, ta_sub, ta_mul, ta_neg, ta_div]; omega))) only [ly_n174 hz, ly_n175 hz, ly_n191 hz, Int32.reduceMul, up_1, cp_1, rng_1, fn_1, dj_1, Nat.reduceEqDiff, false_and, and_false, true_and, and_true, or_true, true_or, or_false, false_or, not_true_eq_false, not_false_eq_true, ↓reduceIte, eq_self, ne_eq, ti_eq, ti_le, ti_lt, ti_ite, Int32.reduceToInt, ta_add, ta_sub, ta_mul, ta_neg, ta_div]; done) | (simp (disch := (first | omega | (simp (disch := first | omega | (simp only [Int32.reduceToInt]; omega)) only [Int32.reduceToInt, ta_add, ta_sub, ta_mul, ta_neg, ta_div]; omega))) only [ly_n174 hz, ly_n175 hz, ly_n191 hz, Int32.reduceMul, up_1, cp_1, rng_1, fn_1, dj_1, Nat.reduceEqDiff, false_and, and_false, true_and, and_true, or_true, true_or, or_false, false_or, not_true_eq_false, not_false_eq_true, ↓reduceIte, eq_self, ne_eq, ti_eq, ti_le, ti_lt, ti_ite, Int32.reduceToInt, ta_add, ta_sub, ta_mul, ta_neg, ta_div]; omega)))) | with_reducible refine wi_bd2 ?_ | with_reducible refine wi_bd1 ?_ | with_reducible refine wi_bd3 ?_ | (with_reducible refine wi_some ?_; try dsimp only) | unfold f_X12_learn))
  refine e_l760 (n := n) (r := rB) hz hn (tr := c0.1 75) (mk := c1.1 87) (lv := c0.1 73) (t := t) (by omega) (fun j hj => ?_) (fun j hj => ?_) hmrB (by rw [hrB, up_1, if_pos ⟨rfl, rfl⟩]) ex7 (fun rec7 x7 r2 hx7 p1 p2 p3 => ?_)
  · obtain ⟨b0, b1, b2, _⟩ := htk.2.2.1 j (by omega)
    exact ⟨by rw [oB _ _ (by omega) (by omega)]; exact (hrt.2.2.1 j (by omega)).1, b0, b1, b2⟩
  · rw [oB _ _ (by omega) (by omega)]; exact (hrt.2.2.1 j (by omega)).2.1
  rw [← hY, ← hto]
  rw [← hY, ← hfr] at p3
  have o5 : ∀ a i, (a < 191 ∨ 194 < a) → (a ≠ 125 ∨ (i ≠ 104 ∧ i ≠ 106)) → r2.1 a i = r0.1 a i := fun a i q1 q2 => (p1 a i (by omega)).trans (oB a i q1 q2)
  have eY : (nI Y).toInt = Y := nI_ti (by omega)
  have e14 : c2.1 60 14 = nI Y := Int32.toInt_inj.mp (by rw [eY]; exact m3)
  obtain ⟨b, hb1, hb2, hb3⟩ := e_rm60 (n := n) (c := c2) (r := r2) (x := nI Y) hz (by rw [g2, g3, g4] <;> exact rw_cg hb.1 (by rw [g2]) g4 g3) (F := F) (T := T) (A := A) (Y := Y) (by rw [g1]; exact hF) (by rw [g2]; omega) (by rw [o5 _ _ (by omega) (by omega), ← y3]; exact hT.symm) (by omega) (by rw [o5 _ _ (by omega) (by omega)]; exact hA.symm) (by rw [g4]; exact hA2) (by omega) eY (by omega)
  unfold b_X12_learn_76
  rcases hb3 with ⟨rfl, hb3⟩ | ⟨rfl, hb3, hb4⟩
  · (repeat (first | (with_reducible refine wi_e (hb2) ?_; try dsimp only) | with_reducible refine wi_t (ly_o125 hz) ?_ | with_reducible refine wi_lt ?_ | (with_reducible refine wi_ifp ?_ ?_; (focus (first | omega | (simp only [Int32.reduceToInt]; omega) | (simp (disch := (first | omega | (simp (disch := first | omega | (simp only [Int32.reduceToInt]; omega)) only [Int32.reduceToInt, ta_add, ta_sub, ta_mul, ta_neg, ta_div]; omega))) only [Int32.reduceMul, up_1, cp_1, rng_1, fn_1, dj_1, Nat.reduceEqDiff, false_and, and_false, true_and, and_true, or_true, true_or, or_false, false_or, not_true_eq_false, not_false_eq_true, ↓reduceIte, eq_self, ne_eq, ti_eq, ti_le, ti_lt, ti_ite, Int32.reduceToInt, ta_add, ta_sub, ta_mul, ta_neg, ta_div]; done) | (simp (disch := (first | omega | (simp (disch := first | omega | (simp only [Int32.reduceToInt]; omega)) only [Int32.reduceToInt, ta_add, ta_sub, ta_mul, ta_neg, ta_div]; omega))) only [Int32.reduceMul, up_1, cp_1, rng_1, fn_1, dj_1, Nat.reduceEqDiff, false_and, and_false, true_and, and_true, or_true, true_or, or_false, false_or, not_true_eq_false, not_false_eq_true, ↓reduceIte, eq_self, ne_eq, ti_eq, ti_le, ti_lt, ti_ite, Int32.reduceToInt, ta_add, ta_sub, ta_mul, ta_neg, ta_div]; omega)))) | (with_reducible refine wi_ifn ?_ ?_; (focus (first | omega | (simp only [Int32.reduceToInt]; omega) | (simp (disch := (first | omega | (simp (disch := first | omega | (simp only [Int32.reduceToInt]; omega)) only [Int32.reduceToInt, ta_add, ta_sub, ta_mul, ta_neg, ta_div]; omega))) only [Int32.reduceMul, up_1, cp_1, rng_1, fn_1, dj_1, Nat.reduceEqDiff, false_and, and_false, true_and, and_true, or_true, true_or, or_false, false_or, not_true_eq_false, not_false_eq_true, ↓reduceIte, eq_self, ne_eq, ti_eq, ti_le, ti_lt, ti_ite, Int32.reduceToInt, ta_add, ta_sub, ta_mul, ta_neg, ta_div]; done) | (simp (disch := (first | omega | (simp (disch := first | omega | (simp only [Int32.reduceToInt]; omega)) only [Int32.reduceToInt, ta_add, ta_sub, ta_mul, ta_neg, ta_div]; omega))) only [Int32.reduceMul, up_1, cp_1, rng_1, fn_1, dj_1, Nat.reduceEqDiff, false_and, and_false, true_and, and_true, or_true, true_or, or_false, false_or, not_true_eq_false, not_false_eq_true, ↓reduceIte, eq_self, ne_eq, ti_eq, ti_le, ti_lt, ti_ite, Int32.reduceToInt, ta_add, ta_sub, ta_mul, ta_neg, ta_div]; omega)))) | (with_reducible refine wi_ck ?_ ?_; (focus (first | omega | (simp only [Int32.reduceToInt]; omega) | (simp (disch := (first | omega | (simp (disch := first | omega | (simp only [Int32.reduceToInt]; omega)) only [Int32.reduceToInt, ta_add, ta_sub, ta_mul, ta_neg, ta_div]; omega))) only [Int32.reduceMul, up_1, cp_1, rng_1, fn_1, dj_1, Nat.reduceEqDiff, false_and, and_false, true_and, and_true, or_true, true_or, or_false, false_or, not_true_eq_false, not_false_eq_true, ↓reduceIte, eq_self, ne_eq, ti_eq, ti_le, ti_lt, ti_ite, Int32.reduceToInt, ta_add, ta_sub, ta_mul, ta_neg, ta_div]; done) | (simp (disch := (first | omega | (simp (disch := first | omega | (simp only [Int32.reduceToInt]; omega)) only [Int32.reduceToInt, ta_add, ta_sub, ta_mul, ta_neg, ta_div]; omega))) only [Int32.reduceMul, up_1, cp_1, rng_1, fn_1, dj_1, Nat.reduceEqDiff, false_and, and_false, true_and, and_true, or_true, true_or, or_false, false_or, not_true_eq_false, not_false_eq_true, ↓reduceIte, eq_self, ne_eq, ti_eq, ti_le, ti_lt, ti_ite, Int32.reduceToInt, ta_add, ta_sub, ta_mul, ta_neg, ta_div]; omega)))) | with_reducible refine wi_bd2 ?_ | with_reducible refine wi_bd1 ?_ | with_reducible refine wi_bd3 ?_ | (with_reducible refine wi_some ?_; try dsimp only)))
    refine wp_sw ?_
    sorry
  · sorry
end LRA

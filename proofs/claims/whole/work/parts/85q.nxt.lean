/-! next -/
section LTN
variable {n : Nat} {z : ix_Z} {c c' r r' r5 D : ix_D2} {u w : Int32 × ix_D2}
theorem cb_sn {g : Nat → Int32} : ∀ n, (∀ i, i < n → (g i).toInt = 0 ∨ (g i).toInt = 1) → ((cb_ (bp_ g) n : Nat) : Int) ≤ sm_ (fun i => (g i).toInt) 0 n
  | 0, _ => by rw [sm_e (by omega)]; exact Int.le_refl _
  | n + 1, h => by
    have ih := cb_sn n (fun i hi => h i (by omega))
    rw [sm_s (by omega), cb_s]
    have := h n (by omega)
    by_cases p : bp_ g n = true
    · rw [if_pos p]
      have q := (of_decide_eq_true p).2
      omega
    · rw [if_neg p]
      omega
theorem lq_h (h : lq_ c r) (e1 : ∀ a k, (a = 61 ∨ a = 62 ∨ a = 64 ∨ a = 86 ∨ (a = 85 ∧ k ≠ 0)) → c'.1 a k = c.1 a k) (e2 : ∀ k, c'.2 79 k = c.2 79 k) (e3 : ∀ a k, (a = 187 ∨ a = 178 ∨ a = 179 ∨ a = 180 ∨ a = 161 ∨ a = 188 ∨ (a = 125 ∧ k = 91)) → r'.1 a k = r.1 a k) (e4 : ∀ k, r'.2 171 k = r.2 171 k) : lq_ c' r' := by
  obtain ⟨⟨a1, a2⟩, ⟨b1, b2, b3, b4, b5⟩, hcq, d1, d2, d3, d4⟩ := h
  have f187 : r'.1 187 = r.1 187 := funext fun k => e3 _ _ (by omega)
  have f178 : r'.1 178 = r.1 178 := funext fun k => e3 _ _ (by omega)
  have f179 : r'.1 179 = r.1 179 := funext fun k => e3 _ _ (by omega)
  have f180 : r'.1 180 = r.1 180 := funext fun k => e3 _ _ (by omega)
  have f161 : r'.1 161 = r.1 161 := funext fun k => e3 _ _ (by omega)
  have f188 : r'.1 188 = r.1 188 := funext fun k => e3 _ _ (by omega)
  have f91 : r'.1 125 91 = r.1 125 91 := e3 _ _ (by omega)
  have m171 : r'.2 171 = r.2 171 := funext fun k => e4 k
  have f62 : c'.1 62 = c.1 62 := funext fun k => e1 _ _ (by omega)
  have f64 : c'.1 64 = c.1 64 := funext fun k => e1 _ _ (by omega)
  have f61 : c'.1 61 = c.1 61 := funext fun k => e1 _ _ (by omega)
  have f86 : c'.1 86 = c.1 86 := funext fun k => e1 _ _ (by omega)
  have m79 : c'.2 79 = c.2 79 := funext fun k => e2 k
  have t85 : ∀ k, k ≠ 0 → c'.1 85 k = c.1 85 k := fun k hk => e1 _ _ (by omega)
  refine ⟨by rw [f62, f64]; exact ⟨a1, a2⟩, ⟨fun k hk => by rw [t85 k (by unfold tt_ at hk; omega), f187]; exact b1 k hk, by rw [t85 8 (by decide), f178]; exact b2, by rw [f179]; exact b3, by rw [f179]; exact b4, by rw [t85 7 (by decide), f179, f180]; exact b5⟩, ?_, by rw [f61, f161]; exact d1, by rw [f161]; exact d2, by rw [f161]; exact d3, by rw [f161, m79, m171]; exact d4⟩
  unfold cq_60
  rw [f91, f86, f188]
  exact hcq
/-- at rest behind next -/
theorem lt_nx (hge : ge_60 c r5 u w)
    (dc : ∀ a k, ((61 ≤ a ∧ a ≤ 64) ∨ a = 71 ∨ a = 79 ∨ a = 85 ∨ a = 86) → D.1 a k = u.2.1 a k ∧ D.2 a k = u.2.2 a k)
    (dr : ∀ a k, (a = 161 ∨ (176 ≤ a ∧ a ≤ 180) ∨ a = 187 ∨ a = 188 ∨ (a = 125 ∧ k = 91)) → D.1 a k = w.2.1 a k) (dl : ∀ k, D.2 171 k = w.2.2 171 k)
    (d166 : D.1 166 0 = w.1) (d14 : (D.1 0 14).toInt ≠ 1) (d13 : D.1 0 13 ≠ 0) (d160 : w.1 = 1 → ∀ m : Nat, 1 ≤ m → (m : Int) ≤ (w.2.1 161 0).toInt → D.1 160 m = w.2.1 167 m) : lt_ D := by
  obtain ⟨g1, g2, g3, g4, g5, g6, g7, g8, g9, rn, hor⟩ := hge
  have e850 : D.1 85 0 = u.1 := by rw [(dc _ _ (by omega)).1]; exact g4
  have hlq : ∀ c2, lq_ c2 w.2 → (∀ a k, (a ≠ 85 ∨ k ≠ 0) → u.2.1 a k = c2.1 a k) → u.2.2 = c2.2 → lq_ D D := fun c2 q1 q2 q3 => lq_h q1 (fun a k a1 => by rw [(dc a k (by omega)).1]; exact q2 a k (by omega)) (fun k => by rw [(dc 79 k (by omega)).2, q3]) (fun a k a1 => dr a k (by omega)) dl
  rcases hor with ⟨hx, hR⟩ | ⟨hx, c1, r1, c2, hR, hh, hnz, hu⟩
  · refine ⟨hlq u.2 (lq_R hR) (fun _ _ _ => rfl) rfl, by rw [e850, d166]; exact g1, fun hs m m1 m2 => ?_, fun hg => absurd hg d14, fun _ hb => absurd hb d13, ?_⟩
    · rw [e850] at hs
      have u1 : u.1 = 1 := Int32.toInt_inj.mp (by rw [hs]; rfl)
      have e161 : D.1 161 0 = w.2.1 161 0 := dr _ _ (by omega)
      rw [e161] at m2
      have q1 := d160 (g1.symm.trans u1) m m1 m2
      have hwg := hR.2.2.2.2.2.2.1
      have q2 := g8 u1 m m1 (by rw [hwg.1]; exact m2)
      have m3 : m ≤ 300 := by have := hwg.2.2.1; omega
      have q3 := hR.2.1.2.2 m m3
      rw [show 301 * 0 + m = m by omega] at q3
      have q4 := hR.1.2.2.2.2 m m3
      rw [(dc 71 m (by omega)).1, q1, q3]
      rcases q4 with q | q | q
      · exact absurd q q2
      · left; exact ⟨q, by rw [q]; rfl⟩
      · right; exact ⟨q, by rw [q]; rfl⟩
    · exact rl_g (rl_R hR) (fun a k a1 a2 => (dc a k (by omega)).1) (dc _ _ (by omega)).1 (fun a k a1 a2 => dr a k (by omega))
  · have hcu : ∀ a k, (a ≠ 85 ∨ k ≠ 0) → u.2.1 a k = c2.1 a k := fun a k ha => by rw [hu, up_1, if_neg (by omega)]
    have hlu : u.2.2 = c2.2 := by rw [hu]; rfl
    refine ⟨hlq c2 (lq_N hR hh hnz) hcu hlu, by rw [e850, d166]; exact g1, fun hs => ?_, fun hg => absurd hg d14, fun _ hb => absurd hb d13, ?_⟩
    · rw [e850, hx] at hs; exact absurd hs (by decide)
    · exact rl_g (rl_N hR hnz) (fun a k a1 a2 => by rw [(dc a k (by omega)).1]; exact hcu a k (by omega)) (by rw [(dc _ _ (by omega)).1]; exact hcu _ _ (by omega)) (fun a k a1 a2 => dr a k (by omega))
end LTN
/-- the barred rows of the latest solver on both sides -/
def iv_br (f : Nat → Nat → Int32) : Prop := bw_60 f ∧ f 76 2 = f 125 32 ∧ br_60 f f (ix_n (f 76 2)) ∧ f 125 66 = 0 ∧ ∀ p : Nat, (p : Int) < (f 78 (ix_n (f 76 2))).toInt → (ix_n (ix_abs (f 77 p)) : Int) ≤ (f 125 1).toInt
/-- the ends of next -/
noncomputable def nx_c (n : Nat) (z : ix_Z) (t : Int32 × ix_D2) : Option (Int32 × ix_D2) := ix_if (t.1 = 1) (ix_bd1 (f_X9_barTruth n z 60 51 t.2) (fun d_27 => some (t.1, d_27))) (some (t.1, t.2))
noncomputable def nx_r (n : Nat) (z : ix_Z) (t : Int32 × ix_D2) : Option (Int32 × ix_D2) := ix_bd2 (f_X12_ended n z 125 t.1 t.2) (fun r_26 d_24 => ix_lt (ix_di d_24 125 57 0) (fun d_27 => ix_if (r_26 = 1) (ix_bd1 (f_X12_bar n z 125 0 (d_27.1 125 32) d_27) (fun d_30 => ix_lt (ix_di d_30 125 32 ((d_30.1 125 32) + 1)) (fun d_32 => some (r_26, d_32)))) (some (r_26, d_27))))
section NXO
variable {n : Nat} {z : ix_Z} {d c r : ix_D2} {x : Int32} {N T B : Nat}
theorem e_nxa (hz : ly_z z) (hn : 20000 ≤ n) (x1 : 1 ≤ x.toInt) (x2 : x.toInt ≤ 5000) (h0 : 0 ≤ (d.1 62 2).toInt) (h4 : (d.1 64 0).toInt = 0) (hN : (d.1 51 5).toInt = N) (hN2 : N ≤ 300) (hcw : cw_ d.1) (hT : (T : Int) = (d.1 52 2).toInt) (hbw : bw_60 d.1) (hB : (B : Int) = (d.1 76 2).toInt) (hB6 : B < 64) : ∃ d1 c : ix_D2, d1 = ix_di (ix_di (ix_di d 0 15 (d.1 0 5)) 0 13 1) 0 14 0 ∧ on_60 d1 c N T B ∧ ∀ Q : Int32 × ix_D2 → Prop, wp_t (f_X9_go n z 60 x c) (fun t => wp_t (nx_c n z t) Q) → wp_t (f_X11_next n z 0 x d) Q := by
  obtain ⟨d1, hd1⟩ : ∃ d1, d1 = ix_di (ix_di (ix_di d 0 15 (d.1 0 5)) 0 13 1) 0 14 0 := ⟨_, rfl⟩
  have o : ∀ a k, a ≠ 0 → d1.1 a k = d.1 a k := fun a k h => by rw [hd1, up_1, if_neg (fun q => h q.1), up_1, if_neg (fun q => h q.1), up_1, if_neg (fun q => h q.1)]
  have f52 : d1.1 52 = d.1 52 := funext fun k => o _ _ (by omega)
  have f53 : d1.1 53 = d.1 53 := funext fun k => o _ _ (by omega)
  have f54 : d1.1 54 = d.1 54 := funext fun k => o _ _ (by omega)
  have f76 : d1.1 76 = d.1 76 := funext fun k => o _ _ (by omega)
  have f77 : d1.1 77 = d.1 77 := funext fun k => o _ _ (by omega)
  have f78 : d1.1 78 = d.1 78 := funext fun k => o _ _ (by omega)
  obtain ⟨c, hc, hon⟩ := e_on60 (n := n) (d := d1) hz hn (by rw [o _ _ (by omega)]; exact h0) (by rw [o _ _ (by omega)]; exact h4) (N := N) (T := T) (B := B) (by rw [o _ _ (by omega)]; exact hN) hN2 (by unfold cw_ rw_ok; rw [f52, f53, f54]; exact hcw) (by rw [f52]; exact hT) (by unfold bw_60 rw_ok; rw [f76, f77, f78]; exact hbw) (by rw [f76]; exact hB)
  refine ⟨d1, c, hd1, hon, fun Q hq => ?_⟩
  have hB' : (d.1 76 2).toInt = (B : Int) := hB.symm
  (repeat (first | rw [← hd1] | (with_reducible refine wi_e (hc) ?_; try dsimp only) | with_reducible refine wi_t (ly_o0 hz) ?_ | with_reducible refine wi_t (ly_o51 hz) ?_ | with_reducible refine wi_r (ly_r0_3 hz) ?_ | with_reducible refine wi_t (ly_o60 hz) ?_ | with_reducible refine wi_r (ly_r0_6 hz) ?_ | with_reducible refine wi_t (ly_o76 hz) ?_ | with_reducible refine wi_r (ly_r60_1 hz) ?_ | with_reducible refine wi_lt ?_ | (with_reducible refine wi_ifp ?_ ?_; (focus (first | omega | (simp (disch := (first | omega | (simp (disch := first | omega | (simp only [Int32.reduceToInt]; omega)) only [Int32.reduceToInt, ta_add, ta_sub, ta_mul, ta_neg, ta_div]; omega))) only [hB', up_1, cp_1, rng_1, fn_1, dj_1, Nat.reduceEqDiff, false_and, and_false, true_and, and_true, or_true, true_or, or_false, false_or, not_true_eq_false, not_false_eq_true, ↓reduceIte, eq_self, ne_eq, ti_eq, ti_le, ti_lt, ti_ite, Int32.reduceToInt, ta_add, ta_sub, ta_mul, ta_neg, ta_div]; done) | (simp (disch := (first | omega | (simp (disch := first | omega | (simp only [Int32.reduceToInt]; omega)) only [Int32.reduceToInt, ta_add, ta_sub, ta_mul, ta_neg, ta_div]; omega))) only [hB', up_1, cp_1, rng_1, fn_1, dj_1, Nat.reduceEqDiff, false_and, and_false, true_and, and_true, or_true, true_or, or_false, false_or, not_true_eq_false, not_false_eq_true, ↓reduceIte, eq_self, ne_eq, ti_eq, ti_le, ti_lt, ti_ite, Int32.reduceToInt, ta_add, ta_sub, ta_mul, ta_neg, ta_div]; omega)))) | (with_reducible refine wi_ifn ?_ ?_; (focus (first | omega | (simp (disch := (first | omega | (simp (disch := first | omega | (simp only [Int32.reduceToInt]; omega)) only [Int32.reduceToInt, ta_add, ta_sub, ta_mul, ta_neg, ta_div]; omega))) only [hB', up_1, cp_1, rng_1, fn_1, dj_1, Nat.reduceEqDiff, false_and, and_false, true_and, and_true, or_true, true_or, or_false, false_or, not_true_eq_false, not_false_eq_true, ↓reduceIte, eq_self, ne_eq, ti_eq, ti_le, ti_lt, ti_ite, Int32.reduceToInt, ta_add, ta_sub, ta_mul, ta_neg, ta_div]; done) | (simp (disch := (first | omega | (simp (disch := first | omega | (simp only [Int32.reduceToInt]; omega)) only [Int32.reduceToInt, ta_add, ta_sub, ta_mul, ta_neg, ta_div]; omega))) only [hB', up_1, cp_1, rng_1, fn_1, dj_1, Nat.reduceEqDiff, false_and, and_false, true_and, and_true, or_true, true_or, or_false, false_or, not_true_eq_false, not_false_eq_true, ↓reduceIte, eq_self, ne_eq, ti_eq, ti_le, ti_lt, ti_ite, Int32.reduceToInt, ta_add, ta_sub, ta_mul, ta_neg, ta_div]; omega)))) | (with_reducible refine wi_ck ?_ ?_; (focus (first | omega | (simp (disch := (first | omega | (simp (disch := first | omega | (simp only [Int32.reduceToInt]; omega)) only [Int32.reduceToInt, ta_add, ta_sub, ta_mul, ta_neg, ta_div]; omega))) only [hB', up_1, cp_1, rng_1, fn_1, dj_1, Nat.reduceEqDiff, false_and, and_false, true_and, and_true, or_true, true_or, or_false, false_or, not_true_eq_false, not_false_eq_true, ↓reduceIte, eq_self, ne_eq, ti_eq, ti_le, ti_lt, ti_ite, Int32.reduceToInt, ta_add, ta_sub, ta_mul, ta_neg, ta_div]; done) | (simp (disch := (first | omega | (simp (disch := first | omega | (simp only [Int32.reduceToInt]; omega)) only [Int32.reduceToInt, ta_add, ta_sub, ta_mul, ta_neg, ta_div]; omega))) only [hB', up_1, cp_1, rng_1, fn_1, dj_1, Nat.reduceEqDiff, false_and, and_false, true_and, and_true, or_true, true_or, or_false, false_or, not_true_eq_false, not_false_eq_true, ↓reduceIte, eq_self, ne_eq, ti_eq, ti_le, ti_lt, ti_ite, Int32.reduceToInt, ta_add, ta_sub, ta_mul, ta_neg, ta_div]; omega)))) | with_reducible refine wi_bd2 ?_ | with_reducible refine wi_bd1 ?_ | with_reducible refine wi_bd3 ?_ | (with_reducible refine wi_some ?_; try dsimp only) | unfold f_X11_next | unfold f_X11_areSteps))
  exact hq
theorem e_nxb (hz : ly_z z) (hn : 20000 ≤ n) (x1 : 1 ≤ x.toInt) (x2 : x.toInt ≤ 5000) (h32 : (r.1 125 32).toInt ≠ 64) : ∃ r1 r5 : ix_D2, pr_0 r r1 ∧ (∀ a k, (a ≠ 125 ∨ (k ≠ 58 ∧ k ≠ 59 ∧ k ≠ 66 ∧ k ≠ 67 ∧ k ≠ 89 ∧ k ≠ 91)) → r5.1 a k = r1.1 a k) ∧ r5.2 = r1.2 ∧ r5.1 125 58 = 1 ∧ r5.1 125 59 = r.1 125 11 ∧ r5.1 125 66 = 0 ∧ r5.1 125 67 = r.1 125 32 ∧ r5.1 125 89 = x ∧ r5.1 125 91 = 0 ∧ ∀ Q : Int32 × ix_D2 → Prop, wp_t (f_X12_solving n z 125 0 r5) (fun t => wp_t (nx_r n z t) Q) → wp_t (f_X12_next n z 125 x r) Q := by
  have eas : f_X12_areSteps n z x r = some (1, r) := by
    rw [← wp_eq]
    (repeat (first | with_reducible refine wi_t (ly_o125 hz) ?_ | with_reducible refine wi_lt ?_ | (with_reducible refine wi_ifp ?_ ?_; (focus (first | omega | (simp (disch := (first | omega | (simp (disch := first | omega | (simp only [Int32.reduceToInt]; omega)) only [Int32.reduceToInt, ta_add, ta_sub, ta_mul, ta_neg, ta_div]; omega))) only [up_1, cp_1, rng_1, fn_1, dj_1, Nat.reduceEqDiff, false_and, and_false, true_and, and_true, or_true, true_or, or_false, false_or, not_true_eq_false, not_false_eq_true, ↓reduceIte, eq_self, ne_eq, ti_eq, ti_le, ti_lt, ti_ite, Int32.reduceToInt, ta_add, ta_sub, ta_mul, ta_neg, ta_div]; done) | (simp (disch := (first | omega | (simp (disch := first | omega | (simp only [Int32.reduceToInt]; omega)) only [Int32.reduceToInt, ta_add, ta_sub, ta_mul, ta_neg, ta_div]; omega))) only [up_1, cp_1, rng_1, fn_1, dj_1, Nat.reduceEqDiff, false_and, and_false, true_and, and_true, or_true, true_or, or_false, false_or, not_true_eq_false, not_false_eq_true, ↓reduceIte, eq_self, ne_eq, ti_eq, ti_le, ti_lt, ti_ite, Int32.reduceToInt, ta_add, ta_sub, ta_mul, ta_neg, ta_div]; omega)))) | (with_reducible refine wi_ifn ?_ ?_; (focus (first | omega | (simp (disch := (first | omega | (simp (disch := first | omega | (simp only [Int32.reduceToInt]; omega)) only [Int32.reduceToInt, ta_add, ta_sub, ta_mul, ta_neg, ta_div]; omega))) only [up_1, cp_1, rng_1, fn_1, dj_1, Nat.reduceEqDiff, false_and, and_false, true_and, and_true, or_true, true_or, or_false, false_or, not_true_eq_false, not_false_eq_true, ↓reduceIte, eq_self, ne_eq, ti_eq, ti_le, ti_lt, ti_ite, Int32.reduceToInt, ta_add, ta_sub, ta_mul, ta_neg, ta_div]; done) | (simp (disch := (first | omega | (simp (disch := first | omega | (simp only [Int32.reduceToInt]; omega)) only [Int32.reduceToInt, ta_add, ta_sub, ta_mul, ta_neg, ta_div]; omega))) only [up_1, cp_1, rng_1, fn_1, dj_1, Nat.reduceEqDiff, false_and, and_false, true_and, and_true, or_true, true_or, or_false, false_or, not_true_eq_false, not_false_eq_true, ↓reduceIte, eq_self, ne_eq, ti_eq, ti_le, ti_lt, ti_ite, Int32.reduceToInt, ta_add, ta_sub, ta_mul, ta_neg, ta_div]; omega)))) | (with_reducible refine wi_ck ?_ ?_; (focus (first | omega | (simp (disch := (first | omega | (simp (disch := first | omega | (simp only [Int32.reduceToInt]; omega)) only [Int32.reduceToInt, ta_add, ta_sub, ta_mul, ta_neg, ta_div]; omega))) only [up_1, cp_1, rng_1, fn_1, dj_1, Nat.reduceEqDiff, false_and, and_false, true_and, and_true, or_true, true_or, or_false, false_or, not_true_eq_false, not_false_eq_true, ↓reduceIte, eq_self, ne_eq, ti_eq, ti_le, ti_lt, ti_ite, Int32.reduceToInt, ta_add, ta_sub, ta_mul, ta_neg, ta_div]; done) | (simp (disch := (first | omega | (simp (disch := first | omega | (simp only [Int32.reduceToInt]; omega)) only [Int32.reduceToInt, ta_add, ta_sub, ta_mul, ta_neg, ta_div]; omega))) only [up_1, cp_1, rng_1, fn_1, dj_1, Nat.reduceEqDiff, false_and, and_false, true_and, and_true, or_true, true_or, or_false, false_or, not_true_eq_false, not_false_eq_true, ↓reduceIte, eq_self, ne_eq, ti_eq, ti_le, ti_lt, ti_ite, Int32.reduceToInt, ta_add, ta_sub, ta_mul, ta_neg, ta_div]; omega)))) | with_reducible refine wi_bd2 ?_ | with_reducible refine wi_bd1 ?_ | with_reducible refine wi_bd3 ?_ | (with_reducible refine wi_some ?_; try dsimp only) | unfold f_X12_areSteps | unfold f_X12_in))
    all_goals rfl
  obtain ⟨r1, e1, hp⟩ := e_pr0 (n := n) (r := r) hz hn
  have p16 := hp.2.2.2.2.2.2.2.2.2.2.2.2.2.2.2
  have q32 : r1.1 125 32 = r.1 125 32 := (p16 _ _ (by unfold pq_0 sq_0; omega)).1
  have q11 : r1.1 125 11 = r.1 125 11 := (p16 _ _ (by unfold pq_0 sq_0; omega)).1
  have hne : ¬ ((1 : Int32) = 0) := by decide
  obtain ⟨E, hE⟩ : ∃ E, E = ix_di (ix_di (ix_di (ix_di (ix_di (ix_di r1 125 66 0) 125 67 (r.1 125 32)) 125 59 (r.1 125 11)) 125 91 0) 125 58 1) 125 89 x := ⟨_, rfl⟩
  have t32 : (ix_di r1 125 66 0).1 125 32 = r.1 125 32 := by rw [up_1, if_neg (fun q => absurd q.2 (by decide))]; exact q32
  have t11 : (ix_di (ix_di r1 125 66 0) 125 67 (r.1 125 32)).1 125 11 = r.1 125 11 := by rw [up_1, if_neg (fun q => absurd q.2 (by decide)), up_1, if_neg (fun q => absurd q.2 (by decide))]; exact q11
  refine ⟨r1, E, hp, fun a k h => ?_, by rw [hE]; rfl, ?_, ?_, ?_, ?_, ?_, ?_, fun Q hq => ?_⟩
  · rw [hE, up_1, if_neg (by omega), up_1, if_neg (by omega), up_1, if_neg (by omega), up_1, if_neg (by omega), up_1, if_neg (by omega), up_1, if_neg (by omega)]
  · rw [hE]; simp only [up_1, Nat.reduceEqDiff, false_and, and_false, true_and, and_true, or_true, true_or, or_false, false_or, not_true_eq_false, not_false_eq_true, ↓reduceIte, eq_self, ne_eq]
  · rw [hE]; simp only [up_1, Nat.reduceEqDiff, false_and, and_false, true_and, and_true, or_true, true_or, or_false, false_or, not_true_eq_false, not_false_eq_true, ↓reduceIte, eq_self, ne_eq]
  · rw [hE]; simp only [up_1, Nat.reduceEqDiff, false_and, and_false, true_and, and_true, or_true, true_or, or_false, false_or, not_true_eq_false, not_false_eq_true, ↓reduceIte, eq_self, ne_eq]
  · rw [hE]; simp only [up_1, Nat.reduceEqDiff, false_and, and_false, true_and, and_true, or_true, true_or, or_false, false_or, not_true_eq_false, not_false_eq_true, ↓reduceIte, eq_self, ne_eq]
  · rw [hE]; simp only [up_1, Nat.reduceEqDiff, false_and, and_false, true_and, and_true, or_true, true_or, or_false, false_or, not_true_eq_false, not_false_eq_true, ↓reduceIte, eq_self, ne_eq]
  · rw [hE]; simp only [up_1, Nat.reduceEqDiff, false_and, and_false, true_and, and_true, or_true, true_or, or_false, false_or, not_true_eq_false, not_false_eq_true, ↓reduceIte, eq_self, ne_eq]
  · (repeat (first | (with_reducible refine wi_e (eas) ?_; try dsimp only) | with_reducible refine wi_ifn hne ?_ | (with_reducible refine wi_e (e1) ?_; try dsimp only) | rw [t32] | rw [t11] | rw [← hE] | with_reducible refine wi_t (ly_o125 hz) ?_ | with_reducible refine wi_lt ?_ | (with_reducible refine wi_ifp ?_ ?_; (focus (first | omega | (simp (disch := (first | omega | (simp (disch := first | omega | (simp only [Int32.reduceToInt]; omega)) only [Int32.reduceToInt, ta_add, ta_sub, ta_mul, ta_neg, ta_div]; omega))) only [h32, up_1, cp_1, rng_1, fn_1, dj_1, Nat.reduceEqDiff, false_and, and_false, true_and, and_true, or_true, true_or, or_false, false_or, not_true_eq_false, not_false_eq_true, ↓reduceIte, eq_self, ne_eq, ti_eq, ti_le, ti_lt, ti_ite, Int32.reduceToInt, ta_add, ta_sub, ta_mul, ta_neg, ta_div]; done) | (simp (disch := (first | omega | (simp (disch := first | omega | (simp only [Int32.reduceToInt]; omega)) only [Int32.reduceToInt, ta_add, ta_sub, ta_mul, ta_neg, ta_div]; omega))) only [h32, up_1, cp_1, rng_1, fn_1, dj_1, Nat.reduceEqDiff, false_and, and_false, true_and, and_true, or_true, true_or, or_false, false_or, not_true_eq_false, not_false_eq_true, ↓reduceIte, eq_self, ne_eq, ti_eq, ti_le, ti_lt, ti_ite, Int32.reduceToInt, ta_add, ta_sub, ta_mul, ta_neg, ta_div]; omega)))) | (with_reducible refine wi_ifn ?_ ?_; (focus (first | omega | (simp (disch := (first | omega | (simp (disch := first | omega | (simp only [Int32.reduceToInt]; omega)) only [Int32.reduceToInt, ta_add, ta_sub, ta_mul, ta_neg, ta_div]; omega))) only [h32, up_1, cp_1, rng_1, fn_1, dj_1, Nat.reduceEqDiff, false_and, and_false, true_and, and_true, or_true, true_or, or_false, false_or, not_true_eq_false, not_false_eq_true, ↓reduceIte, eq_self, ne_eq, ti_eq, ti_le, ti_lt, ti_ite, Int32.reduceToInt, ta_add, ta_sub, ta_mul, ta_neg, ta_div]; done) | (simp (disch := (first | omega | (simp (disch := first | omega | (simp only [Int32.reduceToInt]; omega)) only [Int32.reduceToInt, ta_add, ta_sub, ta_mul, ta_neg, ta_div]; omega))) only [h32, up_1, cp_1, rng_1, fn_1, dj_1, Nat.reduceEqDiff, false_and, and_false, true_and, and_true, or_true, true_or, or_false, false_or, not_true_eq_false, not_false_eq_true, ↓reduceIte, eq_self, ne_eq, ti_eq, ti_le, ti_lt, ti_ite, Int32.reduceToInt, ta_add, ta_sub, ta_mul, ta_neg, ta_div]; omega)))) | (with_reducible refine wi_ck ?_ ?_; (focus (first | omega | (simp (disch := (first | omega | (simp (disch := first | omega | (simp only [Int32.reduceToInt]; omega)) only [Int32.reduceToInt, ta_add, ta_sub, ta_mul, ta_neg, ta_div]; omega))) only [h32, up_1, cp_1, rng_1, fn_1, dj_1, Nat.reduceEqDiff, false_and, and_false, true_and, and_true, or_true, true_or, or_false, false_or, not_true_eq_false, not_false_eq_true, ↓reduceIte, eq_self, ne_eq, ti_eq, ti_le, ti_lt, ti_ite, Int32.reduceToInt, ta_add, ta_sub, ta_mul, ta_neg, ta_div]; done) | (simp (disch := (first | omega | (simp (disch := first | omega | (simp only [Int32.reduceToInt]; omega)) only [Int32.reduceToInt, ta_add, ta_sub, ta_mul, ta_neg, ta_div]; omega))) only [h32, up_1, cp_1, rng_1, fn_1, dj_1, Nat.reduceEqDiff, false_and, and_false, true_and, and_true, or_true, true_or, or_false, false_or, not_true_eq_false, not_false_eq_true, ↓reduceIte, eq_self, ne_eq, ti_eq, ti_le, ti_lt, ti_ite, Int32.reduceToInt, ta_add, ta_sub, ta_mul, ta_neg, ta_div]; omega)))) | with_reducible refine wi_bd2 ?_ | with_reducible refine wi_bd1 ?_ | with_reducible refine wi_bd3 ?_ | (with_reducible refine wi_some ?_; try dsimp only) | unfold f_X12_next))
    exact hq
end NXO

/-! MAKING a rule's cells: the items copied -/
/-- z2, d2: two new cells behind z, d: the rule (of kind kd) and its N items -/
def MD_ (z : ix_Z) (d : ix_D2) (z2 : ix_Z) (d2 : ix_D2) (kd len N : Nat) (g : Nat → Int32) : Prop := z2.2.2 = z.2.2 + 2 ∧ (∀ a, a < z.2.2 → z2.2.1 a = z.2.1 a) ∧ (∀ a k, a < z.2.2 → z2.1 a k = z.1 a k) ∧ z2.2.1 z.2.2 = (kd, len) ∧ z2.2.1 (z.2.2 + 1) = (20, N) ∧ (∀ a k, a < z.2.2 → d2.1 a k = d.1 a k ∧ d2.2 a k = d.2 a k) ∧ ∀ j, j < N → d2.1 (z.2.2 + 1) j = g j
section MAK
variable {n : Nat} {z z' : ix_Z} {c d r e : ix_D2} {x : Int32} {kd len N : Nat}
theorem e_mk (hz : ly_z z) (ipap : iv_pap d.1) (a1 : 0 ≤ x.toInt) (a2 : x.toInt < 40) (b1 : (d.1 128 (ix_n x)).toInt = N) : ∃ z3 d3, f_X11_itemsOf n (ix_zn z kd len) 0 x (ix_dn d z.2.2) = some (some (z.2.2 + 1), z3, d3) ∧ MD_ z d z3 d3 kd len N (d.1 (2 + ix_n x)) := by
  have q := pap_at ipap a1 a2
  obtain ⟨q1, q2, q3⟩ : (d.1 42 (ix_n x)).toInt = N ∧ N ≤ 12 ∧ ix_n x < 40 := by omega
  clear q
  have hz3 := hz.2.2
  obtain ⟨z1, hz1⟩ : ∃ z1, z1 = ix_zn z kd len := ⟨_, rfl⟩
  obtain ⟨d1, hd1⟩ : ∃ d1, d1 = ix_dn d z.2.2 := ⟨_, rfl⟩
  rw [← hz1, ← hd1]
  have hzz : ly_z z1 := by rw [hz1]; exact zn_ly hz
  have z1n : z1.2.2 = z.2.2 + 1 := by rw [hz1]; rfl
  have d1o : ∀ a k, a ≠ z.2.2 → d1.1 a k = d.1 a k := fun a k h => by rw [hd1]; exact dn_1 h
  have d1l : ∀ a k, a ≠ z.2.2 → d1.2 a k = d.2 a k := fun a k h => by rw [hd1]; exact dn_2 h
  obtain ⟨R, hR⟩ : ∃ R, R = ix_n x := ⟨_, rfl⟩
  have pk := ly_pk hzz (ti_le ▸ a1 : 0 ≤ x) (ti_lt ▸ a2 : x < 40)
  rw [← hR] at pk q1 q3
  have k10 : ix_ok z1 [10] 0 := of_eq_true (ly_o0 hzz)
  have r00 : z1.1 0 0 = some 1 := ly_r0_0 hzz
  have r01 : z1.1 0 1 = some 42 := ly_r0_1 hzz
  have kx1 : ix_ix z1 25 1 x := by rw [ly_p1 hzz]; exact ⟨by rw [ti_le]; exact a1, by rw [ti_lt]; exact a2⟩
  have kx2 : ix_ix z1 20 42 x := by rw [ly_i42 hzz]; exact ⟨by rw [ti_le]; exact a1, by rw [ti_lt]; exact a2⟩
  have e42 : d1.1 42 R = d.1 42 R := d1o _ _ (by omega)
  have e42t : (d1.1 42 R).toInt = N := by rw [e42]; exact q1
  have ka : 2 + R < z1.2.2 ∧ 20 ≤ (z1.2.1 (2 + R)).1 ∧ (z1.2.1 (2 + R)).1 < 26 := by rw [pk.1]; exact ⟨pk.2.2, by decide, by decide⟩
  have kl : (nI (z1.2.1 (2 + R)).2).toInt = 12 := by rw [pk.1]; rfl
  have fin : ∀ z3 d3, z3 = ix_zn z1 20 N → (∀ a k, a ≠ z1.2.2 → d3.1 a k = d1.1 a k ∧ d3.2 a k = d1.2 a k) → (∀ j, j < N → d3.1 z1.2.2 j = d1.1 (2 + R) j) → MD_ z d z3 d3 kd len N (d.1 (2 + ix_n x)) := by
    intro z3 d3 h1 h2 h3
    rw [h1]
    refine ⟨by rw [zn_n, z1n], fun a ha => ?_, fun a k ha => ?_, ?_, ?_, fun a k ha => ?_, fun j hj => ?_⟩
    · rw [zn_k (by omega), hz1, zn_k (by omega)]
    · rw [zn_r (by omega), hz1, zn_r (by omega)]
    · rw [zn_k (by omega), hz1, zn_s]
    · rw [← z1n, zn_s]
    · rw [(h2 a k (by omega)).1, (h2 a k (by omega)).2]; exact ⟨d1o a k (by omega), d1l a k (by omega)⟩
    · rw [← z1n, h3 j hj, ← hR]; exact d1o _ _ (by omega)
  by_cases cN : N = 12
  · have hq : d1.1 42 R = nI (z1.2.1 (2 + R)).2 := Int32.toInt_inj.mp (by rw [kl, e42t, cN]; rfl)
    have kc : 2 + R < z1.2.2 ∧ (z1.2.1 (2 + R)).1 = 20 ∧ (z1.2.1 (2 + R)).2 ≤ 64 := by rw [pk.1]; exact ⟨pk.2.2, rfl, by decide⟩
    refine ⟨ix_zn z1 20 12, ix_dc d1 (2 + R) z1.2.2, ?_, fin _ _ (by rw [cN]) (fun a k h => ⟨if_neg h, if_neg h⟩) (fun j _ => if_pos rfl)⟩
    rw [← z1n, ← wp_eq]
    have e12 : (z1.2.1 (2 + R)).2 = 12 := by rw [pk.1]
    (repeat (first | with_reducible refine wi_ck k10 ?_ | with_reducible refine wi_r (r00) ?_ | with_reducible refine wi_ck kx1 ?_ | rw [← hR] | with_reducible refine wi_r (pk.2.1) ?_ | with_reducible refine wi_r (r01) ?_ | with_reducible refine wi_ck kx2 ?_ | with_reducible refine wi_ck ka ?_ | with_reducible refine wi_ifp hq ?_ | with_reducible refine wi_ck kc ?_ | rw [e12] | with_reducible refine wi_t (ly_o0 hz) ?_ | with_reducible refine wi_lt ?_ | (with_reducible refine wi_ifp ?_ ?_; (focus (first | omega | (simp (disch := (first | omega | (simp (disch := first | omega | (simp only [Int32.reduceToInt]; omega)) only [Int32.reduceToInt, ta_add, ta_sub, ta_mul, ta_neg, ta_div]; omega))) only [up_1, cp_1, rng_1, fn_1, dj_1, Nat.reduceEqDiff, false_and, and_false, true_and, and_true, or_true, true_or, or_false, false_or, not_true_eq_false, not_false_eq_true, ↓reduceIte, eq_self, ne_eq, ti_eq, ti_le, ti_lt, ti_ite, Int32.reduceToInt, ta_add, ta_sub, ta_mul, ta_neg, ta_div]; done) | (simp (disch := (first | omega | (simp (disch := first | omega | (simp only [Int32.reduceToInt]; omega)) only [Int32.reduceToInt, ta_add, ta_sub, ta_mul, ta_neg, ta_div]; omega))) only [up_1, cp_1, rng_1, fn_1, dj_1, Nat.reduceEqDiff, false_and, and_false, true_and, and_true, or_true, true_or, or_false, false_or, not_true_eq_false, not_false_eq_true, ↓reduceIte, eq_self, ne_eq, ti_eq, ti_le, ti_lt, ti_ite, Int32.reduceToInt, ta_add, ta_sub, ta_mul, ta_neg, ta_div]; omega)))) | (with_reducible refine wi_ifn ?_ ?_; (focus (first | omega | (simp (disch := (first | omega | (simp (disch := first | omega | (simp only [Int32.reduceToInt]; omega)) only [Int32.reduceToInt, ta_add, ta_sub, ta_mul, ta_neg, ta_div]; omega))) only [up_1, cp_1, rng_1, fn_1, dj_1, Nat.reduceEqDiff, false_and, and_false, true_and, and_true, or_true, true_or, or_false, false_or, not_true_eq_false, not_false_eq_true, ↓reduceIte, eq_self, ne_eq, ti_eq, ti_le, ti_lt, ti_ite, Int32.reduceToInt, ta_add, ta_sub, ta_mul, ta_neg, ta_div]; done) | (simp (disch := (first | omega | (simp (disch := first | omega | (simp only [Int32.reduceToInt]; omega)) only [Int32.reduceToInt, ta_add, ta_sub, ta_mul, ta_neg, ta_div]; omega))) only [up_1, cp_1, rng_1, fn_1, dj_1, Nat.reduceEqDiff, false_and, and_false, true_and, and_true, or_true, true_or, or_false, false_or, not_true_eq_false, not_false_eq_true, ↓reduceIte, eq_self, ne_eq, ti_eq, ti_le, ti_lt, ti_ite, Int32.reduceToInt, ta_add, ta_sub, ta_mul, ta_neg, ta_div]; omega)))) | (with_reducible refine wi_ck ?_ ?_; (focus (first | omega | (simp (disch := (first | omega | (simp (disch := first | omega | (simp only [Int32.reduceToInt]; omega)) only [Int32.reduceToInt, ta_add, ta_sub, ta_mul, ta_neg, ta_div]; omega))) only [up_1, cp_1, rng_1, fn_1, dj_1, Nat.reduceEqDiff, false_and, and_false, true_and, and_true, or_true, true_or, or_false, false_or, not_true_eq_false, not_false_eq_true, ↓reduceIte, eq_self, ne_eq, ti_eq, ti_le, ti_lt, ti_ite, Int32.reduceToInt, ta_add, ta_sub, ta_mul, ta_neg, ta_div]; done) | (simp (disch := (first | omega | (simp (disch := first | omega | (simp only [Int32.reduceToInt]; omega)) only [Int32.reduceToInt, ta_add, ta_sub, ta_mul, ta_neg, ta_div]; omega))) only [up_1, cp_1, rng_1, fn_1, dj_1, Nat.reduceEqDiff, false_and, and_false, true_and, and_true, or_true, true_or, or_false, false_or, not_true_eq_false, not_false_eq_true, ↓reduceIte, eq_self, ne_eq, ti_eq, ti_le, ti_lt, ti_ite, Int32.reduceToInt, ta_add, ta_sub, ta_mul, ta_neg, ta_div]; omega)))) | with_reducible refine wi_bd2 ?_ | with_reducible refine wi_bd1 ?_ | with_reducible refine wi_bd3 ?_ | (with_reducible refine wi_some ?_; try dsimp only) | unfold f_X11_itemsOf | unfold f_J7_copyOf_59c91))
  · have hq : ¬ d1.1 42 R = nI (z1.2.1 (2 + R)).2 := fun w => by
      have : (d1.1 42 R).toInt = 12 := by rw [w]; exact kl
      omega
    have nN : ix_n (d1.1 42 R) = N := ni_k e42t
    have kc : ¬ d1.1 42 R < 0 ∧ ix_n (d1.1 42 R) ≤ 64 := ⟨by rw [ti_lt, e42t]; simp only [Int32.reduceToInt]; omega, by omega⟩
    obtain ⟨z2, hz2⟩ : ∃ z2, z2 = ix_zn z1 20 N := ⟨_, rfl⟩
    obtain ⟨d2, hd2⟩ : ∃ d2, d2 = ix_dn d1 z1.2.2 := ⟨_, rfl⟩
    have z2k : z2.2.1 (2 + R) = z1.2.1 (2 + R) := by rw [hz2]; exact zn_k (by omega)
    have z2s : z2.2.1 z1.2.2 = (20, N) := by rw [hz2]; exact zn_s
    have z2n : z2.2.2 = z1.2.2 + 1 := by rw [hz2]; rfl
    have ka2 : 2 + R < z2.2.2 ∧ 20 ≤ (z2.2.1 (2 + R)).1 ∧ (z2.2.1 (2 + R)).1 < 26 := by rw [z2k]; exact ⟨by omega, ka.2⟩
    have emin : ix_min (nI (z2.2.1 (2 + R)).2) (d1.1 42 R) = d1.1 42 R := by
      unfold ix_min
      rw [if_pos (by rw [ti_lt, e42t, z2k, kl]; omega)]
    have kcp : ix_cpk z2 20 (2 + R) 0 z1.2.2 0 (d1.1 42 R) := ⟨by omega, by rw [z2k, pk.1], by omega, by rw [z2s], by decide, by decide, kc.1, by rw [z2k, pk.1]; show 0 + ix_n _ ≤ 12; omega, by rw [z2s]; show 0 + ix_n _ ≤ N; omega⟩
    have kc' : ¬ d1.1 42 R < 0 ∧ N ≤ 64 := ⟨kc.1, by omega⟩
    have n00 : ix_n (0 : Int32) = 0 := rfl
    refine ⟨z2, ix_cpI d2 (2 + R) z1.2.2 0 0 N, ?_, fin _ _ hz2 (fun a k h => ⟨?_, ?_⟩) (fun j hj => ?_)⟩
    · rw [← z1n, ← wp_eq]
      (repeat (first | with_reducible refine wi_ck k10 ?_ | with_reducible refine wi_r (r00) ?_ | with_reducible refine wi_ck kx1 ?_ | rw [← hR] | with_reducible refine wi_r (pk.2.1) ?_ | with_reducible refine wi_r (r01) ?_ | with_reducible refine wi_ck kx2 ?_ | with_reducible refine wi_ck ka ?_ | with_reducible refine wi_ifn hq ?_ | rw [nN] | with_reducible refine wi_ck kc' ?_ | rw [← hz2] | rw [← hd2] | with_reducible refine wi_ck ka2 ?_ | rw [emin] | with_reducible refine wi_ck kcp ?_ | rw [nN] | rw [n00] | with_reducible refine wi_t (ly_o0 hz) ?_ | with_reducible refine wi_lt ?_ | (with_reducible refine wi_ifp ?_ ?_; (focus (first | omega | (simp (disch := (first | omega | (simp (disch := first | omega | (simp only [Int32.reduceToInt]; omega)) only [Int32.reduceToInt, ta_add, ta_sub, ta_mul, ta_neg, ta_div]; omega))) only [up_1, cp_1, rng_1, fn_1, dj_1, Nat.reduceEqDiff, false_and, and_false, true_and, and_true, or_true, true_or, or_false, false_or, not_true_eq_false, not_false_eq_true, ↓reduceIte, eq_self, ne_eq, ti_eq, ti_le, ti_lt, ti_ite, Int32.reduceToInt, ta_add, ta_sub, ta_mul, ta_neg, ta_div]; done) | (simp (disch := (first | omega | (simp (disch := first | omega | (simp only [Int32.reduceToInt]; omega)) only [Int32.reduceToInt, ta_add, ta_sub, ta_mul, ta_neg, ta_div]; omega))) only [up_1, cp_1, rng_1, fn_1, dj_1, Nat.reduceEqDiff, false_and, and_false, true_and, and_true, or_true, true_or, or_false, false_or, not_true_eq_false, not_false_eq_true, ↓reduceIte, eq_self, ne_eq, ti_eq, ti_le, ti_lt, ti_ite, Int32.reduceToInt, ta_add, ta_sub, ta_mul, ta_neg, ta_div]; omega)))) | (with_reducible refine wi_ifn ?_ ?_; (focus (first | omega | (simp (disch := (first | omega | (simp (disch := first | omega | (simp only [Int32.reduceToInt]; omega)) only [Int32.reduceToInt, ta_add, ta_sub, ta_mul, ta_neg, ta_div]; omega))) only [up_1, cp_1, rng_1, fn_1, dj_1, Nat.reduceEqDiff, false_and, and_false, true_and, and_true, or_true, true_or, or_false, false_or, not_true_eq_false, not_false_eq_true, ↓reduceIte, eq_self, ne_eq, ti_eq, ti_le, ti_lt, ti_ite, Int32.reduceToInt, ta_add, ta_sub, ta_mul, ta_neg, ta_div]; done) | (simp (disch := (first | omega | (simp (disch := first | omega | (simp only [Int32.reduceToInt]; omega)) only [Int32.reduceToInt, ta_add, ta_sub, ta_mul, ta_neg, ta_div]; omega))) only [up_1, cp_1, rng_1, fn_1, dj_1, Nat.reduceEqDiff, false_and, and_false, true_and, and_true, or_true, true_or, or_false, false_or, not_true_eq_false, not_false_eq_true, ↓reduceIte, eq_self, ne_eq, ti_eq, ti_le, ti_lt, ti_ite, Int32.reduceToInt, ta_add, ta_sub, ta_mul, ta_neg, ta_div]; omega)))) | (with_reducible refine wi_ck ?_ ?_; (focus (first | omega | (simp (disch := (first | omega | (simp (disch := first | omega | (simp only [Int32.reduceToInt]; omega)) only [Int32.reduceToInt, ta_add, ta_sub, ta_mul, ta_neg, ta_div]; omega))) only [up_1, cp_1, rng_1, fn_1, dj_1, Nat.reduceEqDiff, false_and, and_false, true_and, and_true, or_true, true_or, or_false, false_or, not_true_eq_false, not_false_eq_true, ↓reduceIte, eq_self, ne_eq, ti_eq, ti_le, ti_lt, ti_ite, Int32.reduceToInt, ta_add, ta_sub, ta_mul, ta_neg, ta_div]; done) | (simp (disch := (first | omega | (simp (disch := first | omega | (simp only [Int32.reduceToInt]; omega)) only [Int32.reduceToInt, ta_add, ta_sub, ta_mul, ta_neg, ta_div]; omega))) only [up_1, cp_1, rng_1, fn_1, dj_1, Nat.reduceEqDiff, false_and, and_false, true_and, and_true, or_true, true_or, or_false, false_or, not_true_eq_false, not_false_eq_true, ↓reduceIte, eq_self, ne_eq, ti_eq, ti_le, ti_lt, ti_ite, Int32.reduceToInt, ta_add, ta_sub, ta_mul, ta_neg, ta_div]; omega)))) | with_reducible refine wi_bd2 ?_ | with_reducible refine wi_bd1 ?_ | with_reducible refine wi_bd3 ?_ | (with_reducible refine wi_some ?_; try dsimp only) | unfold f_X11_itemsOf | unfold f_J7_copyOf_59c91))
    · rw [cpv_o (fun q => h q.1), hd2]; exact dn_1 h
    · show d2.2 a k = d1.2 a k
      rw [hd2]; exact dn_2 h
    · rw [cpv_i (by omega) (by omega), hd2, dn_1 (by omega), show 0 + (j - 0) = j by omega]
end MAK

/-! CLAUSE, PARITY, AT MOST, GROUP by the class -/
section ROQ
variable {n : Nat} {z z3 z4 : ix_Z} {d d3 d4 : ix_D2} {x y w3 : Int32} {kd len N R k : Nat} {g : Nat → Int32} {F : Option LA → Option LA} {A : LA} {o : Option LA}
def clF (g : Nat → Int32) (N : Nat) (o : Option LA) : Option LA := o.bind (fun A => apR A (dd_ g N))
theorem lf_g (h : lf_ g (d.1 51 5) N = 0) : ∀ j, j < N → okJ (if R < 60 then some (aC_ d.1) else none) (g j) := fun j hj A hA => by
  have q := lw_0 (lf_0 h hj)
  have hA' : A.1 = ix_n (d.1 51 5) := by
    split at hA
    · rw [← Option.some.inj hA]; rfl
    · simp at hA
  refine ⟨⟨q.1, q.2.1, q.2.2.1⟩, ?_⟩
  have ha := ab_ti (v := g j) (by omega)
  rw [hA', ni_def, ni_def]
  split at ha <;> omega
theorem lf_w {z : ix_Z} {o : Option ix_D2} {Q : ix_Z × ix_D2 → Prop} (h : wp_t o (fun d => Q (z, d))) : wp_t (ix_lf z o) Q := by
  obtain ⟨d, e, q⟩ := h
  exact ⟨(z, d), by rw [e]; rfl, q⟩
theorem pyS_c {p x : Int32} : pyS none p x = (none, 0) := rfl
theorem pyL_n : ∀ i, (pyL g none i).1 = none
  | 0 => rfl
  | i + 1 => by
    rw [pyL]
    split
    · rfl
    · rw [pyL_n i]; rfl
theorem pyF_n {od : Int32} : pyF g N od none = none := by
  unfold pyF
  split
  · rfl
  · rw [pyL_n]; rfl
theorem amJ_n {S : Nat → Int32} {i : Nat} : ∀ j, (amJ x i none S j).1 = none
  | 0 => rfl
  | j + 1 => by
    rw [amJ, amJ_n j]
    unfold amS
    by_cases c1 : j + 1 < i <;> by_cases c2 : 1 < j + 1 <;> simp [c1, c2]
theorem amI_n {K : Nat} : ∀ i, (amI g K none i).1 = none
  | 0 => rfl
  | i + 1 => by
    rw [amI]
    split
    · rfl
    · rw [amI_n i]; exact amJ_n _
theorem amF_n : amF g N k none = none := by
  unfold amF
  split
  · rw [amI_n]; rfl
  · exact amI_n _
theorem gpF_n : gpF g N k none = none := by
  unfold gpF
  rw [amF_n]
  split
  · rfl
  · split <;> rfl
theorem pyL_c {g' : Nat → Int32} : ∀ {i : Nat}, (∀ j, j < i → g j = g' j) → pyL g o i = pyL g' o i
  | 0, _ => rfl
  | i + 1, h => by
    rw [pyL, pyL, pyL_c (i := i) (fun j hj => h j (by omega)), h i (by omega)]
    by_cases c : i = 0
    · rw [if_pos c, if_pos c, h 0 (by omega)]
    · rw [if_neg c, if_neg c]
theorem pyF_c {g' : Nat → Int32} {od : Int32} (h : ∀ j, j < N → g j = g' j) : pyF g N od o = pyF g' N od o := by unfold pyF; rw [pyL_c h]
theorem amI_c {g' : Nat → Int32} {K : Nat} : ∀ {i : Nat}, (∀ j, j < i → g j = g' j) → amI g K o i = amI g' K o i
  | 0, _ => rfl
  | i + 1, h => by
    rw [amI, amI, amI_c (i := i) (fun j hj => h j (by omega)), h i (by omega)]
    by_cases c : i = 0
    · rw [if_pos c, if_pos c, h 0 (by omega)]
    · rw [if_neg c, if_neg c]
theorem amF_c {g' : Nat → Int32} (h : ∀ j, j < N → g j = g' j) : amF g N k o = amF g' N k o := by unfold amF; rw [amI_c h]
theorem gpF_c {g' : Nat → Int32} (h : ∀ j, j < N → g j = g' j) : gpF g N k o = gpF g' N k o := by unfold gpF; rw [amF_c h, amI_c h]
/-- what all four have at hand -/
def RH_ (z : ix_Z) (d : ix_D2) (x : Int32) (N R : Nat) : Prop := ly_z z ∧ iv_pap d.1 ∧ 0 ≤ x.toInt ∧ x.toInt < 40 ∧ (d.1 128 (ix_n x)).toInt = N ∧ N ≤ 12 ∧ cw_ d.1 ∧ 0 ≤ (d.1 51 5).toInt ∧ (d.1 51 5).toInt ≤ 300 ∧ (∀ p : Nat, (p : Int) < (d.1 54 (ix_n (d.1 52 2))).toInt → (ix_n (ix_abs (d.1 53 p)) : Int) ≤ (d.1 51 5).toInt) ∧ d.1 51 10 = 0 ∧ (d.1 0 5).toInt = R ∧ R ≤ 60 ∧ lf_ (d.1 (2 + ix_n x)) (d.1 51 5) N = 0
theorem z4_f (hz : ly_z z) (hm : MD_ z d z3 d3 kd len N g) (h4 : z4 = ix_zr z3 z.2.2 0 (some (z.2.2 + 1))) : z4.2.2 = z.2.2 + 2 ∧ (z4.2.1 z.2.2).1 = kd ∧ z4.1 z.2.2 0 = some (z.2.2 + 1) ∧ z4.2.1 (z.2.2 + 1) = (20, N) ∧ ly_z z3 ∧ ly_z z4 := by
  have hz3 := hz.2.2
  obtain ⟨m1, m2, m3, m4, m5, m6, m7⟩ := hm
  refine ⟨by rw [h4]; exact m1, by rw [h4]; show (z3.2.1 z.2.2).1 = kd; rw [m4], by rw [h4]; exact zr_s, by rw [h4]; exact m5, ⟨fun a ha => by rw [m2 a (by omega)]; exact hz.1 a ha, fun a k ha h9 => by rw [m3 a k (by omega)]; exact hz.2.1 a k ha h9, by rw [m1]; omega⟩, ⟨fun a ha => by rw [h4]; show z3.2.1 a = _; rw [m2 a (by omega)]; exact hz.1 a ha, fun a k ha h9 => by rw [h4, zr_o (by omega), m3 a k (by omega)]; exact hz.2.1 a k ha h9, by rw [h4]; show 199 ≤ z3.2.2; rw [m1]; omega⟩⟩
theorem e_clsC (hn : 100 ≤ n) (h : RH_ z d x N R) : ∃ w3, wp_t (f_X11_clause n z 0 x d) (PC_ z d (clF (d.1 (2 + ix_n x)) N) R N 3 (d.1 (2 + ix_n x)) w3) := by
  obtain ⟨hz, ipap, a1, a2, hN, hN2, hcw, hn0, hn3, hit, hdr, hR, hR6, hlf⟩ := h
  have E1 := e_lI (n := n) hz hn ipap a1 a2 (by omega)
  rw [show ix_n (d.1 128 (ix_n x)) = N from ni_k hN, hlf] at E1
  obtain ⟨z3, d3, E2, hm⟩ := e_mk (n := n) (kd := 3) (len := 3) hz ipap a1 a2 hN
  obtain ⟨z4, h4⟩ : ∃ z4, z4 = ix_zr z3 z.2.2 0 (some (z.2.2 + 1)) := ⟨_, rfl⟩
  obtain ⟨f1, f2, f3, f4, f5, f6⟩ := z4_f hz hm h4
  have hz3 := hz.2.2
  have m1 := hm.1
  have m4 := hm.2.2.2.1
  have ko : ix_ok z3 [0, 3, 5, 6, 9] z.2.2 := ⟨by omega, by rw [m4]; decide⟩
  have k10 : ix_ok (ix_zn z 3 3) [10] 0 := of_eq_true (ly_o0 (zn_ly hz))
  have k10' : ix_ok z4 [10] 0 := of_eq_true (ly_o0 f6)
  have E3 : f_X3_init n z3 z.2.2 (z.2.2 + 1) d3 = some (z4, d3) := by
    rw [← wp_eq, h4]
    (repeat (first | with_reducible refine wi_ck ko ?_ | with_reducible refine wi_t (ly_o0 hz) ?_ | with_reducible refine wi_lt ?_ | (with_reducible refine wi_ifp ?_ ?_; (focus (first | omega | (simp (disch := (first | omega | (simp (disch := first | omega | (simp only [Int32.reduceToInt]; omega)) only [Int32.reduceToInt, ta_add, ta_sub, ta_mul, ta_neg, ta_div]; omega))) only [up_1, cp_1, rng_1, fn_1, dj_1, Nat.reduceEqDiff, false_and, and_false, true_and, and_true, or_true, true_or, or_false, false_or, not_true_eq_false, not_false_eq_true, ↓reduceIte, eq_self, ne_eq, ti_eq, ti_le, ti_lt, ti_ite, Int32.reduceToInt, ta_add, ta_sub, ta_mul, ta_neg, ta_div]; done) | (simp (disch := (first | omega | (simp (disch := first | omega | (simp only [Int32.reduceToInt]; omega)) only [Int32.reduceToInt, ta_add, ta_sub, ta_mul, ta_neg, ta_div]; omega))) only [up_1, cp_1, rng_1, fn_1, dj_1, Nat.reduceEqDiff, false_and, and_false, true_and, and_true, or_true, true_or, or_false, false_or, not_true_eq_false, not_false_eq_true, ↓reduceIte, eq_self, ne_eq, ti_eq, ti_le, ti_lt, ti_ite, Int32.reduceToInt, ta_add, ta_sub, ta_mul, ta_neg, ta_div]; omega)))) | (with_reducible refine wi_ifn ?_ ?_; (focus (first | omega | (simp (disch := (first | omega | (simp (disch := first | omega | (simp only [Int32.reduceToInt]; omega)) only [Int32.reduceToInt, ta_add, ta_sub, ta_mul, ta_neg, ta_div]; omega))) only [up_1, cp_1, rng_1, fn_1, dj_1, Nat.reduceEqDiff, false_and, and_false, true_and, and_true, or_true, true_or, or_false, false_or, not_true_eq_false, not_false_eq_true, ↓reduceIte, eq_self, ne_eq, ti_eq, ti_le, ti_lt, ti_ite, Int32.reduceToInt, ta_add, ta_sub, ta_mul, ta_neg, ta_div]; done) | (simp (disch := (first | omega | (simp (disch := first | omega | (simp only [Int32.reduceToInt]; omega)) only [Int32.reduceToInt, ta_add, ta_sub, ta_mul, ta_neg, ta_div]; omega))) only [up_1, cp_1, rng_1, fn_1, dj_1, Nat.reduceEqDiff, false_and, and_false, true_and, and_true, or_true, true_or, or_false, false_or, not_true_eq_false, not_false_eq_true, ↓reduceIte, eq_self, ne_eq, ti_eq, ti_le, ti_lt, ti_ite, Int32.reduceToInt, ta_add, ta_sub, ta_mul, ta_neg, ta_div]; omega)))) | (with_reducible refine wi_ck ?_ ?_; (focus (first | omega | (simp (disch := (first | omega | (simp (disch := first | omega | (simp only [Int32.reduceToInt]; omega)) only [Int32.reduceToInt, ta_add, ta_sub, ta_mul, ta_neg, ta_div]; omega))) only [up_1, cp_1, rng_1, fn_1, dj_1, Nat.reduceEqDiff, false_and, and_false, true_and, and_true, or_true, true_or, or_false, false_or, not_true_eq_false, not_false_eq_true, ↓reduceIte, eq_self, ne_eq, ti_eq, ti_le, ti_lt, ti_ite, Int32.reduceToInt, ta_add, ta_sub, ta_mul, ta_neg, ta_div]; done) | (simp (disch := (first | omega | (simp (disch := first | omega | (simp only [Int32.reduceToInt]; omega)) only [Int32.reduceToInt, ta_add, ta_sub, ta_mul, ta_neg, ta_div]; omega))) only [up_1, cp_1, rng_1, fn_1, dj_1, Nat.reduceEqDiff, false_and, and_false, true_and, and_true, or_true, true_or, or_false, false_or, not_true_eq_false, not_false_eq_true, ↓reduceIte, eq_self, ne_eq, ti_eq, ti_le, ti_lt, ti_ite, Int32.reduceToInt, ta_add, ta_sub, ta_mul, ta_neg, ta_div]; omega)))) | with_reducible refine wi_bd2 ?_ | with_reducible refine wi_bd1 ?_ | with_reducible refine wi_bd3 ?_ | (with_reducible refine wi_some ?_; try dsimp only) | unfold f_X3_init | unfold f_X8_init))
  have q := e_opC (n := n) (F := clF (d.1 (2 + ix_n x)) N) (R := R) hz hm (by decide) h4 (fun _ _ _ => rfl) rfl rfl hcw hn0 hn3 hit hdr hR hR6 rfl (by
    intro d1 k0 k1 k2 k3
    have eg : dd_ (d1.1 (z.2.2 + 1)) N = dd_ (d.1 (2 + ix_n x)) N := dd_c k1
    have hJ := lf_g (R := R) hlf
    unfold v_RX11_418
    rw [ds3 f2]
    refine lf_w ?_
    have w := e_liC (n := n) (c := d1) k0 hn (rc := z.2.2) (ia := z.2.2 + 1) (N := N) ⟨by omega, by rw [f2]; decide⟩ f3 (by omega) (by omega) f4 hN2 k3 (fun j hj => by rw [k1 j hj]; exact fun w => (lw_0 (lf_0 hlf hj)).1 (by rw [w]; rfl)) (by
      rw [eg]
      intro A hA v hv
      obtain ⟨i, i1, i2⟩ := dd_m hv
      rw [i2]
      exact hJ i i1 A hA)
    rw [eg] at w
    exact wp_m w fun c' hc => ⟨zx_r, ⟨0, by omega, hc.1⟩, fz_m (fz_of hc.2) (fun a k q => Or.inl q)⟩)
  obtain ⟨t, E4, ht⟩ := q
  refine ⟨_, t, ?_, ht⟩
  have z0 : (0 : Int32) = 0 := rfl
  rw [← wp_eq]
  (repeat (first | (with_reducible refine wi_e (E1) ?_; try dsimp only) | with_reducible refine wi_ifp z0 ?_ | with_reducible refine wi_ck k10 ?_ | (with_reducible refine wi_e (E2) ?_; try dsimp only) | (with_reducible refine wi_e (E3) ?_; try dsimp only) | with_reducible refine wi_ck k10' ?_ | (with_reducible refine wi_e (E4) ?_; try dsimp only) | with_reducible refine wi_t (ly_o0 hz) ?_ | with_reducible refine wi_lt ?_ | (with_reducible refine wi_ifp ?_ ?_; (focus (first | omega | (simp (disch := (first | omega | (simp (disch := first | omega | (simp only [Int32.reduceToInt]; omega)) only [Int32.reduceToInt, ta_add, ta_sub, ta_mul, ta_neg, ta_div]; omega))) only [up_1, cp_1, rng_1, fn_1, dj_1, Nat.reduceEqDiff, false_and, and_false, true_and, and_true, or_true, true_or, or_false, false_or, not_true_eq_false, not_false_eq_true, ↓reduceIte, eq_self, ne_eq, ti_eq, ti_le, ti_lt, ti_ite, Int32.reduceToInt, ta_add, ta_sub, ta_mul, ta_neg, ta_div]; done) | (simp (disch := (first | omega | (simp (disch := first | omega | (simp only [Int32.reduceToInt]; omega)) only [Int32.reduceToInt, ta_add, ta_sub, ta_mul, ta_neg, ta_div]; omega))) only [up_1, cp_1, rng_1, fn_1, dj_1, Nat.reduceEqDiff, false_and, and_false, true_and, and_true, or_true, true_or, or_false, false_or, not_true_eq_false, not_false_eq_true, ↓reduceIte, eq_self, ne_eq, ti_eq, ti_le, ti_lt, ti_ite, Int32.reduceToInt, ta_add, ta_sub, ta_mul, ta_neg, ta_div]; omega)))) | (with_reducible refine wi_ifn ?_ ?_; (focus (first | omega | (simp (disch := (first | omega | (simp (disch := first | omega | (simp only [Int32.reduceToInt]; omega)) only [Int32.reduceToInt, ta_add, ta_sub, ta_mul, ta_neg, ta_div]; omega))) only [up_1, cp_1, rng_1, fn_1, dj_1, Nat.reduceEqDiff, false_and, and_false, true_and, and_true, or_true, true_or, or_false, false_or, not_true_eq_false, not_false_eq_true, ↓reduceIte, eq_self, ne_eq, ti_eq, ti_le, ti_lt, ti_ite, Int32.reduceToInt, ta_add, ta_sub, ta_mul, ta_neg, ta_div]; done) | (simp (disch := (first | omega | (simp (disch := first | omega | (simp only [Int32.reduceToInt]; omega)) only [Int32.reduceToInt, ta_add, ta_sub, ta_mul, ta_neg, ta_div]; omega))) only [up_1, cp_1, rng_1, fn_1, dj_1, Nat.reduceEqDiff, false_and, and_false, true_and, and_true, or_true, true_or, or_false, false_or, not_true_eq_false, not_false_eq_true, ↓reduceIte, eq_self, ne_eq, ti_eq, ti_le, ti_lt, ti_ite, Int32.reduceToInt, ta_add, ta_sub, ta_mul, ta_neg, ta_div]; omega)))) | (with_reducible refine wi_ck ?_ ?_; (focus (first | omega | (simp (disch := (first | omega | (simp (disch := first | omega | (simp only [Int32.reduceToInt]; omega)) only [Int32.reduceToInt, ta_add, ta_sub, ta_mul, ta_neg, ta_div]; omega))) only [up_1, cp_1, rng_1, fn_1, dj_1, Nat.reduceEqDiff, false_and, and_false, true_and, and_true, or_true, true_or, or_false, false_or, not_true_eq_false, not_false_eq_true, ↓reduceIte, eq_self, ne_eq, ti_eq, ti_le, ti_lt, ti_ite, Int32.reduceToInt, ta_add, ta_sub, ta_mul, ta_neg, ta_div]; done) | (simp (disch := (first | omega | (simp (disch := first | omega | (simp only [Int32.reduceToInt]; omega)) only [Int32.reduceToInt, ta_add, ta_sub, ta_mul, ta_neg, ta_div]; omega))) only [up_1, cp_1, rng_1, fn_1, dj_1, Nat.reduceEqDiff, false_and, and_false, true_and, and_true, or_true, true_or, or_false, false_or, not_true_eq_false, not_false_eq_true, ↓reduceIte, eq_self, ne_eq, ti_eq, ti_le, ti_lt, ti_ite, Int32.reduceToInt, ta_add, ta_sub, ta_mul, ta_neg, ta_div]; omega)))) | with_reducible refine wi_bd2 ?_ | with_reducible refine wi_bd1 ?_ | with_reducible refine wi_bd3 ?_ | (with_reducible refine wi_some ?_; try dsimp only) | unfold f_X11_clause))
theorem e_parC (hn : 100 ≤ n) (h : RH_ z d x N R) (hy : y = 0 ∨ y = 1) : wp_t (f_X11_parity n z 0 x y d) (PC_ z d (pyF (d.1 (2 + ix_n x)) N y) R N 6 (d.1 (2 + ix_n x)) y) := by
  obtain ⟨hz, ipap, a1, a2, hN, hN2, hcw, hn0, hn3, hit, hdr, hR, hR6, hlf⟩ := h
  have E1 := e_lI (n := n) hz hn ipap a1 a2 (by omega)
  rw [show ix_n (d.1 128 (ix_n x)) = N from ni_k hN, hlf] at E1
  obtain ⟨z3, d3, E2, hm⟩ := e_mk (n := n) (kd := 6) (len := 4) hz ipap a1 a2 hN
  obtain ⟨z4, h4⟩ : ∃ z4, z4 = ix_zr z3 z.2.2 0 (some (z.2.2 + 1)) := ⟨_, rfl⟩
  obtain ⟨f1, f2, f3, f4, f5, f6⟩ := z4_f hz hm h4
  have hz3 := hz.2.2
  have m1 := hm.1
  have m4 := hm.2.2.2.1
  have ko : ix_ok z3 [0, 3, 5, 6, 9] z.2.2 := ⟨by omega, by rw [m4]; decide⟩
  have ko4 : ix_ok z4 [6] z.2.2 := ⟨by omega, by rw [f2]; decide⟩
  have k10 : ix_ok (ix_zn z 6 4) [10] 0 := of_eq_true (ly_o0 (zn_ly hz))
  have k10' : ix_ok z4 [10] 0 := of_eq_true (ly_o0 f6)
  have E3 : f_X6_init n z3 z.2.2 (z.2.2 + 1) y d3 = some (z4, ix_di d3 z.2.2 3 y) := by
    rw [← wp_eq]
    (repeat (first | with_reducible refine wi_ck ko ?_ | rw [← h4] | with_reducible refine wi_ck ko4 ?_ | with_reducible refine wi_ck hy ?_ | with_reducible refine wi_t (ly_o0 hz) ?_ | with_reducible refine wi_lt ?_ | (with_reducible refine wi_ifp ?_ ?_; (focus (first | omega | (simp (disch := (first | omega | (simp (disch := first | omega | (simp only [Int32.reduceToInt]; omega)) only [Int32.reduceToInt, ta_add, ta_sub, ta_mul, ta_neg, ta_div]; omega))) only [up_1, cp_1, rng_1, fn_1, dj_1, Nat.reduceEqDiff, false_and, and_false, true_and, and_true, or_true, true_or, or_false, false_or, not_true_eq_false, not_false_eq_true, ↓reduceIte, eq_self, ne_eq, ti_eq, ti_le, ti_lt, ti_ite, Int32.reduceToInt, ta_add, ta_sub, ta_mul, ta_neg, ta_div]; done) | (simp (disch := (first | omega | (simp (disch := first | omega | (simp only [Int32.reduceToInt]; omega)) only [Int32.reduceToInt, ta_add, ta_sub, ta_mul, ta_neg, ta_div]; omega))) only [up_1, cp_1, rng_1, fn_1, dj_1, Nat.reduceEqDiff, false_and, and_false, true_and, and_true, or_true, true_or, or_false, false_or, not_true_eq_false, not_false_eq_true, ↓reduceIte, eq_self, ne_eq, ti_eq, ti_le, ti_lt, ti_ite, Int32.reduceToInt, ta_add, ta_sub, ta_mul, ta_neg, ta_div]; omega)))) | (with_reducible refine wi_ifn ?_ ?_; (focus (first | omega | (simp (disch := (first | omega | (simp (disch := first | omega | (simp only [Int32.reduceToInt]; omega)) only [Int32.reduceToInt, ta_add, ta_sub, ta_mul, ta_neg, ta_div]; omega))) only [up_1, cp_1, rng_1, fn_1, dj_1, Nat.reduceEqDiff, false_and, and_false, true_and, and_true, or_true, true_or, or_false, false_or, not_true_eq_false, not_false_eq_true, ↓reduceIte, eq_self, ne_eq, ti_eq, ti_le, ti_lt, ti_ite, Int32.reduceToInt, ta_add, ta_sub, ta_mul, ta_neg, ta_div]; done) | (simp (disch := (first | omega | (simp (disch := first | omega | (simp only [Int32.reduceToInt]; omega)) only [Int32.reduceToInt, ta_add, ta_sub, ta_mul, ta_neg, ta_div]; omega))) only [up_1, cp_1, rng_1, fn_1, dj_1, Nat.reduceEqDiff, false_and, and_false, true_and, and_true, or_true, true_or, or_false, false_or, not_true_eq_false, not_false_eq_true, ↓reduceIte, eq_self, ne_eq, ti_eq, ti_le, ti_lt, ti_ite, Int32.reduceToInt, ta_add, ta_sub, ta_mul, ta_neg, ta_div]; omega)))) | (with_reducible refine wi_ck ?_ ?_; (focus (first | omega | (simp (disch := (first | omega | (simp (disch := first | omega | (simp only [Int32.reduceToInt]; omega)) only [Int32.reduceToInt, ta_add, ta_sub, ta_mul, ta_neg, ta_div]; omega))) only [up_1, cp_1, rng_1, fn_1, dj_1, Nat.reduceEqDiff, false_and, and_false, true_and, and_true, or_true, true_or, or_false, false_or, not_true_eq_false, not_false_eq_true, ↓reduceIte, eq_self, ne_eq, ti_eq, ti_le, ti_lt, ti_ite, Int32.reduceToInt, ta_add, ta_sub, ta_mul, ta_neg, ta_div]; done) | (simp (disch := (first | omega | (simp (disch := first | omega | (simp only [Int32.reduceToInt]; omega)) only [Int32.reduceToInt, ta_add, ta_sub, ta_mul, ta_neg, ta_div]; omega))) only [up_1, cp_1, rng_1, fn_1, dj_1, Nat.reduceEqDiff, false_and, and_false, true_and, and_true, or_true, true_or, or_false, false_or, not_true_eq_false, not_false_eq_true, ↓reduceIte, eq_self, ne_eq, ti_eq, ti_le, ti_lt, ti_ite, Int32.reduceToInt, ta_add, ta_sub, ta_mul, ta_neg, ta_div]; omega)))) | with_reducible refine wi_bd2 ?_ | with_reducible refine wi_bd1 ?_ | with_reducible refine wi_bd3 ?_ | (with_reducible refine wi_some ?_; try dsimp only) | unfold f_X6_init | unfold f_X8_init))
  have q := e_opC (n := n) (F := pyF (d.1 (2 + ix_n x)) N y) (R := R) (d4 := ix_di d3 z.2.2 3 y) hz hm (by decide) h4 (fun a k hh => by rw [up_1, if_neg (by omega)]) (by rw [up_1, if_pos ⟨rfl, rfl⟩]) rfl hcw hn0 hn3 hit hdr hR hR6 pyF_n (by
    intro d1 k0 k1 k2 k3
    have hJ := lf_g (R := R) hlf
    unfold v_RX11_418
    rw [ds6 f2]
    refine lf_w ?_
    have w := e_liP (n := n) (c := d1) k0 hn (rc := z.2.2) (ia := z.2.2 + 1) (N := N) ⟨by omega, by rw [f2]; decide⟩ hz3 f3 (by omega) (by omega) f4 hN2 k3 (fun j hj => by rw [k1 j hj]; exact hJ j hj)
    rw [pyF_c k1, k2] at w
    exact wp_m w fun c' ⟨m, b1, b2, b3⟩ => ⟨zx_r, ⟨m, by omega, b2⟩, fz_m (fz_of b3) (fun a k q => Or.inl q)⟩)
  obtain ⟨t, E4, ht⟩ := q
  refine ⟨t, ?_, ht⟩
  have z0 : (0 : Int32) = 0 := rfl
  rw [← wp_eq]
  (repeat (first | (with_reducible refine wi_e (E1) ?_; try dsimp only) | with_reducible refine wi_ifp z0 ?_ | with_reducible refine wi_ck k10 ?_ | (with_reducible refine wi_e (E2) ?_; try dsimp only) | (with_reducible refine wi_e (E3) ?_; try dsimp only) | with_reducible refine wi_ck k10' ?_ | (with_reducible refine wi_e (E4) ?_; try dsimp only) | with_reducible refine wi_t (ly_o0 hz) ?_ | with_reducible refine wi_lt ?_ | (with_reducible refine wi_ifp ?_ ?_; (focus (first | omega | (simp (disch := (first | omega | (simp (disch := first | omega | (simp only [Int32.reduceToInt]; omega)) only [Int32.reduceToInt, ta_add, ta_sub, ta_mul, ta_neg, ta_div]; omega))) only [up_1, cp_1, rng_1, fn_1, dj_1, Nat.reduceEqDiff, false_and, and_false, true_and, and_true, or_true, true_or, or_false, false_or, not_true_eq_false, not_false_eq_true, ↓reduceIte, eq_self, ne_eq, ti_eq, ti_le, ti_lt, ti_ite, Int32.reduceToInt, ta_add, ta_sub, ta_mul, ta_neg, ta_div]; done) | (simp (disch := (first | omega | (simp (disch := first | omega | (simp only [Int32.reduceToInt]; omega)) only [Int32.reduceToInt, ta_add, ta_sub, ta_mul, ta_neg, ta_div]; omega))) only [up_1, cp_1, rng_1, fn_1, dj_1, Nat.reduceEqDiff, false_and, and_false, true_and, and_true, or_true, true_or, or_false, false_or, not_true_eq_false, not_false_eq_true, ↓reduceIte, eq_self, ne_eq, ti_eq, ti_le, ti_lt, ti_ite, Int32.reduceToInt, ta_add, ta_sub, ta_mul, ta_neg, ta_div]; omega)))) | (with_reducible refine wi_ifn ?_ ?_; (focus (first | omega | (simp (disch := (first | omega | (simp (disch := first | omega | (simp only [Int32.reduceToInt]; omega)) only [Int32.reduceToInt, ta_add, ta_sub, ta_mul, ta_neg, ta_div]; omega))) only [up_1, cp_1, rng_1, fn_1, dj_1, Nat.reduceEqDiff, false_and, and_false, true_and, and_true, or_true, true_or, or_false, false_or, not_true_eq_false, not_false_eq_true, ↓reduceIte, eq_self, ne_eq, ti_eq, ti_le, ti_lt, ti_ite, Int32.reduceToInt, ta_add, ta_sub, ta_mul, ta_neg, ta_div]; done) | (simp (disch := (first | omega | (simp (disch := first | omega | (simp only [Int32.reduceToInt]; omega)) only [Int32.reduceToInt, ta_add, ta_sub, ta_mul, ta_neg, ta_div]; omega))) only [up_1, cp_1, rng_1, fn_1, dj_1, Nat.reduceEqDiff, false_and, and_false, true_and, and_true, or_true, true_or, or_false, false_or, not_true_eq_false, not_false_eq_true, ↓reduceIte, eq_self, ne_eq, ti_eq, ti_le, ti_lt, ti_ite, Int32.reduceToInt, ta_add, ta_sub, ta_mul, ta_neg, ta_div]; omega)))) | (with_reducible refine wi_ck ?_ ?_; (focus (first | omega | (simp (disch := (first | omega | (simp (disch := first | omega | (simp only [Int32.reduceToInt]; omega)) only [Int32.reduceToInt, ta_add, ta_sub, ta_mul, ta_neg, ta_div]; omega))) only [up_1, cp_1, rng_1, fn_1, dj_1, Nat.reduceEqDiff, false_and, and_false, true_and, and_true, or_true, true_or, or_false, false_or, not_true_eq_false, not_false_eq_true, ↓reduceIte, eq_self, ne_eq, ti_eq, ti_le, ti_lt, ti_ite, Int32.reduceToInt, ta_add, ta_sub, ta_mul, ta_neg, ta_div]; done) | (simp (disch := (first | omega | (simp (disch := first | omega | (simp only [Int32.reduceToInt]; omega)) only [Int32.reduceToInt, ta_add, ta_sub, ta_mul, ta_neg, ta_div]; omega))) only [up_1, cp_1, rng_1, fn_1, dj_1, Nat.reduceEqDiff, false_and, and_false, true_and, and_true, or_true, true_or, or_false, false_or, not_true_eq_false, not_false_eq_true, ↓reduceIte, eq_self, ne_eq, ti_eq, ti_le, ti_lt, ti_ite, Int32.reduceToInt, ta_add, ta_sub, ta_mul, ta_neg, ta_div]; omega)))) | with_reducible refine wi_bd2 ?_ | with_reducible refine wi_bd1 ?_ | with_reducible refine wi_bd3 ?_ | (with_reducible refine wi_some ?_; try dsimp only) | unfold f_X11_parity))
theorem e_atmC (hn : 100 ≤ n) (h : RH_ z d x N R) (hk : k ≤ 12) (hy : y.toInt = k) : wp_t (f_X11_atMost n z 0 x y d) (PC_ z d (amF (d.1 (2 + ix_n x)) N k) R N 0 (d.1 (2 + ix_n x)) y) := by
  obtain ⟨hz, ipap, a1, a2, hN, hN2, hcw, hn0, hn3, hit, hdr, hR, hR6, hlf⟩ := h
  have E1 := e_lI (n := n) hz hn ipap a1 a2 (by omega)
  rw [show ix_n (d.1 128 (ix_n x)) = N from ni_k hN, hlf] at E1
  obtain ⟨z3, d3, E2, hm⟩ := e_mk (n := n) (kd := 0) (len := 4) hz ipap a1 a2 hN
  obtain ⟨z4, h4⟩ : ∃ z4, z4 = ix_zr z3 z.2.2 0 (some (z.2.2 + 1)) := ⟨_, rfl⟩
  obtain ⟨f1, f2, f3, f4, f5, f6⟩ := z4_f hz hm h4
  have hz3 := hz.2.2
  have m1 := hm.1
  have m4 := hm.2.2.2.1
  have ko : ix_ok z3 [0, 3, 5, 6, 9] z.2.2 := ⟨by omega, by rw [m4]; decide⟩
  have ko4 : ix_ok z4 [0, 5] z.2.2 := ⟨by omega, by rw [f2]; decide⟩
  have k10 : ix_ok (ix_zn z 0 4) [10] 0 := of_eq_true (ly_o0 (zn_ly hz))
  have k10' : ix_ok z4 [10] 0 := of_eq_true (ly_o0 f6)
  have E3 : f_X0_init n z3 z.2.2 (z.2.2 + 1) y d3 = some (z4, ix_di d3 z.2.2 3 y) := by
    rw [← wp_eq]
    (repeat (first | with_reducible refine wi_ck ko ?_ | rw [← h4] | with_reducible refine wi_ck ko4 ?_ | with_reducible refine wi_t (ly_o0 hz) ?_ | with_reducible refine wi_lt ?_ | (with_reducible refine wi_ifp ?_ ?_; (focus (first | omega | (simp (disch := (first | omega | (simp (disch := first | omega | (simp only [Int32.reduceToInt]; omega)) only [Int32.reduceToInt, ta_add, ta_sub, ta_mul, ta_neg, ta_div]; omega))) only [up_1, cp_1, rng_1, fn_1, dj_1, Nat.reduceEqDiff, false_and, and_false, true_and, and_true, or_true, true_or, or_false, false_or, not_true_eq_false, not_false_eq_true, ↓reduceIte, eq_self, ne_eq, ti_eq, ti_le, ti_lt, ti_ite, Int32.reduceToInt, ta_add, ta_sub, ta_mul, ta_neg, ta_div]; done) | (simp (disch := (first | omega | (simp (disch := first | omega | (simp only [Int32.reduceToInt]; omega)) only [Int32.reduceToInt, ta_add, ta_sub, ta_mul, ta_neg, ta_div]; omega))) only [up_1, cp_1, rng_1, fn_1, dj_1, Nat.reduceEqDiff, false_and, and_false, true_and, and_true, or_true, true_or, or_false, false_or, not_true_eq_false, not_false_eq_true, ↓reduceIte, eq_self, ne_eq, ti_eq, ti_le, ti_lt, ti_ite, Int32.reduceToInt, ta_add, ta_sub, ta_mul, ta_neg, ta_div]; omega)))) | (with_reducible refine wi_ifn ?_ ?_; (focus (first | omega | (simp (disch := (first | omega | (simp (disch := first | omega | (simp only [Int32.reduceToInt]; omega)) only [Int32.reduceToInt, ta_add, ta_sub, ta_mul, ta_neg, ta_div]; omega))) only [up_1, cp_1, rng_1, fn_1, dj_1, Nat.reduceEqDiff, false_and, and_false, true_and, and_true, or_true, true_or, or_false, false_or, not_true_eq_false, not_false_eq_true, ↓reduceIte, eq_self, ne_eq, ti_eq, ti_le, ti_lt, ti_ite, Int32.reduceToInt, ta_add, ta_sub, ta_mul, ta_neg, ta_div]; done) | (simp (disch := (first | omega | (simp (disch := first | omega | (simp only [Int32.reduceToInt]; omega)) only [Int32.reduceToInt, ta_add, ta_sub, ta_mul, ta_neg, ta_div]; omega))) only [up_1, cp_1, rng_1, fn_1, dj_1, Nat.reduceEqDiff, false_and, and_false, true_and, and_true, or_true, true_or, or_false, false_or, not_true_eq_false, not_false_eq_true, ↓reduceIte, eq_self, ne_eq, ti_eq, ti_le, ti_lt, ti_ite, Int32.reduceToInt, ta_add, ta_sub, ta_mul, ta_neg, ta_div]; omega)))) | (with_reducible refine wi_ck ?_ ?_; (focus (first | omega | (simp (disch := (first | omega | (simp (disch := first | omega | (simp only [Int32.reduceToInt]; omega)) only [Int32.reduceToInt, ta_add, ta_sub, ta_mul, ta_neg, ta_div]; omega))) only [up_1, cp_1, rng_1, fn_1, dj_1, Nat.reduceEqDiff, false_and, and_false, true_and, and_true, or_true, true_or, or_false, false_or, not_true_eq_false, not_false_eq_true, ↓reduceIte, eq_self, ne_eq, ti_eq, ti_le, ti_lt, ti_ite, Int32.reduceToInt, ta_add, ta_sub, ta_mul, ta_neg, ta_div]; done) | (simp (disch := (first | omega | (simp (disch := first | omega | (simp only [Int32.reduceToInt]; omega)) only [Int32.reduceToInt, ta_add, ta_sub, ta_mul, ta_neg, ta_div]; omega))) only [up_1, cp_1, rng_1, fn_1, dj_1, Nat.reduceEqDiff, false_and, and_false, true_and, and_true, or_true, true_or, or_false, false_or, not_true_eq_false, not_false_eq_true, ↓reduceIte, eq_self, ne_eq, ti_eq, ti_le, ti_lt, ti_ite, Int32.reduceToInt, ta_add, ta_sub, ta_mul, ta_neg, ta_div]; omega)))) | with_reducible refine wi_bd2 ?_ | with_reducible refine wi_bd1 ?_ | with_reducible refine wi_bd3 ?_ | (with_reducible refine wi_some ?_; try dsimp only) | unfold f_X0_init | unfold f_X3_init | unfold f_X8_init))
  have q := e_opC (n := n) (F := amF (d.1 (2 + ix_n x)) N k) (R := R) (d4 := ix_di d3 z.2.2 3 y) hz hm (by decide) h4 (fun a k hh => by rw [up_1, if_neg (by omega)]) (by rw [up_1, if_pos ⟨rfl, rfl⟩]) rfl hcw hn0 hn3 hit hdr hR hR6 amF_n (by
    intro d1 k0 k1 k2 k3
    have hJ := lf_g (R := R) hlf
    unfold v_RX11_418
    rw [ds0 f2]
    have w := e_liA (n := n) (c := d1) k0 hn (rc := z.2.2) (ia := z.2.2 + 1) (N := N) (k := k) ⟨by omega, by rw [f2]; decide⟩ hz3 f3 (by omega) (by omega) f4 hN2 hk (by rw [k2]; exact hy) k3 (fun j hj => by rw [k1 j hj]; exact hJ j hj)
    rw [amF_c k1] at w
    exact wp_m w fun c' ⟨b1, b2, b3⟩ => ⟨by rw [b1]; exact zx_n, b2, b3⟩)
  obtain ⟨t, E4, ht⟩ := q
  refine ⟨t, ?_, ht⟩
  have z0 : (0 : Int32) = 0 := rfl
  rw [← wp_eq]
  (repeat (first | (with_reducible refine wi_e (E1) ?_; try dsimp only) | with_reducible refine wi_ifp z0 ?_ | with_reducible refine wi_ck k10 ?_ | (with_reducible refine wi_e (E2) ?_; try dsimp only) | (with_reducible refine wi_e (E3) ?_; try dsimp only) | with_reducible refine wi_ck k10' ?_ | (with_reducible refine wi_e (E4) ?_; try dsimp only) | with_reducible refine wi_t (ly_o0 hz) ?_ | with_reducible refine wi_lt ?_ | (with_reducible refine wi_ifp ?_ ?_; (focus (first | omega | (simp (disch := (first | omega | (simp (disch := first | omega | (simp only [Int32.reduceToInt]; omega)) only [Int32.reduceToInt, ta_add, ta_sub, ta_mul, ta_neg, ta_div]; omega))) only [up_1, cp_1, rng_1, fn_1, dj_1, Nat.reduceEqDiff, false_and, and_false, true_and, and_true, or_true, true_or, or_false, false_or, not_true_eq_false, not_false_eq_true, ↓reduceIte, eq_self, ne_eq, ti_eq, ti_le, ti_lt, ti_ite, Int32.reduceToInt, ta_add, ta_sub, ta_mul, ta_neg, ta_div]; done) | (simp (disch := (first | omega | (simp (disch := first | omega | (simp only [Int32.reduceToInt]; omega)) only [Int32.reduceToInt, ta_add, ta_sub, ta_mul, ta_neg, ta_div]; omega))) only [up_1, cp_1, rng_1, fn_1, dj_1, Nat.reduceEqDiff, false_and, and_false, true_and, and_true, or_true, true_or, or_false, false_or, not_true_eq_false, not_false_eq_true, ↓reduceIte, eq_self, ne_eq, ti_eq, ti_le, ti_lt, ti_ite, Int32.reduceToInt, ta_add, ta_sub, ta_mul, ta_neg, ta_div]; omega)))) | (with_reducible refine wi_ifn ?_ ?_; (focus (first | omega | (simp (disch := (first | omega | (simp (disch := first | omega | (simp only [Int32.reduceToInt]; omega)) only [Int32.reduceToInt, ta_add, ta_sub, ta_mul, ta_neg, ta_div]; omega))) only [up_1, cp_1, rng_1, fn_1, dj_1, Nat.reduceEqDiff, false_and, and_false, true_and, and_true, or_true, true_or, or_false, false_or, not_true_eq_false, not_false_eq_true, ↓reduceIte, eq_self, ne_eq, ti_eq, ti_le, ti_lt, ti_ite, Int32.reduceToInt, ta_add, ta_sub, ta_mul, ta_neg, ta_div]; done) | (simp (disch := (first | omega | (simp (disch := first | omega | (simp only [Int32.reduceToInt]; omega)) only [Int32.reduceToInt, ta_add, ta_sub, ta_mul, ta_neg, ta_div]; omega))) only [up_1, cp_1, rng_1, fn_1, dj_1, Nat.reduceEqDiff, false_and, and_false, true_and, and_true, or_true, true_or, or_false, false_or, not_true_eq_false, not_false_eq_true, ↓reduceIte, eq_self, ne_eq, ti_eq, ti_le, ti_lt, ti_ite, Int32.reduceToInt, ta_add, ta_sub, ta_mul, ta_neg, ta_div]; omega)))) | (with_reducible refine wi_ck ?_ ?_; (focus (first | omega | (simp (disch := (first | omega | (simp (disch := first | omega | (simp only [Int32.reduceToInt]; omega)) only [Int32.reduceToInt, ta_add, ta_sub, ta_mul, ta_neg, ta_div]; omega))) only [up_1, cp_1, rng_1, fn_1, dj_1, Nat.reduceEqDiff, false_and, and_false, true_and, and_true, or_true, true_or, or_false, false_or, not_true_eq_false, not_false_eq_true, ↓reduceIte, eq_self, ne_eq, ti_eq, ti_le, ti_lt, ti_ite, Int32.reduceToInt, ta_add, ta_sub, ta_mul, ta_neg, ta_div]; done) | (simp (disch := (first | omega | (simp (disch := first | omega | (simp only [Int32.reduceToInt]; omega)) only [Int32.reduceToInt, ta_add, ta_sub, ta_mul, ta_neg, ta_div]; omega))) only [up_1, cp_1, rng_1, fn_1, dj_1, Nat.reduceEqDiff, false_and, and_false, true_and, and_true, or_true, true_or, or_false, false_or, not_true_eq_false, not_false_eq_true, ↓reduceIte, eq_self, ne_eq, ti_eq, ti_le, ti_lt, ti_ite, Int32.reduceToInt, ta_add, ta_sub, ta_mul, ta_neg, ta_div]; omega)))) | with_reducible refine wi_bd2 ?_ | with_reducible refine wi_bd1 ?_ | with_reducible refine wi_bd3 ?_ | (with_reducible refine wi_some ?_; try dsimp only) | unfold f_X11_atMost))
theorem e_grpC (hn : 100 ≤ n) (h : RH_ z d x N R) (hk : k ≤ 12) (hy : y.toInt = k) : wp_t (f_X11_group n z 0 x y d) (PC_ z d (gpF (d.1 (2 + ix_n x)) N k) R N 5 (d.1 (2 + ix_n x)) y) := by
  obtain ⟨hz, ipap, a1, a2, hN, hN2, hcw, hn0, hn3, hit, hdr, hR, hR6, hlf⟩ := h
  have E1 := e_lI (n := n) hz hn ipap a1 a2 (by omega)
  rw [show ix_n (d.1 128 (ix_n x)) = N from ni_k hN, hlf] at E1
  obtain ⟨z3, d3, E2, hm⟩ := e_mk (n := n) (kd := 5) (len := 4) hz ipap a1 a2 hN
  obtain ⟨z4, h4⟩ : ∃ z4, z4 = ix_zr z3 z.2.2 0 (some (z.2.2 + 1)) := ⟨_, rfl⟩
  obtain ⟨f1, f2, f3, f4, f5, f6⟩ := z4_f hz hm h4
  have hz3 := hz.2.2
  have m1 := hm.1
  have m4 := hm.2.2.2.1
  have ko : ix_ok z3 [0, 3, 5, 6, 9] z.2.2 := ⟨by omega, by rw [m4]; decide⟩
  have ko4 : ix_ok z4 [0, 5] z.2.2 := ⟨by omega, by rw [f2]; decide⟩
  have k10 : ix_ok (ix_zn z 5 4) [10] 0 := of_eq_true (ly_o0 (zn_ly hz))
  have k10' : ix_ok z4 [10] 0 := of_eq_true (ly_o0 f6)
  have E3 : f_X5_init n z3 z.2.2 (z.2.2 + 1) y d3 = some (z4, ix_di d3 z.2.2 3 y) := by
    rw [← wp_eq]
    (repeat (first | with_reducible refine wi_ck ko ?_ | rw [← h4] | with_reducible refine wi_ck ko4 ?_ | with_reducible refine wi_t (ly_o0 hz) ?_ | with_reducible refine wi_lt ?_ | (with_reducible refine wi_ifp ?_ ?_; (focus (first | omega | (simp (disch := (first | omega | (simp (disch := first | omega | (simp only [Int32.reduceToInt]; omega)) only [Int32.reduceToInt, ta_add, ta_sub, ta_mul, ta_neg, ta_div]; omega))) only [up_1, cp_1, rng_1, fn_1, dj_1, Nat.reduceEqDiff, false_and, and_false, true_and, and_true, or_true, true_or, or_false, false_or, not_true_eq_false, not_false_eq_true, ↓reduceIte, eq_self, ne_eq, ti_eq, ti_le, ti_lt, ti_ite, Int32.reduceToInt, ta_add, ta_sub, ta_mul, ta_neg, ta_div]; done) | (simp (disch := (first | omega | (simp (disch := first | omega | (simp only [Int32.reduceToInt]; omega)) only [Int32.reduceToInt, ta_add, ta_sub, ta_mul, ta_neg, ta_div]; omega))) only [up_1, cp_1, rng_1, fn_1, dj_1, Nat.reduceEqDiff, false_and, and_false, true_and, and_true, or_true, true_or, or_false, false_or, not_true_eq_false, not_false_eq_true, ↓reduceIte, eq_self, ne_eq, ti_eq, ti_le, ti_lt, ti_ite, Int32.reduceToInt, ta_add, ta_sub, ta_mul, ta_neg, ta_div]; omega)))) | (with_reducible refine wi_ifn ?_ ?_; (focus (first | omega | (simp (disch := (first | omega | (simp (disch := first | omega | (simp only [Int32.reduceToInt]; omega)) only [Int32.reduceToInt, ta_add, ta_sub, ta_mul, ta_neg, ta_div]; omega))) only [up_1, cp_1, rng_1, fn_1, dj_1, Nat.reduceEqDiff, false_and, and_false, true_and, and_true, or_true, true_or, or_false, false_or, not_true_eq_false, not_false_eq_true, ↓reduceIte, eq_self, ne_eq, ti_eq, ti_le, ti_lt, ti_ite, Int32.reduceToInt, ta_add, ta_sub, ta_mul, ta_neg, ta_div]; done) | (simp (disch := (first | omega | (simp (disch := first | omega | (simp only [Int32.reduceToInt]; omega)) only [Int32.reduceToInt, ta_add, ta_sub, ta_mul, ta_neg, ta_div]; omega))) only [up_1, cp_1, rng_1, fn_1, dj_1, Nat.reduceEqDiff, false_and, and_false, true_and, and_true, or_true, true_or, or_false, false_or, not_true_eq_false, not_false_eq_true, ↓reduceIte, eq_self, ne_eq, ti_eq, ti_le, ti_lt, ti_ite, Int32.reduceToInt, ta_add, ta_sub, ta_mul, ta_neg, ta_div]; omega)))) | (with_reducible refine wi_ck ?_ ?_; (focus (first | omega | (simp (disch := (first | omega | (simp (disch := first | omega | (simp only [Int32.reduceToInt]; omega)) only [Int32.reduceToInt, ta_add, ta_sub, ta_mul, ta_neg, ta_div]; omega))) only [up_1, cp_1, rng_1, fn_1, dj_1, Nat.reduceEqDiff, false_and, and_false, true_and, and_true, or_true, true_or, or_false, false_or, not_true_eq_false, not_false_eq_true, ↓reduceIte, eq_self, ne_eq, ti_eq, ti_le, ti_lt, ti_ite, Int32.reduceToInt, ta_add, ta_sub, ta_mul, ta_neg, ta_div]; done) | (simp (disch := (first | omega | (simp (disch := first | omega | (simp only [Int32.reduceToInt]; omega)) only [Int32.reduceToInt, ta_add, ta_sub, ta_mul, ta_neg, ta_div]; omega))) only [up_1, cp_1, rng_1, fn_1, dj_1, Nat.reduceEqDiff, false_and, and_false, true_and, and_true, or_true, true_or, or_false, false_or, not_true_eq_false, not_false_eq_true, ↓reduceIte, eq_self, ne_eq, ti_eq, ti_le, ti_lt, ti_ite, Int32.reduceToInt, ta_add, ta_sub, ta_mul, ta_neg, ta_div]; omega)))) | with_reducible refine wi_bd2 ?_ | with_reducible refine wi_bd1 ?_ | with_reducible refine wi_bd3 ?_ | (with_reducible refine wi_some ?_; try dsimp only) | unfold f_X5_init | unfold f_X0_init | unfold f_X3_init | unfold f_X8_init))
  have q := e_opC (n := n) (F := gpF (d.1 (2 + ix_n x)) N k) (R := R) (d4 := ix_di d3 z.2.2 3 y) hz hm (by decide) h4 (fun a k hh => by rw [up_1, if_neg (by omega)]) (by rw [up_1, if_pos ⟨rfl, rfl⟩]) rfl hcw hn0 hn3 hit hdr hR hR6 gpF_n (by
    intro d1 k0 k1 k2 k3
    have hJ := lf_g (R := R) hlf
    unfold v_RX11_418
    rw [ds5 f2]
    have w := e_liG (n := n) (c := d1) k0 hn (rc := z.2.2) (ia := z.2.2 + 1) (N := N) (k := k) ⟨by omega, by rw [f2]; decide⟩ hz3 f3 (by omega) (by omega) f4 hN2 hk (by rw [k2]; exact hy) k3 (fun j hj => by rw [k1 j hj]; exact hJ j hj)
    rw [gpF_c k1] at w
    exact wp_m w fun c' ⟨b1, b2, b3⟩ => ⟨by rw [b1]; exact zx_n, b2, b3⟩)
  obtain ⟨t, E4, ht⟩ := q
  refine ⟨t, ?_, ht⟩
  have z0 : (0 : Int32) = 0 := rfl
  rw [← wp_eq]
  (repeat (first | (with_reducible refine wi_e (E1) ?_; try dsimp only) | with_reducible refine wi_ifp z0 ?_ | with_reducible refine wi_ck k10 ?_ | (with_reducible refine wi_e (E2) ?_; try dsimp only) | (with_reducible refine wi_e (E3) ?_; try dsimp only) | with_reducible refine wi_ck k10' ?_ | (with_reducible refine wi_e (E4) ?_; try dsimp only) | with_reducible refine wi_t (ly_o0 hz) ?_ | with_reducible refine wi_lt ?_ | (with_reducible refine wi_ifp ?_ ?_; (focus (first | omega | (simp (disch := (first | omega | (simp (disch := first | omega | (simp only [Int32.reduceToInt]; omega)) only [Int32.reduceToInt, ta_add, ta_sub, ta_mul, ta_neg, ta_div]; omega))) only [up_1, cp_1, rng_1, fn_1, dj_1, Nat.reduceEqDiff, false_and, and_false, true_and, and_true, or_true, true_or, or_false, false_or, not_true_eq_false, not_false_eq_true, ↓reduceIte, eq_self, ne_eq, ti_eq, ti_le, ti_lt, ti_ite, Int32.reduceToInt, ta_add, ta_sub, ta_mul, ta_neg, ta_div]; done) | (simp (disch := (first | omega | (simp (disch := first | omega | (simp only [Int32.reduceToInt]; omega)) only [Int32.reduceToInt, ta_add, ta_sub, ta_mul, ta_neg, ta_div]; omega))) only [up_1, cp_1, rng_1, fn_1, dj_1, Nat.reduceEqDiff, false_and, and_false, true_and, and_true, or_true, true_or, or_false, false_or, not_true_eq_false, not_false_eq_true, ↓reduceIte, eq_self, ne_eq, ti_eq, ti_le, ti_lt, ti_ite, Int32.reduceToInt, ta_add, ta_sub, ta_mul, ta_neg, ta_div]; omega)))) | (with_reducible refine wi_ifn ?_ ?_; (focus (first | omega | (simp (disch := (first | omega | (simp (disch := first | omega | (simp only [Int32.reduceToInt]; omega)) only [Int32.reduceToInt, ta_add, ta_sub, ta_mul, ta_neg, ta_div]; omega))) only [up_1, cp_1, rng_1, fn_1, dj_1, Nat.reduceEqDiff, false_and, and_false, true_and, and_true, or_true, true_or, or_false, false_or, not_true_eq_false, not_false_eq_true, ↓reduceIte, eq_self, ne_eq, ti_eq, ti_le, ti_lt, ti_ite, Int32.reduceToInt, ta_add, ta_sub, ta_mul, ta_neg, ta_div]; done) | (simp (disch := (first | omega | (simp (disch := first | omega | (simp only [Int32.reduceToInt]; omega)) only [Int32.reduceToInt, ta_add, ta_sub, ta_mul, ta_neg, ta_div]; omega))) only [up_1, cp_1, rng_1, fn_1, dj_1, Nat.reduceEqDiff, false_and, and_false, true_and, and_true, or_true, true_or, or_false, false_or, not_true_eq_false, not_false_eq_true, ↓reduceIte, eq_self, ne_eq, ti_eq, ti_le, ti_lt, ti_ite, Int32.reduceToInt, ta_add, ta_sub, ta_mul, ta_neg, ta_div]; omega)))) | (with_reducible refine wi_ck ?_ ?_; (focus (first | omega | (simp (disch := (first | omega | (simp (disch := first | omega | (simp only [Int32.reduceToInt]; omega)) only [Int32.reduceToInt, ta_add, ta_sub, ta_mul, ta_neg, ta_div]; omega))) only [up_1, cp_1, rng_1, fn_1, dj_1, Nat.reduceEqDiff, false_and, and_false, true_and, and_true, or_true, true_or, or_false, false_or, not_true_eq_false, not_false_eq_true, ↓reduceIte, eq_self, ne_eq, ti_eq, ti_le, ti_lt, ti_ite, Int32.reduceToInt, ta_add, ta_sub, ta_mul, ta_neg, ta_div]; done) | (simp (disch := (first | omega | (simp (disch := first | omega | (simp only [Int32.reduceToInt]; omega)) only [Int32.reduceToInt, ta_add, ta_sub, ta_mul, ta_neg, ta_div]; omega))) only [up_1, cp_1, rng_1, fn_1, dj_1, Nat.reduceEqDiff, false_and, and_false, true_and, and_true, or_true, true_or, or_false, false_or, not_true_eq_false, not_false_eq_true, ↓reduceIte, eq_self, ne_eq, ti_eq, ti_le, ti_lt, ti_ite, Int32.reduceToInt, ta_add, ta_sub, ta_mul, ta_neg, ta_div]; omega)))) | with_reducible refine wi_bd2 ?_ | with_reducible refine wi_bd1 ?_ | with_reducible refine wi_bd3 ?_ | (with_reducible refine wi_some ?_; try dsimp only) | unfold f_X11_group))
end ROQ

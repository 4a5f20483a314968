/-! TOLD on both sides: the three roads -/
section TLS
variable {n : Nat} {z : ix_Z} {d c1 r1 c2 : ix_D2} {w x : Int32} {M R K : Nat} {t : Int32 × ix_Z × ix_D2} {u : Int32 × ix_D2}
/-- the invariants behind the reading -/
theorem tj_c (hz : ly_z z) (oo : ∀ a k, ¬ ((47 ≤ a ∧ a ≤ 50) ∨ a = 43) → c2.1 a k = d.1 a k) (ist : iv_st d.1) (inm : iv_nm d.1) (igo : iv_go d.1) (ics : iv_cs d.1) (iru : iv_ru z d.1) (idr : iv_dr d.1) : iv_st c2.1 ∧ iv_nm c2.1 ∧ iv_go c2.1 ∧ iv_cs c2.1 ∧ iv_ru z c2.1 ∧ iv_dr c2.1 := by
  refine ⟨?_, ?_, ?_, ?_, ⟨?_, ?_, ?_, fun i hi => ?_⟩, ?_⟩
  · unfold iv_st; rw [oo _ _ (by omega), oo _ _ (by omega)]; exact ist
  · unfold iv_nm; rw [oo _ _ (by omega), oo _ _ (by omega)]; exact inm
  · unfold iv_go; rw [oo _ _ (by omega), oo _ _ (by omega)]; exact igo
  · unfold iv_cs cw_ rw_ok
    rw [show c2.1 52 = d.1 52 from funext fun k => oo _ _ (by omega), show c2.1 53 = d.1 53 from funext fun k => oo _ _ (by omega), show c2.1 54 = d.1 54 from funext fun k => oo _ _ (by omega), oo 125 23 (by omega), oo 125 1 (by omega), show c2.1 143 = d.1 143 from funext fun k => oo _ _ (by omega), show c2.1 144 = d.1 144 from funext fun k => oo _ _ (by omega)]
    exact ics
  · rw [oo _ _ (by omega), oo _ _ (by omega)]; exact iru.1
  · rw [oo _ _ (by omega)]; exact iru.2.1
  · rw [oo _ _ (by omega)]; exact iru.2.2.1
  · rw [oo _ _ (by omega)] at hi
    obtain ⟨c, N, hg⟩ := iru.2.2.2 i hi
    exact ⟨c, N, RG_x hg (Nat.le_refl _) rfl (fun _ _ => rfl) (fun _ _ _ _ => rfl) (fun a k l1 l2 => oo a k (by omega)) (fun a ha => oo _ _ (by omega)) (fun j hj => oo _ _ (by omega)) (by rw [oo _ _ (by omega)]; exact Int.le_refl _)⟩
  · show c2.1 51 10 = 0
    rw [oo _ _ (by omega)]; exact idr
/-- the told rules behind a told one -/
theorem to_new {g : Nat → Int32} {w3 : Int32} {T T' : Nat → Nat × Nat × Nat × Int32} {N : Nat} {r0 : ix_D2} (hz : ly_z z) (hK : K ≤ 60) (hM : M ≤ 60) (oo : ∀ a k, ¬ ((47 ≤ a ∧ a ≤ 50) ∨ a = 43) → c2.1 a k = d.1 a k) (iru : iv_ru z d.1) (itt : iv_tt z d.1) (itd : iv_td z d.1) (hR : (d.1 125 11).toInt = R) (ht : PC_ z c2 (toF T K) R N 9 g w3 t) (hx : TX_ z c2 t M K) (hl : RL_ z d t u) (hu : PRT_ (aC_ c2.1) r0 (toF T K) R N M (pP T' K) u) (er : ∀ a k, ¬ (fT_R a k ∨ (a = 125 ∧ k = 8)) → r0.1 a k = t.2.2.1 a k) (htp : ∀ i, i < M → c2.1 44 i &&& 255 = d.1 130 i) (hTA : TA_ T' K (c2.1 47) (r0.1 154) (r0.1 151)) (hD : pD T' K = 1) (hP : pP T' K ≤ 60) (hI : pI T' K = N) (hN : N ≤ 30) : iv_tt t.2.1 u.2.1 ∧ iv_td t.2.1 u.2.1 := by
  have hz3 := hz.2.2
  obtain ⟨-, -, -, -, -, -, -, -, -, fz, ro, -⟩ := hl
  obtain ⟨x1, x2, x3, x4, x5, x6, x7, x8, x9⟩ := hx
  obtain ⟨u1, u2⟩ := hu
  have c130 : ∀ j, r0.1 130 j = d.1 130 j := fun j => by
    rw [er _ _ (by unfold fT_R; omega), (ht.2.1 130 j (by unfold fN_ fL_C; omega)).1]; exact oo _ _ (by omega)
  have cu : ∀ a k, 199 ≤ a → u.2.1 a k = t.2.2.1 a k := fun a k h => by
    rw [u1.1 a k (by unfold fGT_ fG_ fM_ fL_R fB_ fK_; omega)]; exact er a k (by unfold fT_R; omega)
  have cd : ∀ a k, 139 ≤ a → a ≤ 142 → r0.1 a k = d.1 a k := fun a k h1 h2 => by
    rw [er a k (by unfold fT_R; omega), (ht.2.1 a k (by unfold fN_ fL_C; omega)).1]; exact oo _ _ (by omega)
  have cg : ∀ a k, 139 ≤ a → a ≤ 142 → ¬ ((a = 140 ∨ a = 142) ∧ k = R) → ¬ ((a = 139 ∨ a = 141) ∧ 60 * R ≤ k ∧ k < 60 * R + 60) → u.2.1 a k = d.1 a k := fun a k h1 h2 h3 h4 => by
    rw [u1.1 a k (by unfold fGT_ fG_ fM_ fL_R fB_ fK_; omega)]; exact cd a k h1 h2
  have o := to_old iru itt itd ro (fun a k h1 h2 => by
    rw [cu a k h1, (ht.2.1 a k (by unfold fN_ fL_C; omega)).1]; exact oo _ _ (by omega)) (fun i hi => ⟨cg _ _ (by omega) (by omega) (by omega) (by omega), cg _ _ (by omega) (by omega) (by omega) (by omega), fun j hj => ⟨cg _ _ (by omega) (by omega) (by omega) (by omega), cg _ _ (by omega) (by omega) (by omega) (by omega)⟩⟩)
  have nw : ∀ i c : Nat, ¬ ((i : Int) < (d.1 125 11).toInt) → (i : Int) < (u.2.1 125 11).toInt → t.2.1.1 59 i = some c → TT_ t.2.1 u.2.1 i c ∧ TD_ t.2.1 u.2.1 i c := by
    intro i c h1 h2 h59
    rcases u2 with ⟨A', v1, v2, v3, v4, v5, v6, v7, v8, v9, v10, v11, v12, v13, v14, v15, v16⟩ | ⟨-, -, -, -, -, v6, -⟩
    · have ei : i = R := by omega
      subst ei
      rcases ht.2.2.2.2.2.2 with ⟨A'', y1, y2, y3, y4, y5, y6, -⟩ | ⟨y1, -⟩
      · have ec : z.2.2 = c := by rw [y6] at h59; exact Option.some.inj h59
        subst ec
        refine ⟨⟨M, x2, x5, hM, v13, fun j hj => ?_⟩, ⟨K, T', x3, x4, x6, x7, hK, TA_d hTA (fun k hk => ?_) (fun a ha => v16 a ha) (fun j hj => v7 j (by omega)), hD, v15, hP, by rw [v6, hI], by omega⟩⟩
        · rw [cu _ _ (by omega), x8 j hj, v14 j hj, c130]; exact htp j hj
        · rw [cu _ _ (by omega)]; exact x9 k hk
      · rcases y1 with y1 | y1
        · omega
        · rw [y1] at v2; simp at v2
    · rw [v6, er _ _ (by unfold fT_R; omega), (ht.2.1 125 11 (by unfold fN_ fL_C; omega)).1, oo _ _ (by omega)] at h2
      exact absurd h2 h1
  refine ⟨fun i c hi h59 h4 => ?_, fun i c hi h59 h4 => ?_⟩
  · by_cases q : (i : Int) < (d.1 125 11).toInt
    · exact (o i c q h59 h4).1
    · exact (nw i c q hi h59).1
  · by_cases q : (i : Int) < (d.1 125 11).toInt
    · exact (o i c q h59 h4).2
    · exact (nw i c q hi h59).2
theorem op_told (hn : 100 ≤ n) (h : RJ_ z d) (itp : iv_tp d.1) (itb : iv_tb d.1) (itt : iv_tt z d.1) (itd : iv_td z d.1) : wp_t (f_X11_told n z 0 d) (fun t => wp_t (f_X12_told n t.2.1 125 t.2.2) (fun u => RQ_ z d t u)) := by
  have hj := h
  obtain ⟨hz, ipap, ist, inm, igo, ics, iru, idr⟩ := h
  have hz3 := hz.2.2
  obtain ⟨M, rr, c1, hM, h43, E1, fC, hrr, HR⟩ := e_rdS (n := n) hz hn itp itb
  obtain ⟨c2, hc2⟩ : ∃ c2, c2 = ix_di c1 43 1 0 := ⟨_, rfl⟩
  have e431 : c1.1 43 1 = nI M := by rw [fC.1 _ _ (by unfold fT_C; omega)]; exact h43
  have E3 : f_X4_emptyTape n z 43 c1 = some (nI M, c2) := by
    rw [← wp_eq, hc2]
    (repeat (first | with_reducible refine wi_t (ly_o43 hz) ?_ | with_reducible refine wi_r (ly_r0_2 hz) ?_ | with_reducible refine wi_lt ?_ | (with_reducible refine wi_ifp ?_ ?_; (focus (first | omega | (simp (disch := (first | omega | (simp (disch := first | omega | (simp only [Int32.reduceToInt]; omega)) only [Int32.reduceToInt, ta_add, ta_sub, ta_mul, ta_neg, ta_div]; omega))) only [up_1, cp_1, rng_1, fn_1, dj_1, Nat.reduceEqDiff, false_and, and_false, true_and, and_true, or_true, true_or, or_false, false_or, not_true_eq_false, not_false_eq_true, ↓reduceIte, eq_self, ne_eq, ti_eq, ti_le, ti_lt, ti_ite, Int32.reduceToInt, ta_add, ta_sub, ta_mul, ta_neg, ta_div]; done) | (simp (disch := (first | omega | (simp (disch := first | omega | (simp only [Int32.reduceToInt]; omega)) only [Int32.reduceToInt, ta_add, ta_sub, ta_mul, ta_neg, ta_div]; omega))) only [up_1, cp_1, rng_1, fn_1, dj_1, Nat.reduceEqDiff, false_and, and_false, true_and, and_true, or_true, true_or, or_false, false_or, not_true_eq_false, not_false_eq_true, ↓reduceIte, eq_self, ne_eq, ti_eq, ti_le, ti_lt, ti_ite, Int32.reduceToInt, ta_add, ta_sub, ta_mul, ta_neg, ta_div]; omega)))) | (with_reducible refine wi_ifn ?_ ?_; (focus (first | omega | (simp (disch := (first | omega | (simp (disch := first | omega | (simp only [Int32.reduceToInt]; omega)) only [Int32.reduceToInt, ta_add, ta_sub, ta_mul, ta_neg, ta_div]; omega))) only [up_1, cp_1, rng_1, fn_1, dj_1, Nat.reduceEqDiff, false_and, and_false, true_and, and_true, or_true, true_or, or_false, false_or, not_true_eq_false, not_false_eq_true, ↓reduceIte, eq_self, ne_eq, ti_eq, ti_le, ti_lt, ti_ite, Int32.reduceToInt, ta_add, ta_sub, ta_mul, ta_neg, ta_div]; done) | (simp (disch := (first | omega | (simp (disch := first | omega | (simp only [Int32.reduceToInt]; omega)) only [Int32.reduceToInt, ta_add, ta_sub, ta_mul, ta_neg, ta_div]; omega))) only [up_1, cp_1, rng_1, fn_1, dj_1, Nat.reduceEqDiff, false_and, and_false, true_and, and_true, or_true, true_or, or_false, false_or, not_true_eq_false, not_false_eq_true, ↓reduceIte, eq_self, ne_eq, ti_eq, ti_le, ti_lt, ti_ite, Int32.reduceToInt, ta_add, ta_sub, ta_mul, ta_neg, ta_div]; omega)))) | (with_reducible refine wi_ck ?_ ?_; (focus (first | omega | (simp (disch := (first | omega | (simp (disch := first | omega | (simp only [Int32.reduceToInt]; omega)) only [Int32.reduceToInt, ta_add, ta_sub, ta_mul, ta_neg, ta_div]; omega))) only [up_1, cp_1, rng_1, fn_1, dj_1, Nat.reduceEqDiff, false_and, and_false, true_and, and_true, or_true, true_or, or_false, false_or, not_true_eq_false, not_false_eq_true, ↓reduceIte, eq_self, ne_eq, ti_eq, ti_le, ti_lt, ti_ite, Int32.reduceToInt, ta_add, ta_sub, ta_mul, ta_neg, ta_div]; done) | (simp (disch := (first | omega | (simp (disch := first | omega | (simp only [Int32.reduceToInt]; omega)) only [Int32.reduceToInt, ta_add, ta_sub, ta_mul, ta_neg, ta_div]; omega))) only [up_1, cp_1, rng_1, fn_1, dj_1, Nat.reduceEqDiff, false_and, and_false, true_and, and_true, or_true, true_or, or_false, false_or, not_true_eq_false, not_false_eq_true, ↓reduceIte, eq_self, ne_eq, ti_eq, ti_le, ti_lt, ti_ite, Int32.reduceToInt, ta_add, ta_sub, ta_mul, ta_neg, ta_div]; omega)))) | with_reducible refine wi_bd2 ?_ | with_reducible refine wi_bd1 ?_ | with_reducible refine wi_bd3 ?_ | (with_reducible refine wi_some ?_; try dsimp only) | unfold f_X4_emptyTape))
    rw [e431]
  have oc1 : ∀ a k, ¬ (fT_C a k ∨ (a = 43 ∧ k = 1)) → c2.1 a k = c1.1 a k := fun a k q => by rw [hc2, up_1, if_neg (fun w => q (Or.inr w))]
  have oc : ∀ a k, ¬ (fT_C a k ∨ (a = 43 ∧ k = 1)) → c2.1 a k = d.1 a k := fun a k q => (oc1 a k q).trans (fC.1 a k (fun w => q (Or.inl w)))
  have ocl : c2.2 = d.2 := by rw [hc2]; exact fC.2
  have oc0 : c2.1 43 1 = 0 := by rw [hc2, up_1, if_pos ⟨rfl, rfl⟩]
  have oc47 : ∀ k, c2.1 47 k = c1.1 47 k := fun k => by rw [hc2, up_1, if_neg (by omega)]
  have oc7 : c2.1 43 7 = c1.1 43 7 := by rw [hc2, up_1, if_neg (by omega)]
  have oo : ∀ a k, ¬ ((47 ≤ a ∧ a ≤ 50) ∨ a = 43) → c2.1 a k = d.1 a k := fun a k q => oc a k (by unfold fT_C; omega)
  /- refusals -/
  have ref : ∀ (w : Int32) (r' : ix_D2), fr_ok fT_R (ix_di c2 0 17 w) r' → RQ_ z d (w, z, ix_di c2 0 17 w) (w, ix_di (ix_di r' 125 8 0) 125 0 w) := fun w r' f => by
    refine rl_ru hz ist inm igo ics iru idr itt itd (fun a k q => ?_) ?_ ?_ ?_ ?_
    · rw [up_1, if_neg (by omega), up_1, if_neg (by omega), f.1 a k (fun w => q (Or.inr (Or.inr (Or.inr (Or.inr w))))), up_1, if_neg (by omega)]
      exact oc a k (fun w => q (Or.inr (Or.inr (by rcases w with w | w; exact Or.inr (Or.inl w); exact Or.inl w))))
    · exact f.2.trans ocl
    · rw [up_1, if_neg (by omega), up_1, if_neg (by omega), f.1 0 17 (by unfold fT_R; omega), up_1, if_pos ⟨rfl, rfl⟩, up_1, if_pos ⟨rfl, rfl⟩]
    · rw [up_1, if_neg (by omega), up_1, if_neg (by omega), f.1 43 1 (by unfold fT_R; omega), up_1, if_neg (by omega)]; exact oc0
    · rw [up_1, if_neg (by omega), up_1, if_pos ⟨rfl, rfl⟩]
  have o130 : ∀ (w : Int32), (∀ i, (ix_di c2 0 17 w).1 130 i = d.1 130 i) ∧ (ix_di c2 0 17 w).1 125 8 = d.1 125 8 := fun w => ⟨fun i => by rw [up_1, if_neg (by omega)]; exact oo _ _ (by omega), by rw [up_1, if_neg (by omega)]; exact oo _ _ (by omega)⟩
  rcases hrr with hrr | hrr
  · obtain ⟨r', E4, -, f4⟩ := HR (ix_di c2 0 17 (-2000 - rr)) (o130 _).1 (o130 _).2
    have k0 : ¬ rr < 0 := by rw [ti_lt]; simp only [Int32.reduceToInt]; omega
    (repeat (first | (with_reducible refine wi_e (E1) ?_; try dsimp only) | (with_reducible refine wi_e (E3) ?_; try dsimp only) | with_reducible refine wi_ifn k0 ?_ | with_reducible refine wi_t (ly_o0 hz) ?_ | with_reducible refine wi_t (ly_o43 hz) ?_ | with_reducible refine wi_r (ly_r0_2 hz) ?_ | with_reducible refine wi_lt ?_ | (with_reducible refine wi_ifp ?_ ?_; (focus (first | omega | (simp (disch := (first | omega | (simp (disch := first | omega | (simp only [Int32.reduceToInt]; omega)) only [Int32.reduceToInt, ta_add, ta_sub, ta_mul, ta_neg, ta_div]; omega))) only [up_1, cp_1, rng_1, fn_1, dj_1, Nat.reduceEqDiff, false_and, and_false, true_and, and_true, or_true, true_or, or_false, false_or, not_true_eq_false, not_false_eq_true, ↓reduceIte, eq_self, ne_eq, ti_eq, ti_le, ti_lt, ti_ite, Int32.reduceToInt, ta_add, ta_sub, ta_mul, ta_neg, ta_div]; done) | (simp (disch := (first | omega | (simp (disch := first | omega | (simp only [Int32.reduceToInt]; omega)) only [Int32.reduceToInt, ta_add, ta_sub, ta_mul, ta_neg, ta_div]; omega))) only [up_1, cp_1, rng_1, fn_1, dj_1, Nat.reduceEqDiff, false_and, and_false, true_and, and_true, or_true, true_or, or_false, false_or, not_true_eq_false, not_false_eq_true, ↓reduceIte, eq_self, ne_eq, ti_eq, ti_le, ti_lt, ti_ite, Int32.reduceToInt, ta_add, ta_sub, ta_mul, ta_neg, ta_div]; omega)))) | (with_reducible refine wi_ifn ?_ ?_; (focus (first | omega | (simp (disch := (first | omega | (simp (disch := first | omega | (simp only [Int32.reduceToInt]; omega)) only [Int32.reduceToInt, ta_add, ta_sub, ta_mul, ta_neg, ta_div]; omega))) only [up_1, cp_1, rng_1, fn_1, dj_1, Nat.reduceEqDiff, false_and, and_false, true_and, and_true, or_true, true_or, or_false, false_or, not_true_eq_false, not_false_eq_true, ↓reduceIte, eq_self, ne_eq, ti_eq, ti_le, ti_lt, ti_ite, Int32.reduceToInt, ta_add, ta_sub, ta_mul, ta_neg, ta_div]; done) | (simp (disch := (first | omega | (simp (disch := first | omega | (simp only [Int32.reduceToInt]; omega)) only [Int32.reduceToInt, ta_add, ta_sub, ta_mul, ta_neg, ta_div]; omega))) only [up_1, cp_1, rng_1, fn_1, dj_1, Nat.reduceEqDiff, false_and, and_false, true_and, and_true, or_true, true_or, or_false, false_or, not_true_eq_false, not_false_eq_true, ↓reduceIte, eq_self, ne_eq, ti_eq, ti_le, ti_lt, ti_ite, Int32.reduceToInt, ta_add, ta_sub, ta_mul, ta_neg, ta_div]; omega)))) | (with_reducible refine wi_ck ?_ ?_; (focus (first | omega | (simp (disch := (first | omega | (simp (disch := first | omega | (simp only [Int32.reduceToInt]; omega)) only [Int32.reduceToInt, ta_add, ta_sub, ta_mul, ta_neg, ta_div]; omega))) only [up_1, cp_1, rng_1, fn_1, dj_1, Nat.reduceEqDiff, false_and, and_false, true_and, and_true, or_true, true_or, or_false, false_or, not_true_eq_false, not_false_eq_true, ↓reduceIte, eq_self, ne_eq, ti_eq, ti_le, ti_lt, ti_ite, Int32.reduceToInt, ta_add, ta_sub, ta_mul, ta_neg, ta_div]; done) | (simp (disch := (first | omega | (simp (disch := first | omega | (simp only [Int32.reduceToInt]; omega)) only [Int32.reduceToInt, ta_add, ta_sub, ta_mul, ta_neg, ta_div]; omega))) only [up_1, cp_1, rng_1, fn_1, dj_1, Nat.reduceEqDiff, false_and, and_false, true_and, and_true, or_true, true_or, or_false, false_or, not_true_eq_false, not_false_eq_true, ↓reduceIte, eq_self, ne_eq, ti_eq, ti_le, ti_lt, ti_ite, Int32.reduceToInt, ta_add, ta_sub, ta_mul, ta_neg, ta_div]; omega)))) | with_reducible refine wi_bd2 ?_ | with_reducible refine wi_bd1 ?_ | with_reducible refine wi_bd3 ?_ | (with_reducible refine wi_some ?_; try dsimp only) | unfold f_X11_told | unfold f_X11_refuse))
    (repeat (first | (with_reducible refine wi_e (E4) ?_; try dsimp only) | with_reducible refine wi_ifn k0 ?_ | with_reducible refine wi_t (ly_o125 hz) ?_ | with_reducible refine wi_lt ?_ | (with_reducible refine wi_ifp ?_ ?_; (focus (first | omega | (simp (disch := (first | omega | (simp (disch := first | omega | (simp only [Int32.reduceToInt]; omega)) only [Int32.reduceToInt, ta_add, ta_sub, ta_mul, ta_neg, ta_div]; omega))) only [up_1, cp_1, rng_1, fn_1, dj_1, Nat.reduceEqDiff, false_and, and_false, true_and, and_true, or_true, true_or, or_false, false_or, not_true_eq_false, not_false_eq_true, ↓reduceIte, eq_self, ne_eq, ti_eq, ti_le, ti_lt, ti_ite, Int32.reduceToInt, ta_add, ta_sub, ta_mul, ta_neg, ta_div]; done) | (simp (disch := (first | omega | (simp (disch := first | omega | (simp only [Int32.reduceToInt]; omega)) only [Int32.reduceToInt, ta_add, ta_sub, ta_mul, ta_neg, ta_div]; omega))) only [up_1, cp_1, rng_1, fn_1, dj_1, Nat.reduceEqDiff, false_and, and_false, true_and, and_true, or_true, true_or, or_false, false_or, not_true_eq_false, not_false_eq_true, ↓reduceIte, eq_self, ne_eq, ti_eq, ti_le, ti_lt, ti_ite, Int32.reduceToInt, ta_add, ta_sub, ta_mul, ta_neg, ta_div]; omega)))) | (with_reducible refine wi_ifn ?_ ?_; (focus (first | omega | (simp (disch := (first | omega | (simp (disch := first | omega | (simp only [Int32.reduceToInt]; omega)) only [Int32.reduceToInt, ta_add, ta_sub, ta_mul, ta_neg, ta_div]; omega))) only [up_1, cp_1, rng_1, fn_1, dj_1, Nat.reduceEqDiff, false_and, and_false, true_and, and_true, or_true, true_or, or_false, false_or, not_true_eq_false, not_false_eq_true, ↓reduceIte, eq_self, ne_eq, ti_eq, ti_le, ti_lt, ti_ite, Int32.reduceToInt, ta_add, ta_sub, ta_mul, ta_neg, ta_div]; done) | (simp (disch := (first | omega | (simp (disch := first | omega | (simp only [Int32.reduceToInt]; omega)) only [Int32.reduceToInt, ta_add, ta_sub, ta_mul, ta_neg, ta_div]; omega))) only [up_1, cp_1, rng_1, fn_1, dj_1, Nat.reduceEqDiff, false_and, and_false, true_and, and_true, or_true, true_or, or_false, false_or, not_true_eq_false, not_false_eq_true, ↓reduceIte, eq_self, ne_eq, ti_eq, ti_le, ti_lt, ti_ite, Int32.reduceToInt, ta_add, ta_sub, ta_mul, ta_neg, ta_div]; omega)))) | (with_reducible refine wi_ck ?_ ?_; (focus (first | omega | (simp (disch := (first | omega | (simp (disch := first | omega | (simp only [Int32.reduceToInt]; omega)) only [Int32.reduceToInt, ta_add, ta_sub, ta_mul, ta_neg, ta_div]; omega))) only [up_1, cp_1, rng_1, fn_1, dj_1, Nat.reduceEqDiff, false_and, and_false, true_and, and_true, or_true, true_or, or_false, false_or, not_true_eq_false, not_false_eq_true, ↓reduceIte, eq_self, ne_eq, ti_eq, ti_le, ti_lt, ti_ite, Int32.reduceToInt, ta_add, ta_sub, ta_mul, ta_neg, ta_div]; done) | (simp (disch := (first | omega | (simp (disch := first | omega | (simp only [Int32.reduceToInt]; omega)) only [Int32.reduceToInt, ta_add, ta_sub, ta_mul, ta_neg, ta_div]; omega))) only [up_1, cp_1, rng_1, fn_1, dj_1, Nat.reduceEqDiff, false_and, and_false, true_and, and_true, or_true, true_or, or_false, false_or, not_true_eq_false, not_false_eq_true, ↓reduceIte, eq_self, ne_eq, ti_eq, ti_le, ti_lt, ti_ite, Int32.reduceToInt, ta_add, ta_sub, ta_mul, ta_neg, ta_div]; omega)))) | with_reducible refine wi_bd2 ?_ | with_reducible refine wi_bd1 ?_ | with_reducible refine wi_bd3 ?_ | (with_reducible refine wi_some ?_; try dsimp only) | unfold f_X12_told | unfold f_X12_fail))
    exact ref _ _ f4
  · obtain ⟨r1, -, F1, -⟩ := HR d (fun _ => rfl) rfl
    obtain ⟨K, T, N, it, hK, h7, hT, hc, hit, hD, hN, eN, HF⟩ := e_rdF (F1 hrr) HR hrr
    have k0 : rr < 0 := by rw [hrr]; decide
    have hc' : ∀ k, k < K → c2.1 47 k = cdT (T k) := fun k hk => by rw [oc47]; exact hc k hk
    have E5 := e_lfn (n := n) (c := c2) (it := it) hz hn (by rw [oc7]; exact h7) hK hT hc' hit
    rw [← eN] at E5
    have e515 : c2.1 51 5 = d.1 51 5 := oo _ _ (by omega)
    by_cases cW : lf_ it (c2.1 51 5) N = 0
    · obtain ⟨ist2, inm2, igo2, ics2, iru2, idr2⟩ := tj_c hz oo ist inm igo ics iru idr
      obtain ⟨R, hR⟩ : ∃ R : Nat, (c2.1 0 5).toInt = R := ⟨ix_n (c2.1 0 5), (ni_c (by rw [iru2.1]; exact iru2.2.1)).symm⟩
      have hR6 : R ≤ 60 := by have := iru2.2.2.1; rw [← iru2.1] at this; omega
      have hR' : (d.1 125 11).toInt = R := by rw [← hR, iru2.1, oo _ _ (by omega)]
      obtain ⟨z5, d5, E6, hm, hnm⟩ := e_toI (n := n) (d := c2) (x := nI M) (L := M) hz hn (by rw [oc7]; exact h7) hK hT hc' (fun j hj => by rw [oo _ _ (by omega)]; exact itb j hj) hM (nI_ti (by omega))
      rw [← eN] at hm
      have hz5 : ly_z z5 := ⟨fun a ha => by rw [hm.2.1 a (by omega)]; exact hz.1 a ha, fun a k ha h9 => by rw [hm.2.2.1 a k (by omega)]; exact hz.2.1 a k ha h9, by rw [hm.1]; omega⟩
      have gi : ∀ j, j < N → d5.1 (z.2.2 + 1) j = it j := fun j hj => by
        obtain ⟨k, q1, q2, q3⟩ := pI_sur (T := T) (K := K) (j := j) (by omega)
        rw [← q3, hnm k q1 q2, hit k q1 q2]
      have hlf : lf_ (d5.1 (z.2.2 + 1)) (c2.1 51 5) N = 0 := by rw [lf_c gi]; exact cW
      have hok := lf_g (R := R) hlf
      have hv : ∀ k, k < K → (T k).1 = 4 → okJ (if R < 60 then some (aC_ c2.1) else none) (T k).2.2.2 := fun k hk h4 => by
        have q : pI T (k + 1) ≤ pI T K := pI_m (by omega)
        have q1 : pI T (k + 1) = pI T k + 1 := by rw [pI, if_pos h4]
        have := hok (pI T k) (by omega)
        rw [hnm k hk h4] at this
        exact this
      have n5 : 0 ≤ (c2.1 51 5).toInt := by rw [inm2.1]; exact inm2.2.1
      have n53 : (c2.1 51 5).toInt ≤ 300 := by rw [inm2.1]; exact inm2.2.2
      have q := e_opT (n := n) (R := R) hz hn hm hK hT hc' hD ics2.1 n5 n53 (fun p hp => by rw [inm2.1]; exact (ics2.2.2.2 p hp).2) idr2 hR hR6 hv
      have k10 : ix_ok (ix_zn z 9 6) [10] 0 := of_eq_true (ly_o0 (zn_ly hz))
      have r02 : (ix_zn z 9 6).1 0 2 = some 43 := ly_r0_2 (zn_ly hz)
      have k5 : ix_ok z5 [10] 0 := of_eq_true (ly_o0 hz5)
      obtain ⟨t, E7, ht, hx⟩ := q
      (repeat (first | (with_reducible refine wi_e (E1) ?_; try dsimp only) | (with_reducible refine wi_e (E3) ?_; try dsimp only) | with_reducible refine wi_ifp k0 ?_ | (with_reducible refine wi_e (E5) ?_; try dsimp only) | with_reducible refine wi_ifp cW ?_ | with_reducible refine wi_ck k10 ?_ | with_reducible refine wi_r (r02) ?_ | (with_reducible refine wi_e (E6) ?_; try dsimp only) | with_reducible refine wi_ck k5 ?_ | (with_reducible refine wi_e (E7) ?_; try dsimp only) | with_reducible refine wi_t (ly_o0 hz) ?_ | with_reducible refine wi_t (ly_o43 hz) ?_ | with_reducible refine wi_r (ly_r0_2 hz) ?_ | with_reducible refine wi_t (ly_o51 hz) ?_ | with_reducible refine wi_r (ly_r0_3 hz) ?_ | with_reducible refine wi_lt ?_ | (with_reducible refine wi_ifp ?_ ?_; (focus (first | omega | (simp (disch := (first | omega | (simp (disch := first | omega | (simp only [Int32.reduceToInt]; omega)) only [Int32.reduceToInt, ta_add, ta_sub, ta_mul, ta_neg, ta_div]; omega))) only [up_1, cp_1, rng_1, fn_1, dj_1, Nat.reduceEqDiff, false_and, and_false, true_and, and_true, or_true, true_or, or_false, false_or, not_true_eq_false, not_false_eq_true, ↓reduceIte, eq_self, ne_eq, ti_eq, ti_le, ti_lt, ti_ite, Int32.reduceToInt, ta_add, ta_sub, ta_mul, ta_neg, ta_div]; done) | (simp (disch := (first | omega | (simp (disch := first | omega | (simp only [Int32.reduceToInt]; omega)) only [Int32.reduceToInt, ta_add, ta_sub, ta_mul, ta_neg, ta_div]; omega))) only [up_1, cp_1, rng_1, fn_1, dj_1, Nat.reduceEqDiff, false_and, and_false, true_and, and_true, or_true, true_or, or_false, false_or, not_true_eq_false, not_false_eq_true, ↓reduceIte, eq_self, ne_eq, ti_eq, ti_le, ti_lt, ti_ite, Int32.reduceToInt, ta_add, ta_sub, ta_mul, ta_neg, ta_div]; omega)))) | (with_reducible refine wi_ifn ?_ ?_; (focus (first | omega | (simp (disch := (first | omega | (simp (disch := first | omega | (simp only [Int32.reduceToInt]; omega)) only [Int32.reduceToInt, ta_add, ta_sub, ta_mul, ta_neg, ta_div]; omega))) only [up_1, cp_1, rng_1, fn_1, dj_1, Nat.reduceEqDiff, false_and, and_false, true_and, and_true, or_true, true_or, or_false, false_or, not_true_eq_false, not_false_eq_true, ↓reduceIte, eq_self, ne_eq, ti_eq, ti_le, ti_lt, ti_ite, Int32.reduceToInt, ta_add, ta_sub, ta_mul, ta_neg, ta_div]; done) | (simp (disch := (first | omega | (simp (disch := first | omega | (simp only [Int32.reduceToInt]; omega)) only [Int32.reduceToInt, ta_add, ta_sub, ta_mul, ta_neg, ta_div]; omega))) only [up_1, cp_1, rng_1, fn_1, dj_1, Nat.reduceEqDiff, false_and, and_false, true_and, and_true, or_true, true_or, or_false, false_or, not_true_eq_false, not_false_eq_true, ↓reduceIte, eq_self, ne_eq, ti_eq, ti_le, ti_lt, ti_ite, Int32.reduceToInt, ta_add, ta_sub, ta_mul, ta_neg, ta_div]; omega)))) | (with_reducible refine wi_ck ?_ ?_; (focus (first | omega | (simp (disch := (first | omega | (simp (disch := first | omega | (simp only [Int32.reduceToInt]; omega)) only [Int32.reduceToInt, ta_add, ta_sub, ta_mul, ta_neg, ta_div]; omega))) only [up_1, cp_1, rng_1, fn_1, dj_1, Nat.reduceEqDiff, false_and, and_false, true_and, and_true, or_true, true_or, or_false, false_or, not_true_eq_false, not_false_eq_true, ↓reduceIte, eq_self, ne_eq, ti_eq, ti_le, ti_lt, ti_ite, Int32.reduceToInt, ta_add, ta_sub, ta_mul, ta_neg, ta_div]; done) | (simp (disch := (first | omega | (simp (disch := first | omega | (simp only [Int32.reduceToInt]; omega)) only [Int32.reduceToInt, ta_add, ta_sub, ta_mul, ta_neg, ta_div]; omega))) only [up_1, cp_1, rng_1, fn_1, dj_1, Nat.reduceEqDiff, false_and, and_false, true_and, and_true, or_true, true_or, or_false, false_or, not_true_eq_false, not_false_eq_true, ↓reduceIte, eq_self, ne_eq, ti_eq, ti_le, ti_lt, ti_ite, Int32.reduceToInt, ta_add, ta_sub, ta_mul, ta_neg, ta_div]; omega)))) | with_reducible refine wi_bd2 ?_ | with_reducible refine wi_bd1 ?_ | with_reducible refine wi_bd3 ?_ | (with_reducible refine wi_some ?_; try dsimp only) | unfold f_X11_told))
      show wp_t (f_X12_told n t.2.1 125 t.2.2) (fun u => RQ_ z d t u)
      have hzt : ly_z t.2.1 := ht.2.2.1
      have te : ∀ a k, 125 ≤ a → a < 199 → t.2.2.1 a k = d.1 a k := fun a k h1 h2 => by
        rw [(ht.2.1 a k (by unfold fN_ fL_C; omega)).1]; exact oo _ _ (by omega)
      obtain ⟨r', T', E4, f4, l1, l2, l3, l4, l5, l6, l7, l8, l9⟩ := HF t.2.2 (fun i => te _ _ (by omega) (by omega)) (te _ _ (by omega) (by omega))
      rw [← zi_f_X12_faultOfTape hzt hz] at E4
      obtain ⟨r0, hr0⟩ : ∃ r0, r0 = ix_di r' 125 8 0 := ⟨_, rfl⟩
      have er : ∀ a k, ¬ (fT_R a k ∨ (a = 125 ∧ k = 8)) → r0.1 a k = t.2.2.1 a k := fun a k q => by
        rw [hr0, up_1, if_neg (fun w => q (Or.inr w))]; exact f4.1 a k (fun w => q (Or.inl w))
      have ed : ∀ a k, 125 ≤ a → a < 199 → ¬ (fT_R a k ∨ (a = 125 ∧ k = 8)) → r0.1 a k = d.1 a k := fun a k h1 h2 q => (er a k q).trans (te a k h1 h2)
      have erl : r0.2 = t.2.2.2 := by rw [hr0]; exact f4.2
      have e154 : r0.1 154 = r'.1 154 := funext fun k => by rw [hr0, up_1, if_neg (by omega)]
      have e151 : r0.1 151 = r'.1 151 := funext fun k => by rw [hr0, up_1, if_neg (by omega)]
      have eA : aC_ c2.1 = aC_ d.1 := by
        unfold aC_
        rw [oo _ _ (by omega), oo _ _ (by omega), show c2.1 54 = d.1 54 from funext fun j => oo _ _ (by omega), show c2.1 53 = d.1 53 from funext fun j => oo _ _ (by omega)]
      have hT2 := rw_t ics2.1
      obtain ⟨w1, w2⟩ := aC_w ics2.1 n5 n53 (fun p hp => by rw [inm2.1]; exact (ics2.2.2.2 p hp).2)
      have e1 : r0.1 125 1 = c2.1 51 5 := by rw [ed _ _ (by omega) (by omega) (by unfold fT_R; omega), e515]; exact inm.1.symm
      have ec : ∀ a k, 125 ≤ a → a < 199 → ¬ (fT_R a k ∨ (a = 125 ∧ k = 8)) → r0.1 a k = c2.1 a k := fun a k h1 h2 q => by rw [ed a k h1 h2 q, oo a k (by omega)]
      have qr := e_tldR (n := n) (z := t.2.1) (r0 := r0) (A0 := aC_ c2.1) (T := T') (K := K) (R := R) (L := M) (x2 := r'.1 125 8) (f := c1.1 47) hzt hn (by rw [ec _ _ (by omega) (by omega) (by unfold fT_R; omega), ← iru2.1]; exact hR) hR6 w1 w2 (by rw [e1]; exact (ni_c n5).symm) (by rw [ec _ _ (by omega) (by omega) (by unfold fT_R; omega), ← ics2.2.1]; exact hT2.1.symm) (fun j hj => by
          have hj : j ≤ ix_n (c2.1 52 2) := hj
          rw [ec _ _ (by omega) (by omega) (by unfold fT_R; omega), ics2.2.2.1 j (by rw [← ics2.2.1]; omega)]
          exact (ni_c (rw_0 ics2.1 (by omega))).symm) (fun p hp => by
          have hp : p < ix_n (c2.1 54 (ix_n (c2.1 52 2))) := hp
          have := ni_c hT2.2.1
          rw [ec _ _ (by omega) (by omega) (by unfold fT_R; omega)]
          exact (ics2.2.2.2 p (by omega)).1) hM (by rw [f4.1 _ _ (by unfold fT_R; omega), te _ _ (by omega) (by omega), ← itp.1, h43]; exact nI_ti (by omega)) (by rw [e154, e151]; exact l1) (by rw [hr0, up_1, if_neg (by omega)]; exact l2) (by rw [hr0, up_1, if_neg (by omega), l6]; exact l3) l4 l5 (by omega) (by rw [e1, l6, e151]; exact (lf_c l7).symm.trans cW) (fun k hk h4 => by
          have := hv k hk ((l9 k hk).1.mpr h4)
          rw [(l9 k hk).2 ((l9 k hk).1.mpr h4)] at this
          exact this)
      rw [show toF T' K = toF T K from funext l8, l6, hr0] at qr
      have hzz := hzt
      have k11 : ix_ok t.2.1 [11] 125 := of_eq_true (ly_o125 hzt)
      unfold f_X12_told
      refine wi_ck k11 ?_
      rw [wp_bd2]
      rw [E4]
      refine ⟨_, rfl, ?_⟩
      show wp_t (ix_if (rr < 0) (f_X12_told_34 n t.2.1 125 (r'.1 125 8) 0 0 (ix_di r' 125 8 0)) _) _
      refine wi_ifp k0 ?_
      refine wp_m qr fun u hu => ?_
      rw [← hr0] at hu
      have hu1 := hu.1
      have pq : PQ_ (aC_ c2.1) t.2.2 (toF T K) R N (d5.1 (z.2.2 + 1)) u := by
        refine ⟨⟨fun a k q => ?_, hu.1.2.trans erl⟩, ?_⟩
        · rw [hu.1.1 a k (fun w => q (Or.inl w))]; exact er a k (fun w => q (Or.inr w))
        · rcases hu.2 with ⟨A', v1, v2, v3, v4, v5, v6, v7, v8, v9, v10, v11, v12, -⟩ | ⟨v1, v2, v3, v4, v5, v6, v7, v8, v9, v10⟩
          · exact Or.inl ⟨A', v1, v2, v3, v4, v5, v6, fun i hi => by rw [v7 i hi, gi i hi, e151]; exact (l7 i hi).symm, v8, v9, v10, v11, by rw [v12]; exact er _ _ (by unfold fT_R; omega)⟩
          · exact Or.inr ⟨v1, v2, v3, by rw [v4]; exact er _ _ (by unfold fT_R; omega), by rw [v5]; exact er _ _ (by unfold fT_R; omega), by rw [v6]; exact er _ _ (by unfold fT_R; omega), by rw [v7]; exact er _ _ (by unfold fT_R; omega), v8, v9, fun a k h1 h2 => by rw [v10 a k h1 h2]; exact er _ _ (by unfold fT_R; omega)⟩
      have hl := RL_t oc ocl (rt_fin hz hN hR hlf ics2 inm2 iru2 ist2 igo2 ht hx.1 pq)
      have u43 : u.2.1 43 1 = 0 := by
        rw [hu.1.1 _ _ (by unfold fGT_ fG_ fM_ fL_R fB_ fK_; omega), er _ _ (by unfold fT_R; omega), (ht.2.1 43 1 (by unfold fN_ fL_C; omega)).1]; exact oc0
      have u8 : u.2.1 125 8 = 0 := by
        rw [hu.1.1 _ _ (by unfold fGT_ fG_ fM_ fL_R fB_ fK_; omega), hr0, up_1, if_pos ⟨rfl, rfl⟩]
      have z0 : (0 : Int32).toInt = 0 := rfl
      refine ⟨hl, ⟨by rw [u43, u8], by rw [u8]; decide, by rw [u8]; decide, fun i hi => by rw [u8] at hi; omega⟩, to_new hz hK hM oo iru itt itd hR' ht hx hl hu er (fun i hi => ?_) (by rw [e154, e151, show c2.1 47 = c1.1 47 from funext oc47]; exact l1) l4 l5 l6 hN⟩
      rw [oo _ _ (by omega)]
      exact itp.2.2.2 i (by rw [← itp.1, h43, nI_ti (by omega)]; omega)
    · obtain ⟨r', T', E4, f4, l1, l2, l3, l4, l5, l6, l7, l8, l9⟩ := HF (ix_di c2 0 17 (lf_ it (c2.1 51 5) N)) (o130 _).1 (o130 _).2
      have e1 : (ix_di r' 125 8 0).1 125 1 = c2.1 51 5 := by
        rw [up_1, if_neg (by omega), f4.1 _ _ (by unfold fT_R; omega), up_1, if_neg (by omega), oo _ _ (by omega), e515]; exact inm.1.symm
      have eW : lf_ ((ix_di r' 125 8 0).1 151) ((ix_di r' 125 8 0).1 125 1) N = lf_ it (c2.1 51 5) N := by
        rw [e1]
        exact (lf_c fun i hi => by rw [up_1, if_neg (by omega)]; exact l7 i hi).symm
      have q := e_t34 (n := n) (r := ix_di r' 125 8 0) (Q := fun u => u = (lf_ it (c2.1 51 5) N, ix_di (ix_di r' 125 8 0) 125 0 (lf_ it (c2.1 51 5) N))) (x2 := r'.1 125 8) (N := N) hz hn (by rw [up_1, if_neg (by omega)]; exact l3) hN (fun w => absurd (eW.symm.trans w) cW) (fun w => by rw [eW])
      have rf := ref (lf_ it (c2.1 51 5) N) r' f4
      generalize lf_ it (c2.1 51 5) N = W at cW E4 E5 q rf
      (repeat (first | (with_reducible refine wi_e (E1) ?_; try dsimp only) | (with_reducible refine wi_e (E3) ?_; try dsimp only) | with_reducible refine wi_ifp k0 ?_ | (with_reducible refine wi_e (E5) ?_; try dsimp only) | with_reducible refine wi_ifn cW ?_ | with_reducible refine wi_t (ly_o0 hz) ?_ | with_reducible refine wi_t (ly_o43 hz) ?_ | with_reducible refine wi_r (ly_r0_2 hz) ?_ | with_reducible refine wi_t (ly_o51 hz) ?_ | with_reducible refine wi_r (ly_r0_3 hz) ?_ | with_reducible refine wi_lt ?_ | (with_reducible refine wi_ifp ?_ ?_; (focus (first | omega | (simp (disch := (first | omega | (simp (disch := first | omega | (simp only [Int32.reduceToInt]; omega)) only [Int32.reduceToInt, ta_add, ta_sub, ta_mul, ta_neg, ta_div]; omega))) only [up_1, cp_1, rng_1, fn_1, dj_1, Nat.reduceEqDiff, false_and, and_false, true_and, and_true, or_true, true_or, or_false, false_or, not_true_eq_false, not_false_eq_true, ↓reduceIte, eq_self, ne_eq, ti_eq, ti_le, ti_lt, ti_ite, Int32.reduceToInt, ta_add, ta_sub, ta_mul, ta_neg, ta_div]; done) | (simp (disch := (first | omega | (simp (disch := first | omega | (simp only [Int32.reduceToInt]; omega)) only [Int32.reduceToInt, ta_add, ta_sub, ta_mul, ta_neg, ta_div]; omega))) only [up_1, cp_1, rng_1, fn_1, dj_1, Nat.reduceEqDiff, false_and, and_false, true_and, and_true, or_true, true_or, or_false, false_or, not_true_eq_false, not_false_eq_true, ↓reduceIte, eq_self, ne_eq, ti_eq, ti_le, ti_lt, ti_ite, Int32.reduceToInt, ta_add, ta_sub, ta_mul, ta_neg, ta_div]; omega)))) | (with_reducible refine wi_ifn ?_ ?_; (focus (first | omega | (simp (disch := (first | omega | (simp (disch := first | omega | (simp only [Int32.reduceToInt]; omega)) only [Int32.reduceToInt, ta_add, ta_sub, ta_mul, ta_neg, ta_div]; omega))) only [up_1, cp_1, rng_1, fn_1, dj_1, Nat.reduceEqDiff, false_and, and_false, true_and, and_true, or_true, true_or, or_false, false_or, not_true_eq_false, not_false_eq_true, ↓reduceIte, eq_self, ne_eq, ti_eq, ti_le, ti_lt, ti_ite, Int32.reduceToInt, ta_add, ta_sub, ta_mul, ta_neg, ta_div]; done) | (simp (disch := (first | omega | (simp (disch := first | omega | (simp only [Int32.reduceToInt]; omega)) only [Int32.reduceToInt, ta_add, ta_sub, ta_mul, ta_neg, ta_div]; omega))) only [up_1, cp_1, rng_1, fn_1, dj_1, Nat.reduceEqDiff, false_and, and_false, true_and, and_true, or_true, true_or, or_false, false_or, not_true_eq_false, not_false_eq_true, ↓reduceIte, eq_self, ne_eq, ti_eq, ti_le, ti_lt, ti_ite, Int32.reduceToInt, ta_add, ta_sub, ta_mul, ta_neg, ta_div]; omega)))) | (with_reducible refine wi_ck ?_ ?_; (focus (first | omega | (simp (disch := (first | omega | (simp (disch := first | omega | (simp only [Int32.reduceToInt]; omega)) only [Int32.reduceToInt, ta_add, ta_sub, ta_mul, ta_neg, ta_div]; omega))) only [up_1, cp_1, rng_1, fn_1, dj_1, Nat.reduceEqDiff, false_and, and_false, true_and, and_true, or_true, true_or, or_false, false_or, not_true_eq_false, not_false_eq_true, ↓reduceIte, eq_self, ne_eq, ti_eq, ti_le, ti_lt, ti_ite, Int32.reduceToInt, ta_add, ta_sub, ta_mul, ta_neg, ta_div]; done) | (simp (disch := (first | omega | (simp (disch := first | omega | (simp only [Int32.reduceToInt]; omega)) only [Int32.reduceToInt, ta_add, ta_sub, ta_mul, ta_neg, ta_div]; omega))) only [up_1, cp_1, rng_1, fn_1, dj_1, Nat.reduceEqDiff, false_and, and_false, true_and, and_true, or_true, true_or, or_false, false_or, not_true_eq_false, not_false_eq_true, ↓reduceIte, eq_self, ne_eq, ti_eq, ti_le, ti_lt, ti_ite, Int32.reduceToInt, ta_add, ta_sub, ta_mul, ta_neg, ta_div]; omega)))) | with_reducible refine wi_bd2 ?_ | with_reducible refine wi_bd1 ?_ | with_reducible refine wi_bd3 ?_ | (with_reducible refine wi_some ?_; try dsimp only) | unfold f_X11_told | unfold f_X11_refuse))
      (repeat (first | (with_reducible refine wi_e (E4) ?_; try dsimp only) | with_reducible refine wi_ifp k0 ?_ | with_reducible refine wi_t (ly_o125 hz) ?_ | with_reducible refine wi_lt ?_ | (with_reducible refine wi_ifp ?_ ?_; (focus (first | omega | (simp (disch := (first | omega | (simp (disch := first | omega | (simp only [Int32.reduceToInt]; omega)) only [Int32.reduceToInt, ta_add, ta_sub, ta_mul, ta_neg, ta_div]; omega))) only [up_1, cp_1, rng_1, fn_1, dj_1, Nat.reduceEqDiff, false_and, and_false, true_and, and_true, or_true, true_or, or_false, false_or, not_true_eq_false, not_false_eq_true, ↓reduceIte, eq_self, ne_eq, ti_eq, ti_le, ti_lt, ti_ite, Int32.reduceToInt, ta_add, ta_sub, ta_mul, ta_neg, ta_div]; done) | (simp (disch := (first | omega | (simp (disch := first | omega | (simp only [Int32.reduceToInt]; omega)) only [Int32.reduceToInt, ta_add, ta_sub, ta_mul, ta_neg, ta_div]; omega))) only [up_1, cp_1, rng_1, fn_1, dj_1, Nat.reduceEqDiff, false_and, and_false, true_and, and_true, or_true, true_or, or_false, false_or, not_true_eq_false, not_false_eq_true, ↓reduceIte, eq_self, ne_eq, ti_eq, ti_le, ti_lt, ti_ite, Int32.reduceToInt, ta_add, ta_sub, ta_mul, ta_neg, ta_div]; omega)))) | (with_reducible refine wi_ifn ?_ ?_; (focus (first | omega | (simp (disch := (first | omega | (simp (disch := first | omega | (simp only [Int32.reduceToInt]; omega)) only [Int32.reduceToInt, ta_add, ta_sub, ta_mul, ta_neg, ta_div]; omega))) only [up_1, cp_1, rng_1, fn_1, dj_1, Nat.reduceEqDiff, false_and, and_false, true_and, and_true, or_true, true_or, or_false, false_or, not_true_eq_false, not_false_eq_true, ↓reduceIte, eq_self, ne_eq, ti_eq, ti_le, ti_lt, ti_ite, Int32.reduceToInt, ta_add, ta_sub, ta_mul, ta_neg, ta_div]; done) | (simp (disch := (first | omega | (simp (disch := first | omega | (simp only [Int32.reduceToInt]; omega)) only [Int32.reduceToInt, ta_add, ta_sub, ta_mul, ta_neg, ta_div]; omega))) only [up_1, cp_1, rng_1, fn_1, dj_1, Nat.reduceEqDiff, false_and, and_false, true_and, and_true, or_true, true_or, or_false, false_or, not_true_eq_false, not_false_eq_true, ↓reduceIte, eq_self, ne_eq, ti_eq, ti_le, ti_lt, ti_ite, Int32.reduceToInt, ta_add, ta_sub, ta_mul, ta_neg, ta_div]; omega)))) | (with_reducible refine wi_ck ?_ ?_; (focus (first | omega | (simp (disch := (first | omega | (simp (disch := first | omega | (simp only [Int32.reduceToInt]; omega)) only [Int32.reduceToInt, ta_add, ta_sub, ta_mul, ta_neg, ta_div]; omega))) only [up_1, cp_1, rng_1, fn_1, dj_1, Nat.reduceEqDiff, false_and, and_false, true_and, and_true, or_true, true_or, or_false, false_or, not_true_eq_false, not_false_eq_true, ↓reduceIte, eq_self, ne_eq, ti_eq, ti_le, ti_lt, ti_ite, Int32.reduceToInt, ta_add, ta_sub, ta_mul, ta_neg, ta_div]; done) | (simp (disch := (first | omega | (simp (disch := first | omega | (simp only [Int32.reduceToInt]; omega)) only [Int32.reduceToInt, ta_add, ta_sub, ta_mul, ta_neg, ta_div]; omega))) only [up_1, cp_1, rng_1, fn_1, dj_1, Nat.reduceEqDiff, false_and, and_false, true_and, and_true, or_true, true_or, or_false, false_or, not_true_eq_false, not_false_eq_true, ↓reduceIte, eq_self, ne_eq, ti_eq, ti_le, ti_lt, ti_ite, Int32.reduceToInt, ta_add, ta_sub, ta_mul, ta_neg, ta_div]; omega)))) | with_reducible refine wi_bd2 ?_ | with_reducible refine wi_bd1 ?_ | with_reducible refine wi_bd3 ?_ | (with_reducible refine wi_some ?_; try dsimp only) | unfold f_X12_told))
      exact wp_m q fun u hu => by rw [hu]; exact rf
end TLS

/-! TOLD: made and admitted by the class -/
section TLI
variable {n : Nat} {z z' : ix_Z} {c d r e : ix_D2} {A0 A A' : LA} {o O : Option LA} {m rc sa : Nat}
theorem e_admT (hz : ly_z z) {F : Option LA → Option LA} {R : Nat} (hcw : cw_ d.1) (hn0 : 0 ≤ (d.1 51 5).toInt) (hn3 : (d.1 51 5).toInt ≤ 300) (hit : ∀ p : Nat, (p : Int) < (d.1 54 (ix_n (d.1 52 2))).toInt → (ix_n (ix_abs (d.1 53 p)) : Int) ≤ (d.1 51 5).toInt) (hdr : d.1 51 10 = 0) (hR : (d.1 0 5).toInt = R) (hR6 : R ≤ 60) (hrc : ix_ok z [0, 3, 5, 6, 9] rc) (hr9 : 199 ≤ rc) (hsa : 199 ≤ sa) (hrs : rc < sa)
    (HL : ∀ d1 : ix_D2, (∀ a k, (a ≠ 51 ∨ k ≠ 11) → d1.1 a k = d.1 a k) → d1.2 = d.2 → CSL (aC_ d.1) d1.1 (if R < 60 then some (aC_ d.1) else none) 0 [] → wp_t (v_RX11_418 n z rc 51 d1) (fun t => zx_ z t.1 ∧ (∃ m, m ≤ 200 ∧ CSL (aC_ d.1) t.2.1 (F (if R < 60 then some (aC_ d.1) else none)) m []) ∧ fz_ (fS_ sa) d1 t.2)) (hF : F none = none) :
    wp_t (f_X11_admit n z 0 rc d) (fun t => fz_ (fA_C rc sa) d t.2.2 ∧ t.2.2.1 51 10 = 0 ∧ ((∃ A', R < 60 ∧ F (some (aC_ d.1)) = some A' ∧ wfA A' ∧ pfx (aC_ d.1) A' ∧ t.1 = nI R ∧ (∃ z', zx_ z z' ∧ t.2.1 = ix_zr z' 59 R (some rc)) ∧ LvC t.2.2.1 A' ∧ (t.2.2.1 rc 1).toInt = (aC_ d.1).2.1 ∧ (t.2.2.1 rc 2).toInt = (A'.2.1 : Int) - (aC_ d.1).2.1 ∧ (t.2.2.1 0 5).toInt = (R : Int) + 1 ∧ t.2.2.1 0 14 = 0 ∧ t.2.2.1 0 17 = d.1 0 17)
      ∨ ((R = 60 ∨ F (some (aC_ d.1)) = none) ∧ t.1 = -1003 ∧ zx_ z t.2.1 ∧ t.2.2.1 0 17 = -1003 ∧ t.2.2.1 0 5 = d.1 0 5 ∧ t.2.2.1 0 14 = d.1 0 14 ∧ t.2.2.1 51 5 = d.1 51 5 ∧ t.2.2.1 52 2 = d.1 52 2 ∧ (∀ j : Nat, (j : Int) ≤ (d.1 52 2).toInt → t.2.2.1 54 j = d.1 54 j) ∧ (∀ p : Nat, (p : Int) < (d.1 54 (ix_n (d.1 52 2))).toInt → t.2.2.1 53 p = d.1 53 p)))) := by
  have hT := rw_t hcw
  have hT0 := hcw.1
  have hT5 := hcw.2.1
  obtain ⟨w1, w2⟩ := aC_w hcw hn0 hn3 hit
  have nil : ∀ f : Nat → Nat → Int32, f 51 10 = 0 → dC_ f [] := fun f e => ⟨by rw [e]; rfl, fun i hi => by simp at hi⟩
  have o0 : (0 : Int32) = 0 ∨ (0 : Int32) = 1 := Or.inl rfl
  have o1 : (1 : Int32) = 0 ∨ (1 : Int32) = 1 := Or.inr rfl
  /- the second half, for either flag -/
  have half : ∀ s0 : Int32, (s0 = 0 ∨ s0 = 1) → (s0 = 0 ↔ R < 60) → wp_t (f_X11_admit_37 n z 0 rc (d.1 52 2) (d.1 51 5) s0 51 d) (fun t => fz_ (fA_C rc sa) d t.2.2 ∧ t.2.2.1 51 10 = 0 ∧ ((∃ A', R < 60 ∧ F (some (aC_ d.1)) = some A' ∧ wfA A' ∧ pfx (aC_ d.1) A' ∧ t.1 = nI R ∧ (∃ z', zx_ z z' ∧ t.2.1 = ix_zr z' 59 R (some rc)) ∧ LvC t.2.2.1 A' ∧ (t.2.2.1 rc 1).toInt = (aC_ d.1).2.1 ∧ (t.2.2.1 rc 2).toInt = (A'.2.1 : Int) - (aC_ d.1).2.1 ∧ (t.2.2.1 0 5).toInt = (R : Int) + 1 ∧ t.2.2.1 0 14 = 0 ∧ t.2.2.1 0 17 = d.1 0 17)
      ∨ ((R = 60 ∨ F (some (aC_ d.1)) = none) ∧ t.1 = -1003 ∧ zx_ z t.2.1 ∧ t.2.2.1 0 17 = -1003 ∧ t.2.2.1 0 5 = d.1 0 5 ∧ t.2.2.1 0 14 = d.1 0 14 ∧ t.2.2.1 51 5 = d.1 51 5 ∧ t.2.2.1 52 2 = d.1 52 2 ∧ (∀ j : Nat, (j : Int) ≤ (d.1 52 2).toInt → t.2.2.1 54 j = d.1 54 j) ∧ (∀ p : Nat, (p : Int) < (d.1 54 (ix_n (d.1 52 2))).toInt → t.2.2.1 53 p = d.1 53 p)))) := by
    intro s0 os hs
    obtain ⟨d1, hd1⟩ : ∃ d1, d1 = ix_di d 51 11 s0 := ⟨_, rfl⟩
    have d1o : ∀ a k, (a ≠ 51 ∨ k ≠ 11) → d1.1 a k = d.1 a k := fun a k h => by rw [hd1, up_1, if_neg (by omega)]
    have d111 : d1.1 51 11 = s0 := by rw [hd1, up_1, if_pos ⟨rfl, rfl⟩]
    have eA : aC_ d1.1 = aC_ d.1 := by
      unfold aC_
      rw [d1o _ _ (by omega), d1o _ _ (by omega), show d1.1 54 = d.1 54 from funext fun j => d1o _ _ (by omega), show d1.1 53 = d.1 53 from funext fun j => d1o _ _ (by omega)]
    have hcw1 : cw_ d1.1 := rw_cg hcw (d1o _ _ (by omega)) (funext fun j => d1o _ _ (by omega)) (funext fun j => d1o _ _ (by omega))
    have start : CSL (aC_ d.1) d1.1 (if R < 60 then some (aC_ d.1) else none) 0 [] := by
      refine ⟨nil _ (by rw [d1o _ _ (by omega)]; exact hdr), ?_⟩
      by_cases cR : R < 60
      · rw [if_pos cR]
        refine Or.inl ⟨_, rfl, ?_, w1, w2⟩
        have := aC_L hcw1 (by rw [d1o _ _ (by omega)]; exact hn0) (by rw [d111]; exact hs.mpr cR)
        rw [eA] at this
        exact this
      · rw [if_neg cR]
        refine Or.inr ⟨rfl, ?_⟩
        have := aC_O hcw1 (by rw [d1o _ _ (by omega)]; exact hn0) (by rw [d1o _ _ (by omega)]; exact hn3) (by
          rw [d111]
          rcases os with q | q
          · exact absurd (hs.mp q) cR
          · exact q)
        rw [eA] at this
        exact this
    obtain ⟨⟨z1, d2⟩, E, q1, ⟨m, q2, q3⟩, q4⟩ := HL d1 d1o (by rw [hd1]; rfl) start
    dsimp only at q1 q3 q4
    have hzz : ly_z z1 := zx_ly hz q1
    have hrc' : rc < z.2.2 := hrc.1
    have k10 : ix_ok z1 [10] 0 := of_eq_true (ly_o0 hzz)
    have k51 : ix_ok z1 [2] 51 := of_eq_true (ly_o51 hzz)
    have k52 : ix_ok z1 [7] 52 := of_eq_true (ly_o52 hzz)
    have krc : ix_ok z1 [0, 3, 5, 6, 9] rc := ⟨Nat.lt_of_lt_of_le hrc.1 q1.1, by rw [q1.2.1 _ hrc.1]; exact hrc.2⟩
    have r03 : z1.1 0 3 = some 51 := ly_r0_3 hzz
    have r04 : z1.1 0 4 = some 59 := ly_r0_4 hzz
    have r510 : z1.1 51 0 = some 52 := ly_r51_0 hzz
    have d2o : ∀ a k, ¬ fS_ sa a k → (a ≠ 51 ∨ k ≠ 11) → d2.1 a k = d.1 a k := fun a k h1 h2 => by rw [(q4 a k h1).1]; exact d1o a k h2
    have hz3 := hz.2.2
    have d205 : d2.1 0 5 = d.1 0 5 := d2o _ _ (by unfold fS_ fL_C; omega) (by omega)
    have d2l : ∀ a k, ¬ fS_ sa a k → d2.2 a k = d.2 a k := fun a k h => by rw [(q4 a k h).2, hd1]; rfl
    rcases q3.2 with ⟨A', e1, l, wA, pA⟩ | ⟨e1, ov⟩
    · /- it comes -/
      have cR : R < 60 := by
        by_cases cR : R < 60
        · exact cR
        · rw [if_neg cR, hF] at e1; simp at e1
      rw [if_pos cR] at e1
      obtain ⟨l1, l2, l3, l4, l5⟩ := l
      have e11 : d2.1 51 11 = 0 := l2
      have hTA := wA.2.1
      have hTp := pA.2.1
      have kix : ix_ix z1 24 59 (d.1 0 5) := by
        rw [ly_ix hzz (L := 60) (by decide) rfl (by decide)]
        exact ⟨by rw [ti_le, hR]; simp only [Int32.reduceToInt]; omega, by rw [ti_lt, hR, ni_ofNat (by decide)]; omega⟩
      have nR : ix_n (d.1 0 5) = R := ni_k hR
      have eT0 : ((aC_ d.1).2.1 : Int) = (d.1 52 2).toInt := hT.1
      have esub : (d2.1 52 2 - d.1 52 2).toInt = (A'.2.1 : Int) - (aC_ d.1).2.1 := by
        have : (d2.1 52 2 - d.1 52 2).toInt = (d2.1 52 2).toInt - (d.1 52 2).toInt := by (focus (first | omega | (simp (disch := (first | omega | (simp (disch := first | omega | (simp only [Int32.reduceToInt]; omega)) only [Int32.reduceToInt, ta_add, ta_sub, ta_mul, ta_neg, ta_div]; omega))) only [up_1, cp_1, rng_1, fn_1, dj_1, Nat.reduceEqDiff, false_and, and_false, true_and, and_true, or_true, true_or, or_false, false_or, not_true_eq_false, not_false_eq_true, ↓reduceIte, eq_self, ne_eq, ti_eq, ti_le, ti_lt, ti_ite, Int32.reduceToInt, ta_add, ta_sub, ta_mul, ta_neg, ta_div]; done) | (simp (disch := (first | omega | (simp (disch := first | omega | (simp only [Int32.reduceToInt]; omega)) only [Int32.reduceToInt, ta_add, ta_sub, ta_mul, ta_neg, ta_div]; omega))) only [up_1, cp_1, rng_1, fn_1, dj_1, Nat.reduceEqDiff, false_and, and_false, true_and, and_true, or_true, true_or, or_false, false_or, not_true_eq_false, not_false_eq_true, ↓reduceIte, eq_self, ne_eq, ti_eq, ti_le, ti_lt, ti_ite, Int32.reduceToInt, ta_add, ta_sub, ta_mul, ta_neg, ta_div]; omega)))
        omega
      have e05 : (d.1 0 5 + 1).toInt = (R : Int) + 1 := by (focus (first | omega | (simp (disch := (first | omega | (simp (disch := first | omega | (simp only [Int32.reduceToInt]; omega)) only [Int32.reduceToInt, ta_add, ta_sub, ta_mul, ta_neg, ta_div]; omega))) only [up_1, cp_1, rng_1, fn_1, dj_1, Nat.reduceEqDiff, false_and, and_false, true_and, and_true, or_true, true_or, or_false, false_or, not_true_eq_false, not_false_eq_true, ↓reduceIte, eq_self, ne_eq, ti_eq, ti_le, ti_lt, ti_ite, Int32.reduceToInt, ta_add, ta_sub, ta_mul, ta_neg, ta_div]; done) | (simp (disch := (first | omega | (simp (disch := first | omega | (simp only [Int32.reduceToInt]; omega)) only [Int32.reduceToInt, ta_add, ta_sub, ta_mul, ta_neg, ta_div]; omega))) only [up_1, cp_1, rng_1, fn_1, dj_1, Nat.reduceEqDiff, false_and, and_false, true_and, and_true, or_true, true_or, or_false, false_or, not_true_eq_false, not_false_eq_true, ↓reduceIte, eq_self, ne_eq, ti_eq, ti_le, ti_lt, ti_ite, Int32.reduceToInt, ta_add, ta_sub, ta_mul, ta_neg, ta_div]; omega)))
      have e05' : d.1 0 5 + 1 - 1 = nI R := Int32.toInt_inj.mp (by rw [nI_ti (by omega)]; (focus (first | omega | (simp (disch := (first | omega | (simp (disch := first | omega | (simp only [Int32.reduceToInt]; omega)) only [Int32.reduceToInt, ta_add, ta_sub, ta_mul, ta_neg, ta_div]; omega))) only [up_1, cp_1, rng_1, fn_1, dj_1, Nat.reduceEqDiff, false_and, and_false, true_and, and_true, or_true, true_or, or_false, false_or, not_true_eq_false, not_false_eq_true, ↓reduceIte, eq_self, ne_eq, ti_eq, ti_le, ti_lt, ti_ite, Int32.reduceToInt, ta_add, ta_sub, ta_mul, ta_neg, ta_div]; done) | (simp (disch := (first | omega | (simp (disch := first | omega | (simp only [Int32.reduceToInt]; omega)) only [Int32.reduceToInt, ta_add, ta_sub, ta_mul, ta_neg, ta_div]; omega))) only [up_1, cp_1, rng_1, fn_1, dj_1, Nat.reduceEqDiff, false_and, and_false, true_and, and_true, or_true, true_or, or_false, false_or, not_true_eq_false, not_false_eq_true, ↓reduceIte, eq_self, ne_eq, ti_eq, ti_le, ti_lt, ti_ite, Int32.reduceToInt, ta_add, ta_sub, ta_mul, ta_neg, ta_div]; omega))))
      have u1 : (ix_di d2 rc 1 (d.1 52 2)).1 52 2 = d2.1 52 2 := by rw [up_1, if_neg (by omega)]
      have u2 : (ix_di (ix_di d2 rc 1 (d.1 52 2)) rc 2 (d2.1 52 2 - d.1 52 2)).1 0 5 = d.1 0 5 := by rw [up_1, if_neg (by omega), up_1, if_neg (by omega)]; exact d205
      have k10' : ix_ok (ix_zr z1 59 R (some rc)) [10] 0 := k10
      obtain ⟨g, hg⟩ : ∃ g, g = ix_di (ix_di (ix_di (ix_di d2 rc 1 (d.1 52 2)) rc 2 (d2.1 52 2 - d.1 52 2)) 0 5 (d.1 0 5 + 1)) 0 14 0 := ⟨_, rfl⟩
      have g05 : g.1 0 5 = d.1 0 5 + 1 := by rw [hg, up_1, if_neg (by omega), up_1, if_pos ⟨rfl, rfl⟩]
      have go : ∀ a k, ¬ (a = rc ∧ (k = 1 ∨ k = 2)) → ¬ (a = 0 ∧ (k = 5 ∨ k = 14)) → g.1 a k = d2.1 a k := fun a k h1 h2 => by rw [hg, up_1, if_neg (by omega), up_1, if_neg (by omega), up_1, if_neg (by omega), up_1, if_neg (by omega)]
      (repeat (first | with_reducible refine wi_ck os ?_ | rw [← hd1] | with_reducible refine wi_ck hrc ?_ | (with_reducible refine wi_e (E) ?_; try dsimp only) | with_reducible refine wi_ck k10 ?_ | with_reducible refine wi_r (r03) ?_ | with_reducible refine wi_ck k51 ?_ | with_reducible refine wi_ifp e11 ?_ | with_reducible refine wi_ck krc ?_ | with_reducible refine wi_r (r510) ?_ | with_reducible refine wi_ck k52 ?_ | rw [u1] | with_reducible refine wi_r (r04) ?_ | rw [u2] | with_reducible refine wi_ck kix ?_ | rw [nR] | with_reducible refine wi_ck k10' ?_ | rw [← hg] | rw [g05] | rw [e05'] | with_reducible refine wi_t (ly_o0 hz) ?_ | with_reducible refine wi_t (ly_o51 hz) ?_ | with_reducible refine wi_r (ly_r0_3 hz) ?_ | with_reducible refine wi_t (ly_o52 hz) ?_ | with_reducible refine wi_r (ly_r51_0 hz) ?_ | with_reducible refine wi_lt ?_ | (with_reducible refine wi_ifp ?_ ?_; (focus (first | omega | (simp (disch := (first | omega | (simp (disch := first | omega | (simp only [Int32.reduceToInt]; omega)) only [Int32.reduceToInt, ta_add, ta_sub, ta_mul, ta_neg, ta_div]; omega))) only [up_1, cp_1, rng_1, fn_1, dj_1, Nat.reduceEqDiff, false_and, and_false, true_and, and_true, or_true, true_or, or_false, false_or, not_true_eq_false, not_false_eq_true, ↓reduceIte, eq_self, ne_eq, ti_eq, ti_le, ti_lt, ti_ite, Int32.reduceToInt, ta_add, ta_sub, ta_mul, ta_neg, ta_div]; done) | (simp (disch := (first | omega | (simp (disch := first | omega | (simp only [Int32.reduceToInt]; omega)) only [Int32.reduceToInt, ta_add, ta_sub, ta_mul, ta_neg, ta_div]; omega))) only [up_1, cp_1, rng_1, fn_1, dj_1, Nat.reduceEqDiff, false_and, and_false, true_and, and_true, or_true, true_or, or_false, false_or, not_true_eq_false, not_false_eq_true, ↓reduceIte, eq_self, ne_eq, ti_eq, ti_le, ti_lt, ti_ite, Int32.reduceToInt, ta_add, ta_sub, ta_mul, ta_neg, ta_div]; omega)))) | (with_reducible refine wi_ifn ?_ ?_; (focus (first | omega | (simp (disch := (first | omega | (simp (disch := first | omega | (simp only [Int32.reduceToInt]; omega)) only [Int32.reduceToInt, ta_add, ta_sub, ta_mul, ta_neg, ta_div]; omega))) only [up_1, cp_1, rng_1, fn_1, dj_1, Nat.reduceEqDiff, false_and, and_false, true_and, and_true, or_true, true_or, or_false, false_or, not_true_eq_false, not_false_eq_true, ↓reduceIte, eq_self, ne_eq, ti_eq, ti_le, ti_lt, ti_ite, Int32.reduceToInt, ta_add, ta_sub, ta_mul, ta_neg, ta_div]; done) | (simp (disch := (first | omega | (simp (disch := first | omega | (simp only [Int32.reduceToInt]; omega)) only [Int32.reduceToInt, ta_add, ta_sub, ta_mul, ta_neg, ta_div]; omega))) only [up_1, cp_1, rng_1, fn_1, dj_1, Nat.reduceEqDiff, false_and, and_false, true_and, and_true, or_true, true_or, or_false, false_or, not_true_eq_false, not_false_eq_true, ↓reduceIte, eq_self, ne_eq, ti_eq, ti_le, ti_lt, ti_ite, Int32.reduceToInt, ta_add, ta_sub, ta_mul, ta_neg, ta_div]; omega)))) | (with_reducible refine wi_ck ?_ ?_; (focus (first | omega | (simp (disch := (first | omega | (simp (disch := first | omega | (simp only [Int32.reduceToInt]; omega)) only [Int32.reduceToInt, ta_add, ta_sub, ta_mul, ta_neg, ta_div]; omega))) only [up_1, cp_1, rng_1, fn_1, dj_1, Nat.reduceEqDiff, false_and, and_false, true_and, and_true, or_true, true_or, or_false, false_or, not_true_eq_false, not_false_eq_true, ↓reduceIte, eq_self, ne_eq, ti_eq, ti_le, ti_lt, ti_ite, Int32.reduceToInt, ta_add, ta_sub, ta_mul, ta_neg, ta_div]; done) | (simp (disch := (first | omega | (simp (disch := first | omega | (simp only [Int32.reduceToInt]; omega)) only [Int32.reduceToInt, ta_add, ta_sub, ta_mul, ta_neg, ta_div]; omega))) only [up_1, cp_1, rng_1, fn_1, dj_1, Nat.reduceEqDiff, false_and, and_false, true_and, and_true, or_true, true_or, or_false, false_or, not_true_eq_false, not_false_eq_true, ↓reduceIte, eq_self, ne_eq, ti_eq, ti_le, ti_lt, ti_ite, Int32.reduceToInt, ta_add, ta_sub, ta_mul, ta_neg, ta_div]; omega)))) | with_reducible refine wi_bd2 ?_ | with_reducible refine wi_bd1 ?_ | with_reducible refine wi_bd3 ?_ | (with_reducible refine wi_some ?_; try dsimp only) | unfold f_X11_admit_37))
      refine ⟨fun a k hs => ?_, ?_, Or.inl ⟨A', cR, e1, wA, pA, rfl, ⟨z1, q1, rfl⟩, ⟨?_, ?_, ?_, fun j hj => ?_, fun p hp => ?_⟩, ?_, ?_, ?_, ?_, ?_⟩⟩
      · have s1 : ¬ fL_C a k := fun q => hs (Or.inl q)
        have s2 : ¬ sa ≤ a := fun q => hs (Or.inr (Or.inl q))
        have s3 : ¬ (a = rc ∧ (k = 1 ∨ k = 2)) := fun q => hs (Or.inr (Or.inr (Or.inl q)))
        have s4 : ¬ (a = 0 ∧ (k = 5 ∨ k = 14 ∨ k = 17)) := fun q => hs (Or.inr (Or.inr (Or.inr q)))
        have ns : ¬ fS_ sa a k := fun q => by rcases q with q | q; exact s1 q; omega
        refine ⟨?_, ?_⟩
        · rw [go a k (by omega) (by omega)]; exact d2o a k ns (by unfold fL_C at s1; omega)
        · rw [hg]; exact d2l a k ns
      · rw [go _ _ (by omega) (by omega)]
        have := q3.1.1
        exact Int32.toInt_inj.mp this
      · rw [go _ _ (by omega) (by omega)]; exact l1
      · rw [go _ _ (by omega) (by omega)]; exact l2
      · rw [go _ _ (by omega) (by omega)]; exact l3
      · rw [go _ _ (by omega) (by omega)]; exact l4 j hj
      · rw [go _ _ (by omega) (by omega)]; exact l5 p hp
      · rw [hg, up_1, if_neg (by omega), up_1, if_neg (by omega), up_1, if_neg (by omega), up_1, if_pos ⟨rfl, rfl⟩]; exact eT0.symm
      · rw [hg, up_1, if_neg (by omega), up_1, if_neg (by omega), up_1, if_pos ⟨rfl, rfl⟩]; exact esub
      · first | exact e05 | (rw [g05]; exact e05)
      · rw [hg, up_1, if_pos ⟨rfl, rfl⟩]
      · rw [go _ _ (by omega) (by omega)]; exact d2o _ _ (by unfold fS_ fL_C; omega) (by omega)
    · /- too much -/
      obtain ⟨v1, v2, v3, v4, v5, v6, v7, v8, v9⟩ := ov
      have e11 : ¬ d2.1 51 11 = 0 := by rw [v1]; decide
      have eT0 : ((aC_ d.1).2.1 : Int) = (d.1 52 2).toInt := hT.1
      rw [eT0] at v4
      have hno : R = 60 ∨ F (some (aC_ d.1)) = none := by
        by_cases cR : R < 60
        · rw [if_pos cR] at e1; exact Or.inr e1
        · exact Or.inl (by omega)
      obtain ⟨d3, E3, h3, h3o, h3l⟩ : ∃ d3, f_X7_shortenTo n z1 52 (d.1 52 2) d2 = some d3 ∧ d3.1 52 2 = d.1 52 2 ∧ (∀ a k, (a ≠ 52 ∨ k ≠ 2) → d3.1 a k = d2.1 a k) ∧ d3.2 = d2.2 := by
        by_cases cc : (d2.1 52 2).toInt ≤ (d.1 52 2).toInt
        · refine ⟨d2, ?_, Int32.toInt_inj.mp (by omega), fun _ _ _ => rfl, rfl⟩
          rw [← wp_eq]
          (repeat (first | with_reducible refine wi_ck k52 ?_ | with_reducible refine wi_t (ly_o52 hz) ?_ | with_reducible refine wi_r (ly_r51_0 hz) ?_ | with_reducible refine wi_lt ?_ | (with_reducible refine wi_ifp ?_ ?_; (focus (first | omega | (simp (disch := (first | omega | (simp (disch := first | omega | (simp only [Int32.reduceToInt]; omega)) only [Int32.reduceToInt, ta_add, ta_sub, ta_mul, ta_neg, ta_div]; omega))) only [up_1, cp_1, rng_1, fn_1, dj_1, Nat.reduceEqDiff, false_and, and_false, true_and, and_true, or_true, true_or, or_false, false_or, not_true_eq_false, not_false_eq_true, ↓reduceIte, eq_self, ne_eq, ti_eq, ti_le, ti_lt, ti_ite, Int32.reduceToInt, ta_add, ta_sub, ta_mul, ta_neg, ta_div]; done) | (simp (disch := (first | omega | (simp (disch := first | omega | (simp only [Int32.reduceToInt]; omega)) only [Int32.reduceToInt, ta_add, ta_sub, ta_mul, ta_neg, ta_div]; omega))) only [up_1, cp_1, rng_1, fn_1, dj_1, Nat.reduceEqDiff, false_and, and_false, true_and, and_true, or_true, true_or, or_false, false_or, not_true_eq_false, not_false_eq_true, ↓reduceIte, eq_self, ne_eq, ti_eq, ti_le, ti_lt, ti_ite, Int32.reduceToInt, ta_add, ta_sub, ta_mul, ta_neg, ta_div]; omega)))) | (with_reducible refine wi_ifn ?_ ?_; (focus (first | omega | (simp (disch := (first | omega | (simp (disch := first | omega | (simp only [Int32.reduceToInt]; omega)) only [Int32.reduceToInt, ta_add, ta_sub, ta_mul, ta_neg, ta_div]; omega))) only [up_1, cp_1, rng_1, fn_1, dj_1, Nat.reduceEqDiff, false_and, and_false, true_and, and_true, or_true, true_or, or_false, false_or, not_true_eq_false, not_false_eq_true, ↓reduceIte, eq_self, ne_eq, ti_eq, ti_le, ti_lt, ti_ite, Int32.reduceToInt, ta_add, ta_sub, ta_mul, ta_neg, ta_div]; done) | (simp (disch := (first | omega | (simp (disch := first | omega | (simp only [Int32.reduceToInt]; omega)) only [Int32.reduceToInt, ta_add, ta_sub, ta_mul, ta_neg, ta_div]; omega))) only [up_1, cp_1, rng_1, fn_1, dj_1, Nat.reduceEqDiff, false_and, and_false, true_and, and_true, or_true, true_or, or_false, false_or, not_true_eq_false, not_false_eq_true, ↓reduceIte, eq_self, ne_eq, ti_eq, ti_le, ti_lt, ti_ite, Int32.reduceToInt, ta_add, ta_sub, ta_mul, ta_neg, ta_div]; omega)))) | (with_reducible refine wi_ck ?_ ?_; (focus (first | omega | (simp (disch := (first | omega | (simp (disch := first | omega | (simp only [Int32.reduceToInt]; omega)) only [Int32.reduceToInt, ta_add, ta_sub, ta_mul, ta_neg, ta_div]; omega))) only [up_1, cp_1, rng_1, fn_1, dj_1, Nat.reduceEqDiff, false_and, and_false, true_and, and_true, or_true, true_or, or_false, false_or, not_true_eq_false, not_false_eq_true, ↓reduceIte, eq_self, ne_eq, ti_eq, ti_le, ti_lt, ti_ite, Int32.reduceToInt, ta_add, ta_sub, ta_mul, ta_neg, ta_div]; done) | (simp (disch := (first | omega | (simp (disch := first | omega | (simp only [Int32.reduceToInt]; omega)) only [Int32.reduceToInt, ta_add, ta_sub, ta_mul, ta_neg, ta_div]; omega))) only [up_1, cp_1, rng_1, fn_1, dj_1, Nat.reduceEqDiff, false_and, and_false, true_and, and_true, or_true, true_or, or_false, false_or, not_true_eq_false, not_false_eq_true, ↓reduceIte, eq_self, ne_eq, ti_eq, ti_le, ti_lt, ti_ite, Int32.reduceToInt, ta_add, ta_sub, ta_mul, ta_neg, ta_div]; omega)))) | with_reducible refine wi_bd2 ?_ | with_reducible refine wi_bd1 ?_ | with_reducible refine wi_bd3 ?_ | (with_reducible refine wi_some ?_; try dsimp only) | unfold f_X7_shortenTo))
        · refine ⟨ix_di d2 52 2 (d.1 52 2), ?_, by rw [up_1, if_pos ⟨rfl, rfl⟩], fun a k h => by rw [up_1, if_neg (by omega)], rfl⟩
          rw [← wp_eq]
          (repeat (first | with_reducible refine wi_ck k52 ?_ | with_reducible refine wi_t (ly_o52 hz) ?_ | with_reducible refine wi_r (ly_r51_0 hz) ?_ | with_reducible refine wi_lt ?_ | (with_reducible refine wi_ifp ?_ ?_; (focus (first | omega | (simp (disch := (first | omega | (simp (disch := first | omega | (simp only [Int32.reduceToInt]; omega)) only [Int32.reduceToInt, ta_add, ta_sub, ta_mul, ta_neg, ta_div]; omega))) only [up_1, cp_1, rng_1, fn_1, dj_1, Nat.reduceEqDiff, false_and, and_false, true_and, and_true, or_true, true_or, or_false, false_or, not_true_eq_false, not_false_eq_true, ↓reduceIte, eq_self, ne_eq, ti_eq, ti_le, ti_lt, ti_ite, Int32.reduceToInt, ta_add, ta_sub, ta_mul, ta_neg, ta_div]; done) | (simp (disch := (first | omega | (simp (disch := first | omega | (simp only [Int32.reduceToInt]; omega)) only [Int32.reduceToInt, ta_add, ta_sub, ta_mul, ta_neg, ta_div]; omega))) only [up_1, cp_1, rng_1, fn_1, dj_1, Nat.reduceEqDiff, false_and, and_false, true_and, and_true, or_true, true_or, or_false, false_or, not_true_eq_false, not_false_eq_true, ↓reduceIte, eq_self, ne_eq, ti_eq, ti_le, ti_lt, ti_ite, Int32.reduceToInt, ta_add, ta_sub, ta_mul, ta_neg, ta_div]; omega)))) | (with_reducible refine wi_ifn ?_ ?_; (focus (first | omega | (simp (disch := (first | omega | (simp (disch := first | omega | (simp only [Int32.reduceToInt]; omega)) only [Int32.reduceToInt, ta_add, ta_sub, ta_mul, ta_neg, ta_div]; omega))) only [up_1, cp_1, rng_1, fn_1, dj_1, Nat.reduceEqDiff, false_and, and_false, true_and, and_true, or_true, true_or, or_false, false_or, not_true_eq_false, not_false_eq_true, ↓reduceIte, eq_self, ne_eq, ti_eq, ti_le, ti_lt, ti_ite, Int32.reduceToInt, ta_add, ta_sub, ta_mul, ta_neg, ta_div]; done) | (simp (disch := (first | omega | (simp (disch := first | omega | (simp only [Int32.reduceToInt]; omega)) only [Int32.reduceToInt, ta_add, ta_sub, ta_mul, ta_neg, ta_div]; omega))) only [up_1, cp_1, rng_1, fn_1, dj_1, Nat.reduceEqDiff, false_and, and_false, true_and, and_true, or_true, true_or, or_false, false_or, not_true_eq_false, not_false_eq_true, ↓reduceIte, eq_self, ne_eq, ti_eq, ti_le, ti_lt, ti_ite, Int32.reduceToInt, ta_add, ta_sub, ta_mul, ta_neg, ta_div]; omega)))) | (with_reducible refine wi_ck ?_ ?_; (focus (first | omega | (simp (disch := (first | omega | (simp (disch := first | omega | (simp only [Int32.reduceToInt]; omega)) only [Int32.reduceToInt, ta_add, ta_sub, ta_mul, ta_neg, ta_div]; omega))) only [up_1, cp_1, rng_1, fn_1, dj_1, Nat.reduceEqDiff, false_and, and_false, true_and, and_true, or_true, true_or, or_false, false_or, not_true_eq_false, not_false_eq_true, ↓reduceIte, eq_self, ne_eq, ti_eq, ti_le, ti_lt, ti_ite, Int32.reduceToInt, ta_add, ta_sub, ta_mul, ta_neg, ta_div]; done) | (simp (disch := (first | omega | (simp (disch := first | omega | (simp only [Int32.reduceToInt]; omega)) only [Int32.reduceToInt, ta_add, ta_sub, ta_mul, ta_neg, ta_div]; omega))) only [up_1, cp_1, rng_1, fn_1, dj_1, Nat.reduceEqDiff, false_and, and_false, true_and, and_true, or_true, true_or, or_false, false_or, not_true_eq_false, not_false_eq_true, ↓reduceIte, eq_self, ne_eq, ti_eq, ti_le, ti_lt, ti_ite, Int32.reduceToInt, ta_add, ta_sub, ta_mul, ta_neg, ta_div]; omega)))) | with_reducible refine wi_bd2 ?_ | with_reducible refine wi_bd1 ?_ | with_reducible refine wi_bd3 ?_ | (with_reducible refine wi_some ?_; try dsimp only) | unfold f_X7_shortenTo))
      (repeat (first | with_reducible refine wi_ck os ?_ | rw [← hd1] | with_reducible refine wi_ck hrc ?_ | (with_reducible refine wi_e (E) ?_; try dsimp only) | with_reducible refine wi_ck k10 ?_ | with_reducible refine wi_r (r03) ?_ | with_reducible refine wi_ck k51 ?_ | with_reducible refine wi_ifn e11 ?_ | with_reducible refine wi_r (r510) ?_ | with_reducible refine wi_ck k52 ?_ | (with_reducible refine wi_e (E3) ?_; try dsimp only) | with_reducible refine wi_ck k10 ?_ | with_reducible refine wi_t (ly_o0 hz) ?_ | with_reducible refine wi_t (ly_o51 hz) ?_ | with_reducible refine wi_r (ly_r0_3 hz) ?_ | with_reducible refine wi_t (ly_o52 hz) ?_ | with_reducible refine wi_r (ly_r51_0 hz) ?_ | with_reducible refine wi_lt ?_ | (with_reducible refine wi_ifp ?_ ?_; (focus (first | omega | (simp (disch := (first | omega | (simp (disch := first | omega | (simp only [Int32.reduceToInt]; omega)) only [Int32.reduceToInt, ta_add, ta_sub, ta_mul, ta_neg, ta_div]; omega))) only [up_1, cp_1, rng_1, fn_1, dj_1, Nat.reduceEqDiff, false_and, and_false, true_and, and_true, or_true, true_or, or_false, false_or, not_true_eq_false, not_false_eq_true, ↓reduceIte, eq_self, ne_eq, ti_eq, ti_le, ti_lt, ti_ite, Int32.reduceToInt, ta_add, ta_sub, ta_mul, ta_neg, ta_div]; done) | (simp (disch := (first | omega | (simp (disch := first | omega | (simp only [Int32.reduceToInt]; omega)) only [Int32.reduceToInt, ta_add, ta_sub, ta_mul, ta_neg, ta_div]; omega))) only [up_1, cp_1, rng_1, fn_1, dj_1, Nat.reduceEqDiff, false_and, and_false, true_and, and_true, or_true, true_or, or_false, false_or, not_true_eq_false, not_false_eq_true, ↓reduceIte, eq_self, ne_eq, ti_eq, ti_le, ti_lt, ti_ite, Int32.reduceToInt, ta_add, ta_sub, ta_mul, ta_neg, ta_div]; omega)))) | (with_reducible refine wi_ifn ?_ ?_; (focus (first | omega | (simp (disch := (first | omega | (simp (disch := first | omega | (simp only [Int32.reduceToInt]; omega)) only [Int32.reduceToInt, ta_add, ta_sub, ta_mul, ta_neg, ta_div]; omega))) only [up_1, cp_1, rng_1, fn_1, dj_1, Nat.reduceEqDiff, false_and, and_false, true_and, and_true, or_true, true_or, or_false, false_or, not_true_eq_false, not_false_eq_true, ↓reduceIte, eq_self, ne_eq, ti_eq, ti_le, ti_lt, ti_ite, Int32.reduceToInt, ta_add, ta_sub, ta_mul, ta_neg, ta_div]; done) | (simp (disch := (first | omega | (simp (disch := first | omega | (simp only [Int32.reduceToInt]; omega)) only [Int32.reduceToInt, ta_add, ta_sub, ta_mul, ta_neg, ta_div]; omega))) only [up_1, cp_1, rng_1, fn_1, dj_1, Nat.reduceEqDiff, false_and, and_false, true_and, and_true, or_true, true_or, or_false, false_or, not_true_eq_false, not_false_eq_true, ↓reduceIte, eq_self, ne_eq, ti_eq, ti_le, ti_lt, ti_ite, Int32.reduceToInt, ta_add, ta_sub, ta_mul, ta_neg, ta_div]; omega)))) | (with_reducible refine wi_ck ?_ ?_; (focus (first | omega | (simp (disch := (first | omega | (simp (disch := first | omega | (simp only [Int32.reduceToInt]; omega)) only [Int32.reduceToInt, ta_add, ta_sub, ta_mul, ta_neg, ta_div]; omega))) only [up_1, cp_1, rng_1, fn_1, dj_1, Nat.reduceEqDiff, false_and, and_false, true_and, and_true, or_true, true_or, or_false, false_or, not_true_eq_false, not_false_eq_true, ↓reduceIte, eq_self, ne_eq, ti_eq, ti_le, ti_lt, ti_ite, Int32.reduceToInt, ta_add, ta_sub, ta_mul, ta_neg, ta_div]; done) | (simp (disch := (first | omega | (simp (disch := first | omega | (simp only [Int32.reduceToInt]; omega)) only [Int32.reduceToInt, ta_add, ta_sub, ta_mul, ta_neg, ta_div]; omega))) only [up_1, cp_1, rng_1, fn_1, dj_1, Nat.reduceEqDiff, false_and, and_false, true_and, and_true, or_true, true_or, or_false, false_or, not_true_eq_false, not_false_eq_true, ↓reduceIte, eq_self, ne_eq, ti_eq, ti_le, ti_lt, ti_ite, Int32.reduceToInt, ta_add, ta_sub, ta_mul, ta_neg, ta_div]; omega)))) | with_reducible refine wi_bd2 ?_ | with_reducible refine wi_bd1 ?_ | with_reducible refine wi_bd3 ?_ | (with_reducible refine wi_some ?_; try dsimp only) | unfold f_X11_admit_37 | unfold f_X11_refuse))
      have go : ∀ a k, ¬ (a = 51 ∧ k = 5) → ¬ (a = 0 ∧ k = 17) → (ix_di (ix_di d3 51 5 (d.1 51 5)) 0 17 (-1003)).1 a k = d3.1 a k := fun a k h1 h2 => by rw [up_1, if_neg (by omega), up_1, if_neg (by omega)]
      refine ⟨fun a k hs => ?_, ?_, Or.inr ⟨hno, rfl, q1, ?_, ?_, ?_, ?_, ?_, fun j hj => ?_, fun p hp => ?_⟩⟩
      · have s1 : ¬ fL_C a k := fun q => hs (Or.inl q)
        have s2 : ¬ sa ≤ a := fun q => hs (Or.inr (Or.inl q))
        have s4 : ¬ (a = 0 ∧ (k = 5 ∨ k = 14 ∨ k = 17)) := fun q => hs (Or.inr (Or.inr (Or.inr q)))
        have ns : ¬ fS_ sa a k := fun q => by rcases q with q | q; exact s1 q; omega
        unfold fL_C at s1
        refine ⟨?_, ?_⟩
        · rw [go a k (by omega) (by omega), h3o a k (by omega)]; exact d2o a k ns (by omega)
        · show d3.2 a k = d.2 a k
          rw [h3l]; exact d2l a k ns
      · rw [go _ _ (by omega) (by omega), h3o _ _ (by omega)]
        exact Int32.toInt_inj.mp q3.1.1
      · rw [up_1, if_pos ⟨rfl, rfl⟩]
      · rw [go _ _ (by omega) (by omega), h3o _ _ (by omega)]; exact d205
      · rw [go _ _ (by omega) (by omega), h3o _ _ (by omega)]; exact d2o _ _ (by unfold fS_ fL_C; omega) (by omega)
      · rw [up_1, if_neg (by omega), up_1, if_pos ⟨rfl, rfl⟩]
      · rw [go _ _ (by omega) (by omega)]; exact h3
      · rw [go _ _ (by omega) (by omega), h3o _ _ (by omega)]
        have := v8 j (by show j ≤ ix_n (d.1 52 2); omega)
        refine Int32.toInt_inj.mp ?_
        rw [this]
        exact ni_c (rw_0 hcw hj)
      · rw [go _ _ (by omega) (by omega), h3o _ _ (by omega)]
        exact v9 p (by show p < ix_n (d.1 54 (ix_n (d.1 52 2))); have := ni_c hT.2.1; omega)
  by_cases cR : R < 60
  · (repeat (first | with_reducible refine wi_t (ly_o0 hz) ?_ | with_reducible refine wi_t (ly_o51 hz) ?_ | with_reducible refine wi_r (ly_r0_3 hz) ?_ | with_reducible refine wi_t (ly_o52 hz) ?_ | with_reducible refine wi_r (ly_r51_0 hz) ?_ | with_reducible refine wi_lt ?_ | (with_reducible refine wi_ifp ?_ ?_; (focus (first | omega | (simp (disch := (first | omega | (simp (disch := first | omega | (simp only [Int32.reduceToInt]; omega)) only [Int32.reduceToInt, ta_add, ta_sub, ta_mul, ta_neg, ta_div]; omega))) only [up_1, cp_1, rng_1, fn_1, dj_1, Nat.reduceEqDiff, false_and, and_false, true_and, and_true, or_true, true_or, or_false, false_or, not_true_eq_false, not_false_eq_true, ↓reduceIte, eq_self, ne_eq, ti_eq, ti_le, ti_lt, ti_ite, Int32.reduceToInt, ta_add, ta_sub, ta_mul, ta_neg, ta_div]; done) | (simp (disch := (first | omega | (simp (disch := first | omega | (simp only [Int32.reduceToInt]; omega)) only [Int32.reduceToInt, ta_add, ta_sub, ta_mul, ta_neg, ta_div]; omega))) only [up_1, cp_1, rng_1, fn_1, dj_1, Nat.reduceEqDiff, false_and, and_false, true_and, and_true, or_true, true_or, or_false, false_or, not_true_eq_false, not_false_eq_true, ↓reduceIte, eq_self, ne_eq, ti_eq, ti_le, ti_lt, ti_ite, Int32.reduceToInt, ta_add, ta_sub, ta_mul, ta_neg, ta_div]; omega)))) | (with_reducible refine wi_ifn ?_ ?_; (focus (first | omega | (simp (disch := (first | omega | (simp (disch := first | omega | (simp only [Int32.reduceToInt]; omega)) only [Int32.reduceToInt, ta_add, ta_sub, ta_mul, ta_neg, ta_div]; omega))) only [up_1, cp_1, rng_1, fn_1, dj_1, Nat.reduceEqDiff, false_and, and_false, true_and, and_true, or_true, true_or, or_false, false_or, not_true_eq_false, not_false_eq_true, ↓reduceIte, eq_self, ne_eq, ti_eq, ti_le, ti_lt, ti_ite, Int32.reduceToInt, ta_add, ta_sub, ta_mul, ta_neg, ta_div]; done) | (simp (disch := (first | omega | (simp (disch := first | omega | (simp only [Int32.reduceToInt]; omega)) only [Int32.reduceToInt, ta_add, ta_sub, ta_mul, ta_neg, ta_div]; omega))) only [up_1, cp_1, rng_1, fn_1, dj_1, Nat.reduceEqDiff, false_and, and_false, true_and, and_true, or_true, true_or, or_false, false_or, not_true_eq_false, not_false_eq_true, ↓reduceIte, eq_self, ne_eq, ti_eq, ti_le, ti_lt, ti_ite, Int32.reduceToInt, ta_add, ta_sub, ta_mul, ta_neg, ta_div]; omega)))) | (with_reducible refine wi_ck ?_ ?_; (focus (first | omega | (simp (disch := (first | omega | (simp (disch := first | omega | (simp only [Int32.reduceToInt]; omega)) only [Int32.reduceToInt, ta_add, ta_sub, ta_mul, ta_neg, ta_div]; omega))) only [up_1, cp_1, rng_1, fn_1, dj_1, Nat.reduceEqDiff, false_and, and_false, true_and, and_true, or_true, true_or, or_false, false_or, not_true_eq_false, not_false_eq_true, ↓reduceIte, eq_self, ne_eq, ti_eq, ti_le, ti_lt, ti_ite, Int32.reduceToInt, ta_add, ta_sub, ta_mul, ta_neg, ta_div]; done) | (simp (disch := (first | omega | (simp (disch := first | omega | (simp only [Int32.reduceToInt]; omega)) only [Int32.reduceToInt, ta_add, ta_sub, ta_mul, ta_neg, ta_div]; omega))) only [up_1, cp_1, rng_1, fn_1, dj_1, Nat.reduceEqDiff, false_and, and_false, true_and, and_true, or_true, true_or, or_false, false_or, not_true_eq_false, not_false_eq_true, ↓reduceIte, eq_self, ne_eq, ti_eq, ti_le, ti_lt, ti_ite, Int32.reduceToInt, ta_add, ta_sub, ta_mul, ta_neg, ta_div]; omega)))) | with_reducible refine wi_bd2 ?_ | with_reducible refine wi_bd1 ?_ | with_reducible refine wi_bd3 ?_ | (with_reducible refine wi_some ?_; try dsimp only) | unfold f_X11_admit))
    exact half 0 o0 ⟨fun _ => cR, fun _ => rfl⟩
  · (repeat (first | with_reducible refine wi_t (ly_o0 hz) ?_ | with_reducible refine wi_t (ly_o51 hz) ?_ | with_reducible refine wi_r (ly_r0_3 hz) ?_ | with_reducible refine wi_t (ly_o52 hz) ?_ | with_reducible refine wi_r (ly_r51_0 hz) ?_ | with_reducible refine wi_lt ?_ | (with_reducible refine wi_ifp ?_ ?_; (focus (first | omega | (simp (disch := (first | omega | (simp (disch := first | omega | (simp only [Int32.reduceToInt]; omega)) only [Int32.reduceToInt, ta_add, ta_sub, ta_mul, ta_neg, ta_div]; omega))) only [up_1, cp_1, rng_1, fn_1, dj_1, Nat.reduceEqDiff, false_and, and_false, true_and, and_true, or_true, true_or, or_false, false_or, not_true_eq_false, not_false_eq_true, ↓reduceIte, eq_self, ne_eq, ti_eq, ti_le, ti_lt, ti_ite, Int32.reduceToInt, ta_add, ta_sub, ta_mul, ta_neg, ta_div]; done) | (simp (disch := (first | omega | (simp (disch := first | omega | (simp only [Int32.reduceToInt]; omega)) only [Int32.reduceToInt, ta_add, ta_sub, ta_mul, ta_neg, ta_div]; omega))) only [up_1, cp_1, rng_1, fn_1, dj_1, Nat.reduceEqDiff, false_and, and_false, true_and, and_true, or_true, true_or, or_false, false_or, not_true_eq_false, not_false_eq_true, ↓reduceIte, eq_self, ne_eq, ti_eq, ti_le, ti_lt, ti_ite, Int32.reduceToInt, ta_add, ta_sub, ta_mul, ta_neg, ta_div]; omega)))) | (with_reducible refine wi_ifn ?_ ?_; (focus (first | omega | (simp (disch := (first | omega | (simp (disch := first | omega | (simp only [Int32.reduceToInt]; omega)) only [Int32.reduceToInt, ta_add, ta_sub, ta_mul, ta_neg, ta_div]; omega))) only [up_1, cp_1, rng_1, fn_1, dj_1, Nat.reduceEqDiff, false_and, and_false, true_and, and_true, or_true, true_or, or_false, false_or, not_true_eq_false, not_false_eq_true, ↓reduceIte, eq_self, ne_eq, ti_eq, ti_le, ti_lt, ti_ite, Int32.reduceToInt, ta_add, ta_sub, ta_mul, ta_neg, ta_div]; done) | (simp (disch := (first | omega | (simp (disch := first | omega | (simp only [Int32.reduceToInt]; omega)) only [Int32.reduceToInt, ta_add, ta_sub, ta_mul, ta_neg, ta_div]; omega))) only [up_1, cp_1, rng_1, fn_1, dj_1, Nat.reduceEqDiff, false_and, and_false, true_and, and_true, or_true, true_or, or_false, false_or, not_true_eq_false, not_false_eq_true, ↓reduceIte, eq_self, ne_eq, ti_eq, ti_le, ti_lt, ti_ite, Int32.reduceToInt, ta_add, ta_sub, ta_mul, ta_neg, ta_div]; omega)))) | (with_reducible refine wi_ck ?_ ?_; (focus (first | omega | (simp (disch := (first | omega | (simp (disch := first | omega | (simp only [Int32.reduceToInt]; omega)) only [Int32.reduceToInt, ta_add, ta_sub, ta_mul, ta_neg, ta_div]; omega))) only [up_1, cp_1, rng_1, fn_1, dj_1, Nat.reduceEqDiff, false_and, and_false, true_and, and_true, or_true, true_or, or_false, false_or, not_true_eq_false, not_false_eq_true, ↓reduceIte, eq_self, ne_eq, ti_eq, ti_le, ti_lt, ti_ite, Int32.reduceToInt, ta_add, ta_sub, ta_mul, ta_neg, ta_div]; done) | (simp (disch := (first | omega | (simp (disch := first | omega | (simp only [Int32.reduceToInt]; omega)) only [Int32.reduceToInt, ta_add, ta_sub, ta_mul, ta_neg, ta_div]; omega))) only [up_1, cp_1, rng_1, fn_1, dj_1, Nat.reduceEqDiff, false_and, and_false, true_and, and_true, or_true, true_or, or_false, false_or, not_true_eq_false, not_false_eq_true, ↓reduceIte, eq_self, ne_eq, ti_eq, ti_le, ti_lt, ti_ite, Int32.reduceToInt, ta_add, ta_sub, ta_mul, ta_neg, ta_div]; omega)))) | with_reducible refine wi_bd2 ?_ | with_reducible refine wi_bd1 ?_ | with_reducible refine wi_bd3 ?_ | (with_reducible refine wi_some ?_; try dsimp only) | unfold f_X11_admit))
    exact half 1 o1 ⟨fun q => absurd q (by decide), fun q => absurd q cR⟩

end TLI
def TX_ (z : ix_Z) (d : ix_D2) (t : Int32 × ix_Z × ix_D2) (L K : Nat) : Prop := z.2.2 + 5 ≤ t.2.1.2.2 ∧ t.2.1.1 z.2.2 3 = some (z.2.2 + 2) ∧ t.2.1.1 z.2.2 4 = some (z.2.2 + 3) ∧ t.2.1.1 z.2.2 5 = some (z.2.2 + 4) ∧ t.2.1.2.1 (z.2.2 + 2) = (21, L) ∧ t.2.1.2.1 (z.2.2 + 3) = (20, K) ∧ t.2.1.2.1 (z.2.2 + 4) = (20, K + 1) ∧ (∀ j, j < L → t.2.2.1 (z.2.2 + 2) j = d.1 44 j) ∧ ∀ k, k < K → t.2.2.1 (z.2.2 + 3) k = d.1 47 k
section TLJ
variable {n : Nat} {z z5 : ix_Z} {d d5 : ix_D2} {x w3 : Int32} {N R L K : Nat} {g : Nat → Int32} {T : Nat → Nat × Nat × Nat × Int32}
theorem e_opT (hz : ly_z z) (hn : 100 ≤ n) (hm : MT_ z d z5 d5 N L K) (hK : K ≤ 60) (hT : ∀ k, k < K → tkO (T k) (pD T k)) (hc : ∀ k, k < K → d.1 47 k = cdT (T k)) (hD : pD T K = 1) (hcw : cw_ d.1) (hn0 : 0 ≤ (d.1 51 5).toInt) (hn3 : (d.1 51 5).toInt ≤ 300) (hit : ∀ p : Nat, (p : Int) < (d.1 54 (ix_n (d.1 52 2))).toInt → (ix_n (ix_abs (d.1 53 p)) : Int) ≤ (d.1 51 5).toInt) (hdr : d.1 51 10 = 0) (hR : (d.1 0 5).toInt = R) (hR6 : R ≤ 60) (hv : ∀ k, k < K → (T k).1 = 4 → okJ (if R < 60 then some (aC_ d.1) else none) (T k).2.2.2) :
    wp_t (f_X11_admit n z5 0 z.2.2 d5) (fun t => PC_ z d (toF T K) R N 9 (d5.1 (z.2.2 + 1)) (d5.1 z.2.2 3) t ∧ TX_ z d t L K) := by
  have hz3 := hz.2.2
  obtain ⟨m1, m2, m3, m4, r0, r3, r4, r5, m5, m6, m7, m8, m9, m10, m11⟩ := hm
  have hz4 : ly_z z5 := ⟨fun a ha => by rw [m2 a (by omega)]; exact hz.1 a ha, fun a k ha h9 => by rw [m3 a k (by omega)]; exact hz.2.1 a k ha h9, by rw [m1]; omega⟩
  have d4d : ∀ a k, a < z.2.2 → d5.1 a k = d.1 a k := fun a k ha => (m9 a k ha).1
  have d4l : ∀ a k, a < z.2.2 → d5.2 a k = d.2 a k := fun a k ha => (m9 a k ha).2
  have eA : aC_ d5.1 = aC_ d.1 := by
    unfold aC_
    rw [d4d _ _ (by omega), d4d _ _ (by omega), show d5.1 54 = d.1 54 from funext fun j => d4d _ _ (by omega), show d5.1 53 = d.1 53 from funext fun j => d4d _ _ (by omega)]
  have e54 : d5.1 54 = d.1 54 := funext fun j => d4d _ _ (by omega)
  have e53 : d5.1 53 = d.1 53 := funext fun j => d4d _ _ (by omega)
  have e522 : d5.1 52 2 = d.1 52 2 := d4d _ _ (by omega)
  have e515 : d5.1 51 5 = d.1 51 5 := d4d _ _ (by omega)
  have hcw4 : cw_ d5.1 := rw_cg hcw e522 e54 e53
  have hrc : ix_ok z5 [0, 3, 5, 6, 9] z.2.2 := ⟨by rw [m1]; omega, by rw [m4]; decide⟩
  have tc : TC_ z5 z.2.2 (z.2.2 + 4) (K + 1) := ⟨⟨by omega, by rw [m4]; decide⟩, r5, by omega, by omega, m8, by omega⟩
  have q := e_admT (n := n) (z := z5) (d := d5) (rc := z.2.2) (sa := z.2.2 + 4) (F := toF T K) (R := R) hz4 hcw4 (by rw [e515]; exact hn0) (by rw [e515]; exact hn3) (by rw [e54, e522, e53, e515]; exact hit) (by rw [d4d _ _ (by omega)]; exact hdr) (by rw [d4d _ _ (by omega)]; exact hR) hR6 hrc hz3 (by omega) (by omega) (by
    intro d1 k1 k2 k3
    rw [eA] at k3 ⊢
    unfold v_RX11_418
    rw [ds9 m4]
    refine lf_w ?_
    refine wp_m (e_liT (n := n) (c := d1) (ca := z.2.2 + 3) hz4 hn tc hK r4 (by omega) (by omega) m7 (by omega) k3 (fun k hk => by rw [k1 _ _ (by omega), m11 k hk]; exact hc k hk) hT hD hv) ?_
    rintro c' ⟨mm, u1, u2, u3⟩
    exact ⟨zx_r, ⟨mm, by omega, u2⟩, fz_m (fz_of u3) (fun a k q => q)⟩) toF_n
  rw [eA] at q
  refine wp_m q fun t ⟨t1, t2, t3⟩ => ?_
  have tf : fz_ (fN_ z.2.2) d t.2.2 := fun a k hs => by
    have s1 : ¬ fL_C a k := fun w => hs (Or.inl w)
    have s2 : ¬ z.2.2 ≤ a := fun w => hs (Or.inr (Or.inl w))
    have s3 : ¬ (a = 0 ∧ (k = 5 ∨ k = 14 ∨ k = 17)) := fun w => hs (Or.inr (Or.inr w))
    have := t1 a k (fun w => by
      rcases w with w | w | w | w
      · exact s1 w
      · omega
      · omega
      · exact s3 w)
    exact ⟨this.1.trans (d4d a k (by omega)), this.2.trans (d4l a k (by omega))⟩
  have dd : ∀ a k, z.2.2 ≤ a → a < z.2.2 + 4 → (a ≠ z.2.2 ∨ (k ≠ 1 ∧ k ≠ 2)) → t.2.2.1 a k = d5.1 a k := fun a k h1 h2 h3 => (t1 a k (by unfold fA_C fL_C; omega)).1
  have dx : (∀ j, j < L → t.2.2.1 (z.2.2 + 2) j = d.1 44 j) ∧ ∀ k, k < K → t.2.2.1 (z.2.2 + 3) k = d.1 47 k := ⟨fun j hj => by rw [dd _ _ (by omega) (by omega) (by omega)]; exact m10 j hj, fun k hk => by rw [dd _ _ (by omega) (by omega) (by omega)]; exact m11 k hk⟩
  rcases t3 with ⟨A', y1, y2, y3, y4, y5, ⟨z', y6, y7⟩, y8, y9, y10, y11, y12, y13⟩ | ⟨y1, y2, y3, y4, y5, y6, y7, y8, y9, y10⟩
  · have hz' : ly_z z' := zx_ly hz4 y6
    have y61 := y6.1
    have zt : t.2.1.2 = z'.2 := by rw [y7]; rfl
    have ztr : ∀ a k, (a ≠ 59 ∨ k ≠ R) → t.2.1.1 a k = z'.1 a k := fun a k h => by rw [y7]; exact zr_o h
    have zz : ∀ a k, a < z.2.2 + 5 → a ≠ 59 → t.2.1.1 a k = z5.1 a k := fun a k ha h9 => by rw [ztr a k (by omega)]; exact y6.2.2 a k (by omega)
    have zk : ∀ a, a < z.2.2 + 5 → t.2.1.2.1 a = z5.2.1 a := fun a ha => by rw [zt]; exact y6.2.1 a (by omega)
    refine ⟨⟨t2, tf, ⟨fun a ha => by rw [zt]; exact hz'.1 a ha, fun a k ha h9 => by rw [ztr a k (by omega)]; exact hz'.2.1 a k ha h9, by rw [zt]; exact hz'.2.2⟩, by rw [zt]; omega, fun a ha => by rw [zk a (by omega)]; exact m2 a ha, fun a k ha h9 => by rw [zz a k (by omega) h9]; exact m3 a k ha, Or.inl ⟨A', y1, y2, y3, y4, y5, by rw [y7]; exact zr_s, fun k hk => ?_, ?_, ?_, ?_, y8, y9, y10, fun j hj => ?_, ?_, y11, y12, ?_⟩⟩, by rw [zt]; omega, by rw [zz _ _ (by omega) (by omega)]; exact r3, by rw [zz _ _ (by omega) (by omega)]; exact r4, by rw [zz _ _ (by omega) (by omega)]; exact r5, by rw [zk _ (by omega)]; exact m6, by rw [zk _ (by omega)]; exact m7, by rw [zk _ (by omega)]; exact m8, dx⟩
    · rw [ztr 59 k (by omega), y6.2.2 59 k (by omega)]; exact m3 59 k (by omega)
    · rw [zz _ _ (by omega) (by omega)]; exact r0
    · rw [zk _ (by omega)]; exact m5
    · rw [zk _ (by omega)]; exact m4
    · exact dd _ _ (by omega) (by omega) (by omega)
    · exact dd _ _ (by omega) (by omega) (by omega)
    · rw [y13]; exact d4d _ _ (by omega)
  · have hz' : ly_z t.2.1 := zx_ly hz4 y3
    have y31 := y3.1
    have zz : ∀ a k, a < z.2.2 + 5 → t.2.1.1 a k = z5.1 a k := fun a k ha => y3.2.2 a k (by omega)
    have zk : ∀ a, a < z.2.2 + 5 → t.2.1.2.1 a = z5.2.1 a := fun a ha => y3.2.1 a (by omega)
    refine ⟨⟨t2, tf, hz', by omega, fun a ha => by rw [zk a (by omega)]; exact m2 a ha, fun a k ha h9 => by rw [zz a k (by omega)]; exact m3 a k ha, Or.inr ⟨y1, y2, fun k => ?_, y4, ?_, ?_, ?_, ?_, fun j hj => ?_, fun p hp => ?_⟩⟩, by omega, by rw [zz _ _ (by omega)]; exact r3, by rw [zz _ _ (by omega)]; exact r4, by rw [zz _ _ (by omega)]; exact r5, by rw [zk _ (by omega)]; exact m6, by rw [zk _ (by omega)]; exact m7, by rw [zk _ (by omega)]; exact m8, dx⟩
    · rw [zz 59 k (by omega)]; exact m3 59 k (by omega)
    · rw [y5]; exact d4d _ _ (by omega)
    · rw [y6]; exact d4d _ _ (by omega)
    · rw [y7]; exact e515
    · rw [y8]; exact e522
    · rw [y9 j (by rw [e522]; exact hj), e54]
    · rw [y10 p (by rw [e54, e522]; exact hp), e53]
end TLJ

/-! ADMITTING a rule: the class, the reference's keepRule -/
/-- names and rows of the case as they lie -/
def aC_ (f : Nat → Nat → Int32) : LA := (ix_n (f 51 5), ix_n (f 52 2), (fun j => ix_n (f 54 j)), f 53)
/-- z goes on: new cells only -/
def zx_ (z z' : ix_Z) : Prop := z.2.2 ≤ z'.2.2 ∧ (∀ a, a < z.2.2 → z'.2.1 a = z.2.1 a) ∧ ∀ a k, a < z.2.2 → z'.1 a k = z.1 a k
def fA_C (rc Z a k : Nat) : Prop := fL_C a k ∨ Z ≤ a ∨ (a = rc ∧ (k = 1 ∨ k = 2)) ∨ (a = 0 ∧ (k = 5 ∨ k = 14 ∨ k = 17))
section ADM
variable {n : Nat} {z z' : ix_Z} {c d r e : ix_D2} {A0 A A' : LA} {o O : Option LA} {m rc : Nat}
theorem zx_r : zx_ z z := ⟨Nat.le_refl _, fun _ _ => rfl, fun _ _ _ => rfl⟩
theorem zx_t {z2 : ix_Z} (h1 : zx_ z z') (h2 : zx_ z' z2) : zx_ z z2 := ⟨Nat.le_trans h1.1 h2.1, fun a ha => by rw [h2.2.1 a (by have := h1.1; omega)]; exact h1.2.1 a ha, fun a k ha => by rw [h2.2.2 a k (by have := h1.1; omega)]; exact h1.2.2 a k ha⟩
theorem zx_n {t l : Nat} : zx_ z (ix_zn z t l) := ⟨by rw [zn_n]; omega, fun a ha => zn_k (by omega), fun a k ha => zn_r (by omega)⟩
theorem zx_ly (hz : ly_z z) (h : zx_ z z') : ly_z z' := ⟨fun a ha => by rw [h.2.1 a (by have := hz.2.2; omega)]; exact hz.1 a ha, fun a k ha h9 => by rw [h.2.2 a k (by have := hz.2.2; omega)]; exact hz.2.1 a k ha h9, Nat.le_trans hz.2.2 h.1⟩
theorem aC_w (hcw : cw_ d.1) (hn0 : 0 ≤ (d.1 51 5).toInt) (hn3 : (d.1 51 5).toInt ≤ 300) (hit : ∀ p : Nat, (p : Int) < (d.1 54 (ix_n (d.1 52 2))).toInt → (ix_n (ix_abs (d.1 53 p)) : Int) ≤ (d.1 51 5).toInt) : wfA (aC_ d.1) ∧ pfx (aC_ d.1) (aC_ d.1) := by
  have nN := ni_c hn0
  have hT := rw_t hcw
  have hT5 := hcw.2.1
  have nk : ∀ j : Nat, (j : Int) ≤ (d.1 52 2).toInt → (ix_n (d.1 54 j) : Int) = (d.1 54 j).toInt := fun j hj => ni_c (rw_0 hcw hj)
  have nT := nk (ix_n (d.1 52 2)) (by omega)
  refine ⟨⟨?_, ?_, ?_, fun j hj => ?_, ?_, fun p hp => ?_⟩, ⟨Nat.le_refl _, Nat.le_refl _, fun _ _ => rfl, fun _ _ => rfl, Nat.le_refl _⟩⟩
  · show ix_n (d.1 51 5) ≤ 300; omega
  · show ix_n (d.1 52 2) ≤ 500; omega
  · show ix_n (d.1 54 0) = 0
    rw [ni_def, hcw.2.2.1]; rfl
  · have hj : j < ix_n (d.1 52 2) := hj
    have b := rw_b hcw (k := j) (by omega)
    have a0 := nk j (by omega)
    have a1 := nk (j + 1) (by omega)
    show ix_n (d.1 54 j) ≤ ix_n (d.1 54 (j + 1)) ∧ ix_n (d.1 54 (j + 1)) ≤ ix_n (d.1 54 j) + 301
    omega
  · show ix_n (d.1 54 (ix_n (d.1 52 2))) ≤ 2500; omega
  · have hp : p < ix_n (d.1 54 (ix_n (d.1 52 2))) := hp
    refine ⟨hcw.2.2.2.2.2 p (by omega), ?_⟩
    have := hit p (by omega)
    show ix_n (ix_abs (d.1 53 p)) ≤ ix_n (d.1 51 5)
    omega
theorem aC_L (hcw : cw_ d.1) (hn0 : 0 ≤ (d.1 51 5).toInt) (h11 : d.1 51 11 = 0) : LvC d.1 (aC_ d.1) := by
  have hT := rw_t hcw
  refine ⟨(ni_c hn0).symm, h11, hT.1.symm, fun j hj => ?_, fun p _ => rfl⟩
  have hj : j ≤ ix_n (d.1 52 2) := hj
  exact (ni_c (rw_0 hcw (by omega))).symm
theorem aC_O (hcw : cw_ d.1) (hn0 : 0 ≤ (d.1 51 5).toInt) (hn3 : (d.1 51 5).toInt ≤ 300) (h11 : d.1 51 11 = 1) : OvC (aC_ d.1) d.1 0 := by
  have hT := rw_t hcw
  have hT5 := hcw.2.1
  have nk : ∀ j : Nat, (j : Int) ≤ (d.1 52 2).toInt → (ix_n (d.1 54 j) : Int) = (d.1 54 j).toInt := fun j hj => ni_c (rw_0 hcw hj)
  have nT := nk (ix_n (d.1 52 2)) (by omega)
  refine ⟨h11, hn0, by omega, ?_, hT5, ?_, hT.2.2, fun j hj => ?_, fun p _ => rfl⟩
  · show (ix_n (d.1 52 2) : Int) ≤ _; omega
  · show (ix_n (d.1 54 (ix_n (d.1 52 2))) : Int) ≤ _; omega
  · have hj : j ≤ ix_n (d.1 52 2) := hj
    exact (nk j (by omega)).symm
/-- the class admits, for what its laying does -/
theorem e_adm (hz : ly_z z) {F : Option LA → Option LA} {R : Nat} (hcw : cw_ d.1) (hn0 : 0 ≤ (d.1 51 5).toInt) (hn3 : (d.1 51 5).toInt ≤ 300) (hit : ∀ p : Nat, (p : Int) < (d.1 54 (ix_n (d.1 52 2))).toInt → (ix_n (ix_abs (d.1 53 p)) : Int) ≤ (d.1 51 5).toInt) (hdr : d.1 51 10 = 0) (hR : (d.1 0 5).toInt = R) (hR6 : R ≤ 60) (hrc : ix_ok z [0, 3, 5, 6, 9] rc) (hr9 : 199 ≤ rc)
    (HL : ∀ d1 : ix_D2, (∀ a k, (a ≠ 51 ∨ k ≠ 11) → d1.1 a k = d.1 a k) → d1.2 = d.2 → CSL (aC_ d.1) d1.1 (if R < 60 then some (aC_ d.1) else none) 0 [] → wp_t (v_RX11_418 n z rc 51 d1) (fun t => zx_ z t.1 ∧ (∃ m, m ≤ 200 ∧ CSL (aC_ d.1) t.2.1 (F (if R < 60 then some (aC_ d.1) else none)) m []) ∧ fz_ (fS_ z.2.2) d1 t.2)) (hF : F none = none) :
    wp_t (f_X11_admit n z 0 rc d) (fun t => fz_ (fA_C rc z.2.2) d t.2.2 ∧ t.2.2.1 51 10 = 0 ∧ ((∃ A', R < 60 ∧ F (some (aC_ d.1)) = some A' ∧ wfA A' ∧ pfx (aC_ d.1) A' ∧ t.1 = nI R ∧ (∃ z', zx_ z z' ∧ t.2.1 = ix_zr z' 59 R (some rc)) ∧ LvC t.2.2.1 A' ∧ (t.2.2.1 rc 1).toInt = (aC_ d.1).2.1 ∧ (t.2.2.1 rc 2).toInt = (A'.2.1 : Int) - (aC_ d.1).2.1 ∧ (t.2.2.1 0 5).toInt = (R : Int) + 1 ∧ t.2.2.1 0 14 = 0 ∧ t.2.2.1 0 17 = d.1 0 17)
      ∨ ((R = 60 ∨ F (some (aC_ d.1)) = none) ∧ t.1 = -1003 ∧ zx_ z t.2.1 ∧ t.2.2.1 0 17 = -1003 ∧ t.2.2.1 0 5 = d.1 0 5 ∧ t.2.2.1 0 14 = d.1 0 14 ∧ t.2.2.1 51 5 = d.1 51 5 ∧ t.2.2.1 52 2 = d.1 52 2 ∧ (∀ j : Nat, (j : Int) ≤ (d.1 52 2).toInt → t.2.2.1 54 j = d.1 54 j) ∧ (∀ p : Nat, (p : Int) < (d.1 54 (ix_n (d.1 52 2))).toInt → t.2.2.1 53 p = d.1 53 p)))) := by
  have hT := rw_t hcw
  have hT0 := hcw.1
  have hT5 := hcw.2.1
  obtain ⟨w1, w2⟩ := aC_w hcw hn0 hn3 hit
  have nil : ∀ f : Nat → Nat → Int32, f 51 10 = 0 → dC_ f [] := fun f e => ⟨by rw [e]; rfl, fun i hi => by simp at hi⟩
  have o0 : (0 : Int32) = 0 ∨ (0 : Int32) = 1 := Or.inl rfl
  have o1 : (1 : Int32) = 0 ∨ (1 : Int32) = 1 := Or.inr rfl
  /- the second half, for either flag -/
  have half : ∀ s0 : Int32, (s0 = 0 ∨ s0 = 1) → (s0 = 0 ↔ R < 60) → wp_t (f_X11_admit_37 n z 0 rc (d.1 52 2) (d.1 51 5) s0 51 d) (fun t => fz_ (fA_C rc z.2.2) d t.2.2 ∧ t.2.2.1 51 10 = 0 ∧ ((∃ A', R < 60 ∧ F (some (aC_ d.1)) = some A' ∧ wfA A' ∧ pfx (aC_ d.1) A' ∧ t.1 = nI R ∧ (∃ z', zx_ z z' ∧ t.2.1 = ix_zr z' 59 R (some rc)) ∧ LvC t.2.2.1 A' ∧ (t.2.2.1 rc 1).toInt = (aC_ d.1).2.1 ∧ (t.2.2.1 rc 2).toInt = (A'.2.1 : Int) - (aC_ d.1).2.1 ∧ (t.2.2.1 0 5).toInt = (R : Int) + 1 ∧ t.2.2.1 0 14 = 0 ∧ t.2.2.1 0 17 = d.1 0 17)
      ∨ ((R = 60 ∨ F (some (aC_ d.1)) = none) ∧ t.1 = -1003 ∧ zx_ z t.2.1 ∧ t.2.2.1 0 17 = -1003 ∧ t.2.2.1 0 5 = d.1 0 5 ∧ t.2.2.1 0 14 = d.1 0 14 ∧ t.2.2.1 51 5 = d.1 51 5 ∧ t.2.2.1 52 2 = d.1 52 2 ∧ (∀ j : Nat, (j : Int) ≤ (d.1 52 2).toInt → t.2.2.1 54 j = d.1 54 j) ∧ (∀ p : Nat, (p : Int) < (d.1 54 (ix_n (d.1 52 2))).toInt → t.2.2.1 53 p = d.1 53 p)))) := by
    intro s0 os hs
    obtain ⟨d1, hd1⟩ : ∃ d1, d1 = ix_di d 51 11 s0 := ⟨_, rfl⟩
    have d1o : ∀ a k, (a ≠ 51 ∨ k ≠ 11) → d1.1 a k = d.1 a k := fun a k h => by rw [hd1, up_1, if_neg (by omega)]
    have d111 : d1.1 51 11 = s0 := by rw [hd1, up_1, if_pos ⟨rfl, rfl⟩]
    have eA : aC_ d1.1 = aC_ d.1 := by
      unfold aC_
      rw [d1o _ _ (by omega), d1o _ _ (by omega), show d1.1 54 = d.1 54 from funext fun j => d1o _ _ (by omega), show d1.1 53 = d.1 53 from funext fun j => d1o _ _ (by omega)]
    have hcw1 : cw_ d1.1 := rw_cg hcw (d1o _ _ (by omega)) (funext fun j => d1o _ _ (by omega)) (funext fun j => d1o _ _ (by omega))
    have start : CSL (aC_ d.1) d1.1 (if R < 60 then some (aC_ d.1) else none) 0 [] := by
      refine ⟨nil _ (by rw [d1o _ _ (by omega)]; exact hdr), ?_⟩
      by_cases cR : R < 60
      · rw [if_pos cR]
        refine Or.inl ⟨_, rfl, ?_, w1, w2⟩
        have := aC_L hcw1 (by rw [d1o _ _ (by omega)]; exact hn0) (by rw [d111]; exact hs.mpr cR)
        rw [eA] at this
        exact this
      · rw [if_neg cR]
        refine Or.inr ⟨rfl, ?_⟩
        have := aC_O hcw1 (by rw [d1o _ _ (by omega)]; exact hn0) (by rw [d1o _ _ (by omega)]; exact hn3) (by
          rw [d111]
          rcases os with q | q
          · exact absurd (hs.mp q) cR
          · exact q)
        rw [eA] at this
        exact this
    obtain ⟨⟨z1, d2⟩, E, q1, ⟨m, q2, q3⟩, q4⟩ := HL d1 d1o (by rw [hd1]; rfl) start
    dsimp only at q1 q3 q4
    have hzz : ly_z z1 := zx_ly hz q1
    have hrc' : rc < z.2.2 := hrc.1
    have k10 : ix_ok z1 [10] 0 := of_eq_true (ly_o0 hzz)
    have k51 : ix_ok z1 [2] 51 := of_eq_true (ly_o51 hzz)
    have k52 : ix_ok z1 [7] 52 := of_eq_true (ly_o52 hzz)
    have krc : ix_ok z1 [0, 3, 5, 6, 9] rc := ⟨Nat.lt_of_lt_of_le hrc.1 q1.1, by rw [q1.2.1 _ hrc.1]; exact hrc.2⟩
    have r03 : z1.1 0 3 = some 51 := ly_r0_3 hzz
    have r04 : z1.1 0 4 = some 59 := ly_r0_4 hzz
    have r510 : z1.1 51 0 = some 52 := ly_r51_0 hzz
    have d2o : ∀ a k, ¬ fS_ z.2.2 a k → (a ≠ 51 ∨ k ≠ 11) → d2.1 a k = d.1 a k := fun a k h1 h2 => by rw [(q4 a k h1).1]; exact d1o a k h2
    have hz3 := hz.2.2
    have d205 : d2.1 0 5 = d.1 0 5 := d2o _ _ (by unfold fS_ fL_C; omega) (by omega)
    have d2l : ∀ a k, ¬ fS_ z.2.2 a k → d2.2 a k = d.2 a k := fun a k h => by rw [(q4 a k h).2, hd1]; rfl
    rcases q3.2 with ⟨A', e1, l, wA, pA⟩ | ⟨e1, ov⟩
    · /- it comes -/
      have cR : R < 60 := by
        by_cases cR : R < 60
        · exact cR
        · rw [if_neg cR, hF] at e1; simp at e1
      rw [if_pos cR] at e1
      obtain ⟨l1, l2, l3, l4, l5⟩ := l
      have e11 : d2.1 51 11 = 0 := l2
      have hTA := wA.2.1
      have hTp := pA.2.1
      have kix : ix_ix z1 24 59 (d.1 0 5) := by
        rw [ly_ix hzz (L := 60) (by decide) rfl (by decide)]
        exact ⟨by rw [ti_le, hR]; simp only [Int32.reduceToInt]; omega, by rw [ti_lt, hR, ni_ofNat (by decide)]; omega⟩
      have nR : ix_n (d.1 0 5) = R := ni_k hR
      have eT0 : ((aC_ d.1).2.1 : Int) = (d.1 52 2).toInt := hT.1
      have esub : (d2.1 52 2 - d.1 52 2).toInt = (A'.2.1 : Int) - (aC_ d.1).2.1 := by
        have : (d2.1 52 2 - d.1 52 2).toInt = (d2.1 52 2).toInt - (d.1 52 2).toInt := by (focus (first | omega | (simp (disch := (first | omega | (simp (disch := first | omega | (simp only [Int32.reduceToInt]; omega)) only [Int32.reduceToInt, ta_add, ta_sub, ta_mul, ta_neg, ta_div]; omega))) only [up_1, cp_1, rng_1, fn_1, dj_1, Nat.reduceEqDiff, false_and, and_false, true_and, and_true, or_true, true_or, or_false, false_or, not_true_eq_false, not_false_eq_true, ↓reduceIte, eq_self, ne_eq, ti_eq, ti_le, ti_lt, ti_ite, Int32.reduceToInt, ta_add, ta_sub, ta_mul, ta_neg, ta_div]; done) | (simp (disch := (first | omega | (simp (disch := first | omega | (simp only [Int32.reduceToInt]; omega)) only [Int32.reduceToInt, ta_add, ta_sub, ta_mul, ta_neg, ta_div]; omega))) only [up_1, cp_1, rng_1, fn_1, dj_1, Nat.reduceEqDiff, false_and, and_false, true_and, and_true, or_true, true_or, or_false, false_or, not_true_eq_false, not_false_eq_true, ↓reduceIte, eq_self, ne_eq, ti_eq, ti_le, ti_lt, ti_ite, Int32.reduceToInt, ta_add, ta_sub, ta_mul, ta_neg, ta_div]; omega)))
        omega
      have e05 : (d.1 0 5 + 1).toInt = (R : Int) + 1 := by (focus (first | omega | (simp (disch := (first | omega | (simp (disch := first | omega | (simp only [Int32.reduceToInt]; omega)) only [Int32.reduceToInt, ta_add, ta_sub, ta_mul, ta_neg, ta_div]; omega))) only [up_1, cp_1, rng_1, fn_1, dj_1, Nat.reduceEqDiff, false_and, and_false, true_and, and_true, or_true, true_or, or_false, false_or, not_true_eq_false, not_false_eq_true, ↓reduceIte, eq_self, ne_eq, ti_eq, ti_le, ti_lt, ti_ite, Int32.reduceToInt, ta_add, ta_sub, ta_mul, ta_neg, ta_div]; done) | (simp (disch := (first | omega | (simp (disch := first | omega | (simp only [Int32.reduceToInt]; omega)) only [Int32.reduceToInt, ta_add, ta_sub, ta_mul, ta_neg, ta_div]; omega))) only [up_1, cp_1, rng_1, fn_1, dj_1, Nat.reduceEqDiff, false_and, and_false, true_and, and_true, or_true, true_or, or_false, false_or, not_true_eq_false, not_false_eq_true, ↓reduceIte, eq_self, ne_eq, ti_eq, ti_le, ti_lt, ti_ite, Int32.reduceToInt, ta_add, ta_sub, ta_mul, ta_neg, ta_div]; omega)))
      have e05' : d.1 0 5 + 1 - 1 = nI R := Int32.toInt_inj.mp (by rw [nI_ti (by omega)]; (focus (first | omega | (simp (disch := (first | omega | (simp (disch := first | omega | (simp only [Int32.reduceToInt]; omega)) only [Int32.reduceToInt, ta_add, ta_sub, ta_mul, ta_neg, ta_div]; omega))) only [up_1, cp_1, rng_1, fn_1, dj_1, Nat.reduceEqDiff, false_and, and_false, true_and, and_true, or_true, true_or, or_false, false_or, not_true_eq_false, not_false_eq_true, ↓reduceIte, eq_self, ne_eq, ti_eq, ti_le, ti_lt, ti_ite, Int32.reduceToInt, ta_add, ta_sub, ta_mul, ta_neg, ta_div]; done) | (simp (disch := (first | omega | (simp (disch := first | omega | (simp only [Int32.reduceToInt]; omega)) only [Int32.reduceToInt, ta_add, ta_sub, ta_mul, ta_neg, ta_div]; omega))) only [up_1, cp_1, rng_1, fn_1, dj_1, Nat.reduceEqDiff, false_and, and_false, true_and, and_true, or_true, true_or, or_false, false_or, not_true_eq_false, not_false_eq_true, ↓reduceIte, eq_self, ne_eq, ti_eq, ti_le, ti_lt, ti_ite, Int32.reduceToInt, ta_add, ta_sub, ta_mul, ta_neg, ta_div]; omega))))
      have u1 : (ix_di d2 rc 1 (d.1 52 2)).1 52 2 = d2.1 52 2 := by rw [up_1, if_neg (by omega)]
      have u2 : (ix_di (ix_di d2 rc 1 (d.1 52 2)) rc 2 (d2.1 52 2 - d.1 52 2)).1 0 5 = d.1 0 5 := by rw [up_1, if_neg (by omega), up_1, if_neg (by omega)]; exact d205
      have k10' : ix_ok (ix_zr z1 59 R (some rc)) [10] 0 := k10
      obtain ⟨g, hg⟩ : ∃ g, g = ix_di (ix_di (ix_di (ix_di d2 rc 1 (d.1 52 2)) rc 2 (d2.1 52 2 - d.1 52 2)) 0 5 (d.1 0 5 + 1)) 0 14 0 := ⟨_, rfl⟩
      have g05 : g.1 0 5 = d.1 0 5 + 1 := by rw [hg, up_1, if_neg (by omega), up_1, if_pos ⟨rfl, rfl⟩]
      have go : ∀ a k, ¬ (a = rc ∧ (k = 1 ∨ k = 2)) → ¬ (a = 0 ∧ (k = 5 ∨ k = 14)) → g.1 a k = d2.1 a k := fun a k h1 h2 => by rw [hg, up_1, if_neg (by omega), up_1, if_neg (by omega), up_1, if_neg (by omega), up_1, if_neg (by omega)]
      (repeat (first | with_reducible refine wi_ck os ?_ | rw [← hd1] | with_reducible refine wi_ck hrc ?_ | (with_reducible refine wi_e (E) ?_; try dsimp only) | with_reducible refine wi_ck k10 ?_ | with_reducible refine wi_r (r03) ?_ | with_reducible refine wi_ck k51 ?_ | with_reducible refine wi_ifp e11 ?_ | with_reducible refine wi_ck krc ?_ | with_reducible refine wi_r (r510) ?_ | with_reducible refine wi_ck k52 ?_ | rw [u1] | with_reducible refine wi_r (r04) ?_ | rw [u2] | with_reducible refine wi_ck kix ?_ | rw [nR] | with_reducible refine wi_ck k10' ?_ | rw [← hg] | rw [g05] | rw [e05'] | with_reducible refine wi_t (ly_o0 hz) ?_ | with_reducible refine wi_t (ly_o51 hz) ?_ | with_reducible refine wi_r (ly_r0_3 hz) ?_ | with_reducible refine wi_t (ly_o52 hz) ?_ | with_reducible refine wi_r (ly_r51_0 hz) ?_ | with_reducible refine wi_lt ?_ | (with_reducible refine wi_ifp ?_ ?_; (focus (first | omega | (simp (disch := (first | omega | (simp (disch := first | omega | (simp only [Int32.reduceToInt]; omega)) only [Int32.reduceToInt, ta_add, ta_sub, ta_mul, ta_neg, ta_div]; omega))) only [up_1, cp_1, rng_1, fn_1, dj_1, Nat.reduceEqDiff, false_and, and_false, true_and, and_true, or_true, true_or, or_false, false_or, not_true_eq_false, not_false_eq_true, ↓reduceIte, eq_self, ne_eq, ti_eq, ti_le, ti_lt, ti_ite, Int32.reduceToInt, ta_add, ta_sub, ta_mul, ta_neg, ta_div]; done) | (simp (disch := (first | omega | (simp (disch := first | omega | (simp only [Int32.reduceToInt]; omega)) only [Int32.reduceToInt, ta_add, ta_sub, ta_mul, ta_neg, ta_div]; omega))) only [up_1, cp_1, rng_1, fn_1, dj_1, Nat.reduceEqDiff, false_and, and_false, true_and, and_true, or_true, true_or, or_false, false_or, not_true_eq_false, not_false_eq_true, ↓reduceIte, eq_self, ne_eq, ti_eq, ti_le, ti_lt, ti_ite, Int32.reduceToInt, ta_add, ta_sub, ta_mul, ta_neg, ta_div]; omega)))) | (with_reducible refine wi_ifn ?_ ?_; (focus (first | omega | (simp (disch := (first | omega | (simp (disch := first | omega | (simp only [Int32.reduceToInt]; omega)) only [Int32.reduceToInt, ta_add, ta_sub, ta_mul, ta_neg, ta_div]; omega))) only [up_1, cp_1, rng_1, fn_1, dj_1, Nat.reduceEqDiff, false_and, and_false, true_and, and_true, or_true, true_or, or_false, false_or, not_true_eq_false, not_false_eq_true, ↓reduceIte, eq_self, ne_eq, ti_eq, ti_le, ti_lt, ti_ite, Int32.reduceToInt, ta_add, ta_sub, ta_mul, ta_neg, ta_div]; done) | (simp (disch := (first | omega | (simp (disch := first | omega | (simp only [Int32.reduceToInt]; omega)) only [Int32.reduceToInt, ta_add, ta_sub, ta_mul, ta_neg, ta_div]; omega))) only [up_1, cp_1, rng_1, fn_1, dj_1, Nat.reduceEqDiff, false_and, and_false, true_and, and_true, or_true, true_or, or_false, false_or, not_true_eq_false, not_false_eq_true, ↓reduceIte, eq_self, ne_eq, ti_eq, ti_le, ti_lt, ti_ite, Int32.reduceToInt, ta_add, ta_sub, ta_mul, ta_neg, ta_div]; omega)))) | (with_reducible refine wi_ck ?_ ?_; (focus (first | omega | (simp (disch := (first | omega | (simp (disch := first | omega | (simp only [Int32.reduceToInt]; omega)) only [Int32.reduceToInt, ta_add, ta_sub, ta_mul, ta_neg, ta_div]; omega))) only [up_1, cp_1, rng_1, fn_1, dj_1, Nat.reduceEqDiff, false_and, and_false, true_and, and_true, or_true, true_or, or_false, false_or, not_true_eq_false, not_false_eq_true, ↓reduceIte, eq_self, ne_eq, ti_eq, ti_le, ti_lt, ti_ite, Int32.reduceToInt, ta_add, ta_sub, ta_mul, ta_neg, ta_div]; done) | (simp (disch := (first | omega | (simp (disch := first | omega | (simp only [Int32.reduceToInt]; omega)) only [Int32.reduceToInt, ta_add, ta_sub, ta_mul, ta_neg, ta_div]; omega))) only [up_1, cp_1, rng_1, fn_1, dj_1, Nat.reduceEqDiff, false_and, and_false, true_and, and_true, or_true, true_or, or_false, false_or, not_true_eq_false, not_false_eq_true, ↓reduceIte, eq_self, ne_eq, ti_eq, ti_le, ti_lt, ti_ite, Int32.reduceToInt, ta_add, ta_sub, ta_mul, ta_neg, ta_div]; omega)))) | with_reducible refine wi_bd2 ?_ | with_reducible refine wi_bd1 ?_ | with_reducible refine wi_bd3 ?_ | (with_reducible refine wi_some ?_; try dsimp only) | unfold f_X11_admit_37))
      refine ⟨fun a k hs => ?_, ?_, Or.inl ⟨A', cR, e1, wA, pA, rfl, ⟨z1, q1, rfl⟩, ⟨?_, ?_, ?_, fun j hj => ?_, fun p hp => ?_⟩, ?_, ?_, ?_, ?_, ?_⟩⟩
      · have s1 : ¬ fL_C a k := fun q => hs (Or.inl q)
        have s2 : ¬ z.2.2 ≤ a := fun q => hs (Or.inr (Or.inl q))
        have s3 : ¬ (a = rc ∧ (k = 1 ∨ k = 2)) := fun q => hs (Or.inr (Or.inr (Or.inl q)))
        have s4 : ¬ (a = 0 ∧ (k = 5 ∨ k = 14 ∨ k = 17)) := fun q => hs (Or.inr (Or.inr (Or.inr q)))
        have ns : ¬ fS_ z.2.2 a k := fun q => by rcases q with q | q; exact s1 q; omega
        refine ⟨?_, ?_⟩
        · rw [go a k (by omega) (by omega)]; exact d2o a k ns (by unfold fL_C at s1; omega)
        · rw [hg]; exact d2l a k ns
      · rw [go _ _ (by omega) (by omega)]
        have := q3.1.1
        exact Int32.toInt_inj.mp this
      · rw [go _ _ (by omega) (by omega)]; exact l1
      · rw [go _ _ (by omega) (by omega)]; exact l2
      · rw [go _ _ (by omega) (by omega)]; exact l3
      · rw [go _ _ (by omega) (by omega)]; exact l4 j hj
      · rw [go _ _ (by omega) (by omega)]; exact l5 p hp
      · rw [hg, up_1, if_neg (by omega), up_1, if_neg (by omega), up_1, if_neg (by omega), up_1, if_pos ⟨rfl, rfl⟩]; exact eT0.symm
      · rw [hg, up_1, if_neg (by omega), up_1, if_neg (by omega), up_1, if_pos ⟨rfl, rfl⟩]; exact esub
      · first | exact e05 | (rw [g05]; exact e05)
      · rw [hg, up_1, if_pos ⟨rfl, rfl⟩]
      · rw [go _ _ (by omega) (by omega)]; exact d2o _ _ (by unfold fS_ fL_C; omega) (by omega)
    · /- too much -/
      obtain ⟨v1, v2, v3, v4, v5, v6, v7, v8, v9⟩ := ov
      have e11 : ¬ d2.1 51 11 = 0 := by rw [v1]; decide
      have eT0 : ((aC_ d.1).2.1 : Int) = (d.1 52 2).toInt := hT.1
      rw [eT0] at v4
      have hno : R = 60 ∨ F (some (aC_ d.1)) = none := by
        by_cases cR : R < 60
        · rw [if_pos cR] at e1; exact Or.inr e1
        · exact Or.inl (by omega)
      obtain ⟨d3, E3, h3, h3o, h3l⟩ : ∃ d3, f_X7_shortenTo n z1 52 (d.1 52 2) d2 = some d3 ∧ d3.1 52 2 = d.1 52 2 ∧ (∀ a k, (a ≠ 52 ∨ k ≠ 2) → d3.1 a k = d2.1 a k) ∧ d3.2 = d2.2 := by
        by_cases cc : (d2.1 52 2).toInt ≤ (d.1 52 2).toInt
        · refine ⟨d2, ?_, Int32.toInt_inj.mp (by omega), fun _ _ _ => rfl, rfl⟩
          rw [← wp_eq]
          (repeat (first | with_reducible refine wi_ck k52 ?_ | with_reducible refine wi_t (ly_o52 hz) ?_ | with_reducible refine wi_r (ly_r51_0 hz) ?_ | with_reducible refine wi_lt ?_ | (with_reducible refine wi_ifp ?_ ?_; (focus (first | omega | (simp (disch := (first | omega | (simp (disch := first | omega | (simp only [Int32.reduceToInt]; omega)) only [Int32.reduceToInt, ta_add, ta_sub, ta_mul, ta_neg, ta_div]; omega))) only [up_1, cp_1, rng_1, fn_1, dj_1, Nat.reduceEqDiff, false_and, and_false, true_and, and_true, or_true, true_or, or_false, false_or, not_true_eq_false, not_false_eq_true, ↓reduceIte, eq_self, ne_eq, ti_eq, ti_le, ti_lt, ti_ite, Int32.reduceToInt, ta_add, ta_sub, ta_mul, ta_neg, ta_div]; done) | (simp (disch := (first | omega | (simp (disch := first | omega | (simp only [Int32.reduceToInt]; omega)) only [Int32.reduceToInt, ta_add, ta_sub, ta_mul, ta_neg, ta_div]; omega))) only [up_1, cp_1, rng_1, fn_1, dj_1, Nat.reduceEqDiff, false_and, and_false, true_and, and_true, or_true, true_or, or_false, false_or, not_true_eq_false, not_false_eq_true, ↓reduceIte, eq_self, ne_eq, ti_eq, ti_le, ti_lt, ti_ite, Int32.reduceToInt, ta_add, ta_sub, ta_mul, ta_neg, ta_div]; omega)))) | (with_reducible refine wi_ifn ?_ ?_; (focus (first | omega | (simp (disch := (first | omega | (simp (disch := first | omega | (simp only [Int32.reduceToInt]; omega)) only [Int32.reduceToInt, ta_add, ta_sub, ta_mul, ta_neg, ta_div]; omega))) only [up_1, cp_1, rng_1, fn_1, dj_1, Nat.reduceEqDiff, false_and, and_false, true_and, and_true, or_true, true_or, or_false, false_or, not_true_eq_false, not_false_eq_true, ↓reduceIte, eq_self, ne_eq, ti_eq, ti_le, ti_lt, ti_ite, Int32.reduceToInt, ta_add, ta_sub, ta_mul, ta_neg, ta_div]; done) | (simp (disch := (first | omega | (simp (disch := first | omega | (simp only [Int32.reduceToInt]; omega)) only [Int32.reduceToInt, ta_add, ta_sub, ta_mul, ta_neg, ta_div]; omega))) only [up_1, cp_1, rng_1, fn_1, dj_1, Nat.reduceEqDiff, false_and, and_false, true_and, and_true, or_true, true_or, or_false, false_or, not_true_eq_false, not_false_eq_true, ↓reduceIte, eq_self, ne_eq, ti_eq, ti_le, ti_lt, ti_ite, Int32.reduceToInt, ta_add, ta_sub, ta_mul, ta_neg, ta_div]; omega)))) | (with_reducible refine wi_ck ?_ ?_; (focus (first | omega | (simp (disch := (first | omega | (simp (disch := first | omega | (simp only [Int32.reduceToInt]; omega)) only [Int32.reduceToInt, ta_add, ta_sub, ta_mul, ta_neg, ta_div]; omega))) only [up_1, cp_1, rng_1, fn_1, dj_1, Nat.reduceEqDiff, false_and, and_false, true_and, and_true, or_true, true_or, or_false, false_or, not_true_eq_false, not_false_eq_true, ↓reduceIte, eq_self, ne_eq, ti_eq, ti_le, ti_lt, ti_ite, Int32.reduceToInt, ta_add, ta_sub, ta_mul, ta_neg, ta_div]; done) | (simp (disch := (first | omega | (simp (disch := first | omega | (simp only [Int32.reduceToInt]; omega)) only [Int32.reduceToInt, ta_add, ta_sub, ta_mul, ta_neg, ta_div]; omega))) only [up_1, cp_1, rng_1, fn_1, dj_1, Nat.reduceEqDiff, false_and, and_false, true_and, and_true, or_true, true_or, or_false, false_or, not_true_eq_false, not_false_eq_true, ↓reduceIte, eq_self, ne_eq, ti_eq, ti_le, ti_lt, ti_ite, Int32.reduceToInt, ta_add, ta_sub, ta_mul, ta_neg, ta_div]; omega)))) | with_reducible refine wi_bd2 ?_ | with_reducible refine wi_bd1 ?_ | with_reducible refine wi_bd3 ?_ | (with_reducible refine wi_some ?_; try dsimp only) | unfold f_X7_shortenTo))
        · refine ⟨ix_di d2 52 2 (d.1 52 2), ?_, by rw [up_1, if_pos ⟨rfl, rfl⟩], fun a k h => by rw [up_1, if_neg (by omega)], rfl⟩
          rw [← wp_eq]
          (repeat (first | with_reducible refine wi_ck k52 ?_ | with_reducible refine wi_t (ly_o52 hz) ?_ | with_reducible refine wi_r (ly_r51_0 hz) ?_ | with_reducible refine wi_lt ?_ | (with_reducible refine wi_ifp ?_ ?_; (focus (first | omega | (simp (disch := (first | omega | (simp (disch := first | omega | (simp only [Int32.reduceToInt]; omega)) only [Int32.reduceToInt, ta_add, ta_sub, ta_mul, ta_neg, ta_div]; omega))) only [up_1, cp_1, rng_1, fn_1, dj_1, Nat.reduceEqDiff, false_and, and_false, true_and, and_true, or_true, true_or, or_false, false_or, not_true_eq_false, not_false_eq_true, ↓reduceIte, eq_self, ne_eq, ti_eq, ti_le, ti_lt, ti_ite, Int32.reduceToInt, ta_add, ta_sub, ta_mul, ta_neg, ta_div]; done) | (simp (disch := (first | omega | (simp (disch := first | omega | (simp only [Int32.reduceToInt]; omega)) only [Int32.reduceToInt, ta_add, ta_sub, ta_mul, ta_neg, ta_div]; omega))) only [up_1, cp_1, rng_1, fn_1, dj_1, Nat.reduceEqDiff, false_and, and_false, true_and, and_true, or_true, true_or, or_false, false_or, not_true_eq_false, not_false_eq_true, ↓reduceIte, eq_self, ne_eq, ti_eq, ti_le, ti_lt, ti_ite, Int32.reduceToInt, ta_add, ta_sub, ta_mul, ta_neg, ta_div]; omega)))) | (with_reducible refine wi_ifn ?_ ?_; (focus (first | omega | (simp (disch := (first | omega | (simp (disch := first | omega | (simp only [Int32.reduceToInt]; omega)) only [Int32.reduceToInt, ta_add, ta_sub, ta_mul, ta_neg, ta_div]; omega))) only [up_1, cp_1, rng_1, fn_1, dj_1, Nat.reduceEqDiff, false_and, and_false, true_and, and_true, or_true, true_or, or_false, false_or, not_true_eq_false, not_false_eq_true, ↓reduceIte, eq_self, ne_eq, ti_eq, ti_le, ti_lt, ti_ite, Int32.reduceToInt, ta_add, ta_sub, ta_mul, ta_neg, ta_div]; done) | (simp (disch := (first | omega | (simp (disch := first | omega | (simp only [Int32.reduceToInt]; omega)) only [Int32.reduceToInt, ta_add, ta_sub, ta_mul, ta_neg, ta_div]; omega))) only [up_1, cp_1, rng_1, fn_1, dj_1, Nat.reduceEqDiff, false_and, and_false, true_and, and_true, or_true, true_or, or_false, false_or, not_true_eq_false, not_false_eq_true, ↓reduceIte, eq_self, ne_eq, ti_eq, ti_le, ti_lt, ti_ite, Int32.reduceToInt, ta_add, ta_sub, ta_mul, ta_neg, ta_div]; omega)))) | (with_reducible refine wi_ck ?_ ?_; (focus (first | omega | (simp (disch := (first | omega | (simp (disch := first | omega | (simp only [Int32.reduceToInt]; omega)) only [Int32.reduceToInt, ta_add, ta_sub, ta_mul, ta_neg, ta_div]; omega))) only [up_1, cp_1, rng_1, fn_1, dj_1, Nat.reduceEqDiff, false_and, and_false, true_and, and_true, or_true, true_or, or_false, false_or, not_true_eq_false, not_false_eq_true, ↓reduceIte, eq_self, ne_eq, ti_eq, ti_le, ti_lt, ti_ite, Int32.reduceToInt, ta_add, ta_sub, ta_mul, ta_neg, ta_div]; done) | (simp (disch := (first | omega | (simp (disch := first | omega | (simp only [Int32.reduceToInt]; omega)) only [Int32.reduceToInt, ta_add, ta_sub, ta_mul, ta_neg, ta_div]; omega))) only [up_1, cp_1, rng_1, fn_1, dj_1, Nat.reduceEqDiff, false_and, and_false, true_and, and_true, or_true, true_or, or_false, false_or, not_true_eq_false, not_false_eq_true, ↓reduceIte, eq_self, ne_eq, ti_eq, ti_le, ti_lt, ti_ite, Int32.reduceToInt, ta_add, ta_sub, ta_mul, ta_neg, ta_div]; omega)))) | with_reducible refine wi_bd2 ?_ | with_reducible refine wi_bd1 ?_ | with_reducible refine wi_bd3 ?_ | (with_reducible refine wi_some ?_; try dsimp only) | unfold f_X7_shortenTo))
      (repeat (first | with_reducible refine wi_ck os ?_ | rw [← hd1] | with_reducible refine wi_ck hrc ?_ | (with_reducible refine wi_e (E) ?_; try dsimp only) | with_reducible refine wi_ck k10 ?_ | with_reducible refine wi_r (r03) ?_ | with_reducible refine wi_ck k51 ?_ | with_reducible refine wi_ifn e11 ?_ | with_reducible refine wi_r (r510) ?_ | with_reducible refine wi_ck k52 ?_ | (with_reducible refine wi_e (E3) ?_; try dsimp only) | with_reducible refine wi_ck k10 ?_ | with_reducible refine wi_t (ly_o0 hz) ?_ | with_reducible refine wi_t (ly_o51 hz) ?_ | with_reducible refine wi_r (ly_r0_3 hz) ?_ | with_reducible refine wi_t (ly_o52 hz) ?_ | with_reducible refine wi_r (ly_r51_0 hz) ?_ | with_reducible refine wi_lt ?_ | (with_reducible refine wi_ifp ?_ ?_; (focus (first | omega | (simp (disch := (first | omega | (simp (disch := first | omega | (simp only [Int32.reduceToInt]; omega)) only [Int32.reduceToInt, ta_add, ta_sub, ta_mul, ta_neg, ta_div]; omega))) only [up_1, cp_1, rng_1, fn_1, dj_1, Nat.reduceEqDiff, false_and, and_false, true_and, and_true, or_true, true_or, or_false, false_or, not_true_eq_false, not_false_eq_true, ↓reduceIte, eq_self, ne_eq, ti_eq, ti_le, ti_lt, ti_ite, Int32.reduceToInt, ta_add, ta_sub, ta_mul, ta_neg, ta_div]; done) | (simp (disch := (first | omega | (simp (disch := first | omega | (simp only [Int32.reduceToInt]; omega)) only [Int32.reduceToInt, ta_add, ta_sub, ta_mul, ta_neg, ta_div]; omega))) only [up_1, cp_1, rng_1, fn_1, dj_1, Nat.reduceEqDiff, false_and, and_false, true_and, and_true, or_true, true_or, or_false, false_or, not_true_eq_false, not_false_eq_true, ↓reduceIte, eq_self, ne_eq, ti_eq, ti_le, ti_lt, ti_ite, Int32.reduceToInt, ta_add, ta_sub, ta_mul, ta_neg, ta_div]; omega)))) | (with_reducible refine wi_ifn ?_ ?_; (focus (first | omega | (simp (disch := (first | omega | (simp (disch := first | omega | (simp only [Int32.reduceToInt]; omega)) only [Int32.reduceToInt, ta_add, ta_sub, ta_mul, ta_neg, ta_div]; omega))) only [up_1, cp_1, rng_1, fn_1, dj_1, Nat.reduceEqDiff, false_and, and_false, true_and, and_true, or_true, true_or, or_false, false_or, not_true_eq_false, not_false_eq_true, ↓reduceIte, eq_self, ne_eq, ti_eq, ti_le, ti_lt, ti_ite, Int32.reduceToInt, ta_add, ta_sub, ta_mul, ta_neg, ta_div]; done) | (simp (disch := (first | omega | (simp (disch := first | omega | (simp only [Int32.reduceToInt]; omega)) only [Int32.reduceToInt, ta_add, ta_sub, ta_mul, ta_neg, ta_div]; omega))) only [up_1, cp_1, rng_1, fn_1, dj_1, Nat.reduceEqDiff, false_and, and_false, true_and, and_true, or_true, true_or, or_false, false_or, not_true_eq_false, not_false_eq_true, ↓reduceIte, eq_self, ne_eq, ti_eq, ti_le, ti_lt, ti_ite, Int32.reduceToInt, ta_add, ta_sub, ta_mul, ta_neg, ta_div]; omega)))) | (with_reducible refine wi_ck ?_ ?_; (focus (first | omega | (simp (disch := (first | omega | (simp (disch := first | omega | (simp only [Int32.reduceToInt]; omega)) only [Int32.reduceToInt, ta_add, ta_sub, ta_mul, ta_neg, ta_div]; omega))) only [up_1, cp_1, rng_1, fn_1, dj_1, Nat.reduceEqDiff, false_and, and_false, true_and, and_true, or_true, true_or, or_false, false_or, not_true_eq_false, not_false_eq_true, ↓reduceIte, eq_self, ne_eq, ti_eq, ti_le, ti_lt, ti_ite, Int32.reduceToInt, ta_add, ta_sub, ta_mul, ta_neg, ta_div]; done) | (simp (disch := (first | omega | (simp (disch := first | omega | (simp only [Int32.reduceToInt]; omega)) only [Int32.reduceToInt, ta_add, ta_sub, ta_mul, ta_neg, ta_div]; omega))) only [up_1, cp_1, rng_1, fn_1, dj_1, Nat.reduceEqDiff, false_and, and_false, true_and, and_true, or_true, true_or, or_false, false_or, not_true_eq_false, not_false_eq_true, ↓reduceIte, eq_self, ne_eq, ti_eq, ti_le, ti_lt, ti_ite, Int32.reduceToInt, ta_add, ta_sub, ta_mul, ta_neg, ta_div]; omega)))) | with_reducible refine wi_bd2 ?_ | with_reducible refine wi_bd1 ?_ | with_reducible refine wi_bd3 ?_ | (with_reducible refine wi_some ?_; try dsimp only) | unfold f_X11_admit_37 | unfold f_X11_refuse))
      have go : ∀ a k, ¬ (a = 51 ∧ k = 5) → ¬ (a = 0 ∧ k = 17) → (ix_di (ix_di d3 51 5 (d.1 51 5)) 0 17 (-1003)).1 a k = d3.1 a k := fun a k h1 h2 => by rw [up_1, if_neg (by omega), up_1, if_neg (by omega)]
      refine ⟨fun a k hs => ?_, ?_, Or.inr ⟨hno, rfl, q1, ?_, ?_, ?_, ?_, ?_, fun j hj => ?_, fun p hp => ?_⟩⟩
      · have s1 : ¬ fL_C a k := fun q => hs (Or.inl q)
        have s2 : ¬ z.2.2 ≤ a := fun q => hs (Or.inr (Or.inl q))
        have s4 : ¬ (a = 0 ∧ (k = 5 ∨ k = 14 ∨ k = 17)) := fun q => hs (Or.inr (Or.inr (Or.inr q)))
        have ns : ¬ fS_ z.2.2 a k := fun q => by rcases q with q | q; exact s1 q; omega
        unfold fL_C at s1
        refine ⟨?_, ?_⟩
        · rw [go a k (by omega) (by omega), h3o a k (by omega)]; exact d2o a k ns (by omega)
        · show d3.2 a k = d.2 a k
          rw [h3l]; exact d2l a k ns
      · rw [go _ _ (by omega) (by omega), h3o _ _ (by omega)]
        exact Int32.toInt_inj.mp q3.1.1
      · rw [up_1, if_pos ⟨rfl, rfl⟩]
      · rw [go _ _ (by omega) (by omega), h3o _ _ (by omega)]; exact d205
      · rw [go _ _ (by omega) (by omega), h3o _ _ (by omega)]; exact d2o _ _ (by unfold fS_ fL_C; omega) (by omega)
      · rw [up_1, if_neg (by omega), up_1, if_pos ⟨rfl, rfl⟩]
      · rw [go _ _ (by omega) (by omega)]; exact h3
      · rw [go _ _ (by omega) (by omega), h3o _ _ (by omega)]
        have := v8 j (by show j ≤ ix_n (d.1 52 2); omega)
        refine Int32.toInt_inj.mp ?_
        rw [this]
        exact ni_c (rw_0 hcw hj)
      · rw [go _ _ (by omega) (by omega), h3o _ _ (by omega)]
        exact v9 p (by show p < ix_n (d.1 54 (ix_n (d.1 52 2))); have := ni_c hT.2.1; omega)
  by_cases cR : R < 60
  · (repeat (first | with_reducible refine wi_t (ly_o0 hz) ?_ | with_reducible refine wi_t (ly_o51 hz) ?_ | with_reducible refine wi_r (ly_r0_3 hz) ?_ | with_reducible refine wi_t (ly_o52 hz) ?_ | with_reducible refine wi_r (ly_r51_0 hz) ?_ | with_reducible refine wi_lt ?_ | (with_reducible refine wi_ifp ?_ ?_; (focus (first | omega | (simp (disch := (first | omega | (simp (disch := first | omega | (simp only [Int32.reduceToInt]; omega)) only [Int32.reduceToInt, ta_add, ta_sub, ta_mul, ta_neg, ta_div]; omega))) only [up_1, cp_1, rng_1, fn_1, dj_1, Nat.reduceEqDiff, false_and, and_false, true_and, and_true, or_true, true_or, or_false, false_or, not_true_eq_false, not_false_eq_true, ↓reduceIte, eq_self, ne_eq, ti_eq, ti_le, ti_lt, ti_ite, Int32.reduceToInt, ta_add, ta_sub, ta_mul, ta_neg, ta_div]; done) | (simp (disch := (first | omega | (simp (disch := first | omega | (simp only [Int32.reduceToInt]; omega)) only [Int32.reduceToInt, ta_add, ta_sub, ta_mul, ta_neg, ta_div]; omega))) only [up_1, cp_1, rng_1, fn_1, dj_1, Nat.reduceEqDiff, false_and, and_false, true_and, and_true, or_true, true_or, or_false, false_or, not_true_eq_false, not_false_eq_true, ↓reduceIte, eq_self, ne_eq, ti_eq, ti_le, ti_lt, ti_ite, Int32.reduceToInt, ta_add, ta_sub, ta_mul, ta_neg, ta_div]; omega)))) | (with_reducible refine wi_ifn ?_ ?_; (focus (first | omega | (simp (disch := (first | omega | (simp (disch := first | omega | (simp only [Int32.reduceToInt]; omega)) only [Int32.reduceToInt, ta_add, ta_sub, ta_mul, ta_neg, ta_div]; omega))) only [up_1, cp_1, rng_1, fn_1, dj_1, Nat.reduceEqDiff, false_and, and_false, true_and, and_true, or_true, true_or, or_false, false_or, not_true_eq_false, not_false_eq_true, ↓reduceIte, eq_self, ne_eq, ti_eq, ti_le, ti_lt, ti_ite, Int32.reduceToInt, ta_add, ta_sub, ta_mul, ta_neg, ta_div]; done) | (simp (disch := (first | omega | (simp (disch := first | omega | (simp only [Int32.reduceToInt]; omega)) only [Int32.reduceToInt, ta_add, ta_sub, ta_mul, ta_neg, ta_div]; omega))) only [up_1, cp_1, rng_1, fn_1, dj_1, Nat.reduceEqDiff, false_and, and_false, true_and, and_true, or_true, true_or, or_false, false_or, not_true_eq_false, not_false_eq_true, ↓reduceIte, eq_self, ne_eq, ti_eq, ti_le, ti_lt, ti_ite, Int32.reduceToInt, ta_add, ta_sub, ta_mul, ta_neg, ta_div]; omega)))) | (with_reducible refine wi_ck ?_ ?_; (focus (first | omega | (simp (disch := (first | omega | (simp (disch := first | omega | (simp only [Int32.reduceToInt]; omega)) only [Int32.reduceToInt, ta_add, ta_sub, ta_mul, ta_neg, ta_div]; omega))) only [up_1, cp_1, rng_1, fn_1, dj_1, Nat.reduceEqDiff, false_and, and_false, true_and, and_true, or_true, true_or, or_false, false_or, not_true_eq_false, not_false_eq_true, ↓reduceIte, eq_self, ne_eq, ti_eq, ti_le, ti_lt, ti_ite, Int32.reduceToInt, ta_add, ta_sub, ta_mul, ta_neg, ta_div]; done) | (simp (disch := (first | omega | (simp (disch := first | omega | (simp only [Int32.reduceToInt]; omega)) only [Int32.reduceToInt, ta_add, ta_sub, ta_mul, ta_neg, ta_div]; omega))) only [up_1, cp_1, rng_1, fn_1, dj_1, Nat.reduceEqDiff, false_and, and_false, true_and, and_true, or_true, true_or, or_false, false_or, not_true_eq_false, not_false_eq_true, ↓reduceIte, eq_self, ne_eq, ti_eq, ti_le, ti_lt, ti_ite, Int32.reduceToInt, ta_add, ta_sub, ta_mul, ta_neg, ta_div]; omega)))) | with_reducible refine wi_bd2 ?_ | with_reducible refine wi_bd1 ?_ | with_reducible refine wi_bd3 ?_ | (with_reducible refine wi_some ?_; try dsimp only) | unfold f_X11_admit))
    exact half 0 o0 ⟨fun _ => cR, fun _ => rfl⟩
  · (repeat (first | with_reducible refine wi_t (ly_o0 hz) ?_ | with_reducible refine wi_t (ly_o51 hz) ?_ | with_reducible refine wi_r (ly_r0_3 hz) ?_ | with_reducible refine wi_t (ly_o52 hz) ?_ | with_reducible refine wi_r (ly_r51_0 hz) ?_ | with_reducible refine wi_lt ?_ | (with_reducible refine wi_ifp ?_ ?_; (focus (first | omega | (simp (disch := (first | omega | (simp (disch := first | omega | (simp only [Int32.reduceToInt]; omega)) only [Int32.reduceToInt, ta_add, ta_sub, ta_mul, ta_neg, ta_div]; omega))) only [up_1, cp_1, rng_1, fn_1, dj_1, Nat.reduceEqDiff, false_and, and_false, true_and, and_true, or_true, true_or, or_false, false_or, not_true_eq_false, not_false_eq_true, ↓reduceIte, eq_self, ne_eq, ti_eq, ti_le, ti_lt, ti_ite, Int32.reduceToInt, ta_add, ta_sub, ta_mul, ta_neg, ta_div]; done) | (simp (disch := (first | omega | (simp (disch := first | omega | (simp only [Int32.reduceToInt]; omega)) only [Int32.reduceToInt, ta_add, ta_sub, ta_mul, ta_neg, ta_div]; omega))) only [up_1, cp_1, rng_1, fn_1, dj_1, Nat.reduceEqDiff, false_and, and_false, true_and, and_true, or_true, true_or, or_false, false_or, not_true_eq_false, not_false_eq_true, ↓reduceIte, eq_self, ne_eq, ti_eq, ti_le, ti_lt, ti_ite, Int32.reduceToInt, ta_add, ta_sub, ta_mul, ta_neg, ta_div]; omega)))) | (with_reducible refine wi_ifn ?_ ?_; (focus (first | omega | (simp (disch := (first | omega | (simp (disch := first | omega | (simp only [Int32.reduceToInt]; omega)) only [Int32.reduceToInt, ta_add, ta_sub, ta_mul, ta_neg, ta_div]; omega))) only [up_1, cp_1, rng_1, fn_1, dj_1, Nat.reduceEqDiff, false_and, and_false, true_and, and_true, or_true, true_or, or_false, false_or, not_true_eq_false, not_false_eq_true, ↓reduceIte, eq_self, ne_eq, ti_eq, ti_le, ti_lt, ti_ite, Int32.reduceToInt, ta_add, ta_sub, ta_mul, ta_neg, ta_div]; done) | (simp (disch := (first | omega | (simp (disch := first | omega | (simp only [Int32.reduceToInt]; omega)) only [Int32.reduceToInt, ta_add, ta_sub, ta_mul, ta_neg, ta_div]; omega))) only [up_1, cp_1, rng_1, fn_1, dj_1, Nat.reduceEqDiff, false_and, and_false, true_and, and_true, or_true, true_or, or_false, false_or, not_true_eq_false, not_false_eq_true, ↓reduceIte, eq_self, ne_eq, ti_eq, ti_le, ti_lt, ti_ite, Int32.reduceToInt, ta_add, ta_sub, ta_mul, ta_neg, ta_div]; omega)))) | (with_reducible refine wi_ck ?_ ?_; (focus (first | omega | (simp (disch := (first | omega | (simp (disch := first | omega | (simp only [Int32.reduceToInt]; omega)) only [Int32.reduceToInt, ta_add, ta_sub, ta_mul, ta_neg, ta_div]; omega))) only [up_1, cp_1, rng_1, fn_1, dj_1, Nat.reduceEqDiff, false_and, and_false, true_and, and_true, or_true, true_or, or_false, false_or, not_true_eq_false, not_false_eq_true, ↓reduceIte, eq_self, ne_eq, ti_eq, ti_le, ti_lt, ti_ite, Int32.reduceToInt, ta_add, ta_sub, ta_mul, ta_neg, ta_div]; done) | (simp (disch := (first | omega | (simp (disch := first | omega | (simp only [Int32.reduceToInt]; omega)) only [Int32.reduceToInt, ta_add, ta_sub, ta_mul, ta_neg, ta_div]; omega))) only [up_1, cp_1, rng_1, fn_1, dj_1, Nat.reduceEqDiff, false_and, and_false, true_and, and_true, or_true, true_or, or_false, false_or, not_true_eq_false, not_false_eq_true, ↓reduceIte, eq_self, ne_eq, ti_eq, ti_le, ti_lt, ti_ite, Int32.reduceToInt, ta_add, ta_sub, ta_mul, ta_neg, ta_div]; omega)))) | with_reducible refine wi_bd2 ?_ | with_reducible refine wi_bd1 ?_ | with_reducible refine wi_bd3 ?_ | (with_reducible refine wi_some ?_; try dsimp only) | unfold f_X11_admit))
    exact half 1 o1 ⟨fun q => absurd q (by decide), fun q => absurd q cR⟩
end ADM

/-! force, class (90) and reference (1) -/
section FRD
variable {n : Nat} {z : ix_Z} {c r r1 : ix_D2} {rn : Nat → Nat} {v x y y' w : Int32}
theorem e_force90 (hz : ly_z z) (hn : 20000 ≤ n) (h : R_90 c r rn) {k p0 : Nat} (hk : (k : Int) < (c.1 92 2).toInt) (hk1 : (c.1 98 k).toInt = 1) (hp : in_90 c k p0) (hpv : vl_ c.1 101 (c.1 93 p0) = 0) (hnq : ∀ i : Nat, (i : Int) < (c.1 92 2).toInt → (c.1 98 i).toInt ≠ 0) (hr1 : r1 = ix_di (ix_di (ix_di r 125 89 (r.1 125 89 - 1)) 187 (10 * 1 + 1) (r.1 187 (10 * 1 + 1) + 1)) 187 (10 * 1 + 2) (r.1 187 (10 * 1 + 2) + 1)) : wp_t (f_X9_force n z 90 (nI k) c) (fun u => u.1 = 2 ∧ u.2.1 115 1 = c.1 115 1 + 1 ∧ fc_90 c u.2 ∧ wp_t (f_X12_become n z 125 1 (c.1 93 p0) (nI (rn k)) r1) (fun r2 => R_90 u.2 r2 rn ∧ fq_q1 r r2 ∧ r2.1 125 89 = r.1 125 89 - 1)) := by
  obtain ⟨hb, hrr, htk, hrt, ⟨hla, hll, hql⟩, hrs, hwg, hnb, hty, haq, hcq⟩ := h
  have hT := hb.1.2.1
  have hT0 := hb.1.1
  have hit := rw_i hb.1 hk hp.2
  have hun := un_90 hb hk hk1 hp hpv
  obtain ⟨v, ev⟩ : ∃ v, v = c.1 93 p0 := ⟨_, rfl⟩
  rw [← ev] at hit hpv ⊢
  obtain ⟨v0, v1, v2⟩ := hit
  obtain ⟨hne, hroom⟩ := tk_room90 htk v0 v1 v2 hpv
  obtain ⟨A, hA⟩ : ∃ A, A = ix_n (ix_abs v) := ⟨_, rfl⟩
  obtain ⟨a1, a2, a3, a4⟩ := na_b v0 v1 v2
  rw [← hA] at hne a1 a2 a3 a4
  have ht0 := htk.1
  have rp : ∀ a i, (a ≠ 125 ∨ i ≠ 89) → (a ≠ 187 ∨ (i ≠ 10 * 1 + 1 ∧ i ≠ 10 * 1 + 2)) → r1.1 a i = r.1 a i := fun a i g1 g2 => by rw [hr1]; simp only [up_1]; rw [if_neg (by omega), if_neg (by omega), if_neg (by omega)]
  have rp2 : r1.2 = r.2 := by rw [hr1]; rfl
  have r187 : ∀ i, r1.1 187 (10 * 1 + i) = if i = 1 ∨ i = 2 then r.1 187 (10 * 1 + i) + 1 else r.1 187 (10 * 1 + i) := fun i => by
    rw [hr1]
    by_cases e2 : i = 2
    · rw [up_1, if_pos ⟨rfl, by rw [e2]⟩, if_pos (Or.inr e2), e2]
    · rw [up_1, if_neg (fun q => e2 (by omega))]
      by_cases e1 : i = 1
      · rw [up_1, if_pos ⟨rfl, by rw [e1]⟩, if_pos (Or.inl e1), e1]
      · rw [up_1, if_neg (fun q => e1 (by omega)), up_1, if_neg (fun q => absurd q.1 (by decide)), if_neg (by omega)]
  have r89 : r1.1 125 89 = r.1 125 89 - 1 := by rw [hr1]; simp only [up_1, Nat.reduceEqDiff, false_and, and_false, true_and, and_true, or_true, true_or, or_false, false_or, not_true_eq_false, not_false_eq_true, ↓reduceIte, eq_self, ne_eq]
  have hrr1 : rr_90 c r1 rn := rr_f90 hrr (fun a i hs => rp a i (by unfold su_rr at hs; omega) (by unfold su_rr at hs; omega))
  have hrt1 : rt_90 c r1 rn := by
    have e168 : r1.1 168 = r.1 168 := funext fun i => rp _ _ (by omega) (by omega)
    have e169 : r1.1 169 = r.1 169 := funext fun i => rp _ _ (by omega) (by omega)
    have e170 : r1.1 170 = r.1 170 := funext fun i => rp _ _ (by omega) (by omega)
    have e173 : r1.1 173 = r.1 173 := funext fun i => rp _ _ (by omega) (by omega)
    have e174 : r1.1 174 = r.1 174 := funext fun i => rp _ _ (by omega) (by omega)
    have e175 : r1.1 175 = r.1 175 := funext fun i => rp _ _ (by omega) (by omega)
    unfold rt_90; rw [e168, e169, e170, e173, e174, e175]; exact hrt
  have e174 : r1.1 174 1 = c.1 91 12 := hrt1.1
  have e175 : r1.1 175 1 = c.1 91 13 := hrt1.2.1
  have hkp : ∀ p, in_90 c k p → c.1 93 p = v ∨ vl_ c.1 101 (c.1 93 p) = -1 := fun p g => by
    rcases hun p g with e | e
    · exact Or.inl (by rw [e, ev])
    · exact Or.inr e
  have ek : (nI k).toInt = k := nI_ti (by omega)
  have hoi := e_oi90 (n := n) (d := c) hz hn hb.1 hb.2.2.2.2 hk
  (repeat (first | with_reducible refine wi_t (ly_o90 hz) ?_ | with_reducible refine wi_r (ly_r0_7 hz) ?_ | with_reducible refine wi_t (ly_o91 hz) ?_ | with_reducible refine wi_r (ly_r90_0 hz) ?_ | with_reducible refine wi_lt ?_ | (with_reducible refine wi_ifp ?_ ?_; (focus (first | omega | (simp only [Int32.reduceToInt]; omega) | (simp (disch := (first | omega | (simp (disch := first | omega | (simp only [Int32.reduceToInt]; omega)) only [Int32.reduceToInt, ta_add, ta_sub, ta_mul, ta_neg, ta_div]; omega))) only [Int32.reduceMul, up_1, cp_1, rng_1, fn_1, dj_1, Nat.reduceEqDiff, false_and, and_false, true_and, and_true, or_true, true_or, or_false, false_or, not_true_eq_false, not_false_eq_true, ↓reduceIte, eq_self, ne_eq, ti_eq, ti_le, ti_lt, ti_ite, Int32.reduceToInt, ta_add, ta_sub, ta_mul, ta_neg, ta_div]; done) | (simp (disch := (first | omega | (simp (disch := first | omega | (simp only [Int32.reduceToInt]; omega)) only [Int32.reduceToInt, ta_add, ta_sub, ta_mul, ta_neg, ta_div]; omega))) only [Int32.reduceMul, up_1, cp_1, rng_1, fn_1, dj_1, Nat.reduceEqDiff, false_and, and_false, true_and, and_true, or_true, true_or, or_false, false_or, not_true_eq_false, not_false_eq_true, ↓reduceIte, eq_self, ne_eq, ti_eq, ti_le, ti_lt, ti_ite, Int32.reduceToInt, ta_add, ta_sub, ta_mul, ta_neg, ta_div]; omega)))) | (with_reducible refine wi_ifn ?_ ?_; (focus (first | omega | (simp only [Int32.reduceToInt]; omega) | (simp (disch := (first | omega | (simp (disch := first | omega | (simp only [Int32.reduceToInt]; omega)) only [Int32.reduceToInt, ta_add, ta_sub, ta_mul, ta_neg, ta_div]; omega))) only [Int32.reduceMul, up_1, cp_1, rng_1, fn_1, dj_1, Nat.reduceEqDiff, false_and, and_false, true_and, and_true, or_true, true_or, or_false, false_or, not_true_eq_false, not_false_eq_true, ↓reduceIte, eq_self, ne_eq, ti_eq, ti_le, ti_lt, ti_ite, Int32.reduceToInt, ta_add, ta_sub, ta_mul, ta_neg, ta_div]; done) | (simp (disch := (first | omega | (simp (disch := first | omega | (simp only [Int32.reduceToInt]; omega)) only [Int32.reduceToInt, ta_add, ta_sub, ta_mul, ta_neg, ta_div]; omega))) only [Int32.reduceMul, up_1, cp_1, rng_1, fn_1, dj_1, Nat.reduceEqDiff, false_and, and_false, true_and, and_true, or_true, true_or, or_false, false_or, not_true_eq_false, not_false_eq_true, ↓reduceIte, eq_self, ne_eq, ti_eq, ti_le, ti_lt, ti_ite, Int32.reduceToInt, ta_add, ta_sub, ta_mul, ta_neg, ta_div]; omega)))) | (with_reducible refine wi_ck ?_ ?_; (focus (first | omega | (simp only [Int32.reduceToInt]; omega) | (simp (disch := (first | omega | (simp (disch := first | omega | (simp only [Int32.reduceToInt]; omega)) only [Int32.reduceToInt, ta_add, ta_sub, ta_mul, ta_neg, ta_div]; omega))) only [Int32.reduceMul, up_1, cp_1, rng_1, fn_1, dj_1, Nat.reduceEqDiff, false_and, and_false, true_and, and_true, or_true, true_or, or_false, false_or, not_true_eq_false, not_false_eq_true, ↓reduceIte, eq_self, ne_eq, ti_eq, ti_le, ti_lt, ti_ite, Int32.reduceToInt, ta_add, ta_sub, ta_mul, ta_neg, ta_div]; done) | (simp (disch := (first | omega | (simp (disch := first | omega | (simp only [Int32.reduceToInt]; omega)) only [Int32.reduceToInt, ta_add, ta_sub, ta_mul, ta_neg, ta_div]; omega))) only [Int32.reduceMul, up_1, cp_1, rng_1, fn_1, dj_1, Nat.reduceEqDiff, false_and, and_false, true_and, and_true, or_true, true_or, or_false, false_or, not_true_eq_false, not_false_eq_true, ↓reduceIte, eq_self, ne_eq, ti_eq, ti_le, ti_lt, ti_ite, Int32.reduceToInt, ta_add, ta_sub, ta_mul, ta_neg, ta_div]; omega)))) | with_reducible refine wi_bd2 ?_ | with_reducible refine wi_bd1 ?_ | with_reducible refine wi_bd3 ?_ | (with_reducible refine wi_some ?_; try dsimp only) | unfold f_X9_force))
  refine wp_m hoi (fun t h => ?_)
  obtain ⟨t1, t2⟩ := t
  obtain ⟨h1, h2⟩ := h
  dsimp only at h1 h2 ⊢
  subst h1
  have et : t1 = v := by
    rcases h2 with ⟨_, h2⟩ | ⟨p, p1, p2, p3, p4, _⟩
    · exact absurd (by rw [← ev]; exact hpv) (h2 p0 hp.1 hp.2)
    · rcases hun p ⟨p1, p2⟩ with e | e
      · rw [p3, e, ev]
      · omega
  subst et
  have has := e_as90 (n := n) (d := t2) (v := t1) (y := nI k) hz hn hb v0 v1 v2 hpv htk.1 (by omega)
  refine wi_bd1 ?_
  refine wp_m has (fun c3 h => ?_)
  obtain ⟨hb3, h3, h3l, h4⟩ := h
  obtain ⟨x1, x2, x3, x4, x5, x6, x7, x8⟩ := as_R90 (c := t2) (r := r1) (rn := rn) (v := t1) (y := nI k) (y' := nI (rn k)) (c3 := c3) hrr1 htk hrt1 hla v0 v1 v2 hpv (Or.inr ⟨k, hk, rfl, rfl, ⟨p0, hp, ev.symm⟩, hkp⟩) (by omega) hT (fun k p g1 g2 => rw_i hb.1 g1 g2.2) h3 h4
  have xq := as_ql90 (c := t2) (c3 := c3) (v := t1) (y := nI k) (fun k g1 g2 => nq_90 hb hnq g1 g2) h3 h4
  have o : ∀ a i, a ≠ 98 → a ≠ 101 → a ≠ 103 → a ≠ 104 → a ≠ 105 → (a ≠ 91 ∨ i ≠ 12) → c3.1 a i = t2.1 a i := fun a i g8 g1 g2 g3 g4 g5 => by rw [h3 a i g8]; exact am_o90 g1 g2 g3 g4 g5
  have o13 : c3.1 91 13 = t2.1 91 13 := o _ _ (by omega) (by omega) (by omega) (by omega) (by omega) (by omega)
  have o14 : c3.1 91 14 = t2.1 91 14 := o _ _ (by omega) (by omega) (by omega) (by omega) (by omega) (by omega)
  have o15 : c3.1 91 15 = t2.1 91 15 := o _ _ (by omega) (by omega) (by omega) (by omega) (by omega) (by omega)
  have fin : ∀ (cE r2 : ix_D2), (∀ a i, cE.1 a i = if a = 115 ∧ (i = 1 ∨ i = 2) then t2.1 115 i + 1 else c3.1 a i) → (∀ a i, a ≠ 113 → a ≠ 114 → cE.2 a i = c3.2 a i) → r2.1 = (bm_q1 t1 (nI (rn k)) r1).1 → (∀ a i, a ≠ 184 → (a ≠ 183 ∨ i < 8 * (301 * 1 + A) ∨ 8 * (301 * 1 + A) + 8 ≤ i) → r2.2 a i = r.2 a i) → rs_90 cE r2 rn → R_90 cE r2 rn ∧ fq_q1 r r2 ∧ r2.1 125 89 = r.1 125 89 - 1 := by
    intro cE r2 e1 e2 e3 e4 e5
    have d1 : ∀ a i, a ≠ 115 → cE.1 a i = c3.1 a i := fun a i g => by rw [e1, if_neg (fun q => g q.1)]
    have bmo : ∀ a i, a ≠ 167 → a ≠ 168 → a ≠ 169 → a ≠ 173 → (a ≠ 174 ∨ i ≠ 1) → r2.1 a i = r1.1 a i := fun a i g1 g2 g3 g4 g5 => by
      rw [e3]; unfold bm_q1; simp only [up_1]
      rw [if_neg (by omega), if_neg (by omega), if_neg (by omega), if_neg (by omega), if_neg (by omega)]
    have nt := ni_c (x := t2.1 91 12) (by omega)
    refine ⟨st_R90 (c3 := c3) (r1 := bm_q1 t1 (nI (rn k)) r1) hb3 x1 x2 x3 x4 xq (by rw [o13]; omega) d1 e2 e3 e5 ?_ ?_, ?_, ?_⟩
    · refine ro_c90 (c := t2) (r := r) hwg hnb hty haq hcq (fun a i g1 g2 g3 g4 g5 g6 g7 g8 => ?_) (fun a i g1 g2 g3 g4 => ?_) (fun i hi => ?_) (fun a i g1 g2 g3 g4 g5 g6 => ?_) (fun a i g1 g2 => e4 a i g2 (Or.inl g1)) (fun i hi => ?_) hT0
      · rw [e1, if_neg (by omega)]
        exact o a i g1 g2 g4 g5 g6 (by omega)
      · rw [e2 a i g3 g4]; exact h3l a i g1 g2
      · rw [d1 _ _ (by omega)]; exact h4 i hi
      · rw [bmo a i (by omega) (by omega) (by omega) (by omega) (by omega)]
        exact rp a i (by omega) (by omega)
      · rw [bmo _ _ (by omega) (by omega) (by omega) (by omega) (by omega), r187, e1]
        have g := hty.1 i hi
        by_cases ei : i = 1 ∨ i = 2
        · rw [if_pos ei, if_pos ⟨rfl, ei⟩, g]
        · rw [if_neg ei, if_neg (fun q => ei q.2), o _ _ (by omega) (by omega) (by omega) (by omega) (by omega) (by omega)]; exact g
    · intro i hi
      rw [d1 _ _ (by omega), d1 91 14 (by omega), o14]
      rw [d1 91 12 (by omega), x8] at hi
      by_cases e : (i : Int) = (t2.1 91 12).toInt
      · have : i = ix_n (t2.1 91 12) := by omega
        rw [this, x7, ev]
        have rb := rw_b hb.1 hk
        exact hnb.1 p0 (by have := hp.2; omega)
      · rw [(x5 i (by omega)).2]
        exact hnb.2 i (by omega)
    · have f1 : fq_q1 r r1 := by
        rw [hr1]
        exact fq_diq1 (fq_diq1 (fq_diq1 fq_rfq1 (sq_oq1 (Or.inl rfl))) (sq_187q1 (by omega))) (sq_187q1 (by omega))
      refine fq_lgq1 (r' := bm_q1 t1 (nI (rn k)) r1) (fq_bmq1 f1 v0 v1 v2 (by rw [e174]; exact htk.1) (by rw [e174]; exact hroom)) e3 (fun a i g1 g2 _ => ?_)
      rw [e4 a i g1 (by omega)]
      show r.2 a i = r1.2 a i
      rw [rp2]
    · rw [bmo _ _ (by omega) (by omega) (by omega) (by omega) (by omega), r89]
  have fcE : ∀ cE : ix_D2, (∀ a i, cE.1 a i = if a = 115 ∧ (i = 1 ∨ i = 2) then t2.1 115 i + 1 else c3.1 a i) → (∀ a i, a ≠ 113 → a ≠ 114 → cE.2 a i = c3.2 a i) → fc_90 t2 cE := by
    intro cE e1 e2 a i ha
    refine ⟨?_, ?_⟩
    · rw [e1, if_neg (by omega)]
      exact o a i (by omega) (by omega) (by omega) (by omega) (by omega) (by omega)
    · rw [e2 a i (by omega) (by omega)]
      exact h3l a i (by omega) (by omega)
  have s25 : ∀ i, c3.1 115 i = t2.1 115 i := fun i => o _ _ (by omega) (by omega) (by omega) (by omega) (by omega) (by omega)
  have n1 : ix_n (1 : Int32) = 1 := rfl
  have n2 : ix_n (2 : Int32) = 2 := rfl
  have tal : ∀ cX : ix_D2, cX.1 = c3.1 → ∀ a i, (ix_di (ix_di cX 115 1 (cX.1 115 1 + 1)) 115 2 ((ix_di cX 115 1 (cX.1 115 1 + 1)).1 115 2 + 1)).1 a i = if a = 115 ∧ (i = 1 ∨ i = 2) then t2.1 115 i + 1 else c3.1 a i := by
    intro cX eX a i
    simp only [up_1, eX, s25]
    by_cases g : a = 115
    · subst g
      by_cases e2 : i = 2
      · subst e2; simp
      · by_cases e1 : i = 1
        · subst e1; simp
        · simp [e1, e2]
    · simp [g]
  by_cases cL : (t2.1 91 13).toInt = 0
  · /- level 0 -/
    have cL3 : (c3.1 91 13).toInt = 0 := by rw [o13]; exact cL
    obtain ⟨g1, g2, g3, g4, g5, g6, g7, g8, g9, g10, g11, g12, g13, g14, g15⟩ := hrr.2.1
    have b500 : (t2.1 91 15).toInt ≤ 500 := by
      apply Classical.byContradiction
      intro hgt
      have hm : ∀ i : Nat, (i : Int) < (t2.1 91 15).toInt → i ≤ rn i := by
        intro i
        induction i with
        | zero => intro _; exact Nat.zero_le _
        | succ i ih => intro hi; have a := ih (by omega); have b := g8 i (i + 1) (by omega) hi; omega
      have a := hm 500 (by omega)
      have b := (g6 500 (by omega)).1
      omega
    have rb := rw_b hb.1 hk
    obtain ⟨S, hS⟩ : ∃ S : Nat, (S : Int) = (t2.1 94 k).toInt := ⟨ix_n (t2.1 94 k), ni_c rb.1⟩
    obtain ⟨Y, hY⟩ : ∃ Y : Nat, (S : Int) + Y = (t2.1 94 (k + 1)).toInt := ⟨((t2.1 94 (k + 1)).toInt - S).toNat, by omega⟩
    have f4 : c3.1 94 = t2.1 94 := funext fun i => o _ _ (by omega) (by omega) (by omega) (by omega) (by omega) (by omega)
    have f3 : c3.1 93 = t2.1 93 := funext fun i => o _ _ (by omega) (by omega) (by omega) (by omega) (by omega) (by omega)
    have f2 : c3.1 92 = t2.1 92 := funext fun i => o _ _ (by omega) (by omega) (by omega) (by omega) (by omega) (by omega)
    have o16 : c3.1 91 16 = t2.1 91 16 := o _ _ (by omega) (by omega) (by omega) (by omega) (by omega) (by omega)
    have hkn := e_kn90 (n := n) (c := c3) (x := ix_abs t1) hz hn hb3.1 (k := k) (S := S) (Y := Y) (A := A) (by rw [o15]; exact g1) (by rw [o15]; exact b500) (by rw [o16]; omega) (by rw [f2]; exact hk) (by rw [o16]; omega) (by rw [f4]; exact hS) (by rw [f4]; exact hY) a2 a3
    (repeat (first | with_reducible refine wi_t (ly_o90 hz) ?_ | with_reducible refine wi_r (ly_r0_7 hz) ?_ | with_reducible refine wi_t (ly_o91 hz) ?_ | with_reducible refine wi_r (ly_r90_0 hz) ?_ | with_reducible refine wi_lt ?_ | (with_reducible refine wi_ifp ?_ ?_; (focus (first | omega | (simp only [Int32.reduceToInt]; omega) | (simp (disch := (first | omega | (simp (disch := first | omega | (simp only [Int32.reduceToInt]; omega)) only [Int32.reduceToInt, ta_add, ta_sub, ta_mul, ta_neg, ta_div]; omega))) only [cL3, Int32.reduceMul, up_1, cp_1, rng_1, fn_1, dj_1, Nat.reduceEqDiff, false_and, and_false, true_and, and_true, or_true, true_or, or_false, false_or, not_true_eq_false, not_false_eq_true, ↓reduceIte, eq_self, ne_eq, ti_eq, ti_le, ti_lt, ti_ite, Int32.reduceToInt, ta_add, ta_sub, ta_mul, ta_neg, ta_div]; done) | (simp (disch := (first | omega | (simp (disch := first | omega | (simp only [Int32.reduceToInt]; omega)) only [Int32.reduceToInt, ta_add, ta_sub, ta_mul, ta_neg, ta_div]; omega))) only [cL3, Int32.reduceMul, up_1, cp_1, rng_1, fn_1, dj_1, Nat.reduceEqDiff, false_and, and_false, true_and, and_true, or_true, true_or, or_false, false_or, not_true_eq_false, not_false_eq_true, ↓reduceIte, eq_self, ne_eq, ti_eq, ti_le, ti_lt, ti_ite, Int32.reduceToInt, ta_add, ta_sub, ta_mul, ta_neg, ta_div]; omega)))) | (with_reducible refine wi_ifn ?_ ?_; (focus (first | omega | (simp only [Int32.reduceToInt]; omega) | (simp (disch := (first | omega | (simp (disch := first | omega | (simp only [Int32.reduceToInt]; omega)) only [Int32.reduceToInt, ta_add, ta_sub, ta_mul, ta_neg, ta_div]; omega))) only [cL3, Int32.reduceMul, up_1, cp_1, rng_1, fn_1, dj_1, Nat.reduceEqDiff, false_and, and_false, true_and, and_true, or_true, true_or, or_false, false_or, not_true_eq_false, not_false_eq_true, ↓reduceIte, eq_self, ne_eq, ti_eq, ti_le, ti_lt, ti_ite, Int32.reduceToInt, ta_add, ta_sub, ta_mul, ta_neg, ta_div]; done) | (simp (disch := (first | omega | (simp (disch := first | omega | (simp only [Int32.reduceToInt]; omega)) only [Int32.reduceToInt, ta_add, ta_sub, ta_mul, ta_neg, ta_div]; omega))) only [cL3, Int32.reduceMul, up_1, cp_1, rng_1, fn_1, dj_1, Nat.reduceEqDiff, false_and, and_false, true_and, and_true, or_true, true_or, or_false, false_or, not_true_eq_false, not_false_eq_true, ↓reduceIte, eq_self, ne_eq, ti_eq, ti_le, ti_lt, ti_ite, Int32.reduceToInt, ta_add, ta_sub, ta_mul, ta_neg, ta_div]; omega)))) | (with_reducible refine wi_ck ?_ ?_; (focus (first | omega | (simp only [Int32.reduceToInt]; omega) | (simp (disch := (first | omega | (simp (disch := first | omega | (simp only [Int32.reduceToInt]; omega)) only [Int32.reduceToInt, ta_add, ta_sub, ta_mul, ta_neg, ta_div]; omega))) only [cL3, Int32.reduceMul, up_1, cp_1, rng_1, fn_1, dj_1, Nat.reduceEqDiff, false_and, and_false, true_and, and_true, or_true, true_or, or_false, false_or, not_true_eq_false, not_false_eq_true, ↓reduceIte, eq_self, ne_eq, ti_eq, ti_le, ti_lt, ti_ite, Int32.reduceToInt, ta_add, ta_sub, ta_mul, ta_neg, ta_div]; done) | (simp (disch := (first | omega | (simp (disch := first | omega | (simp only [Int32.reduceToInt]; omega)) only [Int32.reduceToInt, ta_add, ta_sub, ta_mul, ta_neg, ta_div]; omega))) only [cL3, Int32.reduceMul, up_1, cp_1, rng_1, fn_1, dj_1, Nat.reduceEqDiff, false_and, and_false, true_and, and_true, or_true, true_or, or_false, false_or, not_true_eq_false, not_false_eq_true, ↓reduceIte, eq_self, ne_eq, ti_eq, ti_le, ti_lt, ti_ite, Int32.reduceToInt, ta_add, ta_sub, ta_mul, ta_neg, ta_div]; omega)))) | with_reducible refine wi_bd2 ?_ | with_reducible refine wi_bd1 ?_ | with_reducible refine wi_bd3 ?_ | (with_reducible refine wi_some ?_; try dsimp only)))
    refine wp_m hkn (fun c4 h => ?_)
    obtain ⟨w1, w2, w3⟩ := h
    (repeat (first | rw [n1] | rw [n2] | with_reducible refine wi_t (ly_o90 hz) ?_ | with_reducible refine wi_r (ly_r0_7 hz) ?_ | with_reducible refine wi_r (ly_r90_10 hz) ?_ | with_reducible refine wi_t (ly_a115 hz) ?_ | (with_reducible refine wi_x (ly_i115 hz) ?_ ?_ ?_; (focus (first | omega | (simp only [Int32.reduceToInt]; omega) | (simp (disch := (first | omega | (simp (disch := first | omega | (simp only [Int32.reduceToInt]; omega)) only [Int32.reduceToInt, ta_add, ta_sub, ta_mul, ta_neg, ta_div]; omega))) only [ly_n115 hz, Int32.reduceMul, up_1, cp_1, rng_1, fn_1, dj_1, Nat.reduceEqDiff, false_and, and_false, true_and, and_true, or_true, true_or, or_false, false_or, not_true_eq_false, not_false_eq_true, ↓reduceIte, eq_self, ne_eq, ti_eq, ti_le, ti_lt, ti_ite, Int32.reduceToInt, ta_add, ta_sub, ta_mul, ta_neg, ta_div]; done) | (simp (disch := (first | omega | (simp (disch := first | omega | (simp only [Int32.reduceToInt]; omega)) only [Int32.reduceToInt, ta_add, ta_sub, ta_mul, ta_neg, ta_div]; omega))) only [ly_n115 hz, Int32.reduceMul, up_1, cp_1, rng_1, fn_1, dj_1, Nat.reduceEqDiff, false_and, and_false, true_and, and_true, or_true, true_or, or_false, false_or, not_true_eq_false, not_false_eq_true, ↓reduceIte, eq_self, ne_eq, ti_eq, ti_le, ti_lt, ti_ite, Int32.reduceToInt, ta_add, ta_sub, ta_mul, ta_neg, ta_div]; omega))); (focus (first | omega | (simp only [Int32.reduceToInt]; omega) | (simp (disch := (first | omega | (simp (disch := first | omega | (simp only [Int32.reduceToInt]; omega)) only [Int32.reduceToInt, ta_add, ta_sub, ta_mul, ta_neg, ta_div]; omega))) only [ly_n115 hz, Int32.reduceMul, up_1, cp_1, rng_1, fn_1, dj_1, Nat.reduceEqDiff, false_and, and_false, true_and, and_true, or_true, true_or, or_false, false_or, not_true_eq_false, not_false_eq_true, ↓reduceIte, eq_self, ne_eq, ti_eq, ti_le, ti_lt, ti_ite, Int32.reduceToInt, ta_add, ta_sub, ta_mul, ta_neg, ta_div]; done) | (simp (disch := (first | omega | (simp (disch := first | omega | (simp only [Int32.reduceToInt]; omega)) only [Int32.reduceToInt, ta_add, ta_sub, ta_mul, ta_neg, ta_div]; omega))) only [ly_n115 hz, Int32.reduceMul, up_1, cp_1, rng_1, fn_1, dj_1, Nat.reduceEqDiff, false_and, and_false, true_and, and_true, or_true, true_or, or_false, false_or, not_true_eq_false, not_false_eq_true, ↓reduceIte, eq_self, ne_eq, ti_eq, ti_le, ti_lt, ti_ite, Int32.reduceToInt, ta_add, ta_sub, ta_mul, ta_neg, ta_div]; omega)))) | with_reducible refine wi_lt ?_ | (with_reducible refine wi_ifp ?_ ?_; (focus (first | omega | (simp only [Int32.reduceToInt]; omega) | (simp (disch := (first | omega | (simp (disch := first | omega | (simp only [Int32.reduceToInt]; omega)) only [Int32.reduceToInt, ta_add, ta_sub, ta_mul, ta_neg, ta_div]; omega))) only [ly_n115 hz, Int32.reduceMul, up_1, cp_1, rng_1, fn_1, dj_1, Nat.reduceEqDiff, false_and, and_false, true_and, and_true, or_true, true_or, or_false, false_or, not_true_eq_false, not_false_eq_true, ↓reduceIte, eq_self, ne_eq, ti_eq, ti_le, ti_lt, ti_ite, Int32.reduceToInt, ta_add, ta_sub, ta_mul, ta_neg, ta_div]; done) | (simp (disch := (first | omega | (simp (disch := first | omega | (simp only [Int32.reduceToInt]; omega)) only [Int32.reduceToInt, ta_add, ta_sub, ta_mul, ta_neg, ta_div]; omega))) only [ly_n115 hz, Int32.reduceMul, up_1, cp_1, rng_1, fn_1, dj_1, Nat.reduceEqDiff, false_and, and_false, true_and, and_true, or_true, true_or, or_false, false_or, not_true_eq_false, not_false_eq_true, ↓reduceIte, eq_self, ne_eq, ti_eq, ti_le, ti_lt, ti_ite, Int32.reduceToInt, ta_add, ta_sub, ta_mul, ta_neg, ta_div]; omega)))) | (with_reducible refine wi_ifn ?_ ?_; (focus (first | omega | (simp only [Int32.reduceToInt]; omega) | (simp (disch := (first | omega | (simp (disch := first | omega | (simp only [Int32.reduceToInt]; omega)) only [Int32.reduceToInt, ta_add, ta_sub, ta_mul, ta_neg, ta_div]; omega))) only [ly_n115 hz, Int32.reduceMul, up_1, cp_1, rng_1, fn_1, dj_1, Nat.reduceEqDiff, false_and, and_false, true_and, and_true, or_true, true_or, or_false, false_or, not_true_eq_false, not_false_eq_true, ↓reduceIte, eq_self, ne_eq, ti_eq, ti_le, ti_lt, ti_ite, Int32.reduceToInt, ta_add, ta_sub, ta_mul, ta_neg, ta_div]; done) | (simp (disch := (first | omega | (simp (disch := first | omega | (simp only [Int32.reduceToInt]; omega)) only [Int32.reduceToInt, ta_add, ta_sub, ta_mul, ta_neg, ta_div]; omega))) only [ly_n115 hz, Int32.reduceMul, up_1, cp_1, rng_1, fn_1, dj_1, Nat.reduceEqDiff, false_and, and_false, true_and, and_true, or_true, true_or, or_false, false_or, not_true_eq_false, not_false_eq_true, ↓reduceIte, eq_self, ne_eq, ti_eq, ti_le, ti_lt, ti_ite, Int32.reduceToInt, ta_add, ta_sub, ta_mul, ta_neg, ta_div]; omega)))) | (with_reducible refine wi_ck ?_ ?_; (focus (first | omega | (simp only [Int32.reduceToInt]; omega) | (simp (disch := (first | omega | (simp (disch := first | omega | (simp only [Int32.reduceToInt]; omega)) only [Int32.reduceToInt, ta_add, ta_sub, ta_mul, ta_neg, ta_div]; omega))) only [ly_n115 hz, Int32.reduceMul, up_1, cp_1, rng_1, fn_1, dj_1, Nat.reduceEqDiff, false_and, and_false, true_and, and_true, or_true, true_or, or_false, false_or, not_true_eq_false, not_false_eq_true, ↓reduceIte, eq_self, ne_eq, ti_eq, ti_le, ti_lt, ti_ite, Int32.reduceToInt, ta_add, ta_sub, ta_mul, ta_neg, ta_div]; done) | (simp (disch := (first | omega | (simp (disch := first | omega | (simp only [Int32.reduceToInt]; omega)) only [Int32.reduceToInt, ta_add, ta_sub, ta_mul, ta_neg, ta_div]; omega))) only [ly_n115 hz, Int32.reduceMul, up_1, cp_1, rng_1, fn_1, dj_1, Nat.reduceEqDiff, false_and, and_false, true_and, and_true, or_true, true_or, or_false, false_or, not_true_eq_false, not_false_eq_true, ↓reduceIte, eq_self, ne_eq, ti_eq, ti_le, ti_lt, ti_ite, Int32.reduceToInt, ta_add, ta_sub, ta_mul, ta_neg, ta_div]; omega)))) | with_reducible refine wi_bd2 ?_ | with_reducible refine wi_bd1 ?_ | with_reducible refine wi_bd3 ?_ | (with_reducible refine wi_some ?_; try dsimp only) | unfold f_X9_force_37))
    have tal4 := tal c4 w1
    have l4 : ∀ a i, a ≠ 113 → a ≠ 114 → c4.2 a i = c3.2 a i := fun a i p1 p2 => w2 a i p2 (Or.inl p1)
    refine ⟨rfl, ?_, ?_, ?_⟩
    · rw [tal4, if_pos ⟨rfl, Or.inl rfl⟩]
    · exact fcE _ tal4 l4
    · obtain ⟨ra1, ra2, ra3⟩ := hrr1.1 k hk
      have rnk : rn k < 500 ∨ (1000 ≤ rn k ∧ rn k < 2800) := by
        rcases ra1 with q | q | q
        · exact Or.inl q.1
        · exact Or.inr ⟨q.1, by omega⟩
        · exact Or.inr ⟨by omega, q.2.1⟩
      have ra4 : ∀ j, j < Y → (t2.1 93 (S + j)).toInt ≠ 0 ∧ -300 ≤ (t2.1 93 (S + j)).toInt ∧ (t2.1 93 (S + j)).toInt ≤ 300 := fun j hj => rw_i hb.1 hk (by omega)
      have nS : ix_n (t2.1 94 k) = S := ni_k hS.symm
      have rit : ∀ j, j < Y → ri_ r1.1 1 (rn k) j = t2.1 93 (S + j) := fun j hj => by rw [ra3 j (by omega), nS]
      have hb4 := e_b4q1 (n := n) (r := r1) (v := t1) hz hn v0 v1 v2 (by rw [e174]; exact htk.1) (by rw [e174]; exact hroom) (row := rn k) (Y := Y) (by rw [e175]; exact cL) rnk ra1 (by omega) (fun j hj => by rw [rit j hj]; exact (ra4 j hj).2)
      refine wp_m hb4 (fun r2 h => ?_)
      obtain ⟨y1, y2, y3⟩ := h
      rw [← hA] at y2 y3
      refine fin _ r2 tal4 l4 y1 (fun a i p1 p2 => by rw [y2 a i p1 p2, rp2]) ?_
      intro hid
      have hid' : ∀ k : Nat, (k : Int) < (t2.1 91 15).toInt → rn k = k := fun k hk => hid k (by rw [tal4, if_neg (by omega), o15]; exact hk)
      obtain ⟨q1, q2⟩ := hrs hid'
      have q1' : rs1_90 t2 r1 := by unfold rs1_90; rw [rp2]; exact q1
      have q2' : rs2_90 t2 r1 := by unfold rs2_90; rw [rp2]; exact q2
      refine ⟨fun k' w' hk' hw' => ?_, fun i w' hi hle hw' => ?_⟩
      · rw [tal4, if_neg (by omega), s25] at hk'
        show c4.2 _ _ = _
        rw [l4 _ _ (by omega) (by omega), h3l _ _ (by omega) (by omega), y2 _ _ (by omega) (by omega), rp2]
        exact q1 k' w' hk' hw'
      · rw [tal4, if_neg (by omega), x8] at hi
        show c4.2 _ _ = _
        rw [tal4, if_neg (by omega)]
        by_cases e : (i : Int) = (t2.1 91 12).toInt
        · have e' : i = ix_n (t2.1 91 12) := by have := ni_c (x := t2.1 91 12) (by omega); omega
          rw [e', x7, ← hA, w3 w' hw', y3 w' hw', f3]
          have eg : gr_90 c3 k w' = gs_q1 r1 (rn k) w' := by
            rw [← gr_e90 (c := t2) (r := r1) hrr1 hid' q1' hty.2.2.2.1 hk hw']
            unfold gr_90
            rw [o15, o16, h3l _ _ (by omega) (by omega)]
          rw [eg]
          have en : (fun m w => if m = A then (0 : Int64) else c3.2 113 (8 * m + w)) = fun m w => if m = A then 0 else t2.2 113 (8 * m + w) := funext fun m => funext fun w => by rw [h3l _ _ (by omega) (by omega)]
          rw [en]
          refine gl_e90 (c := t2) (r := r1) hrr1 q2' htk hla hrt1 cL hk hS hY ra4 (fun j hj => ?_) hw' (by rw [a3]) (fun _ _ => rfl) Y (Nat.le_refl Y)
          rcases hkp (S + j) ⟨by omega, by omega⟩ with e | e
          · exact Or.inl (by rw [e, hA])
          · exact Or.inr e
        · have x5i := x5 i (by omega)
          have hne' := hne i (by omega)
          rw [x5i.2]
          rw [w2 _ _ (by omega) (by omega), h3l _ _ (by omega) (by omega), y2 _ _ (by omega) (by omega), rp2]
          refine q2 i w' (by omega) ?_ hw'
          rw [← x5i.1]
          unfold le_90 at hle ⊢
          rw [tal4, if_neg (by omega), tal4, if_neg (by omega)] at hle
          exact hle
  · have cL3 : ¬ (c3.1 91 13).toInt = 0 := by rw [o13]; exact cL
    (repeat (first | rw [n1] | rw [n2] | with_reducible refine wi_t (ly_o90 hz) ?_ | with_reducible refine wi_r (ly_r0_7 hz) ?_ | with_reducible refine wi_t (ly_o91 hz) ?_ | with_reducible refine wi_r (ly_r90_0 hz) ?_ | with_reducible refine wi_r (ly_r90_10 hz) ?_ | with_reducible refine wi_t (ly_a115 hz) ?_ | (with_reducible refine wi_x (ly_i115 hz) ?_ ?_ ?_; (focus (first | omega | (simp only [Int32.reduceToInt]; omega) | (simp (disch := (first | omega | (simp (disch := first | omega | (simp only [Int32.reduceToInt]; omega)) only [Int32.reduceToInt, ta_add, ta_sub, ta_mul, ta_neg, ta_div]; omega))) only [cL3, ly_n115 hz, Int32.reduceMul, up_1, cp_1, rng_1, fn_1, dj_1, Nat.reduceEqDiff, false_and, and_false, true_and, and_true, or_true, true_or, or_false, false_or, not_true_eq_false, not_false_eq_true, ↓reduceIte, eq_self, ne_eq, ti_eq, ti_le, ti_lt, ti_ite, Int32.reduceToInt, ta_add, ta_sub, ta_mul, ta_neg, ta_div]; done) | (simp (disch := (first | omega | (simp (disch := first | omega | (simp only [Int32.reduceToInt]; omega)) only [Int32.reduceToInt, ta_add, ta_sub, ta_mul, ta_neg, ta_div]; omega))) only [cL3, ly_n115 hz, Int32.reduceMul, up_1, cp_1, rng_1, fn_1, dj_1, Nat.reduceEqDiff, false_and, and_false, true_and, and_true, or_true, true_or, or_false, false_or, not_true_eq_false, not_false_eq_true, ↓reduceIte, eq_self, ne_eq, ti_eq, ti_le, ti_lt, ti_ite, Int32.reduceToInt, ta_add, ta_sub, ta_mul, ta_neg, ta_div]; omega))); (focus (first | omega | (simp only [Int32.reduceToInt]; omega) | (simp (disch := (first | omega | (simp (disch := first | omega | (simp only [Int32.reduceToInt]; omega)) only [Int32.reduceToInt, ta_add, ta_sub, ta_mul, ta_neg, ta_div]; omega))) only [cL3, ly_n115 hz, Int32.reduceMul, up_1, cp_1, rng_1, fn_1, dj_1, Nat.reduceEqDiff, false_and, and_false, true_and, and_true, or_true, true_or, or_false, false_or, not_true_eq_false, not_false_eq_true, ↓reduceIte, eq_self, ne_eq, ti_eq, ti_le, ti_lt, ti_ite, Int32.reduceToInt, ta_add, ta_sub, ta_mul, ta_neg, ta_div]; done) | (simp (disch := (first | omega | (simp (disch := first | omega | (simp only [Int32.reduceToInt]; omega)) only [Int32.reduceToInt, ta_add, ta_sub, ta_mul, ta_neg, ta_div]; omega))) only [cL3, ly_n115 hz, Int32.reduceMul, up_1, cp_1, rng_1, fn_1, dj_1, Nat.reduceEqDiff, false_and, and_false, true_and, and_true, or_true, true_or, or_false, false_or, not_true_eq_false, not_false_eq_true, ↓reduceIte, eq_self, ne_eq, ti_eq, ti_le, ti_lt, ti_ite, Int32.reduceToInt, ta_add, ta_sub, ta_mul, ta_neg, ta_div]; omega)))) | with_reducible refine wi_lt ?_ | (with_reducible refine wi_ifp ?_ ?_; (focus (first | omega | (simp only [Int32.reduceToInt]; omega) | (simp (disch := (first | omega | (simp (disch := first | omega | (simp only [Int32.reduceToInt]; omega)) only [Int32.reduceToInt, ta_add, ta_sub, ta_mul, ta_neg, ta_div]; omega))) only [cL3, ly_n115 hz, Int32.reduceMul, up_1, cp_1, rng_1, fn_1, dj_1, Nat.reduceEqDiff, false_and, and_false, true_and, and_true, or_true, true_or, or_false, false_or, not_true_eq_false, not_false_eq_true, ↓reduceIte, eq_self, ne_eq, ti_eq, ti_le, ti_lt, ti_ite, Int32.reduceToInt, ta_add, ta_sub, ta_mul, ta_neg, ta_div]; done) | (simp (disch := (first | omega | (simp (disch := first | omega | (simp only [Int32.reduceToInt]; omega)) only [Int32.reduceToInt, ta_add, ta_sub, ta_mul, ta_neg, ta_div]; omega))) only [cL3, ly_n115 hz, Int32.reduceMul, up_1, cp_1, rng_1, fn_1, dj_1, Nat.reduceEqDiff, false_and, and_false, true_and, and_true, or_true, true_or, or_false, false_or, not_true_eq_false, not_false_eq_true, ↓reduceIte, eq_self, ne_eq, ti_eq, ti_le, ti_lt, ti_ite, Int32.reduceToInt, ta_add, ta_sub, ta_mul, ta_neg, ta_div]; omega)))) | (with_reducible refine wi_ifn ?_ ?_; (focus (first | omega | (simp only [Int32.reduceToInt]; omega) | (simp (disch := (first | omega | (simp (disch := first | omega | (simp only [Int32.reduceToInt]; omega)) only [Int32.reduceToInt, ta_add, ta_sub, ta_mul, ta_neg, ta_div]; omega))) only [cL3, ly_n115 hz, Int32.reduceMul, up_1, cp_1, rng_1, fn_1, dj_1, Nat.reduceEqDiff, false_and, and_false, true_and, and_true, or_true, true_or, or_false, false_or, not_true_eq_false, not_false_eq_true, ↓reduceIte, eq_self, ne_eq, ti_eq, ti_le, ti_lt, ti_ite, Int32.reduceToInt, ta_add, ta_sub, ta_mul, ta_neg, ta_div]; done) | (simp (disch := (first | omega | (simp (disch := first | omega | (simp only [Int32.reduceToInt]; omega)) only [Int32.reduceToInt, ta_add, ta_sub, ta_mul, ta_neg, ta_div]; omega))) only [cL3, ly_n115 hz, Int32.reduceMul, up_1, cp_1, rng_1, fn_1, dj_1, Nat.reduceEqDiff, false_and, and_false, true_and, and_true, or_true, true_or, or_false, false_or, not_true_eq_false, not_false_eq_true, ↓reduceIte, eq_self, ne_eq, ti_eq, ti_le, ti_lt, ti_ite, Int32.reduceToInt, ta_add, ta_sub, ta_mul, ta_neg, ta_div]; omega)))) | (with_reducible refine wi_ck ?_ ?_; (focus (first | omega | (simp only [Int32.reduceToInt]; omega) | (simp (disch := (first | omega | (simp (disch := first | omega | (simp only [Int32.reduceToInt]; omega)) only [Int32.reduceToInt, ta_add, ta_sub, ta_mul, ta_neg, ta_div]; omega))) only [cL3, ly_n115 hz, Int32.reduceMul, up_1, cp_1, rng_1, fn_1, dj_1, Nat.reduceEqDiff, false_and, and_false, true_and, and_true, or_true, true_or, or_false, false_or, not_true_eq_false, not_false_eq_true, ↓reduceIte, eq_self, ne_eq, ti_eq, ti_le, ti_lt, ti_ite, Int32.reduceToInt, ta_add, ta_sub, ta_mul, ta_neg, ta_div]; done) | (simp (disch := (first | omega | (simp (disch := first | omega | (simp only [Int32.reduceToInt]; omega)) only [Int32.reduceToInt, ta_add, ta_sub, ta_mul, ta_neg, ta_div]; omega))) only [cL3, ly_n115 hz, Int32.reduceMul, up_1, cp_1, rng_1, fn_1, dj_1, Nat.reduceEqDiff, false_and, and_false, true_and, and_true, or_true, true_or, or_false, false_or, not_true_eq_false, not_false_eq_true, ↓reduceIte, eq_self, ne_eq, ti_eq, ti_le, ti_lt, ti_ite, Int32.reduceToInt, ta_add, ta_sub, ta_mul, ta_neg, ta_div]; omega)))) | with_reducible refine wi_bd2 ?_ | with_reducible refine wi_bd1 ?_ | with_reducible refine wi_bd3 ?_ | (with_reducible refine wi_some ?_; try dsimp only) | unfold f_X9_force_37))
    have tal4 := tal c3 rfl
    refine ⟨rfl, ?_, ?_, ?_⟩
    · rw [tal4, if_pos ⟨rfl, Or.inl rfl⟩]
    · exact fcE _ tal4 (fun _ _ _ _ => rfl)
    · refine wi_e (e_bcq1 (n := n) (r := r1) (v := t1) (y := nI (rn k)) hz v0 v1 v2 (by rw [e174]; exact htk.1) (by rw [e174]; exact hroom) (Or.inl (by rw [e175]; exact cL))) ?_
      refine fin _ _ tal4 (fun _ _ _ _ => rfl) rfl (fun a i _ _ => by show r1.2 a i = r.2 a i; rw [rp2]) ?_
      intro hid
      obtain ⟨q1, q2⟩ := hrs (fun k hk => hid k (by rw [tal4, if_neg (by omega), o15]; exact hk))
      refine ⟨fun k' w' hk' hw' => ?_, fun i w' hi hle hw' => ?_⟩
      · rw [tal4, if_neg (by omega), s25] at hk'
        show c3.2 _ _ = r1.2 _ _
        rw [h3l _ _ (by omega) (by omega), rp2]
        exact q1 k' w' hk' hw'
      · rw [tal4, if_neg (by omega), x8] at hi
        show c3.2 _ _ = r1.2 _ _
        rw [tal4, if_neg (by omega), rp2]
        unfold le_90 at hle
        rw [tal4, if_neg (by omega), tal4, if_neg (by omega)] at hle
        by_cases e : (i : Int) = (t2.1 91 12).toInt
        · exfalso
          have e' : i = ix_n (t2.1 91 12) := by have := ni_c (x := t2.1 91 12) (by omega); omega
          rw [e', x7, h3 _ _ (by omega)] at hle
          unfold am_90 at hle
          simp only [up_1, Nat.reduceEqDiff, false_and, and_false, true_and, and_true, or_true, true_or, or_false, false_or, not_true_eq_false, not_false_eq_true, ↓reduceIte, eq_self, ne_eq] at hle
          exact cL hle
        · have x5i := x5 i (by omega)
          rw [x5i.2, h3l _ _ (by omega) (by omega)]
          refine q2 i w' (by omega) ?_ hw'
          rw [← x5i.1]
          exact hle
end FRD

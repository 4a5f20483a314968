/-! PAPER -/
def iv_pap (f : Nat → Nat → Int32) : Prop := ∀ r, r < 40 → ((f 128 r).toInt = -1005 ∧ (f 42 r).toInt = -1) ∨ (0 ≤ (f 128 r).toInt ∧ (f 128 r).toInt ≤ 12 ∧ (f 42 r).toInt = (f 128 r).toInt ∧ ∀ i : Nat, (i : Int) < (f 128 r).toInt → f (2 + r) i = f 129 (12 * r + i))
def iv_st (f : Nat → Nat → Int32) : Prop := f 0 17 = f 125 0
def su_st (a k : Nat) : Prop := (a = 0 ∧ k = 17) ∨ (a = 125 ∧ k = 0)
theorem iv_st_c {f f' : Nat → Nat → Int32} (h : ∀ a k, su_st a k → f' a k = f a k) : iv_st f' = iv_st f := by
  have e0 : f' 0 17 = f 0 17 := h _ _ (by unfold su_st; omega)
  have e1 : f' 125 0 = f 125 0 := h _ _ (by unfold su_st; omega)
  unfold iv_st
  simp only [e0, e1]
def iv_nm (f : Nat → Nat → Int32) : Prop := f 51 5 = f 125 1 ∧ 0 ≤ (f 125 1).toInt ∧ (f 125 1).toInt ≤ 300
def su_nm (a k : Nat) : Prop := (a = 51 ∧ k = 5) ∨ (a = 125 ∧ k = 1)
theorem iv_nm_c {f f' : Nat → Nat → Int32} (h : ∀ a k, su_nm a k → f' a k = f a k) : iv_nm f' = iv_nm f := by
  have e0 : f' 51 5 = f 51 5 := h _ _ (by unfold su_nm; omega)
  have e1 : f' 125 1 = f 125 1 := h _ _ (by unfold su_nm; omega)
  unfold iv_nm
  simp only [e0, e1]
def iv_go (f : Nat → Nat → Int32) : Prop := f 0 14 = f 125 57 ∧ (f 0 14 = 0 ∨ f 0 14 = 1)
def su_go (a k : Nat) : Prop := (a = 0 ∧ k = 14) ∨ (a = 125 ∧ k = 57)
theorem iv_go_c {f f' : Nat → Nat → Int32} (h : ∀ a k, su_go a k → f' a k = f a k) : iv_go f' = iv_go f := by
  have e0 : f' 0 14 = f 0 14 := h _ _ (by unfold su_go; omega)
  have e1 : f' 125 57 = f 125 57 := h _ _ (by unfold su_go; omega)
  unfold iv_go
  simp only [e0, e1]
def iv_nt (j : Nat) (f : Nat → Nat → Int32) : Prop := f 43 5 = f 125 27 ∧ 0 ≤ (f 125 27).toInt ∧ (f 125 27).toInt ≤ 8 * j ∧ ∀ i, i < 100 → f 46 i = f 145 i
def su_nt (a k : Nat) : Prop := (a = 43 ∧ k = 5) ∨ (a = 125 ∧ k = 27) ∨ a = 46 ∨ a = 145
theorem iv_nt_c {j : Nat} {f f' : Nat → Nat → Int32} (h : ∀ a k, su_nt a k → f' a k = f a k) : iv_nt j f' = iv_nt j f := by
  have e0 : f' 43 5 = f 43 5 := h _ _ (by unfold su_nt; omega)
  have e1 : f' 125 27 = f 125 27 := h _ _ (by unfold su_nt; omega)
  have c0 : f' 46 = f 46 := funext fun k => h _ _ (by unfold su_nt; omega)
  have c1 : f' 145 = f 145 := funext fun k => h _ _ (by unfold su_nt; omega)
  unfold iv_nt
  simp only [e0, e1, c0, c1]
def iv_tp (f : Nat → Nat → Int32) : Prop := f 43 1 = f 125 8 ∧ 0 ≤ (f 125 8).toInt ∧ (f 125 8).toInt ≤ 60 ∧ ∀ i : Nat, (i : Int) < (f 125 8).toInt → (f 44 i) &&& 255 = f 130 i
def su_tp (a k : Nat) : Prop := (a = 43 ∧ k = 1) ∨ (a = 125 ∧ k = 8) ∨ a = 44 ∨ a = 130
theorem iv_tp_c {f f' : Nat → Nat → Int32} (h : ∀ a k, su_tp a k → f' a k = f a k) : iv_tp f' = iv_tp f := by
  have e0 : f' 43 1 = f 43 1 := h _ _ (by unfold su_tp; omega)
  have e1 : f' 125 8 = f 125 8 := h _ _ (by unfold su_tp; omega)
  have c0 : f' 44 = f 44 := funext fun k => h _ _ (by unfold su_tp; omega)
  have c1 : f' 130 = f 130 := funext fun k => h _ _ (by unfold su_tp; omega)
  unfold iv_tp
  simp only [e0, e1, c0, c1]
def iv_out (f : Nat → Nat → Int32) : Prop := f 43 3 = f 125 10 ∧ 0 ≤ (f 125 10).toInt ∧ (f 125 10).toInt ≤ 13500 ∧ ∀ i : Nat, (i : Int) < (f 125 10).toInt → (f 45 i) &&& 255 = f 131 i
def su_out (a k : Nat) : Prop := (a = 43 ∧ k = 3) ∨ (a = 125 ∧ k = 10) ∨ a = 45 ∨ a = 131
theorem iv_out_c {f f' : Nat → Nat → Int32} (h : ∀ a k, su_out a k → f' a k = f a k) : iv_out f' = iv_out f := by
  have e0 : f' 43 3 = f 43 3 := h _ _ (by unfold su_out; omega)
  have e1 : f' 125 10 = f 125 10 := h _ _ (by unfold su_out; omega)
  have c0 : f' 45 = f 45 := funext fun k => h _ _ (by unfold su_out; omega)
  have c1 : f' 131 = f 131 := funext fun k => h _ _ (by unfold su_out; omega)
  unfold iv_out
  simp only [e0, e1, c0, c1]
def iv_ck (f : Nat → Nat → Int32) : Prop := f 0 16 = f 125 111
def su_ck (a k : Nat) : Prop := (a = 0 ∧ k = 16) ∨ (a = 125 ∧ k = 111)
theorem iv_ck_c {f f' : Nat → Nat → Int32} (h : ∀ a k, su_ck a k → f' a k = f a k) : iv_ck f' = iv_ck f := by
  have e0 : f' 0 16 = f 0 16 := h _ _ (by unfold su_ck; omega)
  have e1 : f' 125 111 = f 125 111 := h _ _ (by unfold su_ck; omega)
  unfold iv_ck
  simp only [e0, e1]
def iv_bg (f : Nat → Nat → Int32) : Prop := f 51 8 = f 125 30 ∧ 0 ≤ (f 125 30).toInt ∧ (f 125 30).toInt ≤ 100 ∧ f 51 9 = f 125 31 ∧ 0 ≤ (f 125 31).toInt ∧ (f 125 31).toInt ≤ 800
def su_bg (a k : Nat) : Prop := (a = 51 ∧ k = 8) ∨ (a = 125 ∧ k = 30) ∨ (a = 51 ∧ k = 9) ∨ (a = 125 ∧ k = 31)
theorem iv_bg_c {f f' : Nat → Nat → Int32} (h : ∀ a k, su_bg a k → f' a k = f a k) : iv_bg f' = iv_bg f := by
  have e0 : f' 51 8 = f 51 8 := h _ _ (by unfold su_bg; omega)
  have e1 : f' 125 30 = f 125 30 := h _ _ (by unfold su_bg; omega)
  have e2 : f' 51 9 = f 51 9 := h _ _ (by unfold su_bg; omega)
  have e3 : f' 125 31 = f 125 31 := h _ _ (by unfold su_bg; omega)
  unfold iv_bg
  simp only [e0, e1, e2, e3]
def iv_wt (f : Nat → Nat → Int32) : Prop := ∀ i, i ≤ 300 → f 55 i = f 126 i ∧ 0 ≤ (f 126 i).toInt ∧ (f 126 i).toInt ≤ 1000
def su_wt (a _ : Nat) : Prop := a = 55 ∨ a = 126
theorem iv_wt_c {f f' : Nat → Nat → Int32} (h : ∀ a k, su_wt a k → f' a k = f a k) : iv_wt f' = iv_wt f := by
  have c0 : f' 55 = f 55 := funext fun k => h _ _ (by unfold su_wt; omega)
  have c1 : f' 126 = f 126 := funext fun k => h _ _ (by unfold su_wt; omega)
  unfold iv_wt
  simp only [c0, c1]
def iv_as (f : Nat → Nat → Int32) : Prop := f 51 7 = f 125 29 ∧ 0 ≤ (f 125 29).toInt ∧ (f 125 29).toInt ≤ 20 ∧ ∀ i : Nat, (i : Int) < (f 125 29).toInt → f 57 i = f 146 i ∧ f 146 i ≠ 0 ∧ -(f 125 1).toInt ≤ (f 146 i).toInt ∧ (f 146 i).toInt ≤ (f 125 1).toInt
def su_as (a k : Nat) : Prop := (a = 51 ∧ k = 7) ∨ (a = 125 ∧ k = 29) ∨ (a = 125 ∧ k = 1) ∨ a = 57 ∨ a = 146
theorem iv_as_c {f f' : Nat → Nat → Int32} (h : ∀ a k, su_as a k → f' a k = f a k) : iv_as f' = iv_as f := by
  have e0 : f' 51 7 = f 51 7 := h _ _ (by unfold su_as; omega)
  have e1 : f' 125 29 = f 125 29 := h _ _ (by unfold su_as; omega)
  have e2 : f' 125 1 = f 125 1 := h _ _ (by unfold su_as; omega)
  have c0 : f' 57 = f 57 := funext fun k => h _ _ (by unfold su_as; omega)
  have c1 : f' 146 = f 146 := funext fun k => h _ _ (by unfold su_as; omega)
  unfold iv_as
  simp only [e0, e1, e2, c0, c1]
def iv_ct (f : Nat → Nat → Int32) : Prop := f 51 6 = f 125 4 ∧ (f 125 4).toInt = sm_ (fun i => (f 127 i).toInt) 0 301 ∧ (f 125 4).toInt ≤ 20 ∧ ∀ i, i ≤ 300 → f 56 i = f 127 i ∧ (f 127 i = 0 ∨ f 127 i = 1)
def su_ct (a k : Nat) : Prop := (a = 51 ∧ k = 6) ∨ (a = 125 ∧ k = 4) ∨ a = 56 ∨ a = 127
theorem iv_ct_c {f f' : Nat → Nat → Int32} (h : ∀ a k, su_ct a k → f' a k = f a k) : iv_ct f' = iv_ct f := by
  have e0 : f' 51 6 = f 51 6 := h _ _ (by unfold su_ct; omega)
  have e1 : f' 125 4 = f 125 4 := h _ _ (by unfold su_ct; omega)
  have c0 : f' 56 = f 56 := funext fun k => h _ _ (by unfold su_ct; omega)
  have c1 : f' 127 = f 127 := funext fun k => h _ _ (by unfold su_ct; omega)
  unfold iv_ct
  simp only [e0, e1, c0, c1]
def mo_st (a k : Nat) : Prop := (a = 0 ∧ k = 17) ∨ (a = 125 ∧ k = 0)
def mo_nm (a k : Nat) : Prop := (a = 51 ∧ k = 5) ∨ (a = 125 ∧ k = 1) ∨ (a = 0 ∧ k = 14) ∨ (a = 125 ∧ k = 57) ∨ mo_st a k
def mo_pap (a k : Nat) : Prop := (2 ≤ a ∧ a ≤ 42) ∨ a = 128 ∨ a = 129 ∨ a = 149 ∨ mo_st a k
def mo_tp (a k : Nat) : Prop := a = 44 ∨ a = 130 ∨ (a = 43 ∧ k = 1) ∨ (a = 125 ∧ k = 8) ∨ mo_st a k
def mo_wt (a k : Nat) : Prop := a = 55 ∨ a = 126 ∨ (a = 0 ∧ k = 14) ∨ (a = 125 ∧ k = 57) ∨ mo_st a k
section PAP
variable {d : ix_D2} {x y v : Int32}
theorem pap_at (h : iv_pap d.1) (h0 : 0 ≤ x.toInt) (h1 : x.toInt < 40) : ix_n x < 40 ∧ (((d.1 128 (ix_n x)).toInt = -1005 ∧ (d.1 42 (ix_n x)).toInt = -1) ∨ (0 ≤ (d.1 128 (ix_n x)).toInt ∧ (d.1 128 (ix_n x)).toInt ≤ 12 ∧ (d.1 42 (ix_n x)).toInt = (d.1 128 (ix_n x)).toInt)) := by
  have hr : ix_n x < 40 := by have := ni_c h0; omega
  refine ⟨hr, ?_⟩
  rcases h (ix_n x) hr with q | q
  · exact Or.inl q
  · exact Or.inr ⟨q.1, q.2.1, q.2.2.1⟩
theorem pa_12 (h1 : 0 ≤ x.toInt) (h2 : x.toInt < 40) (h3 : 0 ≤ y.toInt) (h4 : y.toInt ≤ 12) : ix_n (12 * x + y) = 12 * ix_n x + ix_n y := by
  have e : (12 * x + y).toInt = 12 * x.toInt + y.toInt := by (focus (first | omega | (simp (disch := (first | omega | (simp (disch := first | omega | (simp only [Int32.reduceToInt]; omega)) only [Int32.reduceToInt, ta_add, ta_sub, ta_mul, ta_neg, ta_div]; omega))) only [up_1, cp_1, rng_1, fn_1, dj_1, Nat.reduceEqDiff, false_and, and_false, true_and, and_true, or_true, true_or, or_false, false_or, not_true_eq_false, not_false_eq_true, ↓reduceIte, eq_self, ne_eq, ti_eq, ti_le, ti_lt, ti_ite, Int32.reduceToInt, ta_add, ta_sub, ta_mul, ta_neg, ta_div]; done) | (simp (disch := (first | omega | (simp (disch := first | omega | (simp only [Int32.reduceToInt]; omega)) only [Int32.reduceToInt, ta_add, ta_sub, ta_mul, ta_neg, ta_div]; omega))) only [up_1, cp_1, rng_1, fn_1, dj_1, Nat.reduceEqDiff, false_and, and_false, true_and, and_true, or_true, true_or, or_false, false_or, not_true_eq_false, not_false_eq_true, ↓reduceIte, eq_self, ne_eq, ti_eq, ti_le, ti_lt, ti_ite, Int32.reduceToInt, ta_add, ta_sub, ta_mul, ta_neg, ta_div]; omega)))
  rw [ni_def, ni_def, ni_def, e]
  omega
theorem pap_get (h : iv_pap d.1) (h0 : 0 ≤ x.toInt) (h1 : x.toInt < 40) (h2 : 0 ≤ y.toInt) (h3 : y.toInt < (d.1 128 (ix_n x)).toInt) : d.1 (2 + ix_n x) (ix_n y) = d.1 129 (ix_n (12 * x + y)) := by
  have q := pap_at h h0 h1
  rcases h (ix_n x) q.1 with q | q
  · omega
  · rw [pa_12 h0 h1 h2 (by omega)]
    exact q.2.2.2 _ (by rw [ni_c h2]; exact h3)
/-- another size at R; its items as told -/
theorem pap_set {f f' : Nat → Nat → Int32} (h : iv_pap f) {R : Nat} (e1 : ∀ r, r < 40 → r ≠ R → f' 128 r = f 128 r ∧ f' 42 r = f 42 r ∧ ∀ i, i < 12 → f' (2 + r) i = f (2 + r) i ∧ f' 129 (12 * r + i) = f 129 (12 * r + i)) (e2 : ((f' 128 R).toInt = -1005 ∧ (f' 42 R).toInt = -1) ∨ (0 ≤ (f' 128 R).toInt ∧ (f' 128 R).toInt ≤ 12 ∧ (f' 42 R).toInt = (f' 128 R).toInt ∧ ∀ i : Nat, (i : Int) < (f' 128 R).toInt → f' (2 + R) i = f' 129 (12 * R + i))) : iv_pap f' := by
  intro r hr
  by_cases e : r = R
  · rw [e]; exact e2
  · obtain ⟨a1, a2, a3⟩ := e1 r hr e
    rw [a1, a2]
    rcases h r hr with q | q
    · exact Or.inl q
    · refine Or.inr ⟨q.1, q.2.1, q.2.2.1, fun i hi => ?_⟩
      rw [(a3 i (by omega)).1, (a3 i (by omega)).2]
      exact q.2.2.2 i hi
theorem pap_u {a k : Nat} (h : iv_pap d.1) (h1 : a < 2 ∨ 42 < a) (h2 : a ≠ 128) (h3 : a ≠ 129) : iv_pap (ix_di d a k v).1 := by
  have e : ∀ b, (b = 128 ∨ b = 129 ∨ (2 ≤ b ∧ b ≤ 42)) → (ix_di d a k v).1 b = d.1 b := fun b hb => up_a (by omega)
  intro r hr
  rw [e 128 (by omega), e 42 (by omega), e 129 (by omega), e (2 + r) (by omega)]
  exact h r hr
theorem pap_drop (h : iv_pap d.1) {R : Nat} (hR : R < 40) : iv_pap (ix_di (ix_di d 42 R (-1)) 128 R (-1005)).1 := by
  obtain ⟨f', hf⟩ : ∃ f', f' = (ix_di (ix_di d 42 R (-1)) 128 R (-1005)).1 := ⟨_, rfl⟩
  rw [← hf]
  have a1 : ∀ r, f' 128 r = if r = R then -1005 else d.1 128 r := fun r => by rw [hf]; simp only [up_1, Nat.reduceEqDiff, false_and, and_false, true_and, and_true, or_true, true_or, or_false, false_or, not_true_eq_false, not_false_eq_true, ↓reduceIte, eq_self, ne_eq]
  have a2 : ∀ r, f' 42 r = if r = R then -1 else d.1 42 r := fun r => by rw [hf]; simp only [up_1, Nat.reduceEqDiff, false_and, and_false, true_and, and_true, or_true, true_or, or_false, false_or, not_true_eq_false, not_false_eq_true, ↓reduceIte, eq_self, ne_eq]
  have a3 : ∀ r i, r < 40 → f' (2 + r) i = d.1 (2 + r) i := fun r i hr => by rw [hf]; simp only [up_1]; rw [if_neg (by omega), if_neg (by omega)]
  have a4 : ∀ i, f' 129 i = d.1 129 i := fun i => by rw [hf]; simp only [up_1, Nat.reduceEqDiff, false_and, and_false, true_and, and_true, or_true, true_or, or_false, false_or, not_true_eq_false, not_false_eq_true, ↓reduceIte, eq_self, ne_eq]
  exact pap_set h (R := R) (fun r hr e => ⟨by rw [a1, if_neg e], by rw [a2, if_neg e], fun i hi => ⟨a3 r i hr, a4 _⟩⟩) (Or.inl ⟨by rw [a1, if_pos rfl]; rfl, by rw [a2, if_pos rfl]; rfl⟩)
theorem pap_cut (h : iv_pap d.1) {R : Nat} (hR : R < 40) (hy : 0 ≤ y.toInt) (hy2 : y.toInt ≤ (d.1 128 R).toInt) : iv_pap (ix_di (ix_di d 42 R y) 128 R y).1 := by
  rcases h R hR with q | q
  · omega
  obtain ⟨f', hf⟩ : ∃ f', f' = (ix_di (ix_di d 42 R y) 128 R y).1 := ⟨_, rfl⟩
  rw [← hf]
  have a1 : ∀ r, f' 128 r = if r = R then y else d.1 128 r := fun r => by rw [hf]; simp only [up_1, Nat.reduceEqDiff, false_and, and_false, true_and, and_true, or_true, true_or, or_false, false_or, not_true_eq_false, not_false_eq_true, ↓reduceIte, eq_self, ne_eq]
  have a2 : ∀ r, f' 42 r = if r = R then y else d.1 42 r := fun r => by rw [hf]; simp only [up_1, Nat.reduceEqDiff, false_and, and_false, true_and, and_true, or_true, true_or, or_false, false_or, not_true_eq_false, not_false_eq_true, ↓reduceIte, eq_self, ne_eq]
  have a3 : ∀ r i, r < 40 → f' (2 + r) i = d.1 (2 + r) i := fun r i hr => by rw [hf]; simp only [up_1]; rw [if_neg (by omega), if_neg (by omega)]
  have a4 : ∀ i, f' 129 i = d.1 129 i := fun i => by rw [hf]; simp only [up_1, Nat.reduceEqDiff, false_and, and_false, true_and, and_true, or_true, true_or, or_false, false_or, not_true_eq_false, not_false_eq_true, ↓reduceIte, eq_self, ne_eq]
  refine pap_set h (R := R) (fun r hr e => ⟨by rw [a1, if_neg e], by rw [a2, if_neg e], fun i hi => ⟨a3 r i hr, a4 _⟩⟩) (Or.inr ?_)
  rw [a1, a2, if_pos rfl, if_pos rfl]
  exact ⟨hy, by omega, rfl, fun i hi => by rw [a3 R i hR, a4]; exact q.2.2.2 i (by omega)⟩
theorem pap_put (h : iv_pap d.1) {R I : Nat} (hR : R < 40) (hI : (I : Int) < (d.1 128 R).toInt) : iv_pap (ix_di (ix_di d (2 + R) I v) 129 (12 * R + I) v).1 := by
  rcases h R hR with q | q
  · omega
  obtain ⟨f', hf⟩ : ∃ f', f' = (ix_di (ix_di d (2 + R) I v) 129 (12 * R + I) v).1 := ⟨_, rfl⟩
  rw [← hf]
  have a1 : ∀ r, f' 128 r = d.1 128 r := fun r => by rw [hf]; simp only [up_1]; rw [if_neg (by omega), if_neg (by omega)]
  have a2 : ∀ r, f' 42 r = d.1 42 r := fun r => by rw [hf]; simp only [up_1]; rw [if_neg (by omega), if_neg (by omega)]
  have a3 : ∀ r i, r < 40 → f' (2 + r) i = if r = R ∧ i = I then v else d.1 (2 + r) i := fun r i hr => by
    rw [hf]; simp only [up_1]; rw [if_neg (by omega)]
    by_cases c : r = R ∧ i = I
    · rw [if_pos c, if_pos (by omega)]
    · rw [if_neg c, if_neg (by omega)]
  have a4 : ∀ i, f' 129 i = if i = 12 * R + I then v else d.1 129 i := fun i => by
    rw [hf]; simp only [up_1]
    by_cases c : i = 12 * R + I
    · rw [if_pos c, if_pos ⟨trivial, c⟩]
    · rw [if_neg c, if_neg (fun q => c q.2), if_neg (by omega)]
  refine pap_set h (R := R) (fun r hr e => ⟨a1 r, a2 r, fun i hi => ⟨by rw [a3 r i hr, if_neg (fun q => e q.1)], by rw [a4, if_neg (by omega)]⟩⟩) (Or.inr ?_)
  rw [a1, a2]
  refine ⟨q.1, q.2.1, q.2.2.1, fun i hi => ?_⟩
  rw [a3 R i hR, a4]
  by_cases c : i = I
  · rw [if_pos ⟨rfl, c⟩, if_pos (by omega)]
  · rw [if_neg (fun q => c q.2), if_neg (by omega)]
    exact q.2.2.2 i hi
theorem pap_row (h : iv_pap d.1) {R : Nat} (hR : R < 40) (hy : 0 ≤ y.toInt) (hy2 : y.toInt ≤ 12) : iv_pap (ix_di (pv_rng (ix_di (pv_rng d (2 + R) 0 12 0) 42 R y) 129 (12 * R) (12 * R + ix_n y) 0) 128 R y).1 := by
  have hyn := ni_c hy
  obtain ⟨f', hf⟩ : ∃ f', f' = (ix_di (pv_rng (ix_di (pv_rng d (2 + R) 0 12 0) 42 R y) 129 (12 * R) (12 * R + ix_n y) 0) 128 R y).1 := ⟨_, rfl⟩
  rw [← hf]
  have a1 : ∀ r, f' 128 r = if r = R then y else d.1 128 r := fun r => by
    rw [hf]; simp only [up_1, rng_1, Nat.reduceEqDiff, false_and, and_false, true_and, and_true, or_true, true_or, or_false, false_or, not_true_eq_false, not_false_eq_true, ↓reduceIte, eq_self, ne_eq]
    by_cases c : r = R
    · rw [if_pos c, if_pos c]
    · rw [if_neg c, if_neg c, if_neg (by omega)]
  have a2 : ∀ r, f' 42 r = if r = R then y else d.1 42 r := fun r => by
    rw [hf]; simp only [up_1, rng_1, Nat.reduceEqDiff, false_and, and_false, true_and, and_true, or_true, true_or, or_false, false_or, not_true_eq_false, not_false_eq_true, ↓reduceIte, eq_self, ne_eq]
    by_cases c : r = R
    · rw [if_pos c, if_pos c]
    · rw [if_neg c, if_neg c, if_neg (by omega)]
  have a3 : ∀ r i, r < 40 → r ≠ R → f' (2 + r) i = d.1 (2 + r) i := fun r i hr e => by
    rw [hf]; simp only [up_1, rng_1]
    rw [if_neg (by omega), if_neg (by omega), if_neg (by omega), if_neg (by omega)]
  have a5 : ∀ i, i < 12 → f' (2 + R) i = 0 := fun i hi => by
    rw [hf]; simp only [up_1, rng_1, Nat.zero_le, Nat.reduceEqDiff, false_and, and_false, true_and, and_true, or_true, true_or, or_false, false_or, not_true_eq_false, not_false_eq_true, ↓reduceIte, eq_self, ne_eq]
    repeat (first | rw [if_neg (by omega)] | rw [if_pos (by omega)])
  have a4 : ∀ i, f' 129 i = if 12 * R ≤ i ∧ i < 12 * R + ix_n y then 0 else d.1 129 i := fun i => by
    rw [hf]; simp only [up_1, rng_1, Nat.reduceEqDiff, false_and, and_false, true_and, and_true, or_true, true_or, or_false, false_or, not_true_eq_false, not_false_eq_true, ↓reduceIte, eq_self, ne_eq]
    by_cases c : 12 * R ≤ i ∧ i < 12 * R + ix_n y
    · rw [if_pos c, if_pos c]
    · rw [if_neg c, if_neg c, if_neg (by omega)]
  refine pap_set h (R := R) (fun r hr e => ⟨by rw [a1, if_neg e], by rw [a2, if_neg e], fun i hi => ⟨a3 r i hr e, by rw [a4, if_neg (by omega)]⟩⟩) (Or.inr ?_)
  rw [a1, a2, if_pos rfl, if_pos rfl]
  exact ⟨hy, hy2, rfl, fun i hi => by rw [a5 i (by omega), a4, if_pos (by omega)]⟩
theorem pap_copy (h : iv_pap d.1) {F T I J N : Nat} (hF : F < 40) (hT : T < 40) (h1 : 0 ≤ (d.1 128 F).toInt) (h2 : 0 ≤ (d.1 128 T).toInt) (h3 : (I : Int) + N ≤ (d.1 128 F).toInt) (h4 : (J : Int) + N ≤ (d.1 128 T).toInt) : iv_pap (ix_cpI (ix_cpI (ix_cpI d (2 + F) (2 + T) I J N) 129 149 (12 * F + I) 0 N) 149 129 0 (12 * T + J) N).1 := by
  rcases h F hF with qF | qF
  · omega
  rcases h T hT with qT | qT
  · omega
  obtain ⟨f', hf⟩ : ∃ f', f' = (ix_cpI (ix_cpI (ix_cpI d (2 + F) (2 + T) I J N) 129 149 (12 * F + I) 0 N) 149 129 0 (12 * T + J) N).1 := ⟨_, rfl⟩
  rw [← hf]
  have a1 : ∀ r, f' 128 r = d.1 128 r := fun r => by rw [hf, cpv_o (by omega), cpv_o (by omega), cpv_o (by omega)]
  have a2 : ∀ r, f' 42 r = d.1 42 r := fun r => by rw [hf, cpv_o (by omega), cpv_o (by omega), cpv_o (by omega)]
  have a3 : ∀ r i, r < 40 → ¬ (r = T ∧ J ≤ i ∧ i < J + N) → f' (2 + r) i = d.1 (2 + r) i := fun r i hr e => by rw [hf, cpv_o (by omega), cpv_o (by omega), cpv_o (by omega)]
  have a5 : ∀ i, J ≤ i → i < J + N → f' (2 + T) i = d.1 (2 + F) (I + (i - J)) := fun i h1 h2 => by rw [hf, cpv_o (by omega), cpv_o (by omega), cpv_i (by omega) (by omega)]
  have a4 : ∀ i, ¬ (12 * T + J ≤ i ∧ i < 12 * T + J + N) → f' 129 i = d.1 129 i := fun i e => by rw [hf, cpv_o (by omega), cpv_o (by omega), cpv_o (by omega)]
  have a6 : ∀ i, 12 * T + J ≤ i → i < 12 * T + J + N → f' 129 i = d.1 129 (12 * F + I + (i - (12 * T + J))) := fun i h1 h2 => by rw [hf, cpv_i (by omega) (by omega), cpv_i (by omega) (by omega), cpv_o (by omega)]; exact congrArg _ (by omega)
  refine pap_set h (R := T) (fun r hr e => ⟨a1 r, a2 r, fun i hi => ⟨a3 r i hr (fun q => e q.1), a4 _ (by omega)⟩⟩) (Or.inr ?_)
  rw [a1, a2]
  refine ⟨qT.1, qT.2.1, qT.2.2.1, fun i hi => ?_⟩
  by_cases c : J ≤ i ∧ i < J + N
  · rw [a5 i c.1 c.2, a6 (12 * T + i) (by omega) (by omega), qF.2.2.2 (I + (i - J)) (by omega)]
    exact congrArg _ (by omega)
  · rw [a3 T i hT (fun q => c q.2), a4 _ (by omega)]
    exact qT.2.2.2 i hi
end PAP
def mo_no (_ _ : Nat) : Prop := False
def mo_sc (a k : Nat) : Prop := (a = 51 ∧ (k = 7 ∨ k = 8 ∨ k = 9)) ∨ (a = 125 ∧ (k = 29 ∨ k = 30 ∨ k = 31)) ∨ (a = 0 ∧ k = 14) ∨ (a = 125 ∧ k = 57) ∨ mo_st a k

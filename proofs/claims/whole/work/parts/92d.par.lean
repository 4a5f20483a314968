/-! PARITY laid: the abstract laying, the class's and the reference's -/
def pyS (o : Option LA) (p x : Int32) : Option LA × Int32 :=
  let o1 := o.bind nwN
  let s : Int32 := match o1 with | some A => nI A.1 | none => 0
  ((((o1.bind (fun A => apR A (rw3 (-p) (-x) (-s)))).bind (fun A => apR A (rw3 p x (-s)))).bind (fun A => apR A (rw3 p (-x) s))).bind (fun A => apR A (rw3 (-p) x s)), s)
def pyL (g : Nat → Int32) (o : Option LA) : Nat → Option LA × Int32
  | 0 => (o, 0)
  | i + 1 => if i = 0 then (o, g 0) else pyS (pyL g o i).1 (pyL g o i).2 (g i)
def pyF (g : Nat → Int32) (N : Nat) (od : Int32) (o : Option LA) : Option LA := if N = 0 ∧ od = 0 then o else (pyL g o N).1.bind (fun A => apR A (rw3 (if od = 0 then -(pyL g o N).2 else (pyL g o N).2) 0 0))
section PAR
variable {n : Nat} {z : ix_Z} {c r : ix_D2} {A0 A A' : LA} {o : Option LA} {m : Nat} {L : List Int32} {v a b e p x od : Int32} {g : Nat → Int32}
theorem rw3_a (h1 : a ≠ 0) (h2 : b ≠ 0) (h3 : e ≠ 0) : rw3 a b e = ad_ (ad_ (ad_ [] a) b) e := by unfold rw3; rw [aw_n h1, aw_n h2, aw_n h3]
theorem rw3_b (h1 : a ≠ 0) (h2 : b ≠ 0) : rw3 a b 0 = ad_ (ad_ [] a) b := by unfold rw3; rw [aw_n h1, aw_n h2, aw_0]
theorem rw3_c (h1 : a ≠ 0) (h3 : e ≠ 0) : rw3 a 0 e = ad_ (ad_ [] a) e := by unfold rw3; rw [aw_n h1, aw_0, aw_n h3]
theorem rw3_d (h2 : b ≠ 0) (h3 : e ≠ 0) : rw3 0 b e = ad_ (ad_ [] b) e := by unfold rw3; rw [aw_0, aw_n h2, aw_n h3]
theorem rw3_e (h1 : a ≠ 0) : rw3 a 0 0 = ad_ [] a := by unfold rw3; rw [aw_n h1, aw_0, aw_0]
theorem bi_c {f f' : LA → Option LA} (h : ∀ A, o = some A → f A = f' A) : o.bind f = o.bind f' := by
  cases o with
  | none => rfl
  | some A => exact h A rfl
theorem neg_nz (h : ok_i v) : -v ≠ 0 := fun q => (ok_neg h).1 (by rw [q]; rfl)
theorem ok_nz (h : ok_i v) : v ≠ 0 := fun q => h.1 (by rw [q]; rfl)
/-- an item of the names there are -/
def okJ (o : Option LA) (v : Int32) : Prop := ∀ A, o = some A → ok_i v ∧ ix_n (ix_abs v) ≤ A.1
theorem okJ_I (h : okJ o v) : okI o v := fun A hA => Or.inr (h A hA)
theorem okJ_n (h : okJ o v) : okJ o (-v) := fun A hA => ⟨ok_neg (h A hA).1, by rw [na_n (h A hA).1.2.1 (h A hA).1.2.2]; exact (h A hA).2⟩
theorem okJ_g {o' : Option LA} (h : okJ o v) (hg : gr_ o o') : okJ o' v := fun A hA => by
  obtain ⟨B, h1, h2⟩ := hg A hA
  exact ⟨(h B h1).1, Nat.le_trans (h B h1).2 h2⟩
theorem okJ_s (h : ∀ A', o.bind nwN = some A' → v = nI A'.1) (hw : ∀ A, o = some A → A.1 ≤ 300) : okJ (o.bind nwN) v := by
  intro A' hA
  have e := h A' hA
  cases o with
  | none => simp at hA
  | some B =>
    have hA' : nwN B = some A' := hA
    have hB := hw B rfl
    unfold nwN at hA'
    split at hA'
    · simp at hA'
    next q =>
    have e1 : A'.1 = B.1 + 1 := by rw [← Option.some.inj hA']
    have e2 : (nI A'.1).toInt = A'.1 := nI_ti (by omega)
    rw [e]
    have ea := ab_ti (v := nI A'.1) (by rw [e2]; omega)
    rw [if_pos (by rw [e2]; omega), e2] at ea
    refine ⟨⟨by rw [e2]; omega, by rw [e2]; omega, by rw [e2]; omega⟩, ?_⟩
    rw [ni_def, ea]; omega
theorem okL_3 (h1 : okJ o a) (h2 : okJ o b) (h3 : okJ o e) : okL o (ad_ (ad_ (ad_ [] a) b) e) := by
  intro A hA u hu
  rcases ad_mem hu with q | q
  · rcases ad_mem q with q | q
    · rcases ad_mem q with q | q
      · simp at q
      · rw [q]; exact h1 A hA
    · rw [q]; exact h2 A hA
  · rw [q]; exact h3 A hA
theorem okL_2 (h1 : okJ o a) (h2 : okJ o b) : okL o (ad_ (ad_ [] a) b) := by
  intro A hA u hu
  rcases ad_mem hu with q | q
  · rcases ad_mem q with q | q
    · simp at q
    · rw [q]; exact h1 A hA
  · rw [q]; exact h2 A hA
theorem CSL_w (h : CSL A0 c.1 o m L) : ∀ A, o = some A → A.1 ≤ 300 := fun A hA => by
  rcases h.2 with ⟨B, e, _, h2, _⟩ | ⟨e, _⟩
  · rw [e] at hA; rw [← Option.some.inj hA]; exact h2.1
  · rw [e] at hA; simp at hA
theorem RSL_w (h : RSL A0 r.1 o L) : ∀ A, o = some A → A.1 ≤ 300 := fun A hA => by
  rcases h.2 with ⟨B, e, _, h2, _⟩ | ⟨e, _⟩
  · rw [e] at hA; rw [← Option.some.inj hA]; exact h2.1
  · rw [e] at hA; simp at hA
theorem e_l3R' (hz : ly_z z) (hn : 100 ≤ n) (h : RSL A0 r.1 o []) (h1 : okJ o a) (h2 : okJ o b) (h3 : okJ o e) : wp_t (f_X12_layThree n z 125 a b e r) (fun r' => RSL A0 r'.1 (o.bind (fun A => apR A (rw3 a b e))) [] ∧ fr_ok fL_R r r') := by
  rw [bi_c (f := fun A => apR A (rw3 a b e)) (f' := fun A => apR A (ad_ (ad_ (ad_ [] a) b) e)) (fun A hA => by rw [rw3_a (ok_nz (h1 A hA).1) (ok_nz (h2 A hA).1) (ok_nz (h3 A hA).1)])]
  exact e_l3R hz hn h (okL_3 h1 h2 h3)
/-- the fresh name of the abstract laying -/
theorem py_s {s : Int32} (h : ∀ A', o.bind nwN = some A' → s = nI A'.1) : ∀ A', o.bind nwN = some A' → s = (match o.bind nwN with | some A => nI A.1 | none => (0 : Int32)) := fun A' hA => by rw [h A' hA, hA]
theorem pyS_e {s : Int32} (h : ∀ A', o.bind nwN = some A' → s = nI A'.1) : (pyS o p x).1 = ((((o.bind nwN).bind (fun A => apR A (rw3 (-p) (-x) (-s)))).bind (fun A => apR A (rw3 p x (-s)))).bind (fun A => apR A (rw3 p (-x) s))).bind (fun A => apR A (rw3 (-p) x s)) ∧ ∀ A', o.bind nwN = some A' → s = (pyS o p x).2 := by
  unfold pyS
  cases ho : o.bind nwN with
  | none => exact ⟨rfl, fun A' h => absurd h (by simp)⟩
  | some B =>
    have e := h B ho
    refine ⟨by rw [e], fun A' _ => e⟩
theorem e_lpC (hz : ly_z z) (hn : 100 ≤ n) (h : CSL A0 c.1 o m []) (hm : m ≤ 1000) (h1 : okJ o p) (h2 : okJ o x) : wp_t (f_X6_layPair n z 51 p x c) (fun t => CSL A0 t.2.1 (pyS o p x).1 (m + 1) [] ∧ fr_ok fL_C c t.2 ∧ (∀ A, (pyS o p x).1 = some A → t.1 = (pyS o p x).2) ∧ okJ (pyS o p x).1 t.1) := by
  obtain ⟨⟨s, c1⟩, E1, q1, f1, s1, s2, s3⟩ := mkC (n := n) hz h hm
  have hs : ∀ A', o.bind nwN = some A' → s = nI A'.1 := fun A' hA => (s3 A' hA).1
  have os : okJ (o.bind nwN) s := okJ_s hs (CSL_w h)
  have op := okJ_g h1 (gr_n (o := o))
  have ox := okJ_g h2 (gr_n (o := o))
  obtain ⟨c2, E2, q2, f2⟩ := e_l3C (n := n) (a := -p) (b := -x) (e := -s) hz hn q1 (okJ_I (okJ_n op)) (okJ_I (okJ_n ox)) (okJ_I (okJ_n os))
  have g2 := gr_a (o := o.bind nwN) (L := rw3 (-p) (-x) (-s))
  obtain ⟨c3, E3, q3, f3⟩ := e_l3C (n := n) (a := p) (b := x) (e := -s) hz hn q2 (okJ_I (okJ_g op g2)) (okJ_I (okJ_g ox g2)) (okJ_I (okJ_g (okJ_n os) g2))
  have g3 := gr_t g2 (gr_a (L := rw3 p x (-s)))
  obtain ⟨c4, E4, q4, f4⟩ := e_l3C (n := n) (a := p) (b := -x) (e := s) hz hn q3 (okJ_I (okJ_g op g3)) (okJ_I (okJ_g (okJ_n ox) g3)) (okJ_I (okJ_g os g3))
  have g4 := gr_t g3 (gr_a (L := rw3 p (-x) s))
  obtain ⟨c5, E5, q5, f5⟩ := e_l3C (n := n) (a := -p) (b := x) (e := s) hz hn q4 (okJ_I (okJ_g (okJ_n op) g4)) (okJ_I (okJ_g ox g4)) (okJ_I (okJ_g os g4))
  have g5 := gr_t g4 (gr_a (L := rw3 (-p) x s))
  obtain ⟨y1, y2⟩ := pyS_e (p := p) (x := x) hs
  (repeat (first | (with_reducible refine wi_e (E1) ?_; try dsimp only) | (with_reducible refine wi_e (E2) ?_; try dsimp only) | (with_reducible refine wi_e (E3) ?_; try dsimp only) | (with_reducible refine wi_e (E4) ?_; try dsimp only) | (with_reducible refine wi_e (E5) ?_; try dsimp only) | with_reducible refine wi_t (ly_o51 hz) ?_ | with_reducible refine wi_r (ly_r0_3 hz) ?_ | with_reducible refine wi_lt ?_ | (with_reducible refine wi_ifp ?_ ?_; (focus (first | omega | (simp (disch := (first | omega | (simp (disch := first | omega | (simp only [Int32.reduceToInt]; omega)) only [Int32.reduceToInt, ta_add, ta_sub, ta_mul, ta_neg, ta_div]; omega))) only [up_1, cp_1, rng_1, fn_1, dj_1, Nat.reduceEqDiff, false_and, and_false, true_and, and_true, or_true, true_or, or_false, false_or, not_true_eq_false, not_false_eq_true, ↓reduceIte, eq_self, ne_eq, ti_eq, ti_le, ti_lt, ti_ite, Int32.reduceToInt, ta_add, ta_sub, ta_mul, ta_neg, ta_div]; done) | (simp (disch := (first | omega | (simp (disch := first | omega | (simp only [Int32.reduceToInt]; omega)) only [Int32.reduceToInt, ta_add, ta_sub, ta_mul, ta_neg, ta_div]; omega))) only [up_1, cp_1, rng_1, fn_1, dj_1, Nat.reduceEqDiff, false_and, and_false, true_and, and_true, or_true, true_or, or_false, false_or, not_true_eq_false, not_false_eq_true, ↓reduceIte, eq_self, ne_eq, ti_eq, ti_le, ti_lt, ti_ite, Int32.reduceToInt, ta_add, ta_sub, ta_mul, ta_neg, ta_div]; omega)))) | (with_reducible refine wi_ifn ?_ ?_; (focus (first | omega | (simp (disch := (first | omega | (simp (disch := first | omega | (simp only [Int32.reduceToInt]; omega)) only [Int32.reduceToInt, ta_add, ta_sub, ta_mul, ta_neg, ta_div]; omega))) only [up_1, cp_1, rng_1, fn_1, dj_1, Nat.reduceEqDiff, false_and, and_false, true_and, and_true, or_true, true_or, or_false, false_or, not_true_eq_false, not_false_eq_true, ↓reduceIte, eq_self, ne_eq, ti_eq, ti_le, ti_lt, ti_ite, Int32.reduceToInt, ta_add, ta_sub, ta_mul, ta_neg, ta_div]; done) | (simp (disch := (first | omega | (simp (disch := first | omega | (simp only [Int32.reduceToInt]; omega)) only [Int32.reduceToInt, ta_add, ta_sub, ta_mul, ta_neg, ta_div]; omega))) only [up_1, cp_1, rng_1, fn_1, dj_1, Nat.reduceEqDiff, false_and, and_false, true_and, and_true, or_true, true_or, or_false, false_or, not_true_eq_false, not_false_eq_true, ↓reduceIte, eq_self, ne_eq, ti_eq, ti_le, ti_lt, ti_ite, Int32.reduceToInt, ta_add, ta_sub, ta_mul, ta_neg, ta_div]; omega)))) | (with_reducible refine wi_ck ?_ ?_; (focus (first | omega | (simp (disch := (first | omega | (simp (disch := first | omega | (simp only [Int32.reduceToInt]; omega)) only [Int32.reduceToInt, ta_add, ta_sub, ta_mul, ta_neg, ta_div]; omega))) only [up_1, cp_1, rng_1, fn_1, dj_1, Nat.reduceEqDiff, false_and, and_false, true_and, and_true, or_true, true_or, or_false, false_or, not_true_eq_false, not_false_eq_true, ↓reduceIte, eq_self, ne_eq, ti_eq, ti_le, ti_lt, ti_ite, Int32.reduceToInt, ta_add, ta_sub, ta_mul, ta_neg, ta_div]; done) | (simp (disch := (first | omega | (simp (disch := first | omega | (simp only [Int32.reduceToInt]; omega)) only [Int32.reduceToInt, ta_add, ta_sub, ta_mul, ta_neg, ta_div]; omega))) only [up_1, cp_1, rng_1, fn_1, dj_1, Nat.reduceEqDiff, false_and, and_false, true_and, and_true, or_true, true_or, or_false, false_or, not_true_eq_false, not_false_eq_true, ↓reduceIte, eq_self, ne_eq, ti_eq, ti_le, ti_lt, ti_ite, Int32.reduceToInt, ta_add, ta_sub, ta_mul, ta_neg, ta_div]; omega)))) | with_reducible refine wi_bd2 ?_ | with_reducible refine wi_bd1 ?_ | with_reducible refine wi_bd3 ?_ | (with_reducible refine wi_some ?_; try dsimp only) | unfold f_X6_layPair))
  rw [y1]
  refine ⟨q5, fr_tr f1 (fr_tr f2 (fr_tr f3 (fr_tr f4 f5))), fun A hA => ?_, okJ_g os g5⟩
  obtain ⟨B, hB, _⟩ := g5 A hA
  exact y2 B hB
theorem e_lpR (hz : ly_z z) (hn : 100 ≤ n) (h : RSL A0 r.1 o []) (h1 : okJ o p) (h2 : okJ o x) : ∃ s r1 r2 r3 r4 r5, f_X12_newName n z 125 r = some (s, r1) ∧ f_X12_layThree n z 125 (-p) (-x) (-s) r1 = some r2 ∧ f_X12_layThree n z 125 p x (-s) r2 = some r3 ∧ f_X12_layThree n z 125 p (-x) s r3 = some r4 ∧ f_X12_layThree n z 125 (-p) x s r4 = some r5 ∧ RSL A0 r5.1 (pyS o p x).1 [] ∧ fr_ok fL_R r r5 ∧ (∀ A, (pyS o p x).1 = some A → s = (pyS o p x).2) ∧ okJ (pyS o p x).1 s := by
  obtain ⟨⟨s, c1⟩, E1, q1, f1, hs⟩ := nwR (n := n) hz h
  have os : okJ (o.bind nwN) s := okJ_s hs (RSL_w h)
  have op := okJ_g h1 (gr_n (o := o))
  have ox := okJ_g h2 (gr_n (o := o))
  obtain ⟨c2, E2, q2, f2⟩ := e_l3R' (n := n) (a := -p) (b := -x) (e := -s) hz hn q1 (okJ_n op) (okJ_n ox) (okJ_n os)
  have g2 := gr_a (o := o.bind nwN) (L := rw3 (-p) (-x) (-s))
  obtain ⟨c3, E3, q3, f3⟩ := e_l3R' (n := n) (a := p) (b := x) (e := -s) hz hn q2 (okJ_g op g2) (okJ_g ox g2) (okJ_g (okJ_n os) g2)
  have g3 := gr_t g2 (gr_a (L := rw3 p x (-s)))
  obtain ⟨c4, E4, q4, f4⟩ := e_l3R' (n := n) (a := p) (b := -x) (e := s) hz hn q3 (okJ_g op g3) (okJ_g (okJ_n ox) g3) (okJ_g os g3)
  have g4 := gr_t g3 (gr_a (L := rw3 p (-x) s))
  obtain ⟨c5, E5, q5, f5⟩ := e_l3R' (n := n) (a := -p) (b := x) (e := s) hz hn q4 (okJ_g (okJ_n op) g4) (okJ_g ox g4) (okJ_g os g4)
  have g5 := gr_t g4 (gr_a (L := rw3 (-p) x s))
  obtain ⟨y1, y2⟩ := pyS_e (p := p) (x := x) hs
  refine ⟨s, c1, c2, c3, c4, c5, E1, E2, E3, E4, E5, ?_⟩
  rw [y1]
  refine ⟨q5, fr_tr f1 (fr_tr f2 (fr_tr f3 (fr_tr f4 f5))), fun A hA => ?_, okJ_g os g5⟩
  obtain ⟨B, hB, _⟩ := g5 A hA
  exact y2 B hB
theorem pyS_p {p' : Int32} (h : ∀ A, o = some A → p' = p) : pyS o p' x = pyS o p x := by
  cases o with
  | none => rfl
  | some A => rw [h A rfl]
end PAR

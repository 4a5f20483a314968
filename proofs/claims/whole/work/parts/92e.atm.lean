/-! AT MOST laid: the abstract laying and the class's -/
def amS (x : Int32) (i j : Nat) (p q : Int32) (o : Option LA) : Option LA × Int32 :=
  let o1 := o.bind nwN
  let s : Int32 := match o1 with | some A => nI A.1 | none => 0
  let o2 := if j < i then o1.bind (fun A => apR A (rw3 (-p) s 0)) else o1
  let o3 := o2.bind (fun A => apR A (rw3 (-x) (-q) s))
  let o4 := o3.bind (fun A => apR A (rw3 p x (-s)))
  (if 1 < j then o4.bind (fun A => apR A (rw3 p q (-s))) else o4, s)
def amJ (x : Int32) (i : Nat) (o : Option LA) (S : Nat → Int32) : Nat → Option LA × (Nat → Int32)
  | 0 => (o, S)
  | j + 1 => ((amS x i (j + 1) (if j + 1 < i then S (j + 1) else 0) (if 0 < j then S j else 0) (amJ x i o S j).1).1, fun u => if u = j + 1 then (amS x i (j + 1) (if j + 1 < i then S (j + 1) else 0) (if 0 < j then S j else 0) (amJ x i o S j).1).2 else (amJ x i o S j).2 u)
def amI (g : Nat → Int32) (K : Nat) (o : Option LA) : Nat → Option LA × (Nat → Int32)
  | 0 => (o, fun _ => 0)
  | i + 1 => if i = 0 then (o, fun u => if u = 1 then g 0 else 0) else amJ (g i) (i + 1) (amI g K o i).1 (amI g K o i).2 (min (i + 1) K)
def amF (g : Nat → Int32) (N k : Nat) (o : Option LA) : Option LA := if k < N then (amI g (k + 1) o N).1.bind (fun A => apR A (rw3 (-((amI g (k + 1) o N).2 (k + 1))) 0 0)) else (amI g (k + 1) o N).1
def gpF (g : Nat → Int32) (N k : Nat) (o : Option LA) : Option LA := if N < k then (amF g N k o).bind (fun A => apR A []) else if 0 < k then (amF g N k o).bind (fun A => apR A (rw3 ((amI g (k + 1) o N).2 k) 0 0)) else amF g N k o
section ATM
variable {n : Nat} {z : ix_Z} {c r e : ix_D2} {A0 A A' : LA} {o : Option LA} {m : Nat} {L : List Int32} {v p q x s : Int32} {g S : Nat → Int32} {i j K : Nat}
theorem amS_e (h : ∀ A', o.bind nwN = some A' → s = nI A'.1) : (amS x i j p q o).1 = (if 1 < j then (((if j < i then (o.bind nwN).bind (fun A => apR A (rw3 (-p) s 0)) else o.bind nwN).bind (fun A => apR A (rw3 (-x) (-q) s))).bind (fun A => apR A (rw3 p x (-s)))).bind (fun A => apR A (rw3 p q (-s))) else ((if j < i then (o.bind nwN).bind (fun A => apR A (rw3 (-p) s 0)) else o.bind nwN).bind (fun A => apR A (rw3 (-x) (-q) s))).bind (fun A => apR A (rw3 p x (-s)))) ∧ ∀ A', o.bind nwN = some A' → s = (amS x i j p q o).2 := by
  unfold amS
  cases ho : o.bind nwN with
  | none =>
    refine ⟨?_, fun A' h => absurd h (by simp)⟩
    by_cases c1 : 1 < j <;> by_cases c2 : j < i <;> simp [c1, c2]
  | some B =>
    have e := h B ho
    refine ⟨by rw [e], fun A' _ => e⟩
theorem gr_if {P : Prop} [Decidable P] {o1 o2 o3 : Option LA} (h1 : gr_ o1 o2) (h2 : gr_ o1 o3) : gr_ o1 (if P then o2 else o3) := by
  split
  · exact h1
  · exact h2
theorem gr_S : gr_ (o.bind nwN) (amS x i j p q o).1 := by
  unfold amS
  exact gr_if (gr_t (gr_t (gr_t (gr_if gr_a gr_r) gr_a) gr_a) gr_a) (gr_t (gr_t (gr_if gr_a gr_r) gr_a) gr_a)
theorem amJ_hi : ∀ {j u : Nat}, j < u → (amJ x i o S j).2 u = S u
  | 0, u, _ => rfl
  | j + 1, u, h => by
    rw [amJ]
    show (if u = j + 1 then _ else (amJ x i o S j).2 u) = S u
    rw [if_neg (by omega)]
    exact amJ_hi (by omega)
theorem gr_J : ∀ j, gr_ o (amJ x i o S j).1
  | 0 => gr_r
  | j + 1 => by rw [amJ]; exact gr_t (gr_J j) (gr_t gr_n gr_S)
theorem CSL_f {f f' : Nat → Nat → Int32} (h : CSL A0 f o m L) (e : ∀ a k, a < 199 → f' a k = f a k) : CSL A0 f' o m L := by
  refine ⟨dC_f h.1 (e _ _ (by omega)) (fun i => e _ _ (by omega)), ?_⟩
  rcases h.2 with ⟨A, e1, h1, h2, h3⟩ | ⟨e1, h1⟩
  · exact Or.inl ⟨A, e1, LvC_f h1 (fun a k q => e a k (by omega)), h2, h3⟩
  · exact Or.inr ⟨e1, OvC_f h1 (fun a k q => e a k (by omega))⟩
theorem CSL_m {m' : Nat} (h : CSL A0 c.1 o m L) (hm : m ≤ m') : CSL A0 c.1 o m' L := by
  refine ⟨h.1, ?_⟩
  rcases h.2 with h1 | ⟨e1, v1, v2, v3, v4⟩
  · exact Or.inl h1
  · exact Or.inr ⟨e1, v1, v2, by omega, v4⟩
theorem CSL_p {o o' : Option LA} (h : CSL A0 c.1 o m L) (e : o = o') : CSL A0 c.1 o' m L := by rw [← e]; exact h
/-- the class's step for one sum: p and q as they are; alike with the abstract ones while nothing is over -/
theorem e_amC (hz : ly_z z) (hn : 100 ≤ n) {Q : Option Nat × ix_Z × ix_D2 → Prop} {rec28 : Int32 → ix_D2 → Option (Option Nat × ix_Z × ix_D2)} {rec53 : Int32 → Int32 → ix_D2 → Option (Option Nat × ix_Z × ix_D2)} {rc sa : Nat} {x3 x6 p' q' : Int32} (h : CSL A0 e.1 o m []) (hm : m ≤ 1000) (hx : okJ o x) (hp : ∀ A, o = some A → p' = p) (hq : ∀ A, o = some A → q' = q) (hp0 : ¬ j < i → p = 0) (hp1 : j < i → okJ o p) (hq0 : ¬ 1 < j → q = 0) (hq1 : 1 < j → okJ o q)
    (H : ∀ s e', CSL A0 e'.1 (amS x i j p q o).1 (m + 1) [] → fr_ok fL_C e e' → (∀ A, (amS x i j p q o).1 = some A → s = (amS x i j p q o).2) → okJ (amS x i j p q o).1 s → wp_t (f_X0_laySums_146 n z rec28 rec53 rc 51 sa x3 x x6 p' s e') Q) : wp_t (f_X0_laySums_84 n z rec28 rec53 rc 51 sa x3 x q' x6 p' e) Q := by
  obtain ⟨⟨s, c1⟩, E1, q1, f1, s1, s2, s3⟩ := mkC (n := n) hz h hm
  have hs : ∀ A', o.bind nwN = some A' → s = nI A'.1 := fun A' hA => (s3 A' hA).1
  have os : okJ (o.bind nwN) s := okJ_s hs (CSL_w h)
  have g1 := gr_n (o := o)
  have ox := okJ_g hx g1
  obtain ⟨y1, y2⟩ := amS_e (x := x) (i := i) (j := j) (p := p) (q := q) hs
  have gS : gr_ (o.bind nwN) (amS x i j p q o).1 := gr_S
  /- what the actual p and q are while nothing is over -/
  have hp' : ∀ o', gr_ o o' → ∀ A, o' = some A → p' = p := fun o' g A hA => by obtain ⟨B, hB, _⟩ := g A hA; exact hp B hB
  have hq' : ∀ o', gr_ o o' → ∀ A, o' = some A → q' = q := fun o' g A hA => by obtain ⟨B, hB, _⟩ := g A hA; exact hq B hB
  have Ip : ∀ o', gr_ o o' → okI o' p' := fun o' g A hA => by
    rw [hp' o' g A hA]
    by_cases c1 : j < i
    · exact okI_g (okJ_I (hp1 c1)) g A hA
    · exact Or.inl (hp0 c1)
  have Inp : ∀ o', gr_ o o' → okI o' (-p') := fun o' g A hA => by
    rw [hp' o' g A hA]
    by_cases c1 : j < i
    · exact okJ_I (okJ_g (okJ_n (hp1 c1)) g) A hA
    · exact Or.inl (by rw [hp0 c1]; rfl)
  have Iq : ∀ o', gr_ o o' → okI o' q' := fun o' g A hA => by
    rw [hq' o' g A hA]
    by_cases c1 : 1 < j
    · exact okI_g (okJ_I (hq1 c1)) g A hA
    · exact Or.inl (hq0 c1)
  have Inq : ∀ o', gr_ o o' → okI o' (-q') := fun o' g A hA => by
    rw [hq' o' g A hA]
    by_cases c1 : 1 < j
    · exact okJ_I (okJ_g (okJ_n (hq1 c1)) g) A hA
    · exact Or.inl (by rw [hq0 c1]; rfl)
  /- behind the first row -/
  have step2 : ∀ o2 c2, CSL A0 c2.1 o2 (m + 1) [] → fr_ok fL_C e c2 → gr_ (o.bind nwN) o2 → o2 = (if j < i then (o.bind nwN).bind (fun A => apR A (rw3 (-p) s 0)) else o.bind nwN) → wp_t (f_X0_laySums_107 n z rec28 rec53 rc 51 sa x3 x q' x6 p' s c2) Q := by
    intro o2 c2 k1 k2 k3 k4
    have g2 : gr_ o o2 := gr_t g1 k3
    obtain ⟨c3, E3, q3, f3⟩ := e_l3C (n := n) (a := -x) (b := -q') (e := s) hz hn k1 (okJ_I (okJ_g (okJ_n ox) k3)) (Inq o2 g2) (okJ_I (okJ_g os k3))
    have q3 := CSL_p q3 (bi_c (f' := fun A => apR A (rw3 (-x) (-q) s)) (fun A hA => by rw [hq' o2 g2 A hA]))
    have g3 := gr_a (o := o2) (L := rw3 (-x) (-q) s)
    have g3' := gr_t g2 g3
    have k3' := gr_t k3 g3
    obtain ⟨c4, E4, q4, f4⟩ := e_l3C (n := n) (a := p') (b := x) (e := -s) hz hn q3 (Ip _ g3') (okJ_I (okJ_g ox k3')) (okJ_I (okJ_g (okJ_n os) k3'))
    have q4 := CSL_p q4 (bi_c (f' := fun A => apR A (rw3 p x (-s))) (fun A hA => by rw [hp' _ g3' A hA]))
    have g4 := gr_a (o := o2.bind (fun A => apR A (rw3 (-x) (-q) s))) (L := rw3 p x (-s))
    have g4' := gr_t g3' g4
    have k4' := gr_t k3' g4
    by_cases cq : q' = 0
    · (repeat (first | (with_reducible refine wi_e (E3) ?_; try dsimp only) | (with_reducible refine wi_e (E4) ?_; try dsimp only) | with_reducible refine wi_ifp cq ?_ | with_reducible refine wi_t (ly_o51 hz) ?_ | with_reducible refine wi_r (ly_r0_3 hz) ?_ | with_reducible refine wi_lt ?_ | (with_reducible refine wi_ifp ?_ ?_; (focus (first | omega | (simp (disch := (first | omega | (simp (disch := first | omega | (simp only [Int32.reduceToInt]; omega)) only [Int32.reduceToInt, ta_add, ta_sub, ta_mul, ta_neg, ta_div]; omega))) only [up_1, cp_1, rng_1, fn_1, dj_1, Nat.reduceEqDiff, false_and, and_false, true_and, and_true, or_true, true_or, or_false, false_or, not_true_eq_false, not_false_eq_true, ↓reduceIte, eq_self, ne_eq, ti_eq, ti_le, ti_lt, ti_ite, Int32.reduceToInt, ta_add, ta_sub, ta_mul, ta_neg, ta_div]; done) | (simp (disch := (first | omega | (simp (disch := first | omega | (simp only [Int32.reduceToInt]; omega)) only [Int32.reduceToInt, ta_add, ta_sub, ta_mul, ta_neg, ta_div]; omega))) only [up_1, cp_1, rng_1, fn_1, dj_1, Nat.reduceEqDiff, false_and, and_false, true_and, and_true, or_true, true_or, or_false, false_or, not_true_eq_false, not_false_eq_true, ↓reduceIte, eq_self, ne_eq, ti_eq, ti_le, ti_lt, ti_ite, Int32.reduceToInt, ta_add, ta_sub, ta_mul, ta_neg, ta_div]; omega)))) | (with_reducible refine wi_ifn ?_ ?_; (focus (first | omega | (simp (disch := (first | omega | (simp (disch := first | omega | (simp only [Int32.reduceToInt]; omega)) only [Int32.reduceToInt, ta_add, ta_sub, ta_mul, ta_neg, ta_div]; omega))) only [up_1, cp_1, rng_1, fn_1, dj_1, Nat.reduceEqDiff, false_and, and_false, true_and, and_true, or_true, true_or, or_false, false_or, not_true_eq_false, not_false_eq_true, ↓reduceIte, eq_self, ne_eq, ti_eq, ti_le, ti_lt, ti_ite, Int32.reduceToInt, ta_add, ta_sub, ta_mul, ta_neg, ta_div]; done) | (simp (disch := (first | omega | (simp (disch := first | omega | (simp only [Int32.reduceToInt]; omega)) only [Int32.reduceToInt, ta_add, ta_sub, ta_mul, ta_neg, ta_div]; omega))) only [up_1, cp_1, rng_1, fn_1, dj_1, Nat.reduceEqDiff, false_and, and_false, true_and, and_true, or_true, true_or, or_false, false_or, not_true_eq_false, not_false_eq_true, ↓reduceIte, eq_self, ne_eq, ti_eq, ti_le, ti_lt, ti_ite, Int32.reduceToInt, ta_add, ta_sub, ta_mul, ta_neg, ta_div]; omega)))) | (with_reducible refine wi_ck ?_ ?_; (focus (first | omega | (simp (disch := (first | omega | (simp (disch := first | omega | (simp only [Int32.reduceToInt]; omega)) only [Int32.reduceToInt, ta_add, ta_sub, ta_mul, ta_neg, ta_div]; omega))) only [up_1, cp_1, rng_1, fn_1, dj_1, Nat.reduceEqDiff, false_and, and_false, true_and, and_true, or_true, true_or, or_false, false_or, not_true_eq_false, not_false_eq_true, ↓reduceIte, eq_self, ne_eq, ti_eq, ti_le, ti_lt, ti_ite, Int32.reduceToInt, ta_add, ta_sub, ta_mul, ta_neg, ta_div]; done) | (simp (disch := (first | omega | (simp (disch := first | omega | (simp only [Int32.reduceToInt]; omega)) only [Int32.reduceToInt, ta_add, ta_sub, ta_mul, ta_neg, ta_div]; omega))) only [up_1, cp_1, rng_1, fn_1, dj_1, Nat.reduceEqDiff, false_and, and_false, true_and, and_true, or_true, true_or, or_false, false_or, not_true_eq_false, not_false_eq_true, ↓reduceIte, eq_self, ne_eq, ti_eq, ti_le, ti_lt, ti_ite, Int32.reduceToInt, ta_add, ta_sub, ta_mul, ta_neg, ta_div]; omega)))) | with_reducible refine wi_bd2 ?_ | with_reducible refine wi_bd1 ?_ | with_reducible refine wi_bd3 ?_ | (with_reducible refine wi_some ?_; try dsimp only) | unfold f_X0_laySums_107))
      have e5 : (o2.bind (fun A => apR A (rw3 (-x) (-q) s))).bind (fun A => apR A (rw3 p x (-s))) = (amS x i j p q o).1 := by
        rw [y1, ← k4]
        by_cases c1 : 1 < j
        · rw [if_pos c1]
          cases hO : (o2.bind (fun A => apR A (rw3 (-x) (-q) s))).bind (fun A => apR A (rw3 p x (-s))) with
          | none => rfl
          | some A =>
            have := hq' _ g4' A hO
            obtain ⟨B, hB, _⟩ := g4' A hO
            exact absurd (by rw [← this]; exact cq) (ok_nz (hq1 c1 B hB).1)
        · rw [if_neg c1]
      refine H s c4 (CSL_p q4 e5) (fr_tr k2 (fr_tr f3 f4)) (fun A hA => ?_) (okJ_g os gS)
      obtain ⟨B, hB, _⟩ := gS A hA
      exact y2 B hB
    · obtain ⟨c5, E5, q5, f5⟩ := e_l3C (n := n) (a := p') (b := q') (e := -s) hz hn q4 (Ip _ g4') (Iq _ g4') (okJ_I (okJ_g (okJ_n os) k4'))
      have q5 := CSL_p q5 (bi_c (f' := fun A => apR A (rw3 p q (-s))) (fun A hA => by rw [hp' _ g4' A hA, hq' _ g4' A hA]))
      (repeat (first | (with_reducible refine wi_e (E3) ?_; try dsimp only) | (with_reducible refine wi_e (E4) ?_; try dsimp only) | with_reducible refine wi_ifn cq ?_ | (with_reducible refine wi_e (E5) ?_; try dsimp only) | with_reducible refine wi_t (ly_o51 hz) ?_ | with_reducible refine wi_r (ly_r0_3 hz) ?_ | with_reducible refine wi_lt ?_ | (with_reducible refine wi_ifp ?_ ?_; (focus (first | omega | (simp (disch := (first | omega | (simp (disch := first | omega | (simp only [Int32.reduceToInt]; omega)) only [Int32.reduceToInt, ta_add, ta_sub, ta_mul, ta_neg, ta_div]; omega))) only [up_1, cp_1, rng_1, fn_1, dj_1, Nat.reduceEqDiff, false_and, and_false, true_and, and_true, or_true, true_or, or_false, false_or, not_true_eq_false, not_false_eq_true, ↓reduceIte, eq_self, ne_eq, ti_eq, ti_le, ti_lt, ti_ite, Int32.reduceToInt, ta_add, ta_sub, ta_mul, ta_neg, ta_div]; done) | (simp (disch := (first | omega | (simp (disch := first | omega | (simp only [Int32.reduceToInt]; omega)) only [Int32.reduceToInt, ta_add, ta_sub, ta_mul, ta_neg, ta_div]; omega))) only [up_1, cp_1, rng_1, fn_1, dj_1, Nat.reduceEqDiff, false_and, and_false, true_and, and_true, or_true, true_or, or_false, false_or, not_true_eq_false, not_false_eq_true, ↓reduceIte, eq_self, ne_eq, ti_eq, ti_le, ti_lt, ti_ite, Int32.reduceToInt, ta_add, ta_sub, ta_mul, ta_neg, ta_div]; omega)))) | (with_reducible refine wi_ifn ?_ ?_; (focus (first | omega | (simp (disch := (first | omega | (simp (disch := first | omega | (simp only [Int32.reduceToInt]; omega)) only [Int32.reduceToInt, ta_add, ta_sub, ta_mul, ta_neg, ta_div]; omega))) only [up_1, cp_1, rng_1, fn_1, dj_1, Nat.reduceEqDiff, false_and, and_false, true_and, and_true, or_true, true_or, or_false, false_or, not_true_eq_false, not_false_eq_true, ↓reduceIte, eq_self, ne_eq, ti_eq, ti_le, ti_lt, ti_ite, Int32.reduceToInt, ta_add, ta_sub, ta_mul, ta_neg, ta_div]; done) | (simp (disch := (first | omega | (simp (disch := first | omega | (simp only [Int32.reduceToInt]; omega)) only [Int32.reduceToInt, ta_add, ta_sub, ta_mul, ta_neg, ta_div]; omega))) only [up_1, cp_1, rng_1, fn_1, dj_1, Nat.reduceEqDiff, false_and, and_false, true_and, and_true, or_true, true_or, or_false, false_or, not_true_eq_false, not_false_eq_true, ↓reduceIte, eq_self, ne_eq, ti_eq, ti_le, ti_lt, ti_ite, Int32.reduceToInt, ta_add, ta_sub, ta_mul, ta_neg, ta_div]; omega)))) | (with_reducible refine wi_ck ?_ ?_; (focus (first | omega | (simp (disch := (first | omega | (simp (disch := first | omega | (simp only [Int32.reduceToInt]; omega)) only [Int32.reduceToInt, ta_add, ta_sub, ta_mul, ta_neg, ta_div]; omega))) only [up_1, cp_1, rng_1, fn_1, dj_1, Nat.reduceEqDiff, false_and, and_false, true_and, and_true, or_true, true_or, or_false, false_or, not_true_eq_false, not_false_eq_true, ↓reduceIte, eq_self, ne_eq, ti_eq, ti_le, ti_lt, ti_ite, Int32.reduceToInt, ta_add, ta_sub, ta_mul, ta_neg, ta_div]; done) | (simp (disch := (first | omega | (simp (disch := first | omega | (simp only [Int32.reduceToInt]; omega)) only [Int32.reduceToInt, ta_add, ta_sub, ta_mul, ta_neg, ta_div]; omega))) only [up_1, cp_1, rng_1, fn_1, dj_1, Nat.reduceEqDiff, false_and, and_false, true_and, and_true, or_true, true_or, or_false, false_or, not_true_eq_false, not_false_eq_true, ↓reduceIte, eq_self, ne_eq, ti_eq, ti_le, ti_lt, ti_ite, Int32.reduceToInt, ta_add, ta_sub, ta_mul, ta_neg, ta_div]; omega)))) | with_reducible refine wi_bd2 ?_ | with_reducible refine wi_bd1 ?_ | with_reducible refine wi_bd3 ?_ | (with_reducible refine wi_some ?_; try dsimp only) | unfold f_X0_laySums_107))
      have e5 : ((o2.bind (fun A => apR A (rw3 (-x) (-q) s))).bind (fun A => apR A (rw3 p x (-s)))).bind (fun A => apR A (rw3 p q (-s))) = (amS x i j p q o).1 := by
        rw [y1, ← k4]
        by_cases c1 : 1 < j
        · rw [if_pos c1]
        · rw [if_neg c1]
          cases hO : (o2.bind (fun A => apR A (rw3 (-x) (-q) s))).bind (fun A => apR A (rw3 p x (-s))) with
          | none => rfl
          | some A =>
            have := hq' _ g4' A hO
            exact absurd (by rw [this]; exact hq0 c1) cq
      refine H s c5 (CSL_p q5 e5) (fr_tr k2 (fr_tr f3 (fr_tr f4 f5))) (fun A hA => ?_) (okJ_g os gS)
      obtain ⟨B, hB, _⟩ := gS A hA
      exact y2 B hB
  by_cases cp : p' = 0
  · (repeat (first | (with_reducible refine wi_e (E1) ?_; try dsimp only) | with_reducible refine wi_ifp cp ?_ | with_reducible refine wi_t (ly_o51 hz) ?_ | with_reducible refine wi_r (ly_r0_3 hz) ?_ | with_reducible refine wi_lt ?_ | (with_reducible refine wi_ifp ?_ ?_; (focus (first | omega | (simp (disch := (first | omega | (simp (disch := first | omega | (simp only [Int32.reduceToInt]; omega)) only [Int32.reduceToInt, ta_add, ta_sub, ta_mul, ta_neg, ta_div]; omega))) only [up_1, cp_1, rng_1, fn_1, dj_1, Nat.reduceEqDiff, false_and, and_false, true_and, and_true, or_true, true_or, or_false, false_or, not_true_eq_false, not_false_eq_true, ↓reduceIte, eq_self, ne_eq, ti_eq, ti_le, ti_lt, ti_ite, Int32.reduceToInt, ta_add, ta_sub, ta_mul, ta_neg, ta_div]; done) | (simp (disch := (first | omega | (simp (disch := first | omega | (simp only [Int32.reduceToInt]; omega)) only [Int32.reduceToInt, ta_add, ta_sub, ta_mul, ta_neg, ta_div]; omega))) only [up_1, cp_1, rng_1, fn_1, dj_1, Nat.reduceEqDiff, false_and, and_false, true_and, and_true, or_true, true_or, or_false, false_or, not_true_eq_false, not_false_eq_true, ↓reduceIte, eq_self, ne_eq, ti_eq, ti_le, ti_lt, ti_ite, Int32.reduceToInt, ta_add, ta_sub, ta_mul, ta_neg, ta_div]; omega)))) | (with_reducible refine wi_ifn ?_ ?_; (focus (first | omega | (simp (disch := (first | omega | (simp (disch := first | omega | (simp only [Int32.reduceToInt]; omega)) only [Int32.reduceToInt, ta_add, ta_sub, ta_mul, ta_neg, ta_div]; omega))) only [up_1, cp_1, rng_1, fn_1, dj_1, Nat.reduceEqDiff, false_and, and_false, true_and, and_true, or_true, true_or, or_false, false_or, not_true_eq_false, not_false_eq_true, ↓reduceIte, eq_self, ne_eq, ti_eq, ti_le, ti_lt, ti_ite, Int32.reduceToInt, ta_add, ta_sub, ta_mul, ta_neg, ta_div]; done) | (simp (disch := (first | omega | (simp (disch := first | omega | (simp only [Int32.reduceToInt]; omega)) only [Int32.reduceToInt, ta_add, ta_sub, ta_mul, ta_neg, ta_div]; omega))) only [up_1, cp_1, rng_1, fn_1, dj_1, Nat.reduceEqDiff, false_and, and_false, true_and, and_true, or_true, true_or, or_false, false_or, not_true_eq_false, not_false_eq_true, ↓reduceIte, eq_self, ne_eq, ti_eq, ti_le, ti_lt, ti_ite, Int32.reduceToInt, ta_add, ta_sub, ta_mul, ta_neg, ta_div]; omega)))) | (with_reducible refine wi_ck ?_ ?_; (focus (first | omega | (simp (disch := (first | omega | (simp (disch := first | omega | (simp only [Int32.reduceToInt]; omega)) only [Int32.reduceToInt, ta_add, ta_sub, ta_mul, ta_neg, ta_div]; omega))) only [up_1, cp_1, rng_1, fn_1, dj_1, Nat.reduceEqDiff, false_and, and_false, true_and, and_true, or_true, true_or, or_false, false_or, not_true_eq_false, not_false_eq_true, ↓reduceIte, eq_self, ne_eq, ti_eq, ti_le, ti_lt, ti_ite, Int32.reduceToInt, ta_add, ta_sub, ta_mul, ta_neg, ta_div]; done) | (simp (disch := (first | omega | (simp (disch := first | omega | (simp only [Int32.reduceToInt]; omega)) only [Int32.reduceToInt, ta_add, ta_sub, ta_mul, ta_neg, ta_div]; omega))) only [up_1, cp_1, rng_1, fn_1, dj_1, Nat.reduceEqDiff, false_and, and_false, true_and, and_true, or_true, true_or, or_false, false_or, not_true_eq_false, not_false_eq_true, ↓reduceIte, eq_self, ne_eq, ti_eq, ti_le, ti_lt, ti_ite, Int32.reduceToInt, ta_add, ta_sub, ta_mul, ta_neg, ta_div]; omega)))) | with_reducible refine wi_bd2 ?_ | with_reducible refine wi_bd1 ?_ | with_reducible refine wi_bd3 ?_ | (with_reducible refine wi_some ?_; try dsimp only) | unfold f_X0_laySums_84))
    refine step2 _ c1 q1 f1 gr_r ?_
    by_cases c1 : j < i
    · rw [if_pos c1]
      cases hO : o.bind nwN with
      | none => rfl
      | some A =>
        have := hp' _ g1 A hO
        obtain ⟨B, hB, _⟩ := g1 A hO
        exact absurd (by rw [← this]; exact cp) (ok_nz (hp1 c1 B hB).1)
    · rw [if_neg c1]
  · obtain ⟨c2, E2, q2, f2⟩ := e_l3C (n := n) (a := -p') (b := s) (e := 0) hz hn q1 (Inp _ g1) (okJ_I os) okI_0
    have q2 := CSL_p q2 (bi_c (f' := fun A => apR A (rw3 (-p) s 0)) (fun A hA => by rw [hp' _ g1 A hA]))
    (repeat (first | (with_reducible refine wi_e (E1) ?_; try dsimp only) | with_reducible refine wi_ifn cp ?_ | (with_reducible refine wi_e (E2) ?_; try dsimp only) | with_reducible refine wi_t (ly_o51 hz) ?_ | with_reducible refine wi_r (ly_r0_3 hz) ?_ | with_reducible refine wi_lt ?_ | (with_reducible refine wi_ifp ?_ ?_; (focus (first | omega | (simp (disch := (first | omega | (simp (disch := first | omega | (simp only [Int32.reduceToInt]; omega)) only [Int32.reduceToInt, ta_add, ta_sub, ta_mul, ta_neg, ta_div]; omega))) only [up_1, cp_1, rng_1, fn_1, dj_1, Nat.reduceEqDiff, false_and, and_false, true_and, and_true, or_true, true_or, or_false, false_or, not_true_eq_false, not_false_eq_true, ↓reduceIte, eq_self, ne_eq, ti_eq, ti_le, ti_lt, ti_ite, Int32.reduceToInt, ta_add, ta_sub, ta_mul, ta_neg, ta_div]; done) | (simp (disch := (first | omega | (simp (disch := first | omega | (simp only [Int32.reduceToInt]; omega)) only [Int32.reduceToInt, ta_add, ta_sub, ta_mul, ta_neg, ta_div]; omega))) only [up_1, cp_1, rng_1, fn_1, dj_1, Nat.reduceEqDiff, false_and, and_false, true_and, and_true, or_true, true_or, or_false, false_or, not_true_eq_false, not_false_eq_true, ↓reduceIte, eq_self, ne_eq, ti_eq, ti_le, ti_lt, ti_ite, Int32.reduceToInt, ta_add, ta_sub, ta_mul, ta_neg, ta_div]; omega)))) | (with_reducible refine wi_ifn ?_ ?_; (focus (first | omega | (simp (disch := (first | omega | (simp (disch := first | omega | (simp only [Int32.reduceToInt]; omega)) only [Int32.reduceToInt, ta_add, ta_sub, ta_mul, ta_neg, ta_div]; omega))) only [up_1, cp_1, rng_1, fn_1, dj_1, Nat.reduceEqDiff, false_and, and_false, true_and, and_true, or_true, true_or, or_false, false_or, not_true_eq_false, not_false_eq_true, ↓reduceIte, eq_self, ne_eq, ti_eq, ti_le, ti_lt, ti_ite, Int32.reduceToInt, ta_add, ta_sub, ta_mul, ta_neg, ta_div]; done) | (simp (disch := (first | omega | (simp (disch := first | omega | (simp only [Int32.reduceToInt]; omega)) only [Int32.reduceToInt, ta_add, ta_sub, ta_mul, ta_neg, ta_div]; omega))) only [up_1, cp_1, rng_1, fn_1, dj_1, Nat.reduceEqDiff, false_and, and_false, true_and, and_true, or_true, true_or, or_false, false_or, not_true_eq_false, not_false_eq_true, ↓reduceIte, eq_self, ne_eq, ti_eq, ti_le, ti_lt, ti_ite, Int32.reduceToInt, ta_add, ta_sub, ta_mul, ta_neg, ta_div]; omega)))) | (with_reducible refine wi_ck ?_ ?_; (focus (first | omega | (simp (disch := (first | omega | (simp (disch := first | omega | (simp only [Int32.reduceToInt]; omega)) only [Int32.reduceToInt, ta_add, ta_sub, ta_mul, ta_neg, ta_div]; omega))) only [up_1, cp_1, rng_1, fn_1, dj_1, Nat.reduceEqDiff, false_and, and_false, true_and, and_true, or_true, true_or, or_false, false_or, not_true_eq_false, not_false_eq_true, ↓reduceIte, eq_self, ne_eq, ti_eq, ti_le, ti_lt, ti_ite, Int32.reduceToInt, ta_add, ta_sub, ta_mul, ta_neg, ta_div]; done) | (simp (disch := (first | omega | (simp (disch := first | omega | (simp only [Int32.reduceToInt]; omega)) only [Int32.reduceToInt, ta_add, ta_sub, ta_mul, ta_neg, ta_div]; omega))) only [up_1, cp_1, rng_1, fn_1, dj_1, Nat.reduceEqDiff, false_and, and_false, true_and, and_true, or_true, true_or, or_false, false_or, not_true_eq_false, not_false_eq_true, ↓reduceIte, eq_self, ne_eq, ti_eq, ti_le, ti_lt, ti_ite, Int32.reduceToInt, ta_add, ta_sub, ta_mul, ta_neg, ta_div]; omega)))) | with_reducible refine wi_bd2 ?_ | with_reducible refine wi_bd1 ?_ | with_reducible refine wi_bd3 ?_ | (with_reducible refine wi_some ?_; try dsimp only) | unfold f_X0_laySums_84))
    refine step2 _ c2 q2 (fr_tr f1 f2) gr_a ?_
    by_cases c1 : j < i
    · rw [if_pos c1]
    · rw [if_neg c1]
      cases hO : o.bind nwN with
      | none => rfl
      | some A =>
        have := hp' _ g1 A hO
        exact absurd (by rw [this]; exact hp0 c1) cp
end ATM

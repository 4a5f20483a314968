/-! TOLD: the whole laid, abstractly and by the class -/
def opT (s : Nat) (σ : Nat → Int32) (m : Nat) (z : Int32) (o : Option LA) : Option LA := if s = 0 then andT σ m z o else if s = 1 then orT σ m z o else if s = 2 then thenT σ z o else justT σ m z o
def nmO (o : Option LA) : Int32 := match o with
  | some A => nI A.1
  | none => 0
def toT (T : Nat → Nat × Nat × Nat × Int32) (o : Option LA) : Nat → Option LA × (Nat → Int32)
  | 0 => (o, fun _ => 0)
  | k + 1 => if (T k).1 = 4 then ((toT T o k).1, fun i => if i = pD T k then cdT (T k) else (toT T o k).2 i)
    else (opT (T k).1 (fun i => (toT T o k).2 (pD T k - (T k).2.1 + i)) (T k).2.1 (nmO ((toT T o k).1.bind nwN)) ((toT T o k).1.bind nwN), fun i => if i = pD T k - (T k).2.1 then (if (T k).2.2.1 % 2 = 1 then -(nmO ((toT T o k).1.bind nwN)) else nmO ((toT T o k).1.bind nwN)) else (toT T o k).2 i)
def toF (T : Nat → Nat × Nat × Nat × Int32) (K : Nat) (o : Option LA) : Option LA := apO (toT T o K).1 (rw3 ((toT T o K).2 0) 0 0)
section TLC
variable {n : Nat} {z : ix_Z} {c r c' : ix_D2} {v x w : Int32} {A0 : LA} {o : Option LA} {L : List Int32} {m M rc sa ca LS i fr K k s b : Nat} {σ σ' f f' : Nat → Int32} {g g' : Nat → List Int32} {T : Nat → Nat × Nat × Nat × Int32}
theorem chT_c : ∀ {i : Nat}, (∀ j, j < i → f j = f' j) → chT f L i = chT f' L i
  | 0, _ => rfl
  | i + 1, h => by rw [chT, chT, chT_c (i := i) (fun j hj => h j (by omega)), h i (by omega)]
theorem rowsT_c : ∀ {i : Nat}, (∀ j, j < i → g j = g' j) → rowsT g o i = rowsT g' o i
  | 0, _ => rfl
  | i + 1, h => by rw [rowsT, rowsT, rowsT_c (i := i) (fun j hj => h j (by omega)), h i (by omega)]
theorem rowsT_n : ∀ i, rowsT g none i = none
  | 0 => rfl
  | i + 1 => by rw [rowsT, rowsT_n i]; rfl
theorem prsT_n : ∀ i, prsT σ m w none i = none
  | 0 => rfl
  | i + 1 => by rw [prsT, prsT_n i, rowsT_n]
theorem prsT_c (h : ∀ j, j < m → σ j = σ' j) : ∀ {i : Nat}, i ≤ m → prsT σ m w o i = prsT σ' m w o i
  | 0, _ => rfl
  | i + 1, hi => by
    rw [prsT, prsT, prsT_c h (i := i) (by omega)]
    exact rowsT_c fun j hj => by rw [h i (by omega), h (i + 1 + j) (by omega)]
theorem apO_n : apO none L = none := rfl
theorem opT_n : opT s σ m w none = none := by
  unfold opT andT orT thenT justT
  rw [rowsT_n, rowsT_n, apO_n, apO_n, apO_n, apO_n, apO_n, prsT_n, rowsT_n]
  split
  · rfl
  · split
    · rfl
    · split <;> rfl
theorem opT_c (hm2 : s = 2 → m = 2) (h : ∀ A, o = some A → (∀ j, j < m → σ j = σ' j) ∧ v = w) : opT s σ m v o = opT s σ' m w o := by
  cases o with
  | none => rw [opT_n, opT_n]
  | some A =>
    obtain ⟨h', rfl⟩ := h A rfl
    replace h := h'
    unfold opT
    by_cases c0 : s = 0
    · rw [if_pos c0, if_pos c0]; unfold andT
      rw [rowsT_c (g' := fun i => rw3 (σ' i) (-v) 0) fun j hj => by rw [h j hj], chT_c (f' := fun i => -(σ' i)) fun j hj => by rw [h j hj]]
    rw [if_neg c0, if_neg c0]
    by_cases c1 : s = 1
    · rw [if_pos c1, if_pos c1]; unfold orT
      rw [rowsT_c (g' := fun i => rw3 (-(σ' i)) v 0) fun j hj => by rw [h j hj], chT_c (f' := σ') h]
    rw [if_neg c1, if_neg c1]
    by_cases c2 : s = 2
    · rw [if_pos c2, if_pos c2]; unfold thenT
      have := hm2 c2
      rw [h 0 (by omega), h 1 (by omega)]
    rw [if_neg c2, if_neg c2]
    unfold justT
    rw [chT_c (f' := σ') h, prsT_c h (Nat.le_refl _)]
    exact rowsT_c fun i hi => by
      rw [h i hi]
      exact chT_c fun j hj => by rw [h j hj]
theorem gr_op : gr_ o (opT s σ m w o) := by
  unfold opT
  refine gr_if (gr_t (gr_rT m) gr_a) (gr_if (gr_t (gr_rT m) gr_a) (gr_if (gr_t (gr_t gr_a gr_a) gr_a) ?_))
  unfold justT
  exact gr_t (gr_t gr_a (gr_pT m)) (gr_rT m)
theorem gr_to : ∀ k, gr_ o (toT T o k).1
  | 0 => gr_r
  | k + 1 => by
    rw [toT]
    split
    · exact gr_to k
    · exact gr_t (gr_to k) (gr_t gr_n gr_op)
theorem toT_n : ∀ k, (toT T none k).1 = none
  | 0 => rfl
  | k + 1 => by
    rw [toT]
    split
    · exact toT_n k
    · rw [toT_n k]; exact opT_n
theorem toF_n : toF T K none = none := by unfold toF; rw [toT_n]; rfl
theorem cd_d : ∀ s : Fin 4, ∀ m : Fin 9, ∀ b : Fin 2, (nI (10000 + 1000 * s.val + 10 * m.val + b.val) / 10 - nI (10000 + 1000 * s.val + 10 * m.val + b.val) / 10 / 100 * 100 = nI m.val) ∧ (nI (10000 + 1000 * s.val + 10 * m.val + b.val) / 1000 - 10 = nI s.val) ∧ (nI (10000 + 1000 * s.val + 10 * m.val + b.val) - nI (10000 + 1000 * s.val + 10 * m.val + b.val) / 10 * 10 = nI b.val) ∧ ¬ nI (10000 + 1000 * s.val + 10 * m.val + b.val) < 10000 := by decide +kernel
theorem cd_e (hs : s < 4) (hm : m ≤ 8) (hb : b < 2) : (nI (10000 + 1000 * s + 10 * m + b) / 10 - nI (10000 + 1000 * s + 10 * m + b) / 10 / 100 * 100 = nI m) ∧ (nI (10000 + 1000 * s + 10 * m + b) / 1000 - 10 = nI s) ∧ (nI (10000 + 1000 * s + 10 * m + b) - nI (10000 + 1000 * s + 10 * m + b) / 10 * 10 = nI b) ∧ ¬ nI (10000 + 1000 * s + 10 * m + b) < 10000 := cd_d ⟨s, hs⟩ ⟨m, by omega⟩ ⟨b, hb⟩
theorem mx_d {D : Nat} (hm : m ≤ D) (hD : D ≤ 100) : ix_max (nI D - nI m) 0 = nI (D - m) := by
  have q1 : (nI D).toInt = D := nI_ti (by omega)
  have q2 : (nI m).toInt = m := nI_ti (by omega)
  have q3 : (nI D - nI m).toInt = (D : Int) - m := by (focus (first | omega | (simp (disch := (first | omega | (simp (disch := first | omega | (simp only [Int32.reduceToInt]; omega)) only [Int32.reduceToInt, ta_add, ta_sub, ta_mul, ta_neg, ta_div]; omega))) only [up_1, cp_1, rng_1, fn_1, dj_1, Nat.reduceEqDiff, false_and, and_false, true_and, and_true, or_true, true_or, or_false, false_or, not_true_eq_false, not_false_eq_true, ↓reduceIte, eq_self, ne_eq, ti_eq, ti_le, ti_lt, ti_ite, Int32.reduceToInt, ta_add, ta_sub, ta_mul, ta_neg, ta_div]; done) | (simp (disch := (first | omega | (simp (disch := first | omega | (simp only [Int32.reduceToInt]; omega)) only [Int32.reduceToInt, ta_add, ta_sub, ta_mul, ta_neg, ta_div]; omega))) only [up_1, cp_1, rng_1, fn_1, dj_1, Nat.reduceEqDiff, false_and, and_false, true_and, and_true, or_true, true_or, or_false, false_or, not_true_eq_false, not_false_eq_true, ↓reduceIte, eq_self, ne_eq, ti_eq, ti_le, ti_lt, ti_ite, Int32.reduceToInt, ta_add, ta_sub, ta_mul, ta_neg, ta_div]; omega)))
  have q4 : nI D - nI m = nI (D - m) := Int32.toInt_inj.mp (by rw [q3, nI_ti (by omega)]; omega)
  rw [q4]
  have q5 : (nI (D - m)).toInt = ((D - m : Nat) : Int) := nI_ti (by omega)
  generalize nI (D - m) = y at q5 ⊢
  refine Int32.toInt_inj.mp ?_
  rw [mx_ti, if_neg (by simp only [Int32.reduceToInt]; omega)]
theorem nmO_e (h : ∀ A', o = some A' → v = nI A'.1) : ∀ A', o = some A' → v = nmO o := fun A' hA => by rw [h A' hA, hA]; rfl
/-- the class's told rule laid -/
theorem e_liT (hz : ly_z z) (hn : 100 ≤ n) (tc : TC_ z rc sa (K + 1)) (hK : K ≤ 60) (hca : z.1 rc 4 = some ca) (hcz : ca < z.2.2) (hc9 : 199 ≤ ca) (hck : z.2.1 ca = (20, K)) (hne : ca ≠ sa) (h : CSL A0 c.1 o 0 []) (hcd : ∀ k, k < K → c.1 ca k = cdT (T k)) (hT : ∀ k, k < K → tkO (T k) (pD T k)) (hD : pD T K = 1) (hv : ∀ k, k < K → (T k).1 = 4 → okJ o (T k).2.2.2) : wp_t (f_X10_layInto n z rc 51 c) (fun c' => ∃ m, m ≤ 60 ∧ CSL A0 c'.1 (toF T K o) m [] ∧ fr_ok (fun a k => fL_C a k ∨ a = sa) c c') := by
  obtain ⟨k9, k5, ks, k19, kk, kL⟩ := id tc
  have ka : ca < z.2.2 ∧ 20 ≤ (z.2.1 ca).1 ∧ (z.2.1 ca).1 < 26 := by rw [hck]; exact ⟨hcz, Nat.le_of_ble_eq_true rfl, Nat.le_of_ble_eq_true rfl⟩
  have kl : (nI (z.2.1 ca).2).toInt = K := by rw [hck]; exact nI_ti (by show K < _; omega)
  unfold f_X10_layInto f_X10_layInto_4
  refine wp_fx3 (J := fun x2 x3 e => ∃ k : Nat, k ≤ K ∧ x3 = nI k ∧ x2 = nI (pD T k) ∧ CSL A0 e.1 (toT T o k).1 k [] ∧ (∀ i, i < pD T k → okJ (toT T o k).1 (e.1 sa i) ∧ ∀ A, (toT T o k).1 = some A → e.1 sa i = (toT T o k).2 i) ∧ fr_ok (fun a k => fL_C a k ∨ a = sa) c e) (μ := fun _ x3 _ => 70 - ix_n x3) ?_ n 0 0 c ⟨0, by omega, rfl, rfl, h, fun i hi => by rw [pD] at hi; omega, fr_rf⟩ (by omega)
  rintro rec x2 x3 e ⟨k, hk, rfl, rfl, j1, j2, j3⟩ ih
  have ek : (nI k).toInt = k := nI_ti (by omega)
  have n0 : ix_n (nI k) = k := nI_n (by omega)
  have e1 : nI k + 1 = nI (k + 1) := nI_1 k
  have n1 : ix_n (nI (k + 1)) = k + 1 := nI_n (by omega)
  have hDk := pD_k (T := T) k
  unfold b_X10_layInto_4
  by_cases c1 : K ≤ k
  · have hkK : k = K := by omega
    subst hkK
    have kx := tc_x (i := 0) tc (by omega)
    have kx0 : ix_ix z 20 sa 0 := kx
    have n00 : ix_n (0 : Int32) = 0 := rfl
    have js := j2 0 (by omega)
    obtain ⟨e2, E2, q1, q2⟩ := e_l3C (n := n) (a := e.1 sa 0) (b := 0) (e := 0) hz hn j1 (okJ_I js.1) okI_0 okI_0
    (repeat (first | with_reducible refine wi_ck k9 ?_ | with_reducible refine wi_r (hca) ?_ | with_reducible refine wi_ck ka ?_ | with_reducible refine wi_r (k5) ?_ | with_reducible refine wi_ck kx0 ?_ | rw [n00] | (with_reducible refine wi_e (E2) ?_; try dsimp only) | with_reducible refine wi_t (ly_o51 hz) ?_ | with_reducible refine wi_r (ly_r0_3 hz) ?_ | with_reducible refine wi_lt ?_ | (with_reducible refine wi_ifp ?_ ?_; (focus (first | omega | (simp (disch := (first | omega | (simp (disch := first | omega | (simp only [Int32.reduceToInt]; omega)) only [Int32.reduceToInt, ta_add, ta_sub, ta_mul, ta_neg, ta_div]; omega))) only [up_1, cp_1, rng_1, fn_1, dj_1, Nat.reduceEqDiff, false_and, and_false, true_and, and_true, or_true, true_or, or_false, false_or, not_true_eq_false, not_false_eq_true, ↓reduceIte, eq_self, ne_eq, ti_eq, ti_le, ti_lt, ti_ite, Int32.reduceToInt, ta_add, ta_sub, ta_mul, ta_neg, ta_div]; done) | (simp (disch := (first | omega | (simp (disch := first | omega | (simp only [Int32.reduceToInt]; omega)) only [Int32.reduceToInt, ta_add, ta_sub, ta_mul, ta_neg, ta_div]; omega))) only [up_1, cp_1, rng_1, fn_1, dj_1, Nat.reduceEqDiff, false_and, and_false, true_and, and_true, or_true, true_or, or_false, false_or, not_true_eq_false, not_false_eq_true, ↓reduceIte, eq_self, ne_eq, ti_eq, ti_le, ti_lt, ti_ite, Int32.reduceToInt, ta_add, ta_sub, ta_mul, ta_neg, ta_div]; omega)))) | (with_reducible refine wi_ifn ?_ ?_; (focus (first | omega | (simp (disch := (first | omega | (simp (disch := first | omega | (simp only [Int32.reduceToInt]; omega)) only [Int32.reduceToInt, ta_add, ta_sub, ta_mul, ta_neg, ta_div]; omega))) only [up_1, cp_1, rng_1, fn_1, dj_1, Nat.reduceEqDiff, false_and, and_false, true_and, and_true, or_true, true_or, or_false, false_or, not_true_eq_false, not_false_eq_true, ↓reduceIte, eq_self, ne_eq, ti_eq, ti_le, ti_lt, ti_ite, Int32.reduceToInt, ta_add, ta_sub, ta_mul, ta_neg, ta_div]; done) | (simp (disch := (first | omega | (simp (disch := first | omega | (simp only [Int32.reduceToInt]; omega)) only [Int32.reduceToInt, ta_add, ta_sub, ta_mul, ta_neg, ta_div]; omega))) only [up_1, cp_1, rng_1, fn_1, dj_1, Nat.reduceEqDiff, false_and, and_false, true_and, and_true, or_true, true_or, or_false, false_or, not_true_eq_false, not_false_eq_true, ↓reduceIte, eq_self, ne_eq, ti_eq, ti_le, ti_lt, ti_ite, Int32.reduceToInt, ta_add, ta_sub, ta_mul, ta_neg, ta_div]; omega)))) | (with_reducible refine wi_ck ?_ ?_; (focus (first | omega | (simp (disch := (first | omega | (simp (disch := first | omega | (simp only [Int32.reduceToInt]; omega)) only [Int32.reduceToInt, ta_add, ta_sub, ta_mul, ta_neg, ta_div]; omega))) only [up_1, cp_1, rng_1, fn_1, dj_1, Nat.reduceEqDiff, false_and, and_false, true_and, and_true, or_true, true_or, or_false, false_or, not_true_eq_false, not_false_eq_true, ↓reduceIte, eq_self, ne_eq, ti_eq, ti_le, ti_lt, ti_ite, Int32.reduceToInt, ta_add, ta_sub, ta_mul, ta_neg, ta_div]; done) | (simp (disch := (first | omega | (simp (disch := first | omega | (simp only [Int32.reduceToInt]; omega)) only [Int32.reduceToInt, ta_add, ta_sub, ta_mul, ta_neg, ta_div]; omega))) only [up_1, cp_1, rng_1, fn_1, dj_1, Nat.reduceEqDiff, false_and, and_false, true_and, and_true, or_true, true_or, or_false, false_or, not_true_eq_false, not_false_eq_true, ↓reduceIte, eq_self, ne_eq, ti_eq, ti_le, ti_lt, ti_ite, Int32.reduceToInt, ta_add, ta_sub, ta_mul, ta_neg, ta_div]; omega)))) | with_reducible refine wi_bd2 ?_ | with_reducible refine wi_bd1 ?_ | with_reducible refine wi_bd3 ?_ | (with_reducible refine wi_some ?_; try dsimp only)))
    refine ⟨k, by omega, ?_, fr_tr j3 (fr_mn q2 fun a k q => Or.inl q)⟩
    unfold toF apO
    rw [bi_c (f' := fun A => apR A (rw3 (e.1 sa 0) 0 0)) fun A hA => by rw [js.2 A hA]]
    exact q1
  · have kxc : ix_ix z 20 ca (nI k) := ⟨hcz, by rw [hck], by rw [hck]; exact (ni_vp (by show K < _; omega)).mpr ⟨by rw [ti_le]; simp only [Int32.reduceToInt]; omega, by rw [ti_lt, ni_ofNat (by omega)]; show (nI k).toInt < (K : Int); omega⟩⟩
    have ecd : e.1 ca k = cdT (T k) := by rw [j3.1 _ _ (by unfold fL_C; omega)]; exact hcd k (by omega)
    -- the end of a step
    have fin : ∀ (fr : Nat) (v : Int32) (e2 : ix_D2), fr < K + 1 → pD T (k + 1) = fr + 1 → CSL A0 e2.1 (toT T o (k + 1)).1 (k + 1) [] → (∀ i, i < fr → e2.1 sa i = e.1 sa i) → okJ (toT T o (k + 1)).1 v → (∀ A, (toT T o (k + 1)).1 = some A → v = (toT T o (k + 1)).2 fr) → (∀ i, i < fr → (toT T o (k + 1)).2 i = (toT T o k).2 i) → gr_ (toT T o k).1 (toT T o (k + 1)).1 → fr < pD T k + 1 → fr_ok (fun a k => fL_C a k ∨ a = sa) c e2 → wp_t (f_X10_layInto_162 n z rec rc 51 (nI fr) (nI k) v e2) (fun c' => ∃ m, m ≤ 60 ∧ CSL A0 c'.1 (toF T K o) m [] ∧ fr_ok (fun a k => fL_C a k ∨ a = sa) c c') := by
      intro fr v e2 hfr hD1 w1 w2 w3 w4 w5 w6 w7 w8
      have kx := tc_x (i := fr) tc hfr
      have nf : ix_n (nI fr) = fr := nI_n (by omega)
      have ef : nI fr + 1 = nI (fr + 1) := nI_1 fr
      have eD : nI (fr + 1) = nI (pD T (k + 1)) := by rw [hD1]
      (repeat (first | with_reducible refine wi_ck k9 ?_ | with_reducible refine wi_r (k5) ?_ | with_reducible refine wi_ck kx ?_ | rw [nf] | rw [ef] | rw [e1] | rw [eD] | with_reducible refine wi_t (ly_o51 hz) ?_ | with_reducible refine wi_r (ly_r0_3 hz) ?_ | with_reducible refine wi_lt ?_ | (with_reducible refine wi_ifp ?_ ?_; (focus (first | omega | (simp (disch := (first | omega | (simp (disch := first | omega | (simp only [Int32.reduceToInt]; omega)) only [Int32.reduceToInt, ta_add, ta_sub, ta_mul, ta_neg, ta_div]; omega))) only [up_1, cp_1, rng_1, fn_1, dj_1, Nat.reduceEqDiff, false_and, and_false, true_and, and_true, or_true, true_or, or_false, false_or, not_true_eq_false, not_false_eq_true, ↓reduceIte, eq_self, ne_eq, ti_eq, ti_le, ti_lt, ti_ite, Int32.reduceToInt, ta_add, ta_sub, ta_mul, ta_neg, ta_div]; done) | (simp (disch := (first | omega | (simp (disch := first | omega | (simp only [Int32.reduceToInt]; omega)) only [Int32.reduceToInt, ta_add, ta_sub, ta_mul, ta_neg, ta_div]; omega))) only [up_1, cp_1, rng_1, fn_1, dj_1, Nat.reduceEqDiff, false_and, and_false, true_and, and_true, or_true, true_or, or_false, false_or, not_true_eq_false, not_false_eq_true, ↓reduceIte, eq_self, ne_eq, ti_eq, ti_le, ti_lt, ti_ite, Int32.reduceToInt, ta_add, ta_sub, ta_mul, ta_neg, ta_div]; omega)))) | (with_reducible refine wi_ifn ?_ ?_; (focus (first | omega | (simp (disch := (first | omega | (simp (disch := first | omega | (simp only [Int32.reduceToInt]; omega)) only [Int32.reduceToInt, ta_add, ta_sub, ta_mul, ta_neg, ta_div]; omega))) only [up_1, cp_1, rng_1, fn_1, dj_1, Nat.reduceEqDiff, false_and, and_false, true_and, and_true, or_true, true_or, or_false, false_or, not_true_eq_false, not_false_eq_true, ↓reduceIte, eq_self, ne_eq, ti_eq, ti_le, ti_lt, ti_ite, Int32.reduceToInt, ta_add, ta_sub, ta_mul, ta_neg, ta_div]; done) | (simp (disch := (first | omega | (simp (disch := first | omega | (simp only [Int32.reduceToInt]; omega)) only [Int32.reduceToInt, ta_add, ta_sub, ta_mul, ta_neg, ta_div]; omega))) only [up_1, cp_1, rng_1, fn_1, dj_1, Nat.reduceEqDiff, false_and, and_false, true_and, and_true, or_true, true_or, or_false, false_or, not_true_eq_false, not_false_eq_true, ↓reduceIte, eq_self, ne_eq, ti_eq, ti_le, ti_lt, ti_ite, Int32.reduceToInt, ta_add, ta_sub, ta_mul, ta_neg, ta_div]; omega)))) | (with_reducible refine wi_ck ?_ ?_; (focus (first | omega | (simp (disch := (first | omega | (simp (disch := first | omega | (simp only [Int32.reduceToInt]; omega)) only [Int32.reduceToInt, ta_add, ta_sub, ta_mul, ta_neg, ta_div]; omega))) only [up_1, cp_1, rng_1, fn_1, dj_1, Nat.reduceEqDiff, false_and, and_false, true_and, and_true, or_true, true_or, or_false, false_or, not_true_eq_false, not_false_eq_true, ↓reduceIte, eq_self, ne_eq, ti_eq, ti_le, ti_lt, ti_ite, Int32.reduceToInt, ta_add, ta_sub, ta_mul, ta_neg, ta_div]; done) | (simp (disch := (first | omega | (simp (disch := first | omega | (simp only [Int32.reduceToInt]; omega)) only [Int32.reduceToInt, ta_add, ta_sub, ta_mul, ta_neg, ta_div]; omega))) only [up_1, cp_1, rng_1, fn_1, dj_1, Nat.reduceEqDiff, false_and, and_false, true_and, and_true, or_true, true_or, or_false, false_or, not_true_eq_false, not_false_eq_true, ↓reduceIte, eq_self, ne_eq, ti_eq, ti_le, ti_lt, ti_ite, Int32.reduceToInt, ta_add, ta_sub, ta_mul, ta_neg, ta_div]; omega)))) | with_reducible refine wi_bd2 ?_ | with_reducible refine wi_bd1 ?_ | with_reducible refine wi_bd3 ?_ | (with_reducible refine wi_some ?_; try dsimp only) | unfold f_X10_layInto_162))
      refine ih _ _ _ ⟨k + 1, by omega, rfl, rfl, CSL_f w1 (fun a j ha => by rw [up_1, if_neg (by omega)]), fun i hi => ?_, fr_tr w8 (fr_di fr_rf (Or.inr rfl))⟩ (by rw [n1, n0]; omega)
      by_cases ci : i = fr
      · rw [ci, up_1, if_pos ⟨rfl, rfl⟩]; exact ⟨w3, w4⟩
      · rw [up_1, if_neg (by omega), w2 i (by omega)]
        have q := j2 i (by omega)
        exact ⟨okJ_g q.1 w6, fun A hA => by
          obtain ⟨B, hB, -⟩ := w6 A hA
          rw [w5 i (by omega)]; exact q.2 B hB⟩
    rcases hT k (by omega) with ⟨t4, tv1, tv2⟩ | ⟨ts, tm1, tm8, tmD, t2⟩
    · have ecn : cdT (T k) = if (T k).2.2.1 % 2 = 1 then -(T k).2.2.2 else (T k).2.2.2 := by unfold cdT; rw [if_pos t4]
      have hok : okJ o (cdT (T k)) := by
        rw [ecn]
        split
        · exact okJ_n (hv k (by omega) t4)
        · exact hv k (by omega) t4
      have tT : toT T o (k + 1) = ((toT T o k).1, fun i => if i = pD T k then cdT (T k) else (toT T o k).2 i) := by rw [toT, if_pos t4]
      have pk : pD T (k + 1) = pD T k + 1 := by rw [pD, if_pos t4]
      have lt : cdT (T k) < 10000 := by
        rw [ecn, ti_lt]
        split
        · have : (-(T k).2.2.2).toInt = -(T k).2.2.2.toInt := by (focus (first | omega | (simp (disch := (first | omega | (simp (disch := first | omega | (simp only [Int32.reduceToInt]; omega)) only [Int32.reduceToInt, ta_add, ta_sub, ta_mul, ta_neg, ta_div]; omega))) only [up_1, cp_1, rng_1, fn_1, dj_1, Nat.reduceEqDiff, false_and, and_false, true_and, and_true, or_true, true_or, or_false, false_or, not_true_eq_false, not_false_eq_true, ↓reduceIte, eq_self, ne_eq, ti_eq, ti_le, ti_lt, ti_ite, Int32.reduceToInt, ta_add, ta_sub, ta_mul, ta_neg, ta_div]; done) | (simp (disch := (first | omega | (simp (disch := first | omega | (simp only [Int32.reduceToInt]; omega)) only [Int32.reduceToInt, ta_add, ta_sub, ta_mul, ta_neg, ta_div]; omega))) only [up_1, cp_1, rng_1, fn_1, dj_1, Nat.reduceEqDiff, false_and, and_false, true_and, and_true, or_true, true_or, or_false, false_or, not_true_eq_false, not_false_eq_true, ↓reduceIte, eq_self, ne_eq, ti_eq, ti_le, ti_lt, ti_ite, Int32.reduceToInt, ta_add, ta_sub, ta_mul, ta_neg, ta_div]; omega)))
          rw [this]; simp only [Int32.reduceToInt]; omega
        · simp only [Int32.reduceToInt]; omega
      (repeat (first | with_reducible refine wi_ck k9 ?_ | with_reducible refine wi_r (hca) ?_ | with_reducible refine wi_ck ka ?_ | with_reducible refine wi_ck kxc ?_ | rw [n0] | rw [ecd] | with_reducible refine wi_ifp lt ?_ | with_reducible refine wi_t (ly_o51 hz) ?_ | with_reducible refine wi_r (ly_r0_3 hz) ?_ | with_reducible refine wi_lt ?_ | (with_reducible refine wi_ifp ?_ ?_; (focus (first | omega | (simp (disch := (first | omega | (simp (disch := first | omega | (simp only [Int32.reduceToInt]; omega)) only [Int32.reduceToInt, ta_add, ta_sub, ta_mul, ta_neg, ta_div]; omega))) only [up_1, cp_1, rng_1, fn_1, dj_1, Nat.reduceEqDiff, false_and, and_false, true_and, and_true, or_true, true_or, or_false, false_or, not_true_eq_false, not_false_eq_true, ↓reduceIte, eq_self, ne_eq, ti_eq, ti_le, ti_lt, ti_ite, Int32.reduceToInt, ta_add, ta_sub, ta_mul, ta_neg, ta_div]; done) | (simp (disch := (first | omega | (simp (disch := first | omega | (simp only [Int32.reduceToInt]; omega)) only [Int32.reduceToInt, ta_add, ta_sub, ta_mul, ta_neg, ta_div]; omega))) only [up_1, cp_1, rng_1, fn_1, dj_1, Nat.reduceEqDiff, false_and, and_false, true_and, and_true, or_true, true_or, or_false, false_or, not_true_eq_false, not_false_eq_true, ↓reduceIte, eq_self, ne_eq, ti_eq, ti_le, ti_lt, ti_ite, Int32.reduceToInt, ta_add, ta_sub, ta_mul, ta_neg, ta_div]; omega)))) | (with_reducible refine wi_ifn ?_ ?_; (focus (first | omega | (simp (disch := (first | omega | (simp (disch := first | omega | (simp only [Int32.reduceToInt]; omega)) only [Int32.reduceToInt, ta_add, ta_sub, ta_mul, ta_neg, ta_div]; omega))) only [up_1, cp_1, rng_1, fn_1, dj_1, Nat.reduceEqDiff, false_and, and_false, true_and, and_true, or_true, true_or, or_false, false_or, not_true_eq_false, not_false_eq_true, ↓reduceIte, eq_self, ne_eq, ti_eq, ti_le, ti_lt, ti_ite, Int32.reduceToInt, ta_add, ta_sub, ta_mul, ta_neg, ta_div]; done) | (simp (disch := (first | omega | (simp (disch := first | omega | (simp only [Int32.reduceToInt]; omega)) only [Int32.reduceToInt, ta_add, ta_sub, ta_mul, ta_neg, ta_div]; omega))) only [up_1, cp_1, rng_1, fn_1, dj_1, Nat.reduceEqDiff, false_and, and_false, true_and, and_true, or_true, true_or, or_false, false_or, not_true_eq_false, not_false_eq_true, ↓reduceIte, eq_self, ne_eq, ti_eq, ti_le, ti_lt, ti_ite, Int32.reduceToInt, ta_add, ta_sub, ta_mul, ta_neg, ta_div]; omega)))) | (with_reducible refine wi_ck ?_ ?_; (focus (first | omega | (simp (disch := (first | omega | (simp (disch := first | omega | (simp only [Int32.reduceToInt]; omega)) only [Int32.reduceToInt, ta_add, ta_sub, ta_mul, ta_neg, ta_div]; omega))) only [up_1, cp_1, rng_1, fn_1, dj_1, Nat.reduceEqDiff, false_and, and_false, true_and, and_true, or_true, true_or, or_false, false_or, not_true_eq_false, not_false_eq_true, ↓reduceIte, eq_self, ne_eq, ti_eq, ti_le, ti_lt, ti_ite, Int32.reduceToInt, ta_add, ta_sub, ta_mul, ta_neg, ta_div]; done) | (simp (disch := (first | omega | (simp (disch := first | omega | (simp only [Int32.reduceToInt]; omega)) only [Int32.reduceToInt, ta_add, ta_sub, ta_mul, ta_neg, ta_div]; omega))) only [up_1, cp_1, rng_1, fn_1, dj_1, Nat.reduceEqDiff, false_and, and_false, true_and, and_true, or_true, true_or, or_false, false_or, not_true_eq_false, not_false_eq_true, ↓reduceIte, eq_self, ne_eq, ti_eq, ti_le, ti_lt, ti_ite, Int32.reduceToInt, ta_add, ta_sub, ta_mul, ta_neg, ta_div]; omega)))) | with_reducible refine wi_bd2 ?_ | with_reducible refine wi_bd1 ?_ | with_reducible refine wi_bd3 ?_ | (with_reducible refine wi_some ?_; try dsimp only)))
      refine fin (pD T k) _ e (by omega) pk (by rw [tT]; exact CSL_m j1 (by omega)) (fun i hi => rfl) (by rw [tT]; exact okJ_g hok (gr_to k)) (fun A hA => by rw [tT]; exact (if_pos rfl).symm) (fun i hi => by rw [tT]; exact if_neg (by omega)) (by rw [tT]; exact gr_r) (by omega) j3
    · have ne4 : ¬ (T k).1 = 4 := by omega
      obtain ⟨s, hs⟩ : ∃ s, s = (T k).1 := ⟨_, rfl⟩
      obtain ⟨m, hm⟩ : ∃ m, m = (T k).2.1 := ⟨_, rfl⟩
      obtain ⟨b, hb⟩ : ∃ b, b = (T k).2.2.1 % 2 := ⟨_, rfl⟩
      obtain ⟨D, hDD⟩ : ∃ D, D = pD T k := ⟨_, rfl⟩
      have hb2 : b < 2 := by omega
      have ecn : cdT (T k) = nI (10000 + 1000 * s + 10 * m + b) := by unfold cdT; rw [if_neg ne4, hs, hm, hb]
      have pk : pD T (k + 1) = D - m + 1 := by rw [pD, if_neg ne4]; omega
      rw [← hs] at ts t2
      rw [← hm] at tm1 tm8 tmD t2
      rw [← hDD] at tmD hDk j2
      obtain ⟨d1, d2, d3, d4⟩ := cd_e ts tm8 hb2
      have emx := mx_d (D := D) tmD (by omega)
      obtain ⟨⟨zz, e2⟩, E2, q1, q2, q3, q4, q5⟩ := mkC (n := n) hz j1 (by omega)
      dsimp only at q1 q2 q3 q4 q5
      have hzz : ∀ A', (toT T o k).1.bind nwN = some A' → zz = nI A'.1 := fun A' hA => (q5 A' hA).1
      have okz : okJ ((toT T o k).1.bind nwN) zz := okJ_s hzz (CSL_w j1)
      have tT : toT T o (k + 1) = (opT s (fun i => (toT T o k).2 (D - m + i)) m (nmO ((toT T o k).1.bind nwN)) ((toT T o k).1.bind nwN), fun i => if i = D - m then (if b = 1 then -(nmO ((toT T o k).1.bind nwN)) else nmO ((toT T o k).1.bind nwN)) else (toT T o k).2 i) := by rw [toT, if_neg ne4, ← hs, ← hm, ← hb, ← hDD]
      have es2 : ∀ i, e2.1 sa i = e.1 sa i := fun i => fLC_s q2 k19 i
      have oks : ∀ i, i < m → okJ ((toT T o k).1.bind nwN) (e2.1 sa (D - m + i)) := fun i hi => by rw [es2]; exact okJ_g (j2 _ (by omega)).1 gr_n
      have eop : opT s (fun i => e2.1 sa (D - m + i)) m zz ((toT T o k).1.bind nwN) = (toT T o (k + 1)).1 := by
        rw [tT]
        refine opT_c t2 fun A hA => ⟨fun i hi => ?_, nmO_e hzz A hA⟩
        obtain ⟨B, hB, -⟩ := gr_n (o := (toT T o k).1) A hA
        show e2.1 sa (D - m + i) = (toT T o k).2 (D - m + i)
        rw [es2]; exact (j2 _ (by omega)).2 B hB
      have hg1 : gr_ (toT T o k).1 (toT T o (k + 1)).1 := by rw [tT]; exact gr_t gr_n gr_op
      have okz2 : okJ (toT T o (k + 1)).1 zz := by rw [← eop]; exact okJ_g okz gr_op
      have hzz2 : ∀ A, (toT T o (k + 1)).1 = some A → zz = nmO ((toT T o k).1.bind nwN) := fun A hA => by
        rw [← eop] at hA
        obtain ⟨B, hB, -⟩ := gr_op A hA
        exact nmO_e hzz B hB
      have fin2 : ∀ e3 : ix_D2, CSL A0 e3.1 (toT T o (k + 1)).1 (k + 1) [] → fr_ok fL_C e2 e3 → wp_t (f_X10_layInto_143 n z rec rc 51 (nI (D - m)) (nI k) (nI (10000 + 1000 * s + 10 * m + b)) zz e3) (fun c' => ∃ m, m ≤ 60 ∧ CSL A0 c'.1 (toF T K o) m [] ∧ fr_ok (fun a k => fL_C a k ∨ a = sa) c c') := by
        intro e3 w1 w2
        unfold f_X10_layInto_143 f_X10_layInto_160
        rw [d3]
        have F3 : fr_ok (fun a k => fL_C a k ∨ a = sa) c e3 := fr_tr j3 (fr_mn (fr_tr q2 w2) fun a k q => Or.inl q)
        have es3 : ∀ i, i < D - m → e3.1 sa i = e.1 sa i := fun i _ => by rw [fLC_s w2 k19, es2]
        by_cases cb : b = 1
        · refine wi_ifp (by rw [cb]; rfl) ?_
          refine fin (D - m) _ e3 (by omega) pk w1 es3 (okJ_n okz2) (fun A hA => ?_) (fun i hi => by rw [tT]; exact if_neg (by omega)) hg1 (by omega) F3
          rw [hzz2 A hA, tT]
          show _ = if D - m = D - m then _ else _
          rw [if_pos rfl, if_pos cb]
        · refine wi_ifn (by rw [show b = 0 by omega]; decide) ?_
          refine fin (D - m) _ e3 (by omega) pk w1 es3 okz2 (fun A hA => ?_) (fun i hi => by rw [tT]; exact if_neg (by omega)) hg1 (by omega) F3
          rw [hzz2 A hA, tT]
          show _ = if D - m = D - m then _ else _
          rw [if_pos rfl, if_neg cb]
      have hfr : D - m + m ≤ K + 1 := by omega
      have s0 : s = 0 ∨ s = 1 ∨ s = 2 ∨ s = 3 := by omega
      rw [← hDD]
      rcases s0 with c0 | c0 | c0 | c0
      · obtain ⟨e3, E3, w1, w2⟩ := e_anC (n := n) (fr := D - m) (m := m) hz hn tc tm8 hfr q1 oks okz
        have w1' : CSL A0 e3.1 (toT T o (k + 1)).1 (k + 1) [] := by rw [← eop]; unfold opT; rw [if_pos c0]; exact w1
        have z0 : nI s = 0 := by rw [c0]; rfl
        (repeat (first | with_reducible refine wi_ck k9 ?_ | with_reducible refine wi_r (hca) ?_ | with_reducible refine wi_ck ka ?_ | with_reducible refine wi_ck kxc ?_ | rw [n0] | rw [ecd] | rw [ecn] | with_reducible refine wi_ifn d4 ?_ | (with_reducible refine wi_e (E2) ?_; try dsimp only) | rw [d1] | rw [d2] | rw [emx] | with_reducible refine wi_ifp z0 ?_ | (with_reducible refine wi_e (E3) ?_; try dsimp only) | with_reducible refine wi_t (ly_o51 hz) ?_ | with_reducible refine wi_r (ly_r0_3 hz) ?_ | with_reducible refine wi_lt ?_ | (with_reducible refine wi_ifp ?_ ?_; (focus (first | omega | (simp (disch := (first | omega | (simp (disch := first | omega | (simp only [Int32.reduceToInt]; omega)) only [Int32.reduceToInt, ta_add, ta_sub, ta_mul, ta_neg, ta_div]; omega))) only [up_1, cp_1, rng_1, fn_1, dj_1, Nat.reduceEqDiff, false_and, and_false, true_and, and_true, or_true, true_or, or_false, false_or, not_true_eq_false, not_false_eq_true, ↓reduceIte, eq_self, ne_eq, ti_eq, ti_le, ti_lt, ti_ite, Int32.reduceToInt, ta_add, ta_sub, ta_mul, ta_neg, ta_div]; done) | (simp (disch := (first | omega | (simp (disch := first | omega | (simp only [Int32.reduceToInt]; omega)) only [Int32.reduceToInt, ta_add, ta_sub, ta_mul, ta_neg, ta_div]; omega))) only [up_1, cp_1, rng_1, fn_1, dj_1, Nat.reduceEqDiff, false_and, and_false, true_and, and_true, or_true, true_or, or_false, false_or, not_true_eq_false, not_false_eq_true, ↓reduceIte, eq_self, ne_eq, ti_eq, ti_le, ti_lt, ti_ite, Int32.reduceToInt, ta_add, ta_sub, ta_mul, ta_neg, ta_div]; omega)))) | (with_reducible refine wi_ifn ?_ ?_; (focus (first | omega | (simp (disch := (first | omega | (simp (disch := first | omega | (simp only [Int32.reduceToInt]; omega)) only [Int32.reduceToInt, ta_add, ta_sub, ta_mul, ta_neg, ta_div]; omega))) only [up_1, cp_1, rng_1, fn_1, dj_1, Nat.reduceEqDiff, false_and, and_false, true_and, and_true, or_true, true_or, or_false, false_or, not_true_eq_false, not_false_eq_true, ↓reduceIte, eq_self, ne_eq, ti_eq, ti_le, ti_lt, ti_ite, Int32.reduceToInt, ta_add, ta_sub, ta_mul, ta_neg, ta_div]; done) | (simp (disch := (first | omega | (simp (disch := first | omega | (simp only [Int32.reduceToInt]; omega)) only [Int32.reduceToInt, ta_add, ta_sub, ta_mul, ta_neg, ta_div]; omega))) only [up_1, cp_1, rng_1, fn_1, dj_1, Nat.reduceEqDiff, false_and, and_false, true_and, and_true, or_true, true_or, or_false, false_or, not_true_eq_false, not_false_eq_true, ↓reduceIte, eq_self, ne_eq, ti_eq, ti_le, ti_lt, ti_ite, Int32.reduceToInt, ta_add, ta_sub, ta_mul, ta_neg, ta_div]; omega)))) | (with_reducible refine wi_ck ?_ ?_; (focus (first | omega | (simp (disch := (first | omega | (simp (disch := first | omega | (simp only [Int32.reduceToInt]; omega)) only [Int32.reduceToInt, ta_add, ta_sub, ta_mul, ta_neg, ta_div]; omega))) only [up_1, cp_1, rng_1, fn_1, dj_1, Nat.reduceEqDiff, false_and, and_false, true_and, and_true, or_true, true_or, or_false, false_or, not_true_eq_false, not_false_eq_true, ↓reduceIte, eq_self, ne_eq, ti_eq, ti_le, ti_lt, ti_ite, Int32.reduceToInt, ta_add, ta_sub, ta_mul, ta_neg, ta_div]; done) | (simp (disch := (first | omega | (simp (disch := first | omega | (simp only [Int32.reduceToInt]; omega)) only [Int32.reduceToInt, ta_add, ta_sub, ta_mul, ta_neg, ta_div]; omega))) only [up_1, cp_1, rng_1, fn_1, dj_1, Nat.reduceEqDiff, false_and, and_false, true_and, and_true, or_true, true_or, or_false, false_or, not_true_eq_false, not_false_eq_true, ↓reduceIte, eq_self, ne_eq, ti_eq, ti_le, ti_lt, ti_ite, Int32.reduceToInt, ta_add, ta_sub, ta_mul, ta_neg, ta_div]; omega)))) | with_reducible refine wi_bd2 ?_ | with_reducible refine wi_bd1 ?_ | with_reducible refine wi_bd3 ?_ | (with_reducible refine wi_some ?_; try dsimp only) | unfold f_X10_partsOf | unfold f_X10_signOf))
        exact fin2 e3 w1' w2
      · obtain ⟨e3, E3, w1, w2⟩ := e_orC (n := n) (fr := D - m) (m := m) hz hn tc tm8 hfr q1 oks okz
        have w1' : CSL A0 e3.1 (toT T o (k + 1)).1 (k + 1) [] := by rw [← eop]; unfold opT; rw [if_neg (by omega), if_pos c0]; exact w1
        have z0 : ¬ nI s = 0 := by rw [c0]; decide
        have z1 : nI s = 1 := by rw [c0]; rfl
        (repeat (first | with_reducible refine wi_ck k9 ?_ | with_reducible refine wi_r (hca) ?_ | with_reducible refine wi_ck ka ?_ | with_reducible refine wi_ck kxc ?_ | rw [n0] | rw [ecd] | rw [ecn] | with_reducible refine wi_ifn d4 ?_ | (with_reducible refine wi_e (E2) ?_; try dsimp only) | rw [d1] | rw [d2] | rw [emx] | with_reducible refine wi_ifn z0 ?_ | with_reducible refine wi_ifp z1 ?_ | (with_reducible refine wi_e (E3) ?_; try dsimp only) | with_reducible refine wi_t (ly_o51 hz) ?_ | with_reducible refine wi_r (ly_r0_3 hz) ?_ | with_reducible refine wi_lt ?_ | (with_reducible refine wi_ifp ?_ ?_; (focus (first | omega | (simp (disch := (first | omega | (simp (disch := first | omega | (simp only [Int32.reduceToInt]; omega)) only [Int32.reduceToInt, ta_add, ta_sub, ta_mul, ta_neg, ta_div]; omega))) only [up_1, cp_1, rng_1, fn_1, dj_1, Nat.reduceEqDiff, false_and, and_false, true_and, and_true, or_true, true_or, or_false, false_or, not_true_eq_false, not_false_eq_true, ↓reduceIte, eq_self, ne_eq, ti_eq, ti_le, ti_lt, ti_ite, Int32.reduceToInt, ta_add, ta_sub, ta_mul, ta_neg, ta_div]; done) | (simp (disch := (first | omega | (simp (disch := first | omega | (simp only [Int32.reduceToInt]; omega)) only [Int32.reduceToInt, ta_add, ta_sub, ta_mul, ta_neg, ta_div]; omega))) only [up_1, cp_1, rng_1, fn_1, dj_1, Nat.reduceEqDiff, false_and, and_false, true_and, and_true, or_true, true_or, or_false, false_or, not_true_eq_false, not_false_eq_true, ↓reduceIte, eq_self, ne_eq, ti_eq, ti_le, ti_lt, ti_ite, Int32.reduceToInt, ta_add, ta_sub, ta_mul, ta_neg, ta_div]; omega)))) | (with_reducible refine wi_ifn ?_ ?_; (focus (first | omega | (simp (disch := (first | omega | (simp (disch := first | omega | (simp only [Int32.reduceToInt]; omega)) only [Int32.reduceToInt, ta_add, ta_sub, ta_mul, ta_neg, ta_div]; omega))) only [up_1, cp_1, rng_1, fn_1, dj_1, Nat.reduceEqDiff, false_and, and_false, true_and, and_true, or_true, true_or, or_false, false_or, not_true_eq_false, not_false_eq_true, ↓reduceIte, eq_self, ne_eq, ti_eq, ti_le, ti_lt, ti_ite, Int32.reduceToInt, ta_add, ta_sub, ta_mul, ta_neg, ta_div]; done) | (simp (disch := (first | omega | (simp (disch := first | omega | (simp only [Int32.reduceToInt]; omega)) only [Int32.reduceToInt, ta_add, ta_sub, ta_mul, ta_neg, ta_div]; omega))) only [up_1, cp_1, rng_1, fn_1, dj_1, Nat.reduceEqDiff, false_and, and_false, true_and, and_true, or_true, true_or, or_false, false_or, not_true_eq_false, not_false_eq_true, ↓reduceIte, eq_self, ne_eq, ti_eq, ti_le, ti_lt, ti_ite, Int32.reduceToInt, ta_add, ta_sub, ta_mul, ta_neg, ta_div]; omega)))) | (with_reducible refine wi_ck ?_ ?_; (focus (first | omega | (simp (disch := (first | omega | (simp (disch := first | omega | (simp only [Int32.reduceToInt]; omega)) only [Int32.reduceToInt, ta_add, ta_sub, ta_mul, ta_neg, ta_div]; omega))) only [up_1, cp_1, rng_1, fn_1, dj_1, Nat.reduceEqDiff, false_and, and_false, true_and, and_true, or_true, true_or, or_false, false_or, not_true_eq_false, not_false_eq_true, ↓reduceIte, eq_self, ne_eq, ti_eq, ti_le, ti_lt, ti_ite, Int32.reduceToInt, ta_add, ta_sub, ta_mul, ta_neg, ta_div]; done) | (simp (disch := (first | omega | (simp (disch := first | omega | (simp only [Int32.reduceToInt]; omega)) only [Int32.reduceToInt, ta_add, ta_sub, ta_mul, ta_neg, ta_div]; omega))) only [up_1, cp_1, rng_1, fn_1, dj_1, Nat.reduceEqDiff, false_and, and_false, true_and, and_true, or_true, true_or, or_false, false_or, not_true_eq_false, not_false_eq_true, ↓reduceIte, eq_self, ne_eq, ti_eq, ti_le, ti_lt, ti_ite, Int32.reduceToInt, ta_add, ta_sub, ta_mul, ta_neg, ta_div]; omega)))) | with_reducible refine wi_bd2 ?_ | with_reducible refine wi_bd1 ?_ | with_reducible refine wi_bd3 ?_ | (with_reducible refine wi_some ?_; try dsimp only) | unfold f_X10_partsOf | unfold f_X10_signOf))
        exact fin2 e3 w1' w2
      · have m2 := t2 c0
        obtain ⟨e3, E3, w1, w2⟩ := e_thC (n := n) (a := e2.1 sa (D - m)) (b := e2.1 sa (D - m + 1)) hz hn q1 (oks 0 (by omega)) (oks 1 (by omega)) okz
        have w1' : CSL A0 e3.1 (toT T o (k + 1)).1 (k + 1) [] := by rw [← eop]; unfold opT; rw [if_neg (by omega), if_neg (by omega), if_pos c0]; exact w1
        have z0 : ¬ nI s = 0 := by rw [c0]; decide
        have z1 : ¬ nI s = 1 := by rw [c0]; decide
        have z2 : nI s = 2 := by rw [c0]; rfl
        have kx1 := tc_x (i := D - m) tc (by omega)
        have kx2 := tc_x (i := D - m + 1) tc (by omega)
        have nf : ix_n (nI (D - m)) = D - m := nI_n (by omega)
        have nf1 : ix_n (nI (D - m + 1)) = D - m + 1 := nI_n (by omega)
        have ef : nI (D - m) + 1 = nI (D - m + 1) := nI_1 (D - m)
        (repeat (first | with_reducible refine wi_ck k9 ?_ | with_reducible refine wi_r (hca) ?_ | with_reducible refine wi_ck ka ?_ | with_reducible refine wi_ck kxc ?_ | rw [n0] | rw [ecd] | rw [ecn] | with_reducible refine wi_ifn d4 ?_ | (with_reducible refine wi_e (E2) ?_; try dsimp only) | rw [d1] | rw [d2] | rw [emx] | with_reducible refine wi_ifn z0 ?_ | with_reducible refine wi_ifn z1 ?_ | with_reducible refine wi_ifp z2 ?_ | with_reducible refine wi_r (k5) ?_ | rw [ef] | with_reducible refine wi_ck kx1 ?_ | with_reducible refine wi_ck kx2 ?_ | rw [nf] | rw [nf1] | (with_reducible refine wi_e (E3) ?_; try dsimp only) | with_reducible refine wi_t (ly_o51 hz) ?_ | with_reducible refine wi_r (ly_r0_3 hz) ?_ | with_reducible refine wi_lt ?_ | (with_reducible refine wi_ifp ?_ ?_; (focus (first | omega | (simp (disch := (first | omega | (simp (disch := first | omega | (simp only [Int32.reduceToInt]; omega)) only [Int32.reduceToInt, ta_add, ta_sub, ta_mul, ta_neg, ta_div]; omega))) only [up_1, cp_1, rng_1, fn_1, dj_1, Nat.reduceEqDiff, false_and, and_false, true_and, and_true, or_true, true_or, or_false, false_or, not_true_eq_false, not_false_eq_true, ↓reduceIte, eq_self, ne_eq, ti_eq, ti_le, ti_lt, ti_ite, Int32.reduceToInt, ta_add, ta_sub, ta_mul, ta_neg, ta_div]; done) | (simp (disch := (first | omega | (simp (disch := first | omega | (simp only [Int32.reduceToInt]; omega)) only [Int32.reduceToInt, ta_add, ta_sub, ta_mul, ta_neg, ta_div]; omega))) only [up_1, cp_1, rng_1, fn_1, dj_1, Nat.reduceEqDiff, false_and, and_false, true_and, and_true, or_true, true_or, or_false, false_or, not_true_eq_false, not_false_eq_true, ↓reduceIte, eq_self, ne_eq, ti_eq, ti_le, ti_lt, ti_ite, Int32.reduceToInt, ta_add, ta_sub, ta_mul, ta_neg, ta_div]; omega)))) | (with_reducible refine wi_ifn ?_ ?_; (focus (first | omega | (simp (disch := (first | omega | (simp (disch := first | omega | (simp only [Int32.reduceToInt]; omega)) only [Int32.reduceToInt, ta_add, ta_sub, ta_mul, ta_neg, ta_div]; omega))) only [up_1, cp_1, rng_1, fn_1, dj_1, Nat.reduceEqDiff, false_and, and_false, true_and, and_true, or_true, true_or, or_false, false_or, not_true_eq_false, not_false_eq_true, ↓reduceIte, eq_self, ne_eq, ti_eq, ti_le, ti_lt, ti_ite, Int32.reduceToInt, ta_add, ta_sub, ta_mul, ta_neg, ta_div]; done) | (simp (disch := (first | omega | (simp (disch := first | omega | (simp only [Int32.reduceToInt]; omega)) only [Int32.reduceToInt, ta_add, ta_sub, ta_mul, ta_neg, ta_div]; omega))) only [up_1, cp_1, rng_1, fn_1, dj_1, Nat.reduceEqDiff, false_and, and_false, true_and, and_true, or_true, true_or, or_false, false_or, not_true_eq_false, not_false_eq_true, ↓reduceIte, eq_self, ne_eq, ti_eq, ti_le, ti_lt, ti_ite, Int32.reduceToInt, ta_add, ta_sub, ta_mul, ta_neg, ta_div]; omega)))) | (with_reducible refine wi_ck ?_ ?_; (focus (first | omega | (simp (disch := (first | omega | (simp (disch := first | omega | (simp only [Int32.reduceToInt]; omega)) only [Int32.reduceToInt, ta_add, ta_sub, ta_mul, ta_neg, ta_div]; omega))) only [up_1, cp_1, rng_1, fn_1, dj_1, Nat.reduceEqDiff, false_and, and_false, true_and, and_true, or_true, true_or, or_false, false_or, not_true_eq_false, not_false_eq_true, ↓reduceIte, eq_self, ne_eq, ti_eq, ti_le, ti_lt, ti_ite, Int32.reduceToInt, ta_add, ta_sub, ta_mul, ta_neg, ta_div]; done) | (simp (disch := (first | omega | (simp (disch := first | omega | (simp only [Int32.reduceToInt]; omega)) only [Int32.reduceToInt, ta_add, ta_sub, ta_mul, ta_neg, ta_div]; omega))) only [up_1, cp_1, rng_1, fn_1, dj_1, Nat.reduceEqDiff, false_and, and_false, true_and, and_true, or_true, true_or, or_false, false_or, not_true_eq_false, not_false_eq_true, ↓reduceIte, eq_self, ne_eq, ti_eq, ti_le, ti_lt, ti_ite, Int32.reduceToInt, ta_add, ta_sub, ta_mul, ta_neg, ta_div]; omega)))) | with_reducible refine wi_bd2 ?_ | with_reducible refine wi_bd1 ?_ | with_reducible refine wi_bd3 ?_ | (with_reducible refine wi_some ?_; try dsimp only) | unfold f_X10_partsOf | unfold f_X10_signOf))
        exact fin2 e3 w1' w2
      · obtain ⟨e3, E3, w1, w2⟩ := e_juC (n := n) (fr := D - m) (m := m) hz hn tc tm8 hfr q1 oks okz
        have w1' : CSL A0 e3.1 (toT T o (k + 1)).1 (k + 1) [] := by rw [← eop]; unfold opT; rw [if_neg (by omega), if_neg (by omega), if_neg (by omega)]; exact w1
        have z0 : ¬ nI s = 0 := by rw [c0]; decide
        have z1 : ¬ nI s = 1 := by rw [c0]; decide
        have z2 : ¬ nI s = 2 := by rw [c0]; decide
        (repeat (first | with_reducible refine wi_ck k9 ?_ | with_reducible refine wi_r (hca) ?_ | with_reducible refine wi_ck ka ?_ | with_reducible refine wi_ck kxc ?_ | rw [n0] | rw [ecd] | rw [ecn] | with_reducible refine wi_ifn d4 ?_ | (with_reducible refine wi_e (E2) ?_; try dsimp only) | rw [d1] | rw [d2] | rw [emx] | with_reducible refine wi_ifn z0 ?_ | with_reducible refine wi_ifn z1 ?_ | with_reducible refine wi_ifn z2 ?_ | (with_reducible refine wi_e (E3) ?_; try dsimp only) | with_reducible refine wi_t (ly_o51 hz) ?_ | with_reducible refine wi_r (ly_r0_3 hz) ?_ | with_reducible refine wi_lt ?_ | (with_reducible refine wi_ifp ?_ ?_; (focus (first | omega | (simp (disch := (first | omega | (simp (disch := first | omega | (simp only [Int32.reduceToInt]; omega)) only [Int32.reduceToInt, ta_add, ta_sub, ta_mul, ta_neg, ta_div]; omega))) only [up_1, cp_1, rng_1, fn_1, dj_1, Nat.reduceEqDiff, false_and, and_false, true_and, and_true, or_true, true_or, or_false, false_or, not_true_eq_false, not_false_eq_true, ↓reduceIte, eq_self, ne_eq, ti_eq, ti_le, ti_lt, ti_ite, Int32.reduceToInt, ta_add, ta_sub, ta_mul, ta_neg, ta_div]; done) | (simp (disch := (first | omega | (simp (disch := first | omega | (simp only [Int32.reduceToInt]; omega)) only [Int32.reduceToInt, ta_add, ta_sub, ta_mul, ta_neg, ta_div]; omega))) only [up_1, cp_1, rng_1, fn_1, dj_1, Nat.reduceEqDiff, false_and, and_false, true_and, and_true, or_true, true_or, or_false, false_or, not_true_eq_false, not_false_eq_true, ↓reduceIte, eq_self, ne_eq, ti_eq, ti_le, ti_lt, ti_ite, Int32.reduceToInt, ta_add, ta_sub, ta_mul, ta_neg, ta_div]; omega)))) | (with_reducible refine wi_ifn ?_ ?_; (focus (first | omega | (simp (disch := (first | omega | (simp (disch := first | omega | (simp only [Int32.reduceToInt]; omega)) only [Int32.reduceToInt, ta_add, ta_sub, ta_mul, ta_neg, ta_div]; omega))) only [up_1, cp_1, rng_1, fn_1, dj_1, Nat.reduceEqDiff, false_and, and_false, true_and, and_true, or_true, true_or, or_false, false_or, not_true_eq_false, not_false_eq_true, ↓reduceIte, eq_self, ne_eq, ti_eq, ti_le, ti_lt, ti_ite, Int32.reduceToInt, ta_add, ta_sub, ta_mul, ta_neg, ta_div]; done) | (simp (disch := (first | omega | (simp (disch := first | omega | (simp only [Int32.reduceToInt]; omega)) only [Int32.reduceToInt, ta_add, ta_sub, ta_mul, ta_neg, ta_div]; omega))) only [up_1, cp_1, rng_1, fn_1, dj_1, Nat.reduceEqDiff, false_and, and_false, true_and, and_true, or_true, true_or, or_false, false_or, not_true_eq_false, not_false_eq_true, ↓reduceIte, eq_self, ne_eq, ti_eq, ti_le, ti_lt, ti_ite, Int32.reduceToInt, ta_add, ta_sub, ta_mul, ta_neg, ta_div]; omega)))) | (with_reducible refine wi_ck ?_ ?_; (focus (first | omega | (simp (disch := (first | omega | (simp (disch := first | omega | (simp only [Int32.reduceToInt]; omega)) only [Int32.reduceToInt, ta_add, ta_sub, ta_mul, ta_neg, ta_div]; omega))) only [up_1, cp_1, rng_1, fn_1, dj_1, Nat.reduceEqDiff, false_and, and_false, true_and, and_true, or_true, true_or, or_false, false_or, not_true_eq_false, not_false_eq_true, ↓reduceIte, eq_self, ne_eq, ti_eq, ti_le, ti_lt, ti_ite, Int32.reduceToInt, ta_add, ta_sub, ta_mul, ta_neg, ta_div]; done) | (simp (disch := (first | omega | (simp (disch := first | omega | (simp only [Int32.reduceToInt]; omega)) only [Int32.reduceToInt, ta_add, ta_sub, ta_mul, ta_neg, ta_div]; omega))) only [up_1, cp_1, rng_1, fn_1, dj_1, Nat.reduceEqDiff, false_and, and_false, true_and, and_true, or_true, true_or, or_false, false_or, not_true_eq_false, not_false_eq_true, ↓reduceIte, eq_self, ne_eq, ti_eq, ti_le, ti_lt, ti_ite, Int32.reduceToInt, ta_add, ta_sub, ta_mul, ta_neg, ta_div]; omega)))) | with_reducible refine wi_bd2 ?_ | with_reducible refine wi_bd1 ?_ | with_reducible refine wi_bd3 ?_ | (with_reducible refine wi_some ?_; try dsimp only) | unfold f_X10_partsOf | unfold f_X10_signOf))
        exact fin2 e3 w1' w2
end TLC

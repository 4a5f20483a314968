/-! TOLD: its cells made -/
section TLG
variable {n : Nat} {z z1 z' : ix_Z} {c d r c' : ix_D2} {v x w : Int32} {o : Option LA} {K k i N L LEN src : Nat} {f g it : Nat → Int32} {T T' : Nat → Nat × Nat × Nat × Int32}
theorem by_f (h1 : -128 ≤ v.toInt) (h2 : v.toInt ≤ 127) : fits .byte (.int v) = true := by
  unfold fits
  simp only [Bool.and_eq_true, decide_eq_true_eq]
  exact ⟨by rw [ti_le]; exact h1, by rw [ti_le]; exact h2⟩
theorem e_cpI (hs : src < z.2.2) (hk : z.2.1 src = (20, LEN)) (hL : LEN ≤ 64) (hN : N ≤ LEN) (hx : x.toInt = N) : ∃ d', f_J7_copyOf_59c91 n z src x d = some (some z.2.2, ix_zn z 20 N, d') ∧ (∀ a k, a ≠ z.2.2 → d'.1 a k = d.1 a k ∧ d'.2 a k = d.2 a k) ∧ ∀ j, j < N → d'.1 z.2.2 j = d.1 src j := by
  have ka : src < z.2.2 ∧ 20 ≤ (z.2.1 src).1 ∧ (z.2.1 src).1 < 26 := by rw [hk]; exact ⟨hs, Nat.le_of_ble_eq_true rfl, Nat.le_of_ble_eq_true rfl⟩
  have kl : (nI (z.2.1 src).2).toInt = LEN := by rw [hk]; exact nI_ti (by show LEN < _; omega)
  by_cases cN : N = LEN
  · have hq : x = nI (z.2.1 src).2 := Int32.toInt_inj.mp (by rw [kl, hx, cN])
    have kc : src < z.2.2 ∧ (z.2.1 src).1 = 20 ∧ (z.2.1 src).2 ≤ 64 := by rw [hk]; exact ⟨hs, rfl, hL⟩
    have e12 : (z.2.1 src).2 = N := by rw [hk, cN]
    refine ⟨ix_dc d src z.2.2, ?_, fun a k h => ⟨if_neg h, if_neg h⟩, fun j _ => if_pos rfl⟩
    rw [← wp_eq]
    unfold f_J7_copyOf_59c91
    refine wi_ck ka ?_
    refine wi_ifp hq ?_
    refine wi_ck kc ?_
    rw [e12]
    exact wi_some rfl
  · have hq : ¬ x = nI (z.2.1 src).2 := fun w => by
      have : x.toInt = LEN := by rw [w]; exact kl
      omega
    have nN : ix_n x = N := ni_k hx
    have kc : ¬ x < 0 ∧ ix_n x ≤ 64 := ⟨by rw [ti_lt, hx]; simp only [Int32.reduceToInt]; omega, by omega⟩
    have z2k : (ix_zn z 20 N).2.1 src = z.2.1 src := zn_k (by omega)
    have ka2 : src < (ix_zn z 20 N).2.2 ∧ 20 ≤ ((ix_zn z 20 N).2.1 src).1 ∧ ((ix_zn z 20 N).2.1 src).1 < 26 := by rw [z2k]; exact ⟨by rw [zn_n]; omega, ka.2⟩
    have emin : ix_min (nI ((ix_zn z 20 N).2.1 src).2) x = x := by
      unfold ix_min
      rw [if_pos (by rw [ti_lt, hx, z2k, kl]; omega)]
    have kcp : ix_cpk (ix_zn z 20 N) 20 src 0 z.2.2 0 x := ⟨by rw [zn_n]; omega, by rw [z2k, hk], by rw [zn_n]; omega, by rw [zn_s], by decide, by decide, kc.1, by rw [z2k, hk]; show 0 + ix_n _ ≤ LEN; omega, by rw [zn_s]; show 0 + ix_n _ ≤ N; omega⟩
    have n00 : ix_n (0 : Int32) = 0 := rfl
    refine ⟨ix_cpI (ix_dn d z.2.2) src z.2.2 0 0 N, ?_, fun a k h => ⟨?_, ?_⟩, fun j hj => ?_⟩
    · rw [← wp_eq]
      unfold f_J7_copyOf_59c91
      refine wi_ck ka ?_
      refine wi_ifn hq ?_
      refine wi_ck kc ?_
      rw [nN]
      refine wi_lt ?_
      refine wi_lt ?_
      refine wi_ck ka2 ?_
      rw [emin]
      refine wi_ck kcp ?_
      refine wi_lt ?_
      refine wi_some ?_
      rw [nN, n00]
    · rw [cpv_o (fun q => h q.1)]; exact dn_1 h
    · show (ix_dn d z.2.2).2 a k = d.2 a k
      exact dn_2 h
    · rw [cpv_i (by omega) (by omega), dn_1 (by omega), show 0 + (j - 0) = j by omega]
theorem e_cpB (hs : src < z.2.2) (hk : z.2.1 src = (21, LEN)) (hL : LEN ≤ 64) (hN : N ≤ LEN) (hx : x.toInt = N) (hb : ∀ j, j < LEN → -128 ≤ (d.1 src j).toInt ∧ (d.1 src j).toInt ≤ 127) : ∃ d', f_J7_copyOf_9075b n z src x d = some (some z.2.2, ix_zn z 21 N, d') ∧ (∀ a k, a ≠ z.2.2 → d'.1 a k = d.1 a k ∧ d'.2 a k = d.2 a k) ∧ ∀ j, j < N → d'.1 z.2.2 j = d.1 src j := by
  have ka : src < z.2.2 ∧ 20 ≤ (z.2.1 src).1 ∧ (z.2.1 src).1 < 26 := by rw [hk]; exact ⟨hs, Nat.le_of_ble_eq_true rfl, Nat.le_of_ble_eq_true rfl⟩
  have kl : (nI (z.2.1 src).2).toInt = LEN := by rw [hk]; exact nI_ti (by show LEN < _; omega)
  by_cases cN : N = LEN
  · have hq : x = nI (z.2.1 src).2 := Int32.toInt_inj.mp (by rw [kl, hx, cN])
    have kc : src < z.2.2 ∧ (z.2.1 src).1 = 21 ∧ (z.2.1 src).2 ≤ 64 := by rw [hk]; exact ⟨hs, rfl, hL⟩
    have e12 : (z.2.1 src).2 = N := by rw [hk, cN]
    refine ⟨ix_dc d src z.2.2, ?_, fun a k h => ⟨if_neg h, if_neg h⟩, fun j _ => if_pos rfl⟩
    rw [← wp_eq]
    unfold f_J7_copyOf_9075b
    refine wi_ck ka ?_
    refine wi_ifp hq ?_
    refine wi_ck kc ?_
    refine wi_ck (fun i hi => by rw [hk] at hi; exact by_f (hb i hi).1 (hb i hi).2) ?_
    rw [e12]
    exact wi_some rfl
  · have hq : ¬ x = nI (z.2.1 src).2 := fun w => by
      have : x.toInt = LEN := by rw [w]; exact kl
      omega
    have nN : ix_n x = N := ni_k hx
    have kc : ¬ x < 0 ∧ ix_n x ≤ 64 := ⟨by rw [ti_lt, hx]; simp only [Int32.reduceToInt]; omega, by omega⟩
    have z2k : (ix_zn z 21 N).2.1 src = z.2.1 src := zn_k (by omega)
    have ka2 : src < (ix_zn z 21 N).2.2 ∧ 20 ≤ ((ix_zn z 21 N).2.1 src).1 ∧ ((ix_zn z 21 N).2.1 src).1 < 26 := by rw [z2k]; exact ⟨by rw [zn_n]; omega, ka.2⟩
    have emin : ix_min (nI ((ix_zn z 21 N).2.1 src).2) x = x := by
      unfold ix_min
      rw [if_pos (by rw [ti_lt, hx, z2k, kl]; omega)]
    have kcp : ix_cpk (ix_zn z 21 N) 21 src 0 z.2.2 0 x := ⟨by rw [zn_n]; omega, by rw [z2k, hk], by rw [zn_n]; omega, by rw [zn_s], by decide, by decide, kc.1, by rw [z2k, hk]; show 0 + ix_n _ ≤ LEN; omega, by rw [zn_s]; show 0 + ix_n _ ≤ N; omega⟩
    have n00 : ix_n (0 : Int32) = 0 := rfl
    refine ⟨ix_cpI (ix_dn d z.2.2) src z.2.2 0 0 N, ?_, fun a k h => ⟨?_, ?_⟩, fun j hj => ?_⟩
    · rw [← wp_eq]
      unfold f_J7_copyOf_9075b
      refine wi_ck ka ?_
      refine wi_ifn hq ?_
      refine wi_ck kc ?_
      rw [nN]
      refine wi_lt ?_
      refine wi_lt ?_
      refine wi_ck ka2 ?_
      rw [emin]
      refine wi_ck kcp ?_
      refine wi_ck (fun i hi => by
        rw [n00, dn_1 (by omega), show 0 + i = i by omega]
        rw [nN] at hi
        exact by_f (hb i (by omega)).1 (hb i (by omega)).2) ?_
      refine wi_lt ?_
      refine wi_some ?_
      rw [nN, n00]
    · rw [cpv_o (fun q => h q.1)]; exact dn_1 h
    · show (ix_dn d z.2.2).2 a k = d.2 a k
      exact dn_2 h
    · rw [cpv_i (by omega) (by omega), dn_1 (by omega), show 0 + (j - 0) = j by omega]
/-- the names of the text -/
theorem e_nrd (hz : ly_z z) (hn : 100 ≤ n) (h7 : c.1 43 7 = nI K) (hK : K ≤ 60) (hT : ∀ k, k < K → tkO (T k) (pD T k)) (hc : ∀ k, k < K → c.1 47 k = cdT (T k)) : ∃ d', f_X4_namesRead n z 43 c = some (some z.2.2, ix_zn z 20 (pI T K), d') ∧ (∀ a k, a ≠ z.2.2 → d'.1 a k = c.1 a k ∧ d'.2 a k = c.2 a k) ∧ ∀ k, k < K → (T k).1 = 4 → d'.1 z.2.2 (pI T k) = (T k).2.2.2 := by
  have e7 : (c.1 43 7).toInt = K := by rw [h7]; exact nI_ti (by omega)
  have hz3 := hz.2.2
  have hIK := pI_k (T := T) K
  suffices hs : wp_t (f_X4_namesRead n z 43 c) (fun t => ∃ d', t = (some z.2.2, ix_zn z 20 (pI T K), d') ∧ (∀ a k, a ≠ z.2.2 → d'.1 a k = c.1 a k ∧ d'.2 a k = c.2 a k) ∧ ∀ k, k < K → (T k).1 = 4 → d'.1 z.2.2 (pI T k) = (T k).2.2.2) by
    obtain ⟨t, E, d', rfl, q⟩ := hs
    exact ⟨d', E, q⟩
  unfold f_X4_namesRead f_X4_namesRead_4
  refine wp_fx3 (J := fun x1 x2 e => e = c ∧ ∃ k : Nat, k ≤ K ∧ x2 = nI k ∧ x1 = nI (pI T k)) (μ := fun _ x2 _ => 70 - ix_n x2) ?_ n _ _ c ⟨rfl, 0, by omega, rfl, rfl⟩ (by omega)
  rintro rec x1 x2 e ⟨rfl, k, hk, rfl, rfl⟩ ih
  have ek : (nI k).toInt = k := nI_ti (by omega)
  have n0 : ix_n (nI k) = k := nI_n (by omega)
  have e1 : nI k + 1 = nI (k + 1) := nI_1 k
  have n1 : ix_n (nI (k + 1)) = k + 1 := nI_n (by omega)
  unfold b_X4_namesRead_4
  by_cases c1 : K ≤ k
  · have hkK : k = K := by omega
    subst hkK
    have eI : (nI (pI T k)).toInt = pI T k := nI_ti (by omega)
    have nI' : ix_n (nI (pI T k)) = pI T k := nI_n (by omega)
    have kc : ¬ nI (pI T k) < 0 ∧ ix_n (nI (pI T k)) ≤ 64 := ⟨by rw [ti_lt, eI]; simp only [Int32.reduceToInt]; omega, by omega⟩
    obtain ⟨z1, hz1⟩ : ∃ z1, z1 = ix_zn z 20 (pI T k) := ⟨_, rfl⟩
    have hzz : ly_z z1 := by rw [hz1]; exact zn_ly hz
    have z1s : z1.2.1 z.2.2 = (20, pI T k) := by rw [hz1]; exact zn_s
    have z1n : z1.2.2 = z.2.2 + 1 := by rw [hz1]; rfl
    (repeat (first | with_reducible refine wi_ck kc ?_ | rw [nI'] | rw [← hz1] | with_reducible refine wi_t (ly_o43 hz) ?_ | with_reducible refine wi_r (ly_r0_2 hz) ?_ | with_reducible refine wi_lt ?_ | (with_reducible refine wi_ifp ?_ ?_; (focus (first | omega | (simp (disch := (first | omega | (simp (disch := first | omega | (simp only [Int32.reduceToInt]; omega)) only [Int32.reduceToInt, ta_add, ta_sub, ta_mul, ta_neg, ta_div]; omega))) only [up_1, cp_1, rng_1, fn_1, dj_1, Nat.reduceEqDiff, false_and, and_false, true_and, and_true, or_true, true_or, or_false, false_or, not_true_eq_false, not_false_eq_true, ↓reduceIte, eq_self, ne_eq, ti_eq, ti_le, ti_lt, ti_ite, Int32.reduceToInt, ta_add, ta_sub, ta_mul, ta_neg, ta_div]; done) | (simp (disch := (first | omega | (simp (disch := first | omega | (simp only [Int32.reduceToInt]; omega)) only [Int32.reduceToInt, ta_add, ta_sub, ta_mul, ta_neg, ta_div]; omega))) only [up_1, cp_1, rng_1, fn_1, dj_1, Nat.reduceEqDiff, false_and, and_false, true_and, and_true, or_true, true_or, or_false, false_or, not_true_eq_false, not_false_eq_true, ↓reduceIte, eq_self, ne_eq, ti_eq, ti_le, ti_lt, ti_ite, Int32.reduceToInt, ta_add, ta_sub, ta_mul, ta_neg, ta_div]; omega)))) | (with_reducible refine wi_ifn ?_ ?_; (focus (first | omega | (simp (disch := (first | omega | (simp (disch := first | omega | (simp only [Int32.reduceToInt]; omega)) only [Int32.reduceToInt, ta_add, ta_sub, ta_mul, ta_neg, ta_div]; omega))) only [up_1, cp_1, rng_1, fn_1, dj_1, Nat.reduceEqDiff, false_and, and_false, true_and, and_true, or_true, true_or, or_false, false_or, not_true_eq_false, not_false_eq_true, ↓reduceIte, eq_self, ne_eq, ti_eq, ti_le, ti_lt, ti_ite, Int32.reduceToInt, ta_add, ta_sub, ta_mul, ta_neg, ta_div]; done) | (simp (disch := (first | omega | (simp (disch := first | omega | (simp only [Int32.reduceToInt]; omega)) only [Int32.reduceToInt, ta_add, ta_sub, ta_mul, ta_neg, ta_div]; omega))) only [up_1, cp_1, rng_1, fn_1, dj_1, Nat.reduceEqDiff, false_and, and_false, true_and, and_true, or_true, true_or, or_false, false_or, not_true_eq_false, not_false_eq_true, ↓reduceIte, eq_self, ne_eq, ti_eq, ti_le, ti_lt, ti_ite, Int32.reduceToInt, ta_add, ta_sub, ta_mul, ta_neg, ta_div]; omega)))) | (with_reducible refine wi_ck ?_ ?_; (focus (first | omega | (simp (disch := (first | omega | (simp (disch := first | omega | (simp only [Int32.reduceToInt]; omega)) only [Int32.reduceToInt, ta_add, ta_sub, ta_mul, ta_neg, ta_div]; omega))) only [up_1, cp_1, rng_1, fn_1, dj_1, Nat.reduceEqDiff, false_and, and_false, true_and, and_true, or_true, true_or, or_false, false_or, not_true_eq_false, not_false_eq_true, ↓reduceIte, eq_self, ne_eq, ti_eq, ti_le, ti_lt, ti_ite, Int32.reduceToInt, ta_add, ta_sub, ta_mul, ta_neg, ta_div]; done) | (simp (disch := (first | omega | (simp (disch := first | omega | (simp only [Int32.reduceToInt]; omega)) only [Int32.reduceToInt, ta_add, ta_sub, ta_mul, ta_neg, ta_div]; omega))) only [up_1, cp_1, rng_1, fn_1, dj_1, Nat.reduceEqDiff, false_and, and_false, true_and, and_true, or_true, true_or, or_false, false_or, not_true_eq_false, not_false_eq_true, ↓reduceIte, eq_self, ne_eq, ti_eq, ti_le, ti_lt, ti_ite, Int32.reduceToInt, ta_add, ta_sub, ta_mul, ta_neg, ta_div]; omega)))) | with_reducible refine wi_bd2 ?_ | with_reducible refine wi_bd1 ?_ | with_reducible refine wi_bd3 ?_ | (with_reducible refine wi_some ?_; try dsimp only)))
    unfold f_X4_namesRead_47
    refine wp_fx3 (J := fun x3 x4 d' => ∃ j : Nat, j ≤ k ∧ x4 = nI j ∧ x3 = nI (pI T j) ∧ (∀ a i, a ≠ z.2.2 → d'.1 a i = e.1 a i ∧ d'.2 a i = e.2 a i) ∧ ∀ i, i < j → (T i).1 = 4 → d'.1 z.2.2 (pI T i) = (T i).2.2.2) (μ := fun _ x4 _ => 70 - ix_n x4) ?_ n _ _ (ix_dn e z.2.2) ⟨0, by omega, rfl, rfl, fun a i h => ⟨dn_1 h, dn_2 h⟩, fun i hi => by omega⟩ (by omega)
    clear ih n1 e1 n0 ek
    rintro rec2 x3 x4 d' ⟨j, hj, rfl, rfl, j1, j2⟩ ih
    have ek : (nI j).toInt = j := nI_ti (by omega)
    have n0 : ix_n (nI j) = j := nI_n (by omega)
    have e1 : nI j + 1 = nI (j + 1) := nI_1 j
    have n1 : ix_n (nI (j + 1)) = j + 1 := nI_n (by omega)
    have hIj := pI_m (T := T) hj
    have eIj : (nI (pI T j)).toInt = pI T j := nI_ti (by omega)
    have nIj : ix_n (nI (pI T j)) = pI T j := nI_n (by omega)
    have e7' : (d'.1 43 7).toInt = k := by rw [(j1 _ _ (by omega)).1]; exact e7
    have ko : ix_ok z1 [4] 43 := of_eq_true (ly_o43 hzz)
    have kr : z1.1 43 6 = some 47 := ly_r43_6 hzz
    have fin : (∀ i, i < k → (T i).1 = 4 → d'.1 z.2.2 (pI T i) = (T i).2.2.2) → wp_t (f_X4_namesRead_96 n z1 z.2.2 d') (fun t => ∃ d', t = (some z.2.2, z1, d') ∧ (∀ a k, a ≠ z.2.2 → d'.1 a k = e.1 a k ∧ d'.2 a k = e.2 a k) ∧ ∀ i, i < k → (T i).1 = 4 → d'.1 z.2.2 (pI T i) = (T i).2.2.2) := fun q => by
      unfold f_X4_namesRead_96
      exact wi_some ⟨d', rfl, j1, q⟩
    rw [hz1]
    rw [← hz1]
    unfold b_X4_namesRead_47
    by_cases c2 : k ≤ j
    · have hjk : j = k := by omega
      subst hjk
      (repeat (first | with_reducible refine wi_ck ko ?_ | with_reducible refine wi_lt ?_ | (with_reducible refine wi_ifp ?_ ?_; (focus (first | omega | (simp (disch := (first | omega | (simp (disch := first | omega | (simp only [Int32.reduceToInt]; omega)) only [Int32.reduceToInt, ta_add, ta_sub, ta_mul, ta_neg, ta_div]; omega))) only [up_1, cp_1, rng_1, fn_1, dj_1, Nat.reduceEqDiff, false_and, and_false, true_and, and_true, or_true, true_or, or_false, false_or, not_true_eq_false, not_false_eq_true, ↓reduceIte, eq_self, ne_eq, ti_eq, ti_le, ti_lt, ti_ite, Int32.reduceToInt, ta_add, ta_sub, ta_mul, ta_neg, ta_div]; done) | (simp (disch := (first | omega | (simp (disch := first | omega | (simp only [Int32.reduceToInt]; omega)) only [Int32.reduceToInt, ta_add, ta_sub, ta_mul, ta_neg, ta_div]; omega))) only [up_1, cp_1, rng_1, fn_1, dj_1, Nat.reduceEqDiff, false_and, and_false, true_and, and_true, or_true, true_or, or_false, false_or, not_true_eq_false, not_false_eq_true, ↓reduceIte, eq_self, ne_eq, ti_eq, ti_le, ti_lt, ti_ite, Int32.reduceToInt, ta_add, ta_sub, ta_mul, ta_neg, ta_div]; omega)))) | (with_reducible refine wi_ifn ?_ ?_; (focus (first | omega | (simp (disch := (first | omega | (simp (disch := first | omega | (simp only [Int32.reduceToInt]; omega)) only [Int32.reduceToInt, ta_add, ta_sub, ta_mul, ta_neg, ta_div]; omega))) only [up_1, cp_1, rng_1, fn_1, dj_1, Nat.reduceEqDiff, false_and, and_false, true_and, and_true, or_true, true_or, or_false, false_or, not_true_eq_false, not_false_eq_true, ↓reduceIte, eq_self, ne_eq, ti_eq, ti_le, ti_lt, ti_ite, Int32.reduceToInt, ta_add, ta_sub, ta_mul, ta_neg, ta_div]; done) | (simp (disch := (first | omega | (simp (disch := first | omega | (simp only [Int32.reduceToInt]; omega)) only [Int32.reduceToInt, ta_add, ta_sub, ta_mul, ta_neg, ta_div]; omega))) only [up_1, cp_1, rng_1, fn_1, dj_1, Nat.reduceEqDiff, false_and, and_false, true_and, and_true, or_true, true_or, or_false, false_or, not_true_eq_false, not_false_eq_true, ↓reduceIte, eq_self, ne_eq, ti_eq, ti_le, ti_lt, ti_ite, Int32.reduceToInt, ta_add, ta_sub, ta_mul, ta_neg, ta_div]; omega)))) | (with_reducible refine wi_ck ?_ ?_; (focus (first | omega | (simp (disch := (first | omega | (simp (disch := first | omega | (simp only [Int32.reduceToInt]; omega)) only [Int32.reduceToInt, ta_add, ta_sub, ta_mul, ta_neg, ta_div]; omega))) only [up_1, cp_1, rng_1, fn_1, dj_1, Nat.reduceEqDiff, false_and, and_false, true_and, and_true, or_true, true_or, or_false, false_or, not_true_eq_false, not_false_eq_true, ↓reduceIte, eq_self, ne_eq, ti_eq, ti_le, ti_lt, ti_ite, Int32.reduceToInt, ta_add, ta_sub, ta_mul, ta_neg, ta_div]; done) | (simp (disch := (first | omega | (simp (disch := first | omega | (simp only [Int32.reduceToInt]; omega)) only [Int32.reduceToInt, ta_add, ta_sub, ta_mul, ta_neg, ta_div]; omega))) only [up_1, cp_1, rng_1, fn_1, dj_1, Nat.reduceEqDiff, false_and, and_false, true_and, and_true, or_true, true_or, or_false, false_or, not_true_eq_false, not_false_eq_true, ↓reduceIte, eq_self, ne_eq, ti_eq, ti_le, ti_lt, ti_ite, Int32.reduceToInt, ta_add, ta_sub, ta_mul, ta_neg, ta_div]; omega)))) | with_reducible refine wi_bd2 ?_ | with_reducible refine wi_bd1 ?_ | with_reducible refine wi_bd3 ?_ | (with_reducible refine wi_some ?_; try dsimp only)))
      exact fin j2
    · by_cases c3 : pI T k ≤ pI T j
      · (repeat (first | with_reducible refine wi_ck ko ?_ | with_reducible refine wi_lt ?_ | (with_reducible refine wi_ifp ?_ ?_; (focus (first | omega | (simp (disch := (first | omega | (simp (disch := first | omega | (simp only [Int32.reduceToInt]; omega)) only [Int32.reduceToInt, ta_add, ta_sub, ta_mul, ta_neg, ta_div]; omega))) only [up_1, cp_1, rng_1, fn_1, dj_1, Nat.reduceEqDiff, false_and, and_false, true_and, and_true, or_true, true_or, or_false, false_or, not_true_eq_false, not_false_eq_true, ↓reduceIte, eq_self, ne_eq, ti_eq, ti_le, ti_lt, ti_ite, Int32.reduceToInt, ta_add, ta_sub, ta_mul, ta_neg, ta_div]; done) | (simp (disch := (first | omega | (simp (disch := first | omega | (simp only [Int32.reduceToInt]; omega)) only [Int32.reduceToInt, ta_add, ta_sub, ta_mul, ta_neg, ta_div]; omega))) only [up_1, cp_1, rng_1, fn_1, dj_1, Nat.reduceEqDiff, false_and, and_false, true_and, and_true, or_true, true_or, or_false, false_or, not_true_eq_false, not_false_eq_true, ↓reduceIte, eq_self, ne_eq, ti_eq, ti_le, ti_lt, ti_ite, Int32.reduceToInt, ta_add, ta_sub, ta_mul, ta_neg, ta_div]; omega)))) | (with_reducible refine wi_ifn ?_ ?_; (focus (first | omega | (simp (disch := (first | omega | (simp (disch := first | omega | (simp only [Int32.reduceToInt]; omega)) only [Int32.reduceToInt, ta_add, ta_sub, ta_mul, ta_neg, ta_div]; omega))) only [up_1, cp_1, rng_1, fn_1, dj_1, Nat.reduceEqDiff, false_and, and_false, true_and, and_true, or_true, true_or, or_false, false_or, not_true_eq_false, not_false_eq_true, ↓reduceIte, eq_self, ne_eq, ti_eq, ti_le, ti_lt, ti_ite, Int32.reduceToInt, ta_add, ta_sub, ta_mul, ta_neg, ta_div]; done) | (simp (disch := (first | omega | (simp (disch := first | omega | (simp only [Int32.reduceToInt]; omega)) only [Int32.reduceToInt, ta_add, ta_sub, ta_mul, ta_neg, ta_div]; omega))) only [up_1, cp_1, rng_1, fn_1, dj_1, Nat.reduceEqDiff, false_and, and_false, true_and, and_true, or_true, true_or, or_false, false_or, not_true_eq_false, not_false_eq_true, ↓reduceIte, eq_self, ne_eq, ti_eq, ti_le, ti_lt, ti_ite, Int32.reduceToInt, ta_add, ta_sub, ta_mul, ta_neg, ta_div]; omega)))) | (with_reducible refine wi_ck ?_ ?_; (focus (first | omega | (simp (disch := (first | omega | (simp (disch := first | omega | (simp only [Int32.reduceToInt]; omega)) only [Int32.reduceToInt, ta_add, ta_sub, ta_mul, ta_neg, ta_div]; omega))) only [up_1, cp_1, rng_1, fn_1, dj_1, Nat.reduceEqDiff, false_and, and_false, true_and, and_true, or_true, true_or, or_false, false_or, not_true_eq_false, not_false_eq_true, ↓reduceIte, eq_self, ne_eq, ti_eq, ti_le, ti_lt, ti_ite, Int32.reduceToInt, ta_add, ta_sub, ta_mul, ta_neg, ta_div]; done) | (simp (disch := (first | omega | (simp (disch := first | omega | (simp only [Int32.reduceToInt]; omega)) only [Int32.reduceToInt, ta_add, ta_sub, ta_mul, ta_neg, ta_div]; omega))) only [up_1, cp_1, rng_1, fn_1, dj_1, Nat.reduceEqDiff, false_and, and_false, true_and, and_true, or_true, true_or, or_false, false_or, not_true_eq_false, not_false_eq_true, ↓reduceIte, eq_self, ne_eq, ti_eq, ti_le, ti_lt, ti_ite, Int32.reduceToInt, ta_add, ta_sub, ta_mul, ta_neg, ta_div]; omega)))) | with_reducible refine wi_bd2 ?_ | with_reducible refine wi_bd1 ?_ | with_reducible refine wi_bd3 ?_ | (with_reducible refine wi_some ?_; try dsimp only)))
        refine fin fun i hi h4 => ?_
        by_cases q : i < j
        · exact j2 i q h4
        · have := pI_n hi h4
          have := pI_m (T := T) (k := j) (K := i) (by omega)
          omega
      · have hjk : j < k := by omega
        have ecd : d'.1 47 j = cdT (T j) := by rw [(j1 _ _ (by omega)).1]; exact hc j hjk
        have t := hT j hjk
        have kx : ix_ix z1 20 47 (nI j) := by rw [ly_i47 hzz]; exact ⟨by rw [ti_le]; simp only [Int32.reduceToInt]; omega, by rw [ti_lt]; simp only [Int32.reduceToInt]; omega⟩
        by_cases c4 : (T j).1 = 4
        · obtain ⟨q1, q2, -⟩ := cd_nm (w := 0) t c4
          have lt : ¬ (10000 : Int32) ≤ cdT (T j) := by rw [ti_le]; simp only [Int32.reduceToInt]; omega
          have pk : pI T (j + 1) = pI T j + 1 := by rw [pI, if_pos c4]
          have eI1 : nI (pI T j) + 1 = nI (pI T (j + 1)) := by rw [pk]; exact nI_1 _
          have kx2 : ix_ix z1 20 z.2.2 (nI (pI T j)) := ⟨by omega, by rw [z1s], by rw [z1s]; exact (ni_vp (by show pI T k < _; omega)).mpr ⟨by rw [ti_le]; simp only [Int32.reduceToInt]; omega, by rw [ti_lt, ni_ofNat (by omega)]; show (nI (pI T j)).toInt < (pI T k : Int); omega⟩⟩
          (repeat (first | with_reducible refine wi_ck ko ?_ | with_reducible refine wi_r (kr) ?_ | with_reducible refine wi_ck kx ?_ | rw [n0] | rw [ecd] | with_reducible refine wi_ifn lt ?_ | with_reducible refine wi_ck kx2 ?_ | rw [nIj] | rw [q2] | rw [eI1] | rw [e1] | with_reducible refine wi_lt ?_ | (with_reducible refine wi_ifp ?_ ?_; (focus (first | omega | (simp (disch := (first | omega | (simp (disch := first | omega | (simp only [Int32.reduceToInt]; omega)) only [Int32.reduceToInt, ta_add, ta_sub, ta_mul, ta_neg, ta_div]; omega))) only [up_1, cp_1, rng_1, fn_1, dj_1, Nat.reduceEqDiff, false_and, and_false, true_and, and_true, or_true, true_or, or_false, false_or, not_true_eq_false, not_false_eq_true, ↓reduceIte, eq_self, ne_eq, ti_eq, ti_le, ti_lt, ti_ite, Int32.reduceToInt, ta_add, ta_sub, ta_mul, ta_neg, ta_div]; done) | (simp (disch := (first | omega | (simp (disch := first | omega | (simp only [Int32.reduceToInt]; omega)) only [Int32.reduceToInt, ta_add, ta_sub, ta_mul, ta_neg, ta_div]; omega))) only [up_1, cp_1, rng_1, fn_1, dj_1, Nat.reduceEqDiff, false_and, and_false, true_and, and_true, or_true, true_or, or_false, false_or, not_true_eq_false, not_false_eq_true, ↓reduceIte, eq_self, ne_eq, ti_eq, ti_le, ti_lt, ti_ite, Int32.reduceToInt, ta_add, ta_sub, ta_mul, ta_neg, ta_div]; omega)))) | (with_reducible refine wi_ifn ?_ ?_; (focus (first | omega | (simp (disch := (first | omega | (simp (disch := first | omega | (simp only [Int32.reduceToInt]; omega)) only [Int32.reduceToInt, ta_add, ta_sub, ta_mul, ta_neg, ta_div]; omega))) only [up_1, cp_1, rng_1, fn_1, dj_1, Nat.reduceEqDiff, false_and, and_false, true_and, and_true, or_true, true_or, or_false, false_or, not_true_eq_false, not_false_eq_true, ↓reduceIte, eq_self, ne_eq, ti_eq, ti_le, ti_lt, ti_ite, Int32.reduceToInt, ta_add, ta_sub, ta_mul, ta_neg, ta_div]; done) | (simp (disch := (first | omega | (simp (disch := first | omega | (simp only [Int32.reduceToInt]; omega)) only [Int32.reduceToInt, ta_add, ta_sub, ta_mul, ta_neg, ta_div]; omega))) only [up_1, cp_1, rng_1, fn_1, dj_1, Nat.reduceEqDiff, false_and, and_false, true_and, and_true, or_true, true_or, or_false, false_or, not_true_eq_false, not_false_eq_true, ↓reduceIte, eq_self, ne_eq, ti_eq, ti_le, ti_lt, ti_ite, Int32.reduceToInt, ta_add, ta_sub, ta_mul, ta_neg, ta_div]; omega)))) | (with_reducible refine wi_ck ?_ ?_; (focus (first | omega | (simp (disch := (first | omega | (simp (disch := first | omega | (simp only [Int32.reduceToInt]; omega)) only [Int32.reduceToInt, ta_add, ta_sub, ta_mul, ta_neg, ta_div]; omega))) only [up_1, cp_1, rng_1, fn_1, dj_1, Nat.reduceEqDiff, false_and, and_false, true_and, and_true, or_true, true_or, or_false, false_or, not_true_eq_false, not_false_eq_true, ↓reduceIte, eq_self, ne_eq, ti_eq, ti_le, ti_lt, ti_ite, Int32.reduceToInt, ta_add, ta_sub, ta_mul, ta_neg, ta_div]; done) | (simp (disch := (first | omega | (simp (disch := first | omega | (simp only [Int32.reduceToInt]; omega)) only [Int32.reduceToInt, ta_add, ta_sub, ta_mul, ta_neg, ta_div]; omega))) only [up_1, cp_1, rng_1, fn_1, dj_1, Nat.reduceEqDiff, false_and, and_false, true_and, and_true, or_true, true_or, or_false, false_or, not_true_eq_false, not_false_eq_true, ↓reduceIte, eq_self, ne_eq, ti_eq, ti_le, ti_lt, ti_ite, Int32.reduceToInt, ta_add, ta_sub, ta_mul, ta_neg, ta_div]; omega)))) | with_reducible refine wi_bd2 ?_ | with_reducible refine wi_bd1 ?_ | with_reducible refine wi_bd3 ?_ | (with_reducible refine wi_some ?_; try dsimp only) | unfold f_X4_namesRead_90))
          refine ih _ _ _ ⟨j + 1, by omega, rfl, rfl, fun a i h => ⟨by rw [up_1, if_neg (by omega)]; exact (j1 a i h).1, (j1 a i h).2⟩, fun i hi h4 => ?_⟩ (by rw [n1, n0]; omega)
          by_cases q : i = j
          · rw [q, up_1, if_pos ⟨rfl, rfl⟩]
          · have := pI_n (T := T) (k := i) (K := j) (by omega) h4
            rw [up_1, if_neg (by omega)]; exact j2 i (by omega) h4
        · have q := cd_op t c4
          have lt : (10000 : Int32) ≤ cdT (T j) := by rw [ti_le]; simp only [Int32.reduceToInt]; omega
          have pk : pI T (j + 1) = pI T j := by rw [pI, if_neg c4]; rfl
          (repeat (first | with_reducible refine wi_ck ko ?_ | with_reducible refine wi_r (kr) ?_ | with_reducible refine wi_ck kx ?_ | rw [n0] | rw [ecd] | with_reducible refine wi_ifp lt ?_ | rw [e1] | with_reducible refine wi_lt ?_ | (with_reducible refine wi_ifp ?_ ?_; (focus (first | omega | (simp (disch := (first | omega | (simp (disch := first | omega | (simp only [Int32.reduceToInt]; omega)) only [Int32.reduceToInt, ta_add, ta_sub, ta_mul, ta_neg, ta_div]; omega))) only [up_1, cp_1, rng_1, fn_1, dj_1, Nat.reduceEqDiff, false_and, and_false, true_and, and_true, or_true, true_or, or_false, false_or, not_true_eq_false, not_false_eq_true, ↓reduceIte, eq_self, ne_eq, ti_eq, ti_le, ti_lt, ti_ite, Int32.reduceToInt, ta_add, ta_sub, ta_mul, ta_neg, ta_div]; done) | (simp (disch := (first | omega | (simp (disch := first | omega | (simp only [Int32.reduceToInt]; omega)) only [Int32.reduceToInt, ta_add, ta_sub, ta_mul, ta_neg, ta_div]; omega))) only [up_1, cp_1, rng_1, fn_1, dj_1, Nat.reduceEqDiff, false_and, and_false, true_and, and_true, or_true, true_or, or_false, false_or, not_true_eq_false, not_false_eq_true, ↓reduceIte, eq_self, ne_eq, ti_eq, ti_le, ti_lt, ti_ite, Int32.reduceToInt, ta_add, ta_sub, ta_mul, ta_neg, ta_div]; omega)))) | (with_reducible refine wi_ifn ?_ ?_; (focus (first | omega | (simp (disch := (first | omega | (simp (disch := first | omega | (simp only [Int32.reduceToInt]; omega)) only [Int32.reduceToInt, ta_add, ta_sub, ta_mul, ta_neg, ta_div]; omega))) only [up_1, cp_1, rng_1, fn_1, dj_1, Nat.reduceEqDiff, false_and, and_false, true_and, and_true, or_true, true_or, or_false, false_or, not_true_eq_false, not_false_eq_true, ↓reduceIte, eq_self, ne_eq, ti_eq, ti_le, ti_lt, ti_ite, Int32.reduceToInt, ta_add, ta_sub, ta_mul, ta_neg, ta_div]; done) | (simp (disch := (first | omega | (simp (disch := first | omega | (simp only [Int32.reduceToInt]; omega)) only [Int32.reduceToInt, ta_add, ta_sub, ta_mul, ta_neg, ta_div]; omega))) only [up_1, cp_1, rng_1, fn_1, dj_1, Nat.reduceEqDiff, false_and, and_false, true_and, and_true, or_true, true_or, or_false, false_or, not_true_eq_false, not_false_eq_true, ↓reduceIte, eq_self, ne_eq, ti_eq, ti_le, ti_lt, ti_ite, Int32.reduceToInt, ta_add, ta_sub, ta_mul, ta_neg, ta_div]; omega)))) | (with_reducible refine wi_ck ?_ ?_; (focus (first | omega | (simp (disch := (first | omega | (simp (disch := first | omega | (simp only [Int32.reduceToInt]; omega)) only [Int32.reduceToInt, ta_add, ta_sub, ta_mul, ta_neg, ta_div]; omega))) only [up_1, cp_1, rng_1, fn_1, dj_1, Nat.reduceEqDiff, false_and, and_false, true_and, and_true, or_true, true_or, or_false, false_or, not_true_eq_false, not_false_eq_true, ↓reduceIte, eq_self, ne_eq, ti_eq, ti_le, ti_lt, ti_ite, Int32.reduceToInt, ta_add, ta_sub, ta_mul, ta_neg, ta_div]; done) | (simp (disch := (first | omega | (simp (disch := first | omega | (simp only [Int32.reduceToInt]; omega)) only [Int32.reduceToInt, ta_add, ta_sub, ta_mul, ta_neg, ta_div]; omega))) only [up_1, cp_1, rng_1, fn_1, dj_1, Nat.reduceEqDiff, false_and, and_false, true_and, and_true, or_true, true_or, or_false, false_or, not_true_eq_false, not_false_eq_true, ↓reduceIte, eq_self, ne_eq, ti_eq, ti_le, ti_lt, ti_ite, Int32.reduceToInt, ta_add, ta_sub, ta_mul, ta_neg, ta_div]; omega)))) | with_reducible refine wi_bd2 ?_ | with_reducible refine wi_bd1 ?_ | with_reducible refine wi_bd3 ?_ | (with_reducible refine wi_some ?_; try dsimp only) | unfold f_X4_namesRead_90))
          refine ih _ _ _ ⟨j + 1, by omega, rfl, by rw [pk], j1, fun i hi h4 => j2 i ?_ h4⟩ (by rw [n1, n0]; omega)
          by_cases q : i = j
          · rw [q] at h4; exact absurd h4 c4
          · omega
  · have hk' : k < K := by omega
    have ecd := hc k hk'
    have t := hT k hk'
    by_cases c4 : (T k).1 = 4
    · obtain ⟨q1, q2, q3⟩ := cd_nm (w := 0) t c4
      have lt : ¬ (10000 : Int32) ≤ cdT (T k) := by rw [ti_le]; simp only [Int32.reduceToInt]; omega
      have pk : nI (pI T k) + 1 = nI (pI T (k + 1)) := by rw [pI, if_pos c4]; exact nI_1 _
      (repeat (first | rw [n0] | rw [ecd] | with_reducible refine wi_ifn lt ?_ | rw [pk] | rw [e1] | with_reducible refine wi_t (ly_o43 hz) ?_ | with_reducible refine wi_r (ly_r0_2 hz) ?_ | with_reducible refine wi_r (ly_r43_6 hz) ?_ | with_reducible refine wi_t (ly_a47 hz) ?_ | (with_reducible refine wi_x (ly_i47 hz) ?_ ?_ ?_; (focus (first | omega | (simp (disch := (first | omega | (simp (disch := first | omega | (simp only [Int32.reduceToInt]; omega)) only [Int32.reduceToInt, ta_add, ta_sub, ta_mul, ta_neg, ta_div]; omega))) only [ly_n47 hz, up_1, cp_1, rng_1, fn_1, dj_1, Nat.reduceEqDiff, false_and, and_false, true_and, and_true, or_true, true_or, or_false, false_or, not_true_eq_false, not_false_eq_true, ↓reduceIte, eq_self, ne_eq, ti_eq, ti_le, ti_lt, ti_ite, Int32.reduceToInt, ta_add, ta_sub, ta_mul, ta_neg, ta_div]; done) | (simp (disch := (first | omega | (simp (disch := first | omega | (simp only [Int32.reduceToInt]; omega)) only [Int32.reduceToInt, ta_add, ta_sub, ta_mul, ta_neg, ta_div]; omega))) only [ly_n47 hz, up_1, cp_1, rng_1, fn_1, dj_1, Nat.reduceEqDiff, false_and, and_false, true_and, and_true, or_true, true_or, or_false, false_or, not_true_eq_false, not_false_eq_true, ↓reduceIte, eq_self, ne_eq, ti_eq, ti_le, ti_lt, ti_ite, Int32.reduceToInt, ta_add, ta_sub, ta_mul, ta_neg, ta_div]; omega))); (focus (first | omega | (simp (disch := (first | omega | (simp (disch := first | omega | (simp only [Int32.reduceToInt]; omega)) only [Int32.reduceToInt, ta_add, ta_sub, ta_mul, ta_neg, ta_div]; omega))) only [ly_n47 hz, up_1, cp_1, rng_1, fn_1, dj_1, Nat.reduceEqDiff, false_and, and_false, true_and, and_true, or_true, true_or, or_false, false_or, not_true_eq_false, not_false_eq_true, ↓reduceIte, eq_self, ne_eq, ti_eq, ti_le, ti_lt, ti_ite, Int32.reduceToInt, ta_add, ta_sub, ta_mul, ta_neg, ta_div]; done) | (simp (disch := (first | omega | (simp (disch := first | omega | (simp only [Int32.reduceToInt]; omega)) only [Int32.reduceToInt, ta_add, ta_sub, ta_mul, ta_neg, ta_div]; omega))) only [ly_n47 hz, up_1, cp_1, rng_1, fn_1, dj_1, Nat.reduceEqDiff, false_and, and_false, true_and, and_true, or_true, true_or, or_false, false_or, not_true_eq_false, not_false_eq_true, ↓reduceIte, eq_self, ne_eq, ti_eq, ti_le, ti_lt, ti_ite, Int32.reduceToInt, ta_add, ta_sub, ta_mul, ta_neg, ta_div]; omega)))) | with_reducible refine wi_lt ?_ | (with_reducible refine wi_ifp ?_ ?_; (focus (first | omega | (simp (disch := (first | omega | (simp (disch := first | omega | (simp only [Int32.reduceToInt]; omega)) only [Int32.reduceToInt, ta_add, ta_sub, ta_mul, ta_neg, ta_div]; omega))) only [ly_n47 hz, up_1, cp_1, rng_1, fn_1, dj_1, Nat.reduceEqDiff, false_and, and_false, true_and, and_true, or_true, true_or, or_false, false_or, not_true_eq_false, not_false_eq_true, ↓reduceIte, eq_self, ne_eq, ti_eq, ti_le, ti_lt, ti_ite, Int32.reduceToInt, ta_add, ta_sub, ta_mul, ta_neg, ta_div]; done) | (simp (disch := (first | omega | (simp (disch := first | omega | (simp only [Int32.reduceToInt]; omega)) only [Int32.reduceToInt, ta_add, ta_sub, ta_mul, ta_neg, ta_div]; omega))) only [ly_n47 hz, up_1, cp_1, rng_1, fn_1, dj_1, Nat.reduceEqDiff, false_and, and_false, true_and, and_true, or_true, true_or, or_false, false_or, not_true_eq_false, not_false_eq_true, ↓reduceIte, eq_self, ne_eq, ti_eq, ti_le, ti_lt, ti_ite, Int32.reduceToInt, ta_add, ta_sub, ta_mul, ta_neg, ta_div]; omega)))) | (with_reducible refine wi_ifn ?_ ?_; (focus (first | omega | (simp (disch := (first | omega | (simp (disch := first | omega | (simp only [Int32.reduceToInt]; omega)) only [Int32.reduceToInt, ta_add, ta_sub, ta_mul, ta_neg, ta_div]; omega))) only [ly_n47 hz, up_1, cp_1, rng_1, fn_1, dj_1, Nat.reduceEqDiff, false_and, and_false, true_and, and_true, or_true, true_or, or_false, false_or, not_true_eq_false, not_false_eq_true, ↓reduceIte, eq_self, ne_eq, ti_eq, ti_le, ti_lt, ti_ite, Int32.reduceToInt, ta_add, ta_sub, ta_mul, ta_neg, ta_div]; done) | (simp (disch := (first | omega | (simp (disch := first | omega | (simp only [Int32.reduceToInt]; omega)) only [Int32.reduceToInt, ta_add, ta_sub, ta_mul, ta_neg, ta_div]; omega))) only [ly_n47 hz, up_1, cp_1, rng_1, fn_1, dj_1, Nat.reduceEqDiff, false_and, and_false, true_and, and_true, or_true, true_or, or_false, false_or, not_true_eq_false, not_false_eq_true, ↓reduceIte, eq_self, ne_eq, ti_eq, ti_le, ti_lt, ti_ite, Int32.reduceToInt, ta_add, ta_sub, ta_mul, ta_neg, ta_div]; omega)))) | (with_reducible refine wi_ck ?_ ?_; (focus (first | omega | (simp (disch := (first | omega | (simp (disch := first | omega | (simp only [Int32.reduceToInt]; omega)) only [Int32.reduceToInt, ta_add, ta_sub, ta_mul, ta_neg, ta_div]; omega))) only [ly_n47 hz, up_1, cp_1, rng_1, fn_1, dj_1, Nat.reduceEqDiff, false_and, and_false, true_and, and_true, or_true, true_or, or_false, false_or, not_true_eq_false, not_false_eq_true, ↓reduceIte, eq_self, ne_eq, ti_eq, ti_le, ti_lt, ti_ite, Int32.reduceToInt, ta_add, ta_sub, ta_mul, ta_neg, ta_div]; done) | (simp (disch := (first | omega | (simp (disch := first | omega | (simp only [Int32.reduceToInt]; omega)) only [Int32.reduceToInt, ta_add, ta_sub, ta_mul, ta_neg, ta_div]; omega))) only [ly_n47 hz, up_1, cp_1, rng_1, fn_1, dj_1, Nat.reduceEqDiff, false_and, and_false, true_and, and_true, or_true, true_or, or_false, false_or, not_true_eq_false, not_false_eq_true, ↓reduceIte, eq_self, ne_eq, ti_eq, ti_le, ti_lt, ti_ite, Int32.reduceToInt, ta_add, ta_sub, ta_mul, ta_neg, ta_div]; omega)))) | with_reducible refine wi_bd2 ?_ | with_reducible refine wi_bd1 ?_ | with_reducible refine wi_bd3 ?_ | (with_reducible refine wi_some ?_; try dsimp only) | unfold f_X4_namesRead_30))
      exact ih _ _ _ ⟨rfl, k + 1, by omega, rfl, rfl⟩ (by rw [n1, n0]; omega)
    · have q := cd_op t c4
      have lt : (10000 : Int32) ≤ cdT (T k) := by rw [ti_le]; simp only [Int32.reduceToInt]; omega
      have pk : nI (pI T k) + 0 = nI (pI T (k + 1)) := by rw [pI, if_neg c4]; exact Int32.add_zero _
      (repeat (first | rw [n0] | rw [ecd] | with_reducible refine wi_ifp lt ?_ | rw [pk] | rw [e1] | with_reducible refine wi_t (ly_o43 hz) ?_ | with_reducible refine wi_r (ly_r0_2 hz) ?_ | with_reducible refine wi_r (ly_r43_6 hz) ?_ | with_reducible refine wi_t (ly_a47 hz) ?_ | (with_reducible refine wi_x (ly_i47 hz) ?_ ?_ ?_; (focus (first | omega | (simp (disch := (first | omega | (simp (disch := first | omega | (simp only [Int32.reduceToInt]; omega)) only [Int32.reduceToInt, ta_add, ta_sub, ta_mul, ta_neg, ta_div]; omega))) only [ly_n47 hz, up_1, cp_1, rng_1, fn_1, dj_1, Nat.reduceEqDiff, false_and, and_false, true_and, and_true, or_true, true_or, or_false, false_or, not_true_eq_false, not_false_eq_true, ↓reduceIte, eq_self, ne_eq, ti_eq, ti_le, ti_lt, ti_ite, Int32.reduceToInt, ta_add, ta_sub, ta_mul, ta_neg, ta_div]; done) | (simp (disch := (first | omega | (simp (disch := first | omega | (simp only [Int32.reduceToInt]; omega)) only [Int32.reduceToInt, ta_add, ta_sub, ta_mul, ta_neg, ta_div]; omega))) only [ly_n47 hz, up_1, cp_1, rng_1, fn_1, dj_1, Nat.reduceEqDiff, false_and, and_false, true_and, and_true, or_true, true_or, or_false, false_or, not_true_eq_false, not_false_eq_true, ↓reduceIte, eq_self, ne_eq, ti_eq, ti_le, ti_lt, ti_ite, Int32.reduceToInt, ta_add, ta_sub, ta_mul, ta_neg, ta_div]; omega))); (focus (first | omega | (simp (disch := (first | omega | (simp (disch := first | omega | (simp only [Int32.reduceToInt]; omega)) only [Int32.reduceToInt, ta_add, ta_sub, ta_mul, ta_neg, ta_div]; omega))) only [ly_n47 hz, up_1, cp_1, rng_1, fn_1, dj_1, Nat.reduceEqDiff, false_and, and_false, true_and, and_true, or_true, true_or, or_false, false_or, not_true_eq_false, not_false_eq_true, ↓reduceIte, eq_self, ne_eq, ti_eq, ti_le, ti_lt, ti_ite, Int32.reduceToInt, ta_add, ta_sub, ta_mul, ta_neg, ta_div]; done) | (simp (disch := (first | omega | (simp (disch := first | omega | (simp only [Int32.reduceToInt]; omega)) only [Int32.reduceToInt, ta_add, ta_sub, ta_mul, ta_neg, ta_div]; omega))) only [ly_n47 hz, up_1, cp_1, rng_1, fn_1, dj_1, Nat.reduceEqDiff, false_and, and_false, true_and, and_true, or_true, true_or, or_false, false_or, not_true_eq_false, not_false_eq_true, ↓reduceIte, eq_self, ne_eq, ti_eq, ti_le, ti_lt, ti_ite, Int32.reduceToInt, ta_add, ta_sub, ta_mul, ta_neg, ta_div]; omega)))) | with_reducible refine wi_lt ?_ | (with_reducible refine wi_ifp ?_ ?_; (focus (first | omega | (simp (disch := (first | omega | (simp (disch := first | omega | (simp only [Int32.reduceToInt]; omega)) only [Int32.reduceToInt, ta_add, ta_sub, ta_mul, ta_neg, ta_div]; omega))) only [ly_n47 hz, up_1, cp_1, rng_1, fn_1, dj_1, Nat.reduceEqDiff, false_and, and_false, true_and, and_true, or_true, true_or, or_false, false_or, not_true_eq_false, not_false_eq_true, ↓reduceIte, eq_self, ne_eq, ti_eq, ti_le, ti_lt, ti_ite, Int32.reduceToInt, ta_add, ta_sub, ta_mul, ta_neg, ta_div]; done) | (simp (disch := (first | omega | (simp (disch := first | omega | (simp only [Int32.reduceToInt]; omega)) only [Int32.reduceToInt, ta_add, ta_sub, ta_mul, ta_neg, ta_div]; omega))) only [ly_n47 hz, up_1, cp_1, rng_1, fn_1, dj_1, Nat.reduceEqDiff, false_and, and_false, true_and, and_true, or_true, true_or, or_false, false_or, not_true_eq_false, not_false_eq_true, ↓reduceIte, eq_self, ne_eq, ti_eq, ti_le, ti_lt, ti_ite, Int32.reduceToInt, ta_add, ta_sub, ta_mul, ta_neg, ta_div]; omega)))) | (with_reducible refine wi_ifn ?_ ?_; (focus (first | omega | (simp (disch := (first | omega | (simp (disch := first | omega | (simp only [Int32.reduceToInt]; omega)) only [Int32.reduceToInt, ta_add, ta_sub, ta_mul, ta_neg, ta_div]; omega))) only [ly_n47 hz, up_1, cp_1, rng_1, fn_1, dj_1, Nat.reduceEqDiff, false_and, and_false, true_and, and_true, or_true, true_or, or_false, false_or, not_true_eq_false, not_false_eq_true, ↓reduceIte, eq_self, ne_eq, ti_eq, ti_le, ti_lt, ti_ite, Int32.reduceToInt, ta_add, ta_sub, ta_mul, ta_neg, ta_div]; done) | (simp (disch := (first | omega | (simp (disch := first | omega | (simp only [Int32.reduceToInt]; omega)) only [Int32.reduceToInt, ta_add, ta_sub, ta_mul, ta_neg, ta_div]; omega))) only [ly_n47 hz, up_1, cp_1, rng_1, fn_1, dj_1, Nat.reduceEqDiff, false_and, and_false, true_and, and_true, or_true, true_or, or_false, false_or, not_true_eq_false, not_false_eq_true, ↓reduceIte, eq_self, ne_eq, ti_eq, ti_le, ti_lt, ti_ite, Int32.reduceToInt, ta_add, ta_sub, ta_mul, ta_neg, ta_div]; omega)))) | (with_reducible refine wi_ck ?_ ?_; (focus (first | omega | (simp (disch := (first | omega | (simp (disch := first | omega | (simp only [Int32.reduceToInt]; omega)) only [Int32.reduceToInt, ta_add, ta_sub, ta_mul, ta_neg, ta_div]; omega))) only [ly_n47 hz, up_1, cp_1, rng_1, fn_1, dj_1, Nat.reduceEqDiff, false_and, and_false, true_and, and_true, or_true, true_or, or_false, false_or, not_true_eq_false, not_false_eq_true, ↓reduceIte, eq_self, ne_eq, ti_eq, ti_le, ti_lt, ti_ite, Int32.reduceToInt, ta_add, ta_sub, ta_mul, ta_neg, ta_div]; done) | (simp (disch := (first | omega | (simp (disch := first | omega | (simp only [Int32.reduceToInt]; omega)) only [Int32.reduceToInt, ta_add, ta_sub, ta_mul, ta_neg, ta_div]; omega))) only [ly_n47 hz, up_1, cp_1, rng_1, fn_1, dj_1, Nat.reduceEqDiff, false_and, and_false, true_and, and_true, or_true, true_or, or_false, false_or, not_true_eq_false, not_false_eq_true, ↓reduceIte, eq_self, ne_eq, ti_eq, ti_le, ti_lt, ti_ite, Int32.reduceToInt, ta_add, ta_sub, ta_mul, ta_neg, ta_div]; omega)))) | with_reducible refine wi_bd2 ?_ | with_reducible refine wi_bd1 ?_ | with_reducible refine wi_bd3 ?_ | (with_reducible refine wi_some ?_; try dsimp only) | unfold f_X4_namesRead_30))
      exact ih _ _ _ ⟨rfl, k + 1, by omega, rfl, rfl⟩ (by rw [n1, n0]; omega)
end TLG

/-! TOLD: tokens, bytes -/
/-- a token: sign (4 a name), parts, denials, name -/
def pP (T : Nat → Nat × Nat × Nat × Int32) : Nat → Nat
  | 0 => 0
  | k + 1 => pP T k + 1 + (T k).2.2.1
def pI (T : Nat → Nat × Nat × Nat × Int32) : Nat → Nat
  | 0 => 0
  | k + 1 => pI T k + (if (T k).1 = 4 then 1 else 0)
def pD (T : Nat → Nat × Nat × Nat × Int32) : Nat → Nat
  | 0 => 0
  | k + 1 => if (T k).1 = 4 then pD T k + 1 else pD T k + 1 - (T k).2.1
def chS (s : Nat) : Nat := [38, 124, 62, 106].getD s 0
def tkO (t : Nat × Nat × Nat × Int32) (D : Nat) : Prop := (t.1 = 4 ∧ 0 ≤ t.2.2.2.toInt ∧ t.2.2.2.toInt ≤ 999) ∨ (t.1 < 4 ∧ 1 ≤ t.2.1 ∧ t.2.1 ≤ 8 ∧ t.2.1 ≤ D ∧ (t.1 = 2 → t.2.1 = 2))
def cdT (t : Nat × Nat × Nat × Int32) : Int32 := if t.1 = 4 then (if t.2.2.1 % 2 = 1 then -t.2.2.2 else t.2.2.2) else nI (10000 + 1000 * t.1 + 10 * t.2.1 + t.2.2.1 % 2)
def bsT (j : Nat) (t : Nat × Nat × Nat × Int32) : Int32 := if t.1 = 4 then -(nI (j + 1)) else nI (1000 * chS t.1 + t.2.1)
/-- one token on both sides -/
def tk1 (T : Nat → Nat × Nat × Nat × Int32) (g a it : Nat → Int32) (k : Nat) : Prop := tkO (T k) (pD T k) ∧ g k = cdT (T k) ∧ a (pP T k) = bsT (pI T k) (T k) ∧ ((T k).1 = 4 → it (pI T k) = (T k).2.2.2)
def TA_ (T : Nat → Nat × Nat × Nat × Int32) (K : Nat) (g a it : Nat → Int32) : Prop := ∀ k, k < K → tk1 T g a it k ∧ ∀ j, j < (T k).2.2.1 → a (pP T k + 1 + j) = 0
/-- a byte on both sides -/
def tpB (x y : Int32) : Prop := (0 ≤ x.toInt ∧ x.toInt ≤ 127 ∧ y.toInt = x.toInt) ∨ (x.toInt < 0 ∧ -128 ≤ x.toInt ∧ y.toInt = x.toInt + 256)
def iv_tb (f : Nat → Nat → Int32) : Prop := ∀ i, i < 60 → -128 ≤ (f 44 i).toInt ∧ (f 44 i).toInt ≤ 127
/-- where a sign stands -/
def sgB (x : Int32) : Int32 := if x.toInt = 38 then 0 else if x.toInt = 124 then 1 else if x.toInt = 62 then 2 else if x.toInt = 106 then 3 else -1
section TOK
variable {n : Nat} {z : ix_Z} {d : ix_D2} {x y : Int32} {T T' : Nat → Nat × Nat × Nat × Int32} {K k : Nat} {g a it g' a' it' : Nat → Int32}
theorem pP_k : ∀ k, k ≤ pP T k
  | 0 => Nat.le_refl _
  | k + 1 => by have := pP_k k; rw [pP]; omega
theorem pP_m : ∀ {k K : Nat}, k < K → pP T k + 1 + (T k).2.2.1 ≤ pP T K
  | k, 0, h => by omega
  | k, K + 1, h => by
    rw [pP]
    by_cases c : k = K
    · rw [c]; omega
    · have := pP_m (k := k) (K := K) (by omega); omega
theorem pI_m : ∀ {k K : Nat}, k ≤ K → pI T k ≤ pI T K
  | k, 0, h => by rw [show k = 0 by omega]; exact Nat.le_refl _
  | k, K + 1, h => by
    by_cases c : k = K + 1
    · rw [c]; exact Nat.le_refl _
    · have := pI_m (k := k) (K := K) (by omega); rw [pI]; omega
theorem pI_n {k K : Nat} (h : k < K) (h4 : (T k).1 = 4) : pI T k < pI T K := by
  have := pI_m (T := T) (k := k + 1) (K := K) (by omega)
  rw [pI, if_pos h4] at this
  omega
theorem pI_k : ∀ k, pI T k ≤ k
  | 0 => Nat.le_refl _
  | k + 1 => by have := pI_k k; rw [pI]; split <;> omega
theorem pD_k : ∀ k, pD T k ≤ k
  | 0 => Nat.le_refl _
  | k + 1 => by have := pD_k k; rw [pD]; split <;> omega
theorem pP_c : ∀ {K : Nat}, (∀ k, k < K → T' k = T k) → pP T' K = pP T K
  | 0, _ => rfl
  | K + 1, h => by rw [pP, pP, pP_c (K := K) (fun k hk => h k (by omega)), h K (by omega)]
theorem pI_c : ∀ {K : Nat}, (∀ k, k < K → T' k = T k) → pI T' K = pI T K
  | 0, _ => rfl
  | K + 1, h => by rw [pI, pI, pI_c (K := K) (fun k hk => h k (by omega)), h K (by omega)]
theorem pD_c : ∀ {K : Nat}, (∀ k, k < K → T' k = T k) → pD T' K = pD T K
  | 0, _ => rfl
  | K + 1, h => by rw [pD, pD, pD_c (K := K) (fun k hk => h k (by omega)), h K (by omega)]
theorem tk1_c (h : tk1 T g a it k) (hT : ∀ i, i ≤ k → T' i = T i) (hg : g' k = g k) (ha : a' (pP T k) = a (pP T k)) (hi : (T k).1 = 4 → it' (pI T k) = it (pI T k)) : tk1 T' g' a' it' k := by
  obtain ⟨h1, h2, h3, h4⟩ := h
  unfold tk1
  rw [pD_c (fun i hi => hT i (by omega)), pP_c (fun i hi => hT i (by omega)), pI_c (fun i hi => hT i (by omega)), hT k (Nat.le_refl _), hg, ha]
  exact ⟨h1, h2, h3, fun q => (hi q).trans (h4 q)⟩
theorem TA_c (h : TA_ T K g a it) (hT : ∀ i, i < K → T' i = T i) (hg : ∀ i, i < K → g' i = g i) (ha : ∀ i, i < pP T K → a' i = a i) (hi : ∀ i, i < pI T K → it' i = it i) : TA_ T' K g' a' it' := by
  intro k hk
  obtain ⟨h1, h2⟩ := h k hk
  have hm := pP_m (T := T) hk
  refine ⟨tk1_c h1 (fun i hi => hT i (by omega)) (hg k hk) (ha _ (by omega)) (fun q => hi _ (pI_n hk q)), fun j hj => ?_⟩
  rw [hT k hk] at hj
  rw [pP_c (fun i hi => hT i (by omega)), ha _ (by omega)]
  exact h2 j hj
theorem TA_s (h : TA_ T K g a it) (h1 : tk1 T g a it K) (h2 : ∀ j, j < (T K).2.2.1 → a (pP T K + 1 + j) = 0) : TA_ T (K + 1) g a it := by
  intro k hk
  by_cases c : k = K
  · rw [c]; exact ⟨h1, h2⟩
  · exact h k (by omega)
theorem tpB_i (h1 : -128 ≤ x.toInt) (h2 : x.toInt ≤ 127) (h : x &&& 255 = y) : tpB x y := by
  have t : ∀ k : Fin 256, ((nI k.val - 128) &&& 255).toInt = if k.val < 128 then (k.val : Int) + 128 else (k.val : Int) - 128 := by decide +kernel
  have e : x = nI (x.toInt + 128).toNat - 128 := Int32.toInt_inj.mp (by
    have : (nI (x.toInt + 128).toNat).toInt = x.toInt + 128 := by rw [nI_ti (by omega)]; omega
    (focus (first | omega | (simp (disch := (first | omega | (simp (disch := first | omega | (simp only [Int32.reduceToInt]; omega)) only [Int32.reduceToInt, ta_add, ta_sub, ta_mul, ta_neg, ta_div]; omega))) only [up_1, cp_1, rng_1, fn_1, dj_1, Nat.reduceEqDiff, false_and, and_false, true_and, and_true, or_true, true_or, or_false, false_or, not_true_eq_false, not_false_eq_true, ↓reduceIte, eq_self, ne_eq, ti_eq, ti_le, ti_lt, ti_ite, Int32.reduceToInt, ta_add, ta_sub, ta_mul, ta_neg, ta_div]; done) | (simp (disch := (first | omega | (simp (disch := first | omega | (simp only [Int32.reduceToInt]; omega)) only [Int32.reduceToInt, ta_add, ta_sub, ta_mul, ta_neg, ta_div]; omega))) only [up_1, cp_1, rng_1, fn_1, dj_1, Nat.reduceEqDiff, false_and, and_false, true_and, and_true, or_true, true_or, or_false, false_or, not_true_eq_false, not_false_eq_true, ↓reduceIte, eq_self, ne_eq, ti_eq, ti_le, ti_lt, ti_ite, Int32.reduceToInt, ta_add, ta_sub, ta_mul, ta_neg, ta_div]; omega))))
  have q := t ⟨(x.toInt + 128).toNat, by omega⟩
  dsimp only at q
  rw [← e, h] at q
  unfold tpB
  split at q <;> omega
theorem by_p (h : tpB x y) : ((x &&& 255).toUInt32 % 65536).toInt32 = y ∧ y.toInt8.toInt32 = x := by
  have hx : -128 ≤ x.toInt ∧ x.toInt ≤ 127 := by unfold tpB at h; omega
  have t : ∀ k : Fin 256, ((((nI k.val - 128) &&& 255).toUInt32 % 65536).toInt32).toInt = (if k.val < 128 then (k.val : Int) + 128 else (k.val : Int) - 128) ∧ ((((nI k.val - 128) &&& 255).toUInt32 % 65536).toInt32).toInt8.toInt32 = nI k.val - 128 := by decide +kernel
  have e : x = nI (x.toInt + 128).toNat - 128 := Int32.toInt_inj.mp (by
    have : (nI (x.toInt + 128).toNat).toInt = x.toInt + 128 := by rw [nI_ti (by omega)]; omega
    (focus (first | omega | (simp (disch := (first | omega | (simp (disch := first | omega | (simp only [Int32.reduceToInt]; omega)) only [Int32.reduceToInt, ta_add, ta_sub, ta_mul, ta_neg, ta_div]; omega))) only [up_1, cp_1, rng_1, fn_1, dj_1, Nat.reduceEqDiff, false_and, and_false, true_and, and_true, or_true, true_or, or_false, false_or, not_true_eq_false, not_false_eq_true, ↓reduceIte, eq_self, ne_eq, ti_eq, ti_le, ti_lt, ti_ite, Int32.reduceToInt, ta_add, ta_sub, ta_mul, ta_neg, ta_div]; done) | (simp (disch := (first | omega | (simp (disch := first | omega | (simp only [Int32.reduceToInt]; omega)) only [Int32.reduceToInt, ta_add, ta_sub, ta_mul, ta_neg, ta_div]; omega))) only [up_1, cp_1, rng_1, fn_1, dj_1, Nat.reduceEqDiff, false_and, and_false, true_and, and_true, or_true, true_or, or_false, false_or, not_true_eq_false, not_false_eq_true, ↓reduceIte, eq_self, ne_eq, ti_eq, ti_le, ti_lt, ti_ite, Int32.reduceToInt, ta_add, ta_sub, ta_mul, ta_neg, ta_div]; omega))))
  have q := t ⟨(x.toInt + 128).toNat, by omega⟩
  dsimp only at q
  rw [← e] at q
  have e1 : ((x &&& 255).toUInt32 % 65536).toInt32 = y := Int32.toInt_inj.mp (by
    rw [q.1]
    unfold tpB at h
    split <;> omega)
  exact ⟨e1, by rw [← e1]; exact q.2⟩
theorem e_ixo (hn : 100 ≤ n) (h : tpB x y) : f_J0_indexOf_0f7a4 n z 0 (((x &&& 255).toUInt32 % 65536).toInt32) d = some (sgB x, d) := by
  obtain ⟨e1, e2⟩ := by_p h
  rw [e1]
  have z1 : ¬ ((1 : Int32) = 0) := by decide
  have hy : 0 ≤ y.toInt ∧ y.toInt ≤ 255 := by unfold tpB at h; omega
  have E0 := e_len (n := n) (z := z) (d := d) (s := 0) (by decide)
  have E1 : f_J0_isLatin1_aae02 n z 0 d = some (1, d) := by
    rw [← wp_eq]
    unfold f_J0_isLatin1_aae02
    refine wi_ifn z1 ?_
    refine wi_ck (by decide) ?_
    refine wi_ifp rfl ?_
    exact wi_some rfl
  have E2 : f_J1_canEncode_9a6ad n z y d = some (1, d) := by
    rw [← wp_eq]
    unfold f_J1_canEncode_9a6ad
    refine wi_ifn (by rw [ti_lt]; simp only [Int32.reduceToInt]; omega) ?_
    refine wi_ifn (by rw [ti_lt]; simp only [Int32.reduceToInt]; omega) ?_
    exact wi_some rfl
  have em : ix_min (nI (ix_slen.getD 0 0)) (nI (ix_slen.getD 0 0)) = 4 := by decide
  have ex : ix_max 0 0 = 0 := by decide
  have n0 : ix_n (0 : Int32) = 0 := by decide
  have n1 : ix_n (1 : Int32) = 1 := by decide
  have n2 : ix_n (2 : Int32) = 2 := by decide
  have n3 : ix_n (3 : Int32) = 3 := by decide
  have b0 : (ix_byt.getD 0 []).getD 0 0 = 38 := by decide
  have b1 : (ix_byt.getD 0 []).getD 1 0 = 124 := by decide
  have b2 : (ix_byt.getD 0 []).getD 2 0 = 62 := by decide
  have b3 : (ix_byt.getD 0 []).getD 3 0 = 106 := by decide
  have iv : ∀ v : Int32, (v = 0 ∨ v = 1 ∨ v = 2 ∨ v = 3) → (0 < 6 ∧ vp_in v (ix_slen.getD 0 0)) := by
    intro v hv
    rcases hv with rfl | rfl | rfl | rfl
    all_goals exact ⟨by decide, (ni_vp (by decide)).mpr ⟨by decide, by decide⟩⟩
  have E3 : f_J1_indexOfChar_4cfef n z 0 y 0 4 d = some (sgB x, d) := by
    rw [← wp_eq]
    unfold f_J1_indexOfChar_4cfef
    refine wi_lt ?_
    rw [e2]
    unfold f_J1_indexOfChar_4cfef_7
    refine wp_fx2 (J := fun v e => e = d ∧ ((v = 0) ∨ (v = 1 ∧ x.toInt ≠ 38) ∨ (v = 2 ∧ x.toInt ≠ 38 ∧ x.toInt ≠ 124) ∨ (v = 3 ∧ x.toInt ≠ 38 ∧ x.toInt ≠ 124 ∧ x.toInt ≠ 62) ∨ (v = 4 ∧ x.toInt ≠ 38 ∧ x.toInt ≠ 124 ∧ x.toInt ≠ 62 ∧ x.toInt ≠ 106))) (μ := fun v _ => 5 - ix_n v) ?_ n 0 d ⟨rfl, Or.inl rfl⟩ (by omega)
    rintro rec v e ⟨rfl, hv⟩ ih
    unfold b_J1_indexOfChar_4cfef_7
    unfold sgB at ih ⊢
    rcases hv with rfl | ⟨rfl, h1⟩ | ⟨rfl, h1, h2⟩ | ⟨rfl, h1, h2, h3⟩ | ⟨rfl, h1, h2, h3, h4⟩
    · refine wi_ifn (by decide) ?_
      refine wi_ck (iv _ (by decide)) ?_
      rw [n0, b0]
      by_cases c0 : x.toInt = 38
      · refine wi_ifp (by rw [ti_eq]; exact c0.symm) ?_
        refine wi_some ?_
        rw [if_pos c0]
      · refine wi_ifn (by rw [ti_eq]; exact fun q => c0 q.symm) ?_
        refine wi_lt ?_
        exact ih _ _ ⟨rfl, Or.inr (Or.inl ⟨rfl, c0⟩)⟩ (by decide)
    · refine wi_ifn (by decide) ?_
      refine wi_ck (iv _ (by decide)) ?_
      rw [n1, b1]
      by_cases c0 : x.toInt = 124
      · refine wi_ifp (by rw [ti_eq]; exact c0.symm) ?_
        refine wi_some ?_
        rw [if_neg h1, if_pos c0]
      · refine wi_ifn (by rw [ti_eq]; exact fun q => c0 q.symm) ?_
        refine wi_lt ?_
        exact ih _ _ ⟨rfl, Or.inr (Or.inr (Or.inl ⟨rfl, h1, c0⟩))⟩ (by decide)
    · refine wi_ifn (by decide) ?_
      refine wi_ck (iv _ (by decide)) ?_
      rw [n2, b2]
      by_cases c0 : x.toInt = 62
      · refine wi_ifp (by rw [ti_eq]; exact c0.symm) ?_
        refine wi_some ?_
        rw [if_neg h1, if_neg h2, if_pos c0]
      · refine wi_ifn (by rw [ti_eq]; exact fun q => c0 q.symm) ?_
        refine wi_lt ?_
        exact ih _ _ ⟨rfl, Or.inr (Or.inr (Or.inr (Or.inl ⟨rfl, h1, h2, c0⟩)))⟩ (by decide)
    · refine wi_ifn (by decide) ?_
      refine wi_ck (iv _ (by decide)) ?_
      rw [n3, b3]
      by_cases c0 : x.toInt = 106
      · refine wi_ifp (by rw [ti_eq]; exact c0.symm) ?_
        refine wi_some ?_
        rw [if_neg h1, if_neg h2, if_neg h3, if_pos c0]
      · refine wi_ifn (by rw [ti_eq]; exact fun q => c0 q.symm) ?_
        refine wi_lt ?_
        exact ih _ _ ⟨rfl, Or.inr (Or.inr (Or.inr (Or.inr ⟨rfl, h1, h2, h3, c0⟩)))⟩ (by decide)
    · refine wi_ifp (by decide) ?_
      refine wi_some ?_
      rw [if_neg h1, if_neg h2, if_neg h3, if_neg h4]
  rw [← wp_eq]
  unfold f_J0_indexOf_0f7a4 f_J0_indexOf_7cf53
  refine wi_ck (by decide) ?_
  refine wi_bd2 ?_
  refine wi_ck (by decide) ?_
  refine wi_bd2 ?_
  refine wi_e E1 ?_
  refine wi_ifn z1 ?_
  refine wi_bd2 ?_
  refine wi_e E0 ?_
  refine wi_bd2 ?_
  unfold f_J1_indexOf_4cfef
  refine wi_bd2 ?_
  refine wi_e E2 ?_
  refine wi_ifn z1 ?_
  refine wi_lt ?_
  refine wi_ck (by decide) ?_
  refine wi_lt ?_
  dsimp only
  rw [em, ex]
  refine wi_ifp (by decide) ?_
  refine wi_bd2 ?_
  refine wi_e E3 ?_
  refine wi_some ?_
  refine wi_some ?_
  exact wi_some rfl
end TOK

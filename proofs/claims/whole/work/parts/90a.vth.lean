/-! PARTIAL TRUTHS: quiet rows, what a quiet truth must have -/
def tV (V : Nat → Int) (v : Int32) : Int := if 0 < v.toInt then V (ix_n (ix_abs v)) else -V (ix_n (ix_abs v))
def wV (V : Nat → Int) (v : Int32) : Int := if 0 < tV V v then 1000 else tV V v + 1
def vkV (V : Nat → Int) : Prop := ∀ m, m ≤ 300 → V m = 0 ∨ V m = 1 ∨ V m = -1
def ok_i (v : Int32) : Prop := v.toInt ≠ 0 ∧ -300 ≤ v.toInt ∧ v.toInt ≤ 300
def qV (V : Nat → Int) (g : Nat → Int32) (a b : Nat) : Prop := (∃ p, a ≤ p ∧ p < b ∧ tV V (g p) = 1) ∨ ∃ p q, a ≤ p ∧ p < q ∧ q < b ∧ tV V (g p) = 0 ∧ tV V (g q) = 0
/-- V has all that U has -/
def xV (U V : Nat → Int) : Prop := ∀ m, m ≤ 300 → U m ≠ 0 → V m = U m
section VTH
variable {U V : Nat → Int} {g : Nat → Int32} {a b : Nat} {v : Int32}
theorem ok_n (h : ok_i v) : ix_n (ix_abs v) ≤ 300 := (na_b h.1 h.2.1 h.2.2).2.1
theorem tV_b (hV : vkV V) (h : ok_i v) : tV V v = 0 ∨ tV V v = 1 ∨ tV V v = -1 := by
  have := hV _ (ok_n h)
  unfold tV
  split <;> omega
theorem tV_x (h : xV U V) (hv : ok_i v) (h0 : tV U v ≠ 0) : tV V v = tV U v := by
  unfold tV at h0 ⊢
  split at h0
  · next q => rw [if_pos q, if_pos q]; exact h _ (ok_n hv) h0
  · next q => rw [if_neg q, if_neg q, h _ (ok_n hv) (by omega)]
theorem tV_n (h : ok_i v) : tV V (-v) = -tV V v := by
  have e := na_n h.2.1 h.2.2
  have en : (-v).toInt = -v.toInt := by have := h.2.1; have := h.2.2; (focus (first | omega | (simp (disch := (first | omega | (simp (disch := first | omega | (simp only [Int32.reduceToInt]; omega)) only [Int32.reduceToInt, ta_add, ta_sub, ta_mul, ta_neg, ta_div]; omega))) only [up_1, cp_1, rng_1, fn_1, dj_1, Nat.reduceEqDiff, false_and, and_false, true_and, and_true, or_true, true_or, or_false, false_or, not_true_eq_false, not_false_eq_true, ↓reduceIte, eq_self, ne_eq, ti_eq, ti_le, ti_lt, ti_ite, Int32.reduceToInt, ta_add, ta_sub, ta_mul, ta_neg, ta_div]; done) | (simp (disch := (first | omega | (simp (disch := first | omega | (simp only [Int32.reduceToInt]; omega)) only [Int32.reduceToInt, ta_add, ta_sub, ta_mul, ta_neg, ta_div]; omega))) only [up_1, cp_1, rng_1, fn_1, dj_1, Nat.reduceEqDiff, false_and, and_false, true_and, and_true, or_true, true_or, or_false, false_or, not_true_eq_false, not_false_eq_true, ↓reduceIte, eq_self, ne_eq, ti_eq, ti_le, ti_lt, ti_ite, Int32.reduceToInt, ta_add, ta_sub, ta_mul, ta_neg, ta_div]; omega)))
  have := h.1
  unfold tV
  rw [e, en]
  by_cases c : 0 < v.toInt
  · rw [if_pos c, if_neg (by omega)]
  · rw [if_neg c, if_pos (by omega)]; omega
theorem ok_neg (h : ok_i v) : ok_i (-v) := by
  obtain ⟨h1, h2, h3⟩ := h
  have en : (-v).toInt = -v.toInt := by (focus (first | omega | (simp (disch := (first | omega | (simp (disch := first | omega | (simp only [Int32.reduceToInt]; omega)) only [Int32.reduceToInt, ta_add, ta_sub, ta_mul, ta_neg, ta_div]; omega))) only [up_1, cp_1, rng_1, fn_1, dj_1, Nat.reduceEqDiff, false_and, and_false, true_and, and_true, or_true, true_or, or_false, false_or, not_true_eq_false, not_false_eq_true, ↓reduceIte, eq_self, ne_eq, ti_eq, ti_le, ti_lt, ti_ite, Int32.reduceToInt, ta_add, ta_sub, ta_mul, ta_neg, ta_div]; done) | (simp (disch := (first | omega | (simp (disch := first | omega | (simp only [Int32.reduceToInt]; omega)) only [Int32.reduceToInt, ta_add, ta_sub, ta_mul, ta_neg, ta_div]; omega))) only [up_1, cp_1, rng_1, fn_1, dj_1, Nat.reduceEqDiff, false_and, and_false, true_and, and_true, or_true, true_or, or_false, false_or, not_true_eq_false, not_false_eq_true, ↓reduceIte, eq_self, ne_eq, ti_eq, ti_le, ti_lt, ti_ite, Int32.reduceToInt, ta_add, ta_sub, ta_mul, ta_neg, ta_div]; omega)))
  unfold ok_i
  rw [en]
  omega
theorem wV_b (hV : vkV V) (h : ok_i v) : wV V v = 0 ∨ wV V v = 1 ∨ wV V v = 1000 := by
  unfold wV
  rcases tV_b hV h with e | e | e <;> rw [e] <;> decide
theorem wV_0 (hV : vkV V) (h : ok_i v) (e : wV V v = 0) : tV V v = -1 := by
  unfold wV at e
  rcases tV_b hV h with q | q | q <;> rw [q] at e ⊢ <;> revert e <;> decide
theorem wV_1 (hV : vkV V) (h : ok_i v) (e : wV V v = 1) : tV V v = 0 := by
  unfold wV at e
  rcases tV_b hV h with q | q | q <;> rw [q] at e ⊢ <;> revert e <;> decide
theorem wV_2 (hV : vkV V) (h : ok_i v) (e : wV V v = 1000) : tV V v = 1 := by
  unfold wV at e
  rcases tV_b hV h with q | q | q <;> rw [q] at e ⊢ <;> revert e <;> decide
/-- what a row's weight says -/
theorem sW (f : Nat → Int) : ∀ b : Nat, a ≤ b → (∀ p, a ≤ p → p < b → f p = 0 ∨ f p = 1 ∨ f p = 1000) → 0 ≤ sm_ f a b ∧ ((sm_ f a b = 0 ∧ ∀ p, a ≤ p → p < b → f p = 0) ∨ (sm_ f a b = 1 ∧ ∃ p, a ≤ p ∧ p < b ∧ f p = 1 ∧ ∀ q, a ≤ q → q < b → q ≠ p → f q = 0) ∨ (2 ≤ sm_ f a b ∧ ((∃ p, a ≤ p ∧ p < b ∧ f p = 1000) ∨ ∃ p q, a ≤ p ∧ p < q ∧ q < b ∧ f p = 1 ∧ f q = 1)))
  | 0, h, _ => by
    rw [sm_e (by omega)]
    exact ⟨by omega, Or.inl ⟨rfl, fun p h1 h2 => by omega⟩⟩
  | b + 1, h, hf => by
    by_cases c : a = b + 1
    · rw [sm_e (by omega)]
      exact ⟨by omega, Or.inl ⟨rfl, fun p h1 h2 => by omega⟩⟩
    · obtain ⟨i0, i1⟩ := sW f b (by omega) (fun p h1 h2 => hf p h1 (by omega))
      rw [sm_s (by omega)]
      have hb := hf b (by omega) (by omega)
      refine ⟨by omega, ?_⟩
      rcases i1 with ⟨e, q⟩ | ⟨e, p, p1, p2, p3, p4⟩ | ⟨e, q⟩
      · rcases hb with k | k | k
        · refine Or.inl ⟨by omega, fun p h1 h2 => ?_⟩
          by_cases cp : p = b
          · rw [cp]; exact k
          · exact q p h1 (by omega)
        · refine Or.inr (Or.inl ⟨by omega, b, by omega, by omega, k, fun r h1 h2 h3 => q r h1 (by omega)⟩)
        · exact Or.inr (Or.inr ⟨by omega, Or.inl ⟨b, by omega, by omega, k⟩⟩)
      · rcases hb with k | k | k
        · refine Or.inr (Or.inl ⟨by omega, p, p1, by omega, p3, fun r h1 h2 h3 => ?_⟩)
          by_cases cr : r = b
          · rw [cr]; exact k
          · exact p4 r h1 (by omega) h3
        · exact Or.inr (Or.inr ⟨by omega, Or.inr ⟨p, b, p1, p2, by omega, p3, k⟩⟩)
        · exact Or.inr (Or.inr ⟨by omega, Or.inl ⟨b, by omega, by omega, k⟩⟩)
      · refine Or.inr (Or.inr ⟨by omega, ?_⟩)
        rcases q with ⟨p, p1, p2, p3⟩ | ⟨p, r, p1, p2, p3, p4, p5⟩
        · exact Or.inl ⟨p, p1, by omega, p3⟩
        · exact Or.inr ⟨p, r, p1, p2, by omega, p4, p5⟩
/-- a row's weight under U: all false; one open and the rest false; quiet -/
theorem sQ3 (hU : vkV U) (hab : a ≤ b) (hg : ∀ p, a ≤ p → p < b → ok_i (g p)) : 0 ≤ sm_ (fun p => wV U (g p)) a b ∧ ((sm_ (fun p => wV U (g p)) a b = 0 ∧ ∀ p, a ≤ p → p < b → tV U (g p) = -1) ∨ (sm_ (fun p => wV U (g p)) a b = 1 ∧ ∃ p, a ≤ p ∧ p < b ∧ tV U (g p) = 0 ∧ ∀ q, a ≤ q → q < b → q ≠ p → tV U (g q) = -1) ∨ (2 ≤ sm_ (fun p => wV U (g p)) a b ∧ qV U g a b)) := by
  obtain ⟨h0, h⟩ := sW (a := a) (fun p => wV U (g p)) b hab (fun p h1 h2 => wV_b hU (hg p h1 h2))
  refine ⟨h0, ?_⟩
  rcases h with ⟨e, q⟩ | ⟨e, p, p1, p2, p3, p4⟩ | ⟨e, q⟩
  · exact Or.inl ⟨e, fun p h1 h2 => wV_0 hU (hg p h1 h2) (q p h1 h2)⟩
  · exact Or.inr (Or.inl ⟨e, p, p1, p2, wV_1 hU (hg p p1 p2) p3, fun r h1 h2 h3 => wV_0 hU (hg r h1 h2) (p4 r h1 h2 h3)⟩)
  · refine Or.inr (Or.inr ⟨e, ?_⟩)
    rcases q with ⟨p, p1, p2, p3⟩ | ⟨p, r, p1, p2, p3, p4, p5⟩
    · exact Or.inl ⟨p, p1, p2, wV_2 hU (hg p p1 p2) p3⟩
    · exact Or.inr ⟨p, r, p1, p2, p3, wV_1 hU (hg p p1 (by omega)) p4, wV_1 hU (hg r (by omega) p3) p5⟩
theorem qV_0 (hx : xV U V) (hg : ∀ p, a ≤ p → p < b → ok_i (g p)) (h : ∀ p, a ≤ p → p < b → tV U (g p) = -1) : ¬ qV V g a b := by
  have e : ∀ p, a ≤ p → p < b → tV V (g p) = -1 := fun p h1 h2 => by rw [tV_x hx (hg p h1 h2) (by rw [h p h1 h2]; decide)]; exact h p h1 h2
  rintro (⟨p, p1, p2, p3⟩ | ⟨p, q, p1, p2, p3, p4, _⟩)
  · rw [e p p1 p2] at p3; exact absurd p3 (by decide)
  · rw [e p p1 (by omega)] at p4; exact absurd p4 (by decide)
theorem qV_1 (hx : xV U V) (hg : ∀ p, a ≤ p → p < b → ok_i (g p)) {p0 : Nat} (h : ∀ p, a ≤ p → p < b → p ≠ p0 → tV U (g p) = -1) (hq : qV V g a b) : tV V (g p0) = 1 := by
  have e : ∀ p, a ≤ p → p < b → p ≠ p0 → tV V (g p) = -1 := fun p h1 h2 h3 => by rw [tV_x hx (hg p h1 h2) (by rw [h p h1 h2 h3]; decide)]; exact h p h1 h2 h3
  rcases hq with ⟨p, p1, p2, p3⟩ | ⟨p, q, p1, p2, p3, p4, p5⟩
  · by_cases c : p = p0
    · rw [← c]; exact p3
    · rw [e p p1 p2 c] at p3; exact absurd p3 (by decide)
  · by_cases c : p = p0
    · rw [e q (by omega) p3 (by omega)] at p5; exact absurd p5 (by decide)
    · rw [e p p1 (by omega) c] at p4; exact absurd p4 (by decide)
/-- one more item true -/
theorem xV_a {U' : Nat → Int} (hx : xV U V) (hv : ok_i v) (h1 : ∀ m, m ≠ ix_n (ix_abs v) → U' m = U m) (h2 : U' (ix_n (ix_abs v)) = if 0 < v.toInt then 1 else -1) (ht : tV V v = 1) : xV U' V := by
  intro m hm h0
  by_cases c : m = ix_n (ix_abs v)
  · rw [c, h2]
    unfold tV at ht
    split at ht
    · next q => rw [if_pos q]; exact ht
    · next q => rw [if_neg q]; omega
  · rw [h1 m c] at h0 ⊢
    exact hx m hm h0
end VTH

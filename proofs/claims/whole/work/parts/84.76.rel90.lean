/-! THE TWO SOLVERS SIDE BY SIDE (90, 1) -/
/-- the trail, levels, reasons and latest values on both sides -/
def rt_90 (c r : ix_D2) (rn : Nat → Nat) : Prop := r.1 174 1 = c.1 91 12 ∧ r.1 175 1 = c.1 91 13 ∧ (∀ i : Nat, (i : Int) < (c.1 91 12).toInt → r.1 173 (300 * 1 + i) = c.1 105 i ∧ r.1 168 (301 * 1 + ix_n (ix_abs (c.1 105 i))) = c.1 103 (ix_n (ix_abs (c.1 105 i))) ∧ (((c.1 104 (ix_n (ix_abs (c.1 105 i)))).toInt = -1 ∧ (r.1 169 (301 * 1 + ix_n (ix_abs (c.1 105 i)))).toInt = -7) ∨ ∃ k : Nat, (k : Int) < (c.1 92 2).toInt ∧ c.1 104 (ix_n (ix_abs (c.1 105 i))) = nI k ∧ r.1 169 (301 * 1 + ix_n (ix_abs (c.1 105 i))) = nI (rn k))) ∧ ∀ m, m ≤ 300 → r.1 170 (301 * 1 + m) = c.1 102 m
/-- an item of a row -/
def in_90 (c : ix_D2) (k p : Nat) : Prop := (c.1 94 k).toInt ≤ (p : Int) ∧ (p : Int) < (c.1 94 (k + 1)).toInt
/-- the level of the trail's place i -/
def le_90 (c : ix_D2) (i : Nat) : Int := (c.1 103 (ix_n (ix_abs (c.1 105 i)))).toInt
/-- levels along the trail; reasons -/
def la_90 (c : ix_D2) : Prop := 0 ≤ (c.1 91 13).toInt ∧ (∀ i : Nat, (i : Int) < (c.1 91 12).toInt → 0 ≤ le_90 c i ∧ le_90 c i ≤ (c.1 91 13).toInt ∧ le_90 c i ≤ (i : Int) + 1) ∧ (∀ i j : Nat, i < j → (j : Int) < (c.1 91 12).toInt → le_90 c i ≤ le_90 c j) ∧ (∀ i : Nat, (i : Int) < (c.1 91 12).toInt → (c.1 104 (ix_n (ix_abs (c.1 105 i)))).toInt < 0 → 1 ≤ le_90 c i ∧ ∀ j, j < i → le_90 c j < le_90 c i) ∧ (∀ i k : Nat, (i : Int) < (c.1 91 12).toInt → c.1 104 (ix_n (ix_abs (c.1 105 i))) = nI k → (k : Int) < (c.1 92 2).toInt → (∃ p, in_90 c k p ∧ c.1 93 p = c.1 105 i) ∧ ∀ p, in_90 c k p → c.1 93 p = c.1 105 i ∨ ∃ j, j < i ∧ c.1 105 j = -(c.1 93 p)) ∧ ∀ m : Nat, 1 ≤ m → m ≤ 300 → (c.1 101 m).toInt ≠ 0 → ∃ i : Nat, (i : Int) < (c.1 91 12).toInt ∧ ix_n (ix_abs (c.1 105 i)) = m
/-- a quarrel at a level has an item of it -/
def ql_90 (c : ix_D2) : Prop := 0 < (c.1 91 13).toInt → ∀ k : Nat, (k : Int) < (c.1 92 2).toInt → (c.1 98 k).toInt < 1000000 → (∀ p, in_90 c k p → vl_ c.1 101 (c.1 93 p) = -1) → ∃ p, in_90 c k p ∧ (c.1 103 (ix_n (ix_abs (c.1 93 p)))).toInt = (c.1 91 13).toInt
def lv_90 (c : ix_D2) : Prop := la_90 c ∧ (c.1 91 13).toInt ≤ (c.1 91 12).toInt ∧ ql_90 c
def rs1_90 (c r : ix_D2) : Prop := ∀ k w : Nat, (k : Int) < (c.1 115 8).toInt → w < 8 → c.2 112 (8 * k + w) = r.2 182 (8 * (800 * 1 + k) + w)
def rs2_90 (c r : ix_D2) : Prop := ∀ i w : Nat, (i : Int) < (c.1 91 12).toInt → le_90 c i = 0 → w < 8 → c.2 113 (8 * ix_n (ix_abs (c.1 105 i)) + w) = r.2 183 (8 * (301 * 1 + ix_n (ix_abs (c.1 105 i))) + w)
/-- sources: where the case's rows have their own numbers -/
def rs_90 (c r : ix_D2) (rn : Nat → Nat) : Prop := (∀ k : Nat, (k : Int) < (c.1 91 15).toInt → rn k = k) → rs1_90 c r ∧ rs2_90 c r
def wg_90 (c r : ix_D2) : Prop := c.1 91 14 = r.1 161 1 ∧ 0 ≤ (r.1 161 1).toInt ∧ (r.1 161 1).toInt ≤ 300 ∧ (∀ m : Nat, 1 ≤ m → (m : Int) ≤ (r.1 161 1).toInt → c.2 109 m = r.2 171 (301 * 1 + m) ∧ 0 ≤ (c.2 109 m).toInt ∧ (c.2 109 m).toInt ≤ 1000000000000) ∧ c.2 90 3 = r.2 172 1 ∧ 1 ≤ (c.2 90 3).toInt ∧ (c.2 90 3).toInt ≤ 1125000000000
/-- items and names -/
def nb_90 (c : ix_D2) : Prop := (∀ p : Nat, (p : Int) < (c.1 94 (ix_n (c.1 92 2))).toInt → (ix_n (ix_abs (c.1 93 p)) : Int) ≤ (c.1 91 14).toInt) ∧ ∀ i : Nat, (i : Int) < (c.1 91 12).toInt → (ix_n (ix_abs (c.1 105 i)) : Int) ≤ (c.1 91 14).toInt
def ty_90 (c r : ix_D2) : Prop := (∀ k, tt_ k → c.1 115 k = r.1 187 (10 * 1 + k)) ∧ c.1 115 4 = r.1 179 1 ∧ c.1 115 8 = r.1 178 1 ∧ (c.1 115 8).toInt = (c.1 92 2).toInt - (c.1 91 16).toInt ∧ (c.1 115 7).toInt = sm_ (fun k => if (c.1 98 k).toInt < 1000000 then 1 else 0) (ix_n (c.1 91 16)) (ix_n (c.1 92 2)) ∧ c.1 90 19 = r.1 185 1 ∧ (r.1 186 1).toInt = (c.1 115 5).toInt + 1 ∧ 0 ≤ (c.1 115 5).toInt ∧ (c.1 115 5).toInt ≤ (c.1 115 4).toInt ∧ (∀ k : Nat, (k : Int) < (c.1 115 8).toInt → c.1 111 k = r.1 181 (800 * 1 + k)) ∧ (∀ k : Nat, (k : Int) ≤ (c.1 115 8).toInt → (r.1 176 (801 * 1 + k)).toInt = (c.1 94 (ix_n (c.1 91 16) + k)).toInt - (c.1 94 (ix_n (c.1 91 16))).toInt ∧ (r.1 176 (801 * 1 + k)).toInt ≤ 8000) ∧ c.1 90 17 = r.1 125 30 ∧ c.1 90 18 = r.1 125 31 ∧ 0 ≤ (r.1 125 30).toInt ∧ (r.1 125 30).toInt ≤ 100 ∧ 0 ≤ (r.1 125 31).toInt ∧ (r.1 125 31).toInt ≤ 800 ∧ (c.1 91 16).toInt ≤ 564 ∧ (c.1 94 (ix_n (c.1 91 16))).toInt ≤ 3780
def aq_90 (c r : ix_D2) : Prop := c.1 90 5 = r.1 165 1 ∧ 0 ≤ (r.1 165 1).toInt ∧ (r.1 165 1).toInt ≤ 20 ∧ ∀ i : Nat, (i : Int) < (r.1 165 1).toInt → c.1 110 i = r.1 164 (20 * 1 + i) ∧ (c.1 110 i).toInt ≠ 0 ∧ (ix_n (ix_abs (c.1 110 i)) : Int) ≤ (c.1 91 14).toInt ∧ -300 ≤ (c.1 110 i).toInt ∧ (c.1 110 i).toInt ≤ 300
def cq_90 (c r : ix_D2) : Prop := 1 = 0 → ((r.1 125 91).toInt = 0 ∧ ∀ i, i < 5 → (c.1 116 i).toInt = -1005) ∨ ((r.1 125 91).toInt = 1 ∧ ∀ i, i < 5 → c.1 116 i = r.1 188 i)
def R_90 (c r : ix_D2) (rn : Nat → Nat) : Prop := bi_90 c ∧ rr_90 c r rn ∧ tk_90 c ∧ rt_90 c r rn ∧ lv_90 c ∧ rs_90 c r rn ∧ wg_90 c r ∧ nb_90 c ∧ ty_90 c r ∧ aq_90 c r ∧ cq_90 c r
/-- what a solving may change: class -/
def fc_90 (c c' : ix_D2) : Prop := ∀ a k, (a < 90 ∨ 119 < a ∨ (106 ≤ a ∧ a ≤ 108)) → c'.1 a k = c.1 a k ∧ c'.2 a k = c.2 a k
/-- and reference -/
def sq_q1 (a k : Nat) : Prop := (a = 125 ∧ (k = 89 ∨ (97 ≤ k ∧ k ≤ 100) ∨ k = 104 ∨ k = 106 ∨ (1 = 0 ∧ (k = 91 ∨ k = 94 ∨ k = 96)))) ∨ (191 ≤ a ∧ a ≤ 195) ∨ (1 = 0 ∧ 188 ≤ a ∧ a ≤ 190) ∨ (167 ≤ a ∧ a ≤ 171 ∧ 301 * 1 ≤ k ∧ k < 301 * 1 + 301) ∨ ((a = 172 ∨ a = 174 ∨ a = 175 ∨ a = 178 ∨ a = 179 ∨ a = 185 ∨ a = 186) ∧ k = 1) ∨ (a = 173 ∧ 300 * 1 ≤ k ∧ k < 300 * 1 + 300) ∨ (a = 176 ∧ 801 * 1 ≤ k ∧ k < 801 * 1 + 801) ∨ (a = 177 ∧ 8050 * 1 ≤ k ∧ k < 8050 * 1 + 8050) ∨ ((a = 180 ∨ a = 181) ∧ 800 * 1 ≤ k ∧ k < 800 * 1 + 800) ∨ (a = 182 ∧ 6400 * 1 ≤ k ∧ k < 6400 * 1 + 6400) ∨ (a = 183 ∧ 2408 * 1 ≤ k ∧ k < 2408 * 1 + 2408) ∨ a = 184 ∨ (a = 187 ∧ 10 * 1 ≤ k ∧ k < 10 * 1 + 10)
def fq_q1 (r r' : ix_D2) : Prop := ∀ a k, ¬ sq_q1 a k → r'.1 a k = r.1 a k ∧ r'.2 a k = r.2 a k
section REL
variable {n : Nat} {z : ix_Z} {c c' c3 r r' r3 : ix_D2} {rn : Nat → Nat} {v x y y' w : Int32}
theorem fc_t90 (h1 : fc_90 c c') (h2 : fc_90 c' c3) : fc_90 c c3 := fun a k h => ⟨(h2 a k h).1.trans (h1 a k h).1, (h2 a k h).2.trans (h1 a k h).2⟩
theorem fq_tq1 (h1 : fq_q1 r r') (h2 : fq_q1 r' r3) : fq_q1 r r3 := fun a k h => ⟨(h2 a k h).1.trans (h1 a k h).1, (h2 a k h).2.trans (h1 a k h).2⟩
theorem fq_ffq1 (h : ff_ r r') : fq_q1 r r' := fun a k hs => ⟨h.1 a k (fun q => hs (by unfold sq_q1; omega)), by rw [h.2]⟩
/-- the trail has room while a name is open -/
theorem tk_room90 (ht : tk_90 c) (v0 : v.toInt ≠ 0) (v1 : -300 ≤ v.toInt) (v2 : v.toInt ≤ 300) (hv : vl_ c.1 101 v = 0) : (∀ i : Nat, (i : Int) < (c.1 91 12).toInt → ix_n (ix_abs (c.1 105 i)) ≠ ix_n (ix_abs v)) ∧ (c.1 91 12).toInt < 300 := by
  obtain ⟨t1, t2, t3, t4⟩ := ht
  have hne : ∀ i : Nat, (i : Int) < (c.1 91 12).toInt → ix_n (ix_abs (c.1 105 i)) ≠ ix_n (ix_abs v) := by
    intro i hi e
    obtain ⟨q0, q1, q2, q3⟩ := t3 i hi
    rw [vl_a, e] at q3
    rw [vl_a] at hv
    split at q3 <;> split at hv <;> omega
  refine ⟨hne, ?_⟩
  obtain ⟨t, et⟩ : ∃ t : Nat, (t : Int) = (c.1 91 12).toInt := ⟨ix_n (c.1 91 12), ni_c t1⟩
  have hv2 := na_b v0 v1 v2
  have := pg_ 300 (t + 1) (fun i => if i = t then ix_n (ix_abs v) else ix_n (ix_abs (c.1 105 i))) (fun i hi => by
    show 1 ≤ (if i = t then ix_n (ix_abs v) else ix_n (ix_abs (c.1 105 i))) ∧ (if i = t then ix_n (ix_abs v) else ix_n (ix_abs (c.1 105 i))) ≤ 300
    by_cases e : i = t
    · rw [if_pos e]; omega
    · rw [if_neg e]
      obtain ⟨q0, q1, q2, q3⟩ := t3 i (by omega)
      have := na_b q0 q1 q2
      omega) (fun i j h1 h2 => by
    show (if i = t then ix_n (ix_abs v) else ix_n (ix_abs (c.1 105 i))) ≠ (if j = t then ix_n (ix_abs v) else ix_n (ix_abs (c.1 105 j)))
    rw [if_neg (show ¬ i = t by omega)]
    by_cases e : j = t
    · rw [if_pos e]; exact hne i (by omega)
    · rw [if_neg e]; exact t4 i j h1 (by omega))
  omega
/-- an open item gets its value, on both sides -/
theorem as_R90 (hr : rr_90 c r rn) (ht : tk_90 c) (hrt : rt_90 c r rn) (hl : la_90 c) (v0 : v.toInt ≠ 0) (v1 : -300 ≤ v.toInt) (v2 : v.toInt ≤ 300) (hv : vl_ c.1 101 v = 0)
    (hy : (y.toInt = -1 ∧ y'.toInt = -7 ∧ 1 ≤ (c.1 91 13).toInt ∧ ∀ i : Nat, (i : Int) < (c.1 91 12).toInt → le_90 c i < (c.1 91 13).toInt) ∨ ∃ k : Nat, (k : Int) < (c.1 92 2).toInt ∧ y = nI k ∧ y' = nI (rn k) ∧ (∃ p, in_90 c k p ∧ c.1 93 p = v) ∧ ∀ p, in_90 c k p → c.1 93 p = v ∨ vl_ c.1 101 (c.1 93 p) = -1)
    (hlt : (c.1 91 13).toInt ≤ (c.1 91 12).toInt + 1) (hk : (c.1 92 2).toInt ≤ 1364) (hi3 : ∀ k p : Nat, (k : Int) < (c.1 92 2).toInt → in_90 c k p → (c.1 93 p).toInt ≠ 0 ∧ -300 ≤ (c.1 93 p).toInt ∧ (c.1 93 p).toInt ≤ 300)
    (h3 : ∀ a k, a ≠ 98 → c3.1 a k = (am_90 v y c).1 a k) (h4 : ∀ k : Nat, (k : Int) < (c.1 92 2).toInt → (1000000 ≤ (c3.1 98 k).toInt ↔ 1000000 ≤ (c.1 98 k).toInt)) : rr_90 c3 (bm_q1 v y' r) rn ∧ tk_90 c3 ∧ rt_90 c3 (bm_q1 v y' r) rn ∧ la_90 c3 ∧ (∀ i : Nat, (i : Int) < (c.1 91 12).toInt → le_90 c3 i = le_90 c i ∧ c3.1 105 i = c.1 105 i) ∧ (∀ m, m ≤ 300 → vl_ok c.1 101 → vl_ok c3.1 101) ∧ c3.1 105 (ix_n (c.1 91 12)) = v ∧ (c3.1 91 12).toInt = (c.1 91 12).toInt + 1 := by
  obtain ⟨hne, hroom⟩ := tk_room90 ht v0 v1 v2 hv
  obtain ⟨t1, t2, t3, t4⟩ := ht
  obtain ⟨t, et⟩ : ∃ t : Nat, (t : Int) = (c.1 91 12).toInt := ⟨ix_n (c.1 91 12), ni_c t1⟩
  have nt : ix_n (c.1 91 12) = t := ni_k et.symm
  obtain ⟨b1, b2, b3, b4⟩ := na_b v0 v1 v2
  obtain ⟨A, hA⟩ : ∃ A, A = ix_n (ix_abs v) := ⟨_, rfl⟩
  rw [← hA] at hne b1 b2 b3 b4
  have o : ∀ a k, a ≠ 98 → a ≠ 101 → a ≠ 103 → a ≠ 104 → a ≠ 105 → (a ≠ 91 ∨ k ≠ 12) → c3.1 a k = c.1 a k := fun a k g8 g1 g2 g3 g4 g5 => by rw [h3 a k g8]; exact am_o90 g1 g2 g3 g4 g5
  have e11 : ∀ m, c3.1 101 m = if m = A then (if 0 < v.toInt then 1 else -1) else c.1 101 m := fun m => by rw [h3 _ _ (by omega), hA]; unfold am_90; simp only [up_1, Nat.reduceEqDiff, false_and, and_false, true_and, and_true, or_true, true_or, or_false, false_or, not_true_eq_false, not_false_eq_true, ↓reduceIte, eq_self, ne_eq]
  have e13 : ∀ m, c3.1 103 m = if m = A then c.1 91 13 else c.1 103 m := fun m => by rw [h3 _ _ (by omega), hA]; unfold am_90; simp only [up_1, Nat.reduceEqDiff, false_and, and_false, true_and, and_true, or_true, true_or, or_false, false_or, not_true_eq_false, not_false_eq_true, ↓reduceIte, eq_self, ne_eq]
  have e14 : ∀ m, c3.1 104 m = if m = A then y else c.1 104 m := fun m => by rw [h3 _ _ (by omega), hA]; unfold am_90; simp only [up_1, Nat.reduceEqDiff, false_and, and_false, true_and, and_true, or_true, true_or, or_false, false_or, not_true_eq_false, not_false_eq_true, ↓reduceIte, eq_self, ne_eq]
  have e15 : ∀ m, c3.1 105 m = if m = t then v else c.1 105 m := fun m => by rw [h3 _ _ (by omega), ← nt]; unfold am_90; simp only [up_1, Nat.reduceEqDiff, false_and, and_false, true_and, and_true, or_true, true_or, or_false, false_or, not_true_eq_false, not_false_eq_true, ↓reduceIte, eq_self, ne_eq]
  have e12 : (c3.1 91 12).toInt = (t : Int) + 1 := by
    rw [h3 _ _ (by omega)]
    unfold am_90
    simp only [up_1, Nat.reduceEqDiff, false_and, and_false, true_and, and_true, or_true, true_or, or_false, false_or, not_true_eq_false, not_false_eq_true, ↓reduceIte, eq_self, ne_eq]
    rw [ta_add (by have : (1 : Int32).toInt = 1 := rfl; omega) (by have : (1 : Int32).toInt = 1 := rfl; omega)]
    have : (1 : Int32).toInt = 1 := rfl
    omega
  have e1' : c3.1 91 13 = c.1 91 13 := o _ _ (by omega) (by omega) (by omega) (by omega) (by omega) (by omega)
  have f2 : c3.1 92 = c.1 92 := funext fun k => o _ _ (by omega) (by omega) (by omega) (by omega) (by omega) (by omega)
  have f3 : c3.1 93 = c.1 93 := funext fun k => o _ _ (by omega) (by omega) (by omega) (by omega) (by omega) (by omega)
  have f4 : c3.1 94 = c.1 94 := funext fun k => o _ _ (by omega) (by omega) (by omega) (by omega) (by omega) (by omega)
  have f12 : c3.1 102 = c.1 102 := funext fun k => o _ _ (by omega) (by omega) (by omega) (by omega) (by omega) (by omega)
  have f115 : c3.1 91 15 = c.1 91 15 := o _ _ (by omega) (by omega) (by omega) (by omega) (by omega) (by omega)
  have f116 : c3.1 91 16 = c.1 91 16 := o _ _ (by omega) (by omega) (by omega) (by omega) (by omega) (by omega)
  obtain ⟨x1, x2, x3, x4⟩ := hrt
  have nr : ix_n (r.1 174 1) = t := by rw [x1]; exact nt
  obtain ⟨R, hR⟩ : ∃ R, R = bm_q1 v y' r := ⟨_, rfl⟩
  rw [← hR]
  have p : ∀ a k, a ≠ 167 → a ≠ 168 → a ≠ 169 → a ≠ 173 → (a ≠ 174 ∨ k ≠ 1) → R.1 a k = r.1 a k := fun a k g1 g2 g3 g4 g5 => by
    rw [hR]; unfold bm_q1; simp only [up_1]
    rw [if_neg (by omega), if_neg (by omega), if_neg (by omega), if_neg (by omega), if_neg (by omega)]
  have p167 : ∀ m, R.1 167 m = if m = 301 * 1 + A then (if 0 < v.toInt then 1 else 0) else r.1 167 m := fun m => by rw [hR, hA]; unfold bm_q1; simp only [up_1, Nat.reduceEqDiff, false_and, and_false, true_and, and_true, or_true, true_or, or_false, false_or, not_true_eq_false, not_false_eq_true, ↓reduceIte, eq_self, ne_eq]
  have p168 : ∀ m, R.1 168 m = if m = 301 * 1 + A then r.1 175 1 else r.1 168 m := fun m => by rw [hR, hA]; unfold bm_q1; simp only [up_1, Nat.reduceEqDiff, false_and, and_false, true_and, and_true, or_true, true_or, or_false, false_or, not_true_eq_false, not_false_eq_true, ↓reduceIte, eq_self, ne_eq]
  have p169 : ∀ m, R.1 169 m = if m = 301 * 1 + A then y' else r.1 169 m := fun m => by rw [hR, hA]; unfold bm_q1; simp only [up_1, Nat.reduceEqDiff, false_and, and_false, true_and, and_true, or_true, true_or, or_false, false_or, not_true_eq_false, not_false_eq_true, ↓reduceIte, eq_self, ne_eq]
  have p173 : ∀ m, R.1 173 m = if m = 300 * 1 + t then v else r.1 173 m := fun m => by rw [hR, ← nr]; unfold bm_q1; simp only [up_1, Nat.reduceEqDiff, false_and, and_false, true_and, and_true, or_true, true_or, or_false, false_or, not_true_eq_false, not_false_eq_true, ↓reduceIte, eq_self, ne_eq]
  have p174 : R.1 174 1 = c3.1 91 12 := by
    have a : R.1 174 1 = r.1 174 1 + 1 := by rw [hR]; unfold bm_q1; simp only [up_1, Nat.reduceEqDiff, false_and, and_false, true_and, and_true, or_true, true_or, or_false, false_or, not_true_eq_false, not_false_eq_true, ↓reduceIte, eq_self, ne_eq]
    have b : c3.1 91 12 = c.1 91 12 + 1 := by rw [h3 _ _ (by omega)]; unfold am_90; simp only [up_1, Nat.reduceEqDiff, false_and, and_false, true_and, and_true, or_true, true_or, or_false, false_or, not_true_eq_false, not_false_eq_true, ↓reduceIte, eq_self, ne_eq]
    rw [a, b, x1]
  have lt : ∀ i : Nat, i < t → c3.1 105 i = c.1 105 i ∧ ix_n (ix_abs (c.1 105 i)) ≠ A := fun i hi => ⟨by rw [e15, if_neg (by omega)], hne i (by omega)⟩
  have lle : ∀ i : Nat, i < t → le_90 c3 i = le_90 c i := fun i hi => by
    unfold le_90
    rw [(lt i hi).1, e13, if_neg (lt i hi).2]
  have llt : le_90 c3 t = (c.1 91 13).toInt := by
    unfold le_90
    rw [e15, if_pos rfl, ← hA, e13, if_pos rfl]
  refine ⟨⟨?_, ?_, ?_⟩, ⟨by omega, by omega, fun i hi => ?_, fun i j hij hj => ?_⟩, ⟨p174, ?_, fun i hi => ?_, fun m hm => ?_⟩, ⟨?_, fun i hi => ?_, fun i j hij hj => ?_, fun i hi hn => ?_, fun i k hi hk1 hk2 => ?_, fun m m1 m2 hm => ?_⟩, fun i hi => ⟨lle i (by omega), (lt i (by omega)).1⟩, fun m hm h => ?_, by rw [nt, e15, if_pos rfl], by omega⟩
  · /- ra -/
    have := hr.1
    unfold ra_90 vr_ rz_ ri_ at this ⊢
    rw [f2, f3, f4, show R.1 143 = r.1 143 from funext fun k => p _ _ (by omega) (by omega) (by omega) (by omega) (by omega), show R.1 144 = r.1 144 from funext fun k => p _ _ (by omega) (by omega) (by omega) (by omega) (by omega), show R.1 147 = r.1 147 from funext fun k => p _ _ (by omega) (by omega) (by omega) (by omega) (by omega), show R.1 148 = r.1 148 from funext fun k => p _ _ (by omega) (by omega) (by omega) (by omega) (by omega), show R.1 176 = r.1 176 from funext fun k => p _ _ (by omega) (by omega) (by omega) (by omega) (by omega), show R.1 177 = r.1 177 from funext fun k => p _ _ (by omega) (by omega) (by omega) (by omega) (by omega), p 125 66 (by omega) (by omega) (by omega) (by omega) (by omega)]
    exact this
  · obtain ⟨g1, g2, g3, g4, g5, g6, g7, g8, g9, g10, g11, g12, g13, g14, g15⟩ := hr.2.1
    unfold rb_90
    rw [f2, f115, f116, show R.1 162 = r.1 162 from funext fun k => p _ _ (by omega) (by omega) (by omega) (by omega) (by omega), show R.1 163 = r.1 163 from funext fun k => p _ _ (by omega) (by omega) (by omega) (by omega) (by omega), show R.1 179 = r.1 179 from funext fun k => p _ _ (by omega) (by omega) (by omega) (by omega) (by omega), show R.1 180 = r.1 180 from funext fun k => p _ _ (by omega) (by omega) (by omega) (by omega) (by omega), p 125 58 (by omega) (by omega) (by omega) (by omega) (by omega), p 125 67 (by omega) (by omega) (by omega) (by omega) (by omega)]
    refine ⟨g1, g2, g3, g4, g5, g6, g7, g8, g9, g10, g11, g12, g13, fun k k1 k2 => ⟨(g14 k k1 k2).1, ?_⟩, fun k k1 => ?_⟩
    · rw [(g14 k k1 k2).2]
      exact (h4 k k2).symm
    · have := g15 k k1
      have := h4 k (by omega)
      omega
  · intro m hm
    rw [p167, e11]
    by_cases e : m = A
    · rw [if_pos (by omega), if_pos e]
      by_cases cv : 0 < v.toInt
      · rw [if_pos cv, if_pos cv]; rfl
      · rw [if_neg cv, if_neg cv]; rfl
    · rw [if_neg (by omega), if_neg e]
      exact hr.2.2 m hm
  · by_cases e : i = t
    · rw [e, e15, if_pos rfl]
      refine ⟨v0, v1, v2, ?_⟩
      rw [vl_a, ← hA, e11, if_pos rfl]
      by_cases cv : 0 < v.toInt
      · rw [if_pos cv, if_pos cv]; rfl
      · rw [if_neg cv, if_neg cv]; rfl
    · obtain ⟨q0, q1, q2, q3⟩ := t3 i (by omega)
      rw [(lt i (by omega)).1]
      refine ⟨q0, q1, q2, ?_⟩
      rw [vl_a, e11, if_neg (lt i (by omega)).2, ← vl_a]
      exact q3
  · by_cases e : j = t
    · rw [e, (lt i (by omega)).1, e15, if_pos rfl, ← hA]
      exact (lt i (by omega)).2
    · rw [(lt i (by omega)).1, (lt j (by omega)).1]
      exact t4 i j hij (by omega)
  · rw [p _ _ (by omega) (by omega) (by omega) (by omega) (by omega), e1']; exact x2
  · by_cases e : i = t
    · rw [e, e15, if_pos rfl, ← hA, p173, if_pos rfl, p168, if_pos rfl, e13, if_pos rfl, e14, if_pos rfl, p169, if_pos rfl]
      refine ⟨rfl, x2, ?_⟩
      rcases hy with ⟨y1, y2, _⟩ | ⟨k, k1, k2, k3, _⟩
      · exact Or.inl ⟨y1, y2⟩
      · exact Or.inr ⟨k, by rw [f2]; exact k1, k2, k3⟩
    · have l2 := (lt i (by omega)).2
      obtain ⟨q0, q1, q2, q3⟩ := t3 i (by omega)
      have nb := na_b q0 q1 q2
      rw [(lt i (by omega)).1, p173, if_neg (by omega), p168, if_neg (by omega), e13, if_neg l2, e14, if_neg l2, p169, if_neg (by omega), f2]
      exact x3 i (by omega)
  · rw [p _ _ (by omega) (by omega) (by omega) (by omega) (by omega), f12]
    exact x4 m hm
  · rw [e1']; exact hl.1
  · by_cases e : i = t
    · rw [e, llt, e1']
      have := hl.1
      omega
    · rw [lle i (by omega), e1']
      exact hl.2.1 i (by omega)
  · by_cases e : j = t
    · rw [e, llt, lle i (by omega)]
      exact (hl.2.1 i (by omega)).2.1
    · rw [lle i (by omega), lle j (by omega)]
      exact hl.2.2.1 i j hij (by omega)
  · by_cases e : i = t
    · rw [e, e15, if_pos rfl, ← hA, e14, if_pos rfl] at hn
      rw [e, llt]
      rcases hy with ⟨y1, y2, y3, y4⟩ | ⟨k, k1, k2, k3, _⟩
      · refine ⟨y3, fun j hj => ?_⟩
        rw [lle j (by omega)]
        exact y4 j (by omega)
      · rw [k2, nI_ti (by omega)] at hn
        omega
    · rw [(lt i (by omega)).1, e14, if_neg (lt i (by omega)).2] at hn
      have g := hl.2.2.2.1 i (by omega) hn
      rw [lle i (by omega)]
      refine ⟨g.1, fun j hj => ?_⟩
      rw [lle j (by omega)]
      exact g.2 j hj
  · rw [f2] at hk2
    unfold in_90
    rw [f3, f4]
    by_cases e : i = t
    · rw [e, e15, if_pos rfl, ← hA, e14, if_pos rfl] at hk1
      rw [e, e15, if_pos rfl]
      rcases hy with ⟨y1, y2, y3, y4⟩ | ⟨k', k1, k2, k3, k4, k5⟩
      · rw [hk1, nI_ti (by omega)] at y1; omega
      · have ek : k' = k := by
          have := congrArg Int32.toInt (k2.symm.trans hk1)
          rw [nI_ti (by omega), nI_ti (by omega)] at this
          omega
        subst ek
        refine ⟨k4, fun p hp => ?_⟩
        rcases k5 p hp with g | g
        · exact Or.inl g
        · right
          obtain ⟨q0, q1, q2⟩ := hi3 k' p k1 hp
          obtain ⟨m1, m2, m3, m4⟩ := na_b q0 q1 q2
          have hv0 : (c.1 101 (ix_n (ix_abs (c.1 93 p)))).toInt ≠ 0 := by
            rw [vl_a] at g
            split at g <;> omega
          obtain ⟨j, j1, j2⟩ := hl.2.2.2.2.2 _ m1 m2 hv0
          obtain ⟨r0, r1, r2, r3⟩ := t3 j j1
          refine ⟨j, by omega, ?_⟩
          rw [(lt j (by omega)).1]
          rcases na_2 r0 r1 r2 q1 q2 j2 with g2 | g2
          · rw [g2] at r3; omega
          · exact g2
    · rw [(lt i (by omega)).1, e14, if_neg (lt i (by omega)).2] at hk1
      have g := hl.2.2.2.2.1 i k (by omega) hk1 hk2
      rw [(lt i (by omega)).1]
      refine ⟨g.1, fun p hp => ?_⟩
      rcases g.2 p hp with g | ⟨j, j1, j2⟩
      · exact Or.inl g
      · exact Or.inr ⟨j, j1, by rw [(lt j (by omega)).1]; exact j2⟩
  · rw [e11] at hm
    by_cases e : m = A
    · exact ⟨t, by omega, by rw [e15, if_pos rfl, ← hA, e]⟩
    · rw [if_neg e] at hm
      obtain ⟨i, i1, i2⟩ := hl.2.2.2.2.2 m m1 m2 hm
      exact ⟨i, by omega, by rw [(lt i (by omega)).1]; exact i2⟩
  · intro k hk
    rw [e11]
    by_cases e : k = A
    · rw [if_pos e]
      by_cases cv : 0 < v.toInt
      · rw [if_pos cv]; exact Or.inr (Or.inl rfl)
      · rw [if_neg cv]; exact Or.inr (Or.inr rfl)
    · rw [if_neg e]; exact h k hk
end REL

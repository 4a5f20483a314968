/-! SUMS, LATEST PLACES, BITS: no model here -/
def sm_ (f : Nat → Int) (a : Nat) : Nat → Int
  | 0 => 0
  | b + 1 => sm_ f a b + (if a ≤ b then f b else 0)
theorem sm_e {f : Nat → Int} {a : Nat} : ∀ {b : Nat}, b ≤ a → sm_ f a b = 0
  | 0, _ => rfl
  | b + 1, h => by
    show sm_ f a b + (if a ≤ b then f b else 0) = 0
    rw [if_neg (by omega), sm_e (b := b) (by omega)]
    rfl
theorem sm_s {f : Nat → Int} {a b : Nat} (h : a ≤ b) : sm_ f a (b + 1) = sm_ f a b + f b := by
  show sm_ f a b + (if a ≤ b then f b else 0) = _
  rw [if_pos h]
theorem sm_c {f g : Nat → Int} {a : Nat} : ∀ {b : Nat}, (∀ p, a ≤ p → p < b → f p = g p) → sm_ f a b = sm_ g a b
  | 0, _ => rfl
  | b + 1, h => by
    show sm_ f a b + (if a ≤ b then f b else 0) = sm_ g a b + (if a ≤ b then g b else 0)
    rw [sm_c (b := b) (fun p h1 h2 => h p h1 (by omega))]
    by_cases hb : a ≤ b
    · rw [if_pos hb, if_pos hb, h b hb (by omega)]
    · rw [if_neg hb, if_neg hb]
/-- one place changes -/
theorem sm_u {f g : Nat → Int} {a p : Nat} (hp : a ≤ p) (hg : ∀ q, q ≠ p → g q = f q) : ∀ {b : Nat}, p < b → sm_ g a b = sm_ f a b + (g p - f p)
  | 0, h => absurd h (by omega)
  | b + 1, h => by
    by_cases hb : p = b
    · subst hb
      rw [sm_s hp, sm_s hp, sm_c (f := g) (g := f) (fun q _ h2 => hg q (by omega))]
      omega
    · have ih := sm_u (f := f) (g := g) hp hg (b := b) (by omega)
      rw [sm_s (by omega), sm_s (by omega), ih, hg b (fun e => hb e.symm)]
      omega
theorem sm_0 {f : Nat → Int} {a : Nat} (hf : ∀ p, 0 ≤ f p) : ∀ {b : Nat}, 0 ≤ sm_ f a b ∧ (sm_ f a b = 0 ↔ ∀ p, a ≤ p → p < b → f p = 0)
  | 0 => ⟨Int.le_refl 0, ⟨fun _ p _ h => absurd h (by omega), fun _ => rfl⟩⟩
  | b + 1 => by
    obtain ⟨i1, i2⟩ := sm_0 (f := f) (a := a) hf (b := b)
    by_cases hb : a ≤ b
    · rw [sm_s hb]
      have h0 := hf b
      refine ⟨by omega, ⟨fun h p h1 h2 => ?_, fun h => ?_⟩⟩
      · by_cases e : p = b
        · subst e; omega
        · exact i2.mp (by omega) p h1 (by omega)
      · rw [i2.mpr (fun p h1 h2 => h p h1 (by omega)), h b hb (by omega)]
        rfl
    · rw [sm_e (by omega)]
      exact ⟨Int.le_refl 0, ⟨fun _ p h1 h2 => absurd h1 (by omega), fun _ => rfl⟩⟩
/-- a sum 1 of numbers that aren't below 0: one of them is 1, the others 0 -/
theorem sm_1 {f : Nat → Int} {a : Nat} (hf : ∀ p, 0 ≤ f p) : ∀ {b : Nat}, sm_ f a b = 1 → ∃ p, a ≤ p ∧ p < b ∧ f p = 1 ∧ ∀ q, a ≤ q → q < b → q ≠ p → f q = 0
  | 0, h => absurd (show (0 : Int) = 1 from h) (by decide)
  | b + 1, h => by
    by_cases hb : a ≤ b
    · rw [sm_s hb] at h
      have h0 := hf b
      obtain ⟨i1, i2⟩ := sm_0 (f := f) (a := a) hf (b := b)
      by_cases e : f b = 0
      · obtain ⟨p, p1, p2, p3, p4⟩ := sm_1 (f := f) (a := a) hf (b := b) (by omega)
        refine ⟨p, p1, by omega, p3, fun q h1 h2 h3 => ?_⟩
        by_cases e2 : q = b
        · rw [e2]; exact e
        · exact p4 q h1 (by omega) h3
      · refine ⟨b, hb, by omega, by omega, fun q h1 h2 h3 => ?_⟩
        exact i2.mp (by omega) q h1 (by omega)
    · rw [sm_e (by omega)] at h
      exact absurd h (by decide)
theorem sm_le {f : Nat → Int} {a : Nat} {c : Int} (hf : ∀ p, f p ≤ c) (hc : 0 ≤ c) : ∀ {b : Nat}, a ≤ b → sm_ f a b ≤ c * ((b : Int) - a)
  | 0, h => by
    have : a = 0 := by omega
    subst this
    show (0 : Int) ≤ _
    simp
  | b + 1, h => by
    by_cases hb : a ≤ b
    · rw [sm_s hb]
      have h1 := sm_le (f := f) (a := a) hf hc (b := b) hb
      have h2 := hf b
      have e : c * (((b + 1 : Nat) : Int) - a) = c * ((b : Int) - a) + c := by
        rw [show (((b + 1 : Nat) : Int) - a) = ((b : Int) - a) + 1 by omega, Int.mul_add, Int.mul_one]
      omega
    · have : a = b + 1 := by omega
      rw [sm_e (by omega), this]
      simp
/-- 1 more than the latest place below q that bears v; 0 if there is none -/
def oc_ (it : Nat → Int32) (v : Int32) : Nat → Nat
  | 0 => 0
  | q + 1 => if it q = v then q + 1 else oc_ it v q
theorem oc_le {it : Nat → Int32} {v : Int32} : ∀ {q : Nat}, oc_ it v q ≤ q
  | 0 => Nat.le_refl 0
  | q + 1 => by
    show (if it q = v then q + 1 else oc_ it v q) ≤ q + 1
    split
    · exact Nat.le_refl _
    · exact Nat.le_trans oc_le (Nat.le_succ q)
theorem oc_s {it : Nat → Int32} {v : Int32} : ∀ {q p : Nat}, oc_ it v q = p + 1 → it p = v ∧ p < q ∧ ∀ r, p < r → r < q → it r ≠ v
  | 0, p, h => absurd (show 0 = p + 1 from h) (by omega)
  | q + 1, p, h => by
    have h : (if it q = v then q + 1 else oc_ it v q) = p + 1 := h
    split at h
    · have : p = q := by omega
      subst this
      exact ⟨by assumption, by omega, fun r h1 h2 => by omega⟩
    · obtain ⟨h1, h2, h3⟩ := oc_s h
      refine ⟨h1, by omega, fun r a b => ?_⟩
      by_cases e : r = q
      · rw [e]; assumption
      · exact h3 r a (by omega)
theorem oc_0 {it : Nat → Int32} {v : Int32} : ∀ {q : Nat}, oc_ it v q = 0 → ∀ r, r < q → it r ≠ v
  | 0, _, r, h => absurd h (by omega)
  | q + 1, h, r, hr => by
    have h : (if it q = v then q + 1 else oc_ it v q) = 0 := h
    split at h
    · omega
    · by_cases e : r = q
      · rw [e]; assumption
      · exact oc_0 h r (by omega)
theorem oc_c {it jt : Nat → Int32} {v : Int32} : ∀ {q : Nat}, (∀ p, p < q → it p = jt p) → oc_ it v q = oc_ jt v q
  | 0, _ => rfl
  | q + 1, h => by
    show (if it q = v then q + 1 else oc_ it v q) = if jt q = v then q + 1 else oc_ jt v q
    rw [h q (by omega), oc_c (q := q) (fun p hp => h p (by omega))]
/-! bits of longs -/
def tb_ (x : Int64) (i : Nat) : Bool := x.toBitVec.getLsbD i
theorem tb_or {x y : Int64} {i : Nat} : tb_ (x ||| y) i = (tb_ x i || tb_ y i) := by
  unfold tb_
  rw [Int64.toBitVec_or, BitVec.getLsbD_or]
theorem tb_and {x y : Int64} {i : Nat} : tb_ (x &&& y) i = (tb_ x i && tb_ y i) := by
  unfold tb_
  rw [Int64.toBitVec_and, BitVec.getLsbD_and]
theorem tb_xor {x y : Int64} {i : Nat} : tb_ (x ^^^ y) i = (tb_ x i ^^ tb_ y i) := by
  unfold tb_
  rw [Int64.toBitVec_xor, BitVec.getLsbD_xor]
theorem tb_m1 {i : Nat} (h : i < 64) : tb_ (-1) i = true := by
  have : ∀ i, i < 64 → tb_ (-1) i = true := by decide
  exact this i h
theorem tb_z {i : Nat} : tb_ 0 i = false := by
  unfold tb_
  show (0#64).getLsbD i = false
  simp
def bt_ (j : Nat) : Int64 := Int64.ofNat (2 ^ j)
theorem tb_bt {i j : Nat} (hj : j < 64) : tb_ (bt_ j) i = decide (i = j) := by
  have h : ∀ j, j < 64 → ∀ i, i < 64 → tb_ (bt_ j) i = decide (i = j) := by decide +kernel
  by_cases hi : i < 64
  · exact h j hj i hi
  · unfold tb_
    rw [BitVec.getLsbD_of_ge _ _ (by omega)]
    exact (decide_eq_false (by omega)).symm
theorem tb_e {x y : Int64} (h : ∀ i, i < 64 → tb_ x i = tb_ y i) : x = y := by
  refine Int64.toBitVec_inj.mp (BitVec.eq_of_getLsbD_eq (fun i hi => h i hi))
/-- the lowest bit -/
theorem tb_low {x : Int64} {k : Nat} (hk : k < 64) (h1 : tb_ x k = true) (h2 : ∀ i, i < k → tb_ x i = false) : x &&& -x = bt_ k := by
  refine tb_e (fun i hi => ?_)
  rw [tb_and, tb_bt hk]
  have e : tb_ (-x) i = (tb_ x i ^^ decide (∃ j, j < i ∧ tb_ x j = true)) := by
    unfold tb_
    rw [Int64.toBitVec_neg, BitVec.getLsbD_neg]
    simp [hi]
  rw [e]
  by_cases c : i = k
  · subst c
    have : ¬ ∃ j, j < i ∧ tb_ x j = true := fun ⟨j, a, b⟩ => by rw [h2 j a] at b; cases b
    simp [h1, this]
  · by_cases c2 : i < k
    · simp [h2 i c2, c]
    · have : ∃ j, j < i ∧ tb_ x j = true := ⟨k, by omega, h1⟩
      simp [this, c]
def bc_ (y0 : Int64) : Int32 :=
  let x0_1 : Int64 := y0 - (((y0.toUInt64 >>> ((1 : Int32).toInt64.toUInt64 &&& Int64.toUInt64 63)).toInt64) &&& 6148914691236517205)
  let x0_3 : Int64 := (x0_1 &&& 3689348814741910323) + (((x0_1.toUInt64 >>> ((2 : Int32).toInt64.toUInt64 &&& Int64.toUInt64 63)).toInt64) &&& 3689348814741910323)
  let x0_5 : Int64 := (x0_3 + ((x0_3.toUInt64 >>> ((4 : Int32).toInt64.toUInt64 &&& Int64.toUInt64 63)).toInt64)) &&& 1085102592571150095
  let x0_7 : Int64 := x0_5 + ((x0_5.toUInt64 >>> ((8 : Int32).toInt64.toUInt64 &&& Int64.toUInt64 63)).toInt64)
  let x0_9 : Int64 := x0_7 + ((x0_7.toUInt64 >>> ((16 : Int32).toInt64.toUInt64 &&& Int64.toUInt64 63)).toInt64)
  let x0_11 : Int64 := x0_9 + ((x0_9.toUInt64 >>> ((32 : Int32).toInt64.toUInt64 &&& Int64.toUInt64 63)).toInt64)
  x0_11.toInt32 &&& 127
theorem bc_e {n : Nat} {z : ix_Z} {y : Int64} {d : ix_D2} : f_J13_bitCount_95d88 n z y d = some (bc_ y, d) := rfl
theorem bc_k : ∀ k, k < 64 → bc_ (bt_ k - 1) = nI k := by decide +kernel
theorem sb_c {x : Int64} {j m : Nat} (hj : j < 64) (hm : m < 64) : tb_ (x &&& (bt_ j ^^^ (-1))) m = if m = j then false else tb_ x m := by
  rw [tb_and, tb_xor, tb_bt hj, tb_m1 hm]
  by_cases c : m = j
  · simp [c]
  · simp [c]
theorem sb_s {x : Int64} {j m : Nat} (hj : j < 64) : tb_ (x ||| bt_ j) m = if m = j then true else tb_ x m := by
  rw [tb_or, tb_bt hj]
  by_cases c : m = j
  · simp [c]
  · simp [c]
theorem bt_sh : ∀ j, j < 64 → (1 : Int64) <<< ((nI j).toInt64 &&& 63) = bt_ j := by decide +kernel
theorem ni_d64 {k : Nat} (h : k < 100000) : nI k / 64 = nI (k / 64) := by
  refine Int32.toInt_inj.mp ?_
  have e : (nI k).toInt = k := nI_ti (by omega)
  rw [ta_div (by omega) (by decide), e, nI_ti (by omega)]
  show (k : Int) / 64 = _
  omega
theorem ni_m64 {k : Nat} (h : k < 100000) : nI k - nI (k / 64) * 64 = nI (k % 64) := by
  refine Int32.toInt_inj.mp ?_
  have e : (nI k).toInt = k := nI_ti (by omega)
  have e2 : (nI (k / 64)).toInt = (k / 64 : Nat) := nI_ti (by omega)
  have e3 : (nI (k / 64) * 64).toInt = (k / 64 : Nat) * 64 := by
    rw [ta_mul, e2]
    · rfl
    · rw [e2]; show -2147483648 ≤ ((k / 64 : Nat) : Int) * 64; omega
    · rw [e2]; show ((k / 64 : Nat) : Int) * 64 < 2147483648; omega
  rw [ta_sub (by omega) (by omega), e, e3, nI_ti (by omega)]
  omega
theorem tb_ex {x : Int64} (h : x ≠ 0) : ∃ k, k < 64 ∧ tb_ x k = true ∧ ∀ i, i < k → tb_ x i = false := by
  have h1 : ∃ k, k < 64 ∧ tb_ x k = true := by
    refine Classical.byContradiction (fun q => h (tb_e (fun i hi => ?_)))
    rw [tb_z]
    cases e : tb_ x i with
    | false => rfl
    | true => exact absurd ⟨i, hi, e⟩ q
  obtain ⟨k, hk, hb⟩ := h1
  induction k using Nat.strongRecOn with
  | _ k ih =>
    by_cases c : ∃ i, i < k ∧ tb_ x i = true
    · obtain ⟨i, i1, i2⟩ := c
      exact ih i i1 (by omega) i2
    · refine ⟨k, hk, hb, fun i hi => ?_⟩
      cases e : tb_ x i with
      | false => rfl
      | true => exact absurd ⟨i, hi, e⟩ c
theorem cm_0 {x : Int64} : (lg_cmp x 0 = 0) = (x = 0) := by
  unfold lg_cmp
  by_cases c : x > 0
  · rw [if_pos c]
    refine propext ⟨fun h => absurd h (by decide), fun h => ?_⟩
    rw [h] at c
    exact absurd c (by decide)
  · rw [if_neg c]
    by_cases c2 : x = 0
    · rw [if_pos c2]; exact propext ⟨fun _ => c2, fun _ => rfl⟩
    · rw [if_neg c2]; exact propext ⟨fun h => absurd h (by decide), fun h => absurd h c2⟩
theorem cm_lt {x y : Int64} : (lg_cmp x y < 0) = (x.toInt < y.toInt) := by
  unfold lg_cmp
  have e1 : (x > y) = (y.toInt < x.toInt) := propext Int64.lt_iff_toInt_lt
  by_cases c : x > y
  · rw [if_pos c]
    rw [e1] at c
    exact propext ⟨fun h => absurd h (by decide), fun h => absurd h (by omega)⟩
  · rw [if_neg c]
    rw [e1] at c
    by_cases c2 : x = y
    · rw [if_pos c2]; exact propext ⟨fun h => absurd h (by decide), fun h => absurd h (by rw [c2]; omega)⟩
    · rw [if_neg c2]
      have c3 : x.toInt ≠ y.toInt := fun e => c2 (Int64.toInt_inj.mp e)
      exact propext ⟨fun _ => by omega, fun _ => by decide⟩
theorem cm_le {x y : Int64} : (lg_cmp x y ≤ 0) = (x.toInt ≤ y.toInt) := by
  unfold lg_cmp
  have e1 : (x > y) = (y.toInt < x.toInt) := propext Int64.lt_iff_toInt_lt
  by_cases c : x > y
  · rw [if_pos c]
    rw [e1] at c
    exact propext ⟨fun h => absurd h (by decide), fun h => absurd h (by omega)⟩
  · rw [if_neg c]
    rw [e1] at c
    by_cases c2 : x = y
    · rw [if_pos c2]; exact propext ⟨fun _ => by rw [c2]; omega, fun _ => by decide⟩
    · rw [if_neg c2]
      exact propext ⟨fun _ => by omega, fun _ => by decide⟩
/-- the heaviest open name, the first of them -/
def hv_ (op : Nat → Prop) (wt : Nat → Int) (lo hi b : Nat) : Prop := (b = 0 ∧ ∀ m, lo ≤ m → m < hi → ¬ op m) ∨ (lo ≤ b ∧ b < hi ∧ op b ∧ (∀ m, lo ≤ m → m < hi → op m → wt m ≤ wt b) ∧ ∀ m, lo ≤ m → m < b → op m → wt m < wt b)
theorem hv_u {op : Nat → Prop} {wt : Nat → Int} {lo hi a b : Nat} (h0 : 1 ≤ lo) (ha : hv_ op wt lo hi a) (hb : hv_ op wt lo hi b) : a = b := by
  rcases ha with ⟨a1, a2⟩ | ⟨a1, a2, a3, a4, a5⟩ <;> rcases hb with ⟨b1, b2⟩ | ⟨b1, b2, b3, b4, b5⟩
  · omega
  · exact absurd b3 (a2 b b1 b2)
  · exact absurd a3 (b2 a a1 a2)
  · rcases Nat.lt_trichotomy a b with c | c | c
    · have := b5 a a1 c a3
      have := a4 b b1 b2 b3
      omega
    · exact c
    · have := a5 b b1 c b3
      have := b4 a a1 a2 a3
      omega

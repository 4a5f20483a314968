/-! LISTS OF ROWS; WHERE AN ITEM STANDS; WEIGHTS OF ROWS: over any memory -/
theorem sm_l {f g h1 h2 : Nat → Int} {x y : Int} (e : ∀ p, g p = f p + x * h1 p + y * h2 p) {a : Nat} : ∀ {b : Nat}, sm_ g a b = sm_ f a b + x * sm_ h1 a b + y * sm_ h2 a b
  | 0 => by show (0 : Int) = 0 + x * 0 + y * 0; simp
  | b + 1 => by
    by_cases hb : a ≤ b
    · rw [sm_s hb, sm_s hb, sm_s hb, sm_s hb, sm_l e (b := b), e b, Int.mul_add, Int.mul_add]
      omega
    · rw [sm_e (by omega), sm_e (by omega), sm_e (by omega), sm_e (by omega)]
      simp
def rw_ok (f : Nat → Nat → Int32) (R I T : Nat) (MR MI ML NM : Int) : Prop :=
  0 ≤ (f R 2).toInt ∧ (f R 2).toInt ≤ MR ∧ (f T 0).toInt = 0 ∧ 0 ≤ MI ∧ (∀ k : Nat, (k : Int) < (f R 2).toInt → (f T k).toInt ≤ (f T (k + 1)).toInt ∧ (f T (k + 1)).toInt ≤ (f T k).toInt + ML ∧ (f T (k + 1)).toInt ≤ MI) ∧ (∀ p : Nat, (p : Int) < (f T (ix_n (f R 2))).toInt → (f I p).toInt ≠ 0 ∧ -NM ≤ (f I p).toInt ∧ (f I p).toInt ≤ NM)
section RWG
variable {f : Nat → Nat → Int32} {R I T : Nat} {MR MI ML NM : Int}
theorem rw_m (h : rw_ok f R I T MR MI ML NM) : ∀ {l k : Nat}, k ≤ l → (l : Int) ≤ (f R 2).toInt → (f T k).toInt ≤ (f T l).toInt
  | 0, k, h1, _ => by
    have : k = 0 := by omega
    subst this
    exact Int.le_refl _
  | l + 1, k, h1, h2 => by
    by_cases e : k = l + 1
    · subst e; exact Int.le_refl _
    · have q := (h.2.2.2.2.1 l (by omega)).1
      have r := rw_m h (l := l) (k := k) (by omega) (by omega)
      omega
theorem rw_0 (h : rw_ok f R I T MR MI ML NM) {k : Nat} (hk : (k : Int) ≤ (f R 2).toInt) : 0 ≤ (f T k).toInt := by
  have := rw_m h (k := 0) (l := k) (by omega) hk
  rw [h.2.2.1] at this
  exact this
theorem rw_M (h : rw_ok f R I T MR MI ML NM) {k : Nat} (hk : (k : Int) ≤ (f R 2).toInt) : (f T k).toInt ≤ MI := by
  cases k with
  | zero => rw [h.2.2.1]; exact h.2.2.2.1
  | succ k => exact (h.2.2.2.2.1 k (by omega)).2.2
theorem rw_b (h : rw_ok f R I T MR MI ML NM) {k : Nat} (hk : (k : Int) < (f R 2).toInt) : 0 ≤ (f T k).toInt ∧ (f T k).toInt ≤ (f T (k + 1)).toInt ∧ (f T (k + 1)).toInt ≤ (f T k).toInt + ML ∧ (f T (k + 1)).toInt ≤ MI ∧ (f T (k + 1)).toInt ≤ (f T (ix_n (f R 2))).toInt := by
  have q := h.2.2.2.2.1 k hk
  have n0 := ni_c h.1
  exact ⟨rw_0 h (by omega), q.1, q.2.1, q.2.2, rw_m h (by omega) (by omega)⟩
theorem rw_t (h : rw_ok f R I T MR MI ML NM) : (ix_n (f R 2) : Int) = (f R 2).toInt ∧ 0 ≤ (f T (ix_n (f R 2))).toInt ∧ (f T (ix_n (f R 2))).toInt ≤ MI := by
  have n0 := ni_c h.1
  exact ⟨n0, rw_0 h (by omega), rw_M h (by omega)⟩
/-- items of a row -/
theorem rw_i (h : rw_ok f R I T MR MI ML NM) {k p : Nat} (hk : (k : Int) < (f R 2).toInt) (hp : (p : Int) < (f T (k + 1)).toInt) : (f I p).toInt ≠ 0 ∧ -NM ≤ (f I p).toInt ∧ (f I p).toInt ≤ NM := by
  have q := rw_b h hk
  exact h.2.2.2.2.2 p (by omega)
/-- whose a place is -/
theorem rw_w (h : rw_ok f R I T MR MI ML NM) {p : Nat} : ∀ {l : Nat}, (l : Int) ≤ (f R 2).toInt → (p : Int) < (f T l).toInt → ∃ k, k < l ∧ (f T k).toInt ≤ p ∧ (p : Int) < (f T (k + 1)).toInt
  | 0, _, h2 => by rw [h.2.2.1] at h2; omega
  | l + 1, h1, h2 => by
    by_cases c : (p : Int) < (f T l).toInt
    · obtain ⟨k, a, b⟩ := rw_w h (l := l) (by omega) c
      exact ⟨k, by omega, b⟩
    · exact ⟨l, by omega, by omega, h2⟩
/-- the same memory, as far as rows go -/
theorem rw_c {f' : Nat → Nat → Int32} (h : rw_ok f R I T MR MI ML NM) (e1 : f' R 2 = f R 2) (e2 : ∀ k : Nat, (k : Int) ≤ (f R 2).toInt → f' T k = f T k) (e3 : ∀ p : Nat, (p : Int) < (f T (ix_n (f R 2))).toInt → f' I p = f I p) : rw_ok f' R I T MR MI ML NM := by
  have n0 := ni_c h.1
  unfold rw_ok
  rw [e1, e2 0 (by have := h.1; omega), e2 (ix_n (f R 2)) (by omega)]
  refine ⟨h.1, h.2.1, h.2.2.1, h.2.2.2.1, fun k hk => ?_, fun p hp => ?_⟩
  · rw [e2 k (by omega), e2 (k + 1) (by omega)]
    exact h.2.2.2.2.1 k hk
  · rw [e3 p hp]
    exact h.2.2.2.2.2 p hp
/-- one row more -/
theorem rw_p {f' : Nat → Nat → Int32} {t : Nat} (h : rw_ok f R I T MR MI ML NM) (ht : (t : Int) = (f R 2).toInt) (e1 : (f' R 2).toInt = (t : Int) + 1) (hm : (t : Int) + 1 ≤ MR) (e2 : ∀ k : Nat, k ≤ t → f' T k = f T k) (e3 : ∀ p : Nat, (p : Int) < (f T t).toInt → f' I p = f I p) (e4 : (f T t).toInt ≤ (f' T (t + 1)).toInt) (e5 : (f' T (t + 1)).toInt ≤ (f T t).toInt + ML) (e6 : (f' T (t + 1)).toInt ≤ MI) (e7 : ∀ p : Nat, (f T t).toInt ≤ (p : Int) → (p : Int) < (f' T (t + 1)).toInt → (f' I p).toInt ≠ 0 ∧ -NM ≤ (f' I p).toInt ∧ (f' I p).toInt ≤ NM) : rw_ok f' R I T MR MI ML NM := by
  have n0 : ix_n (f' R 2) = t + 1 := by have := ni_c (x := f' R 2) (by omega); omega
  have n1 : ix_n (f R 2) = t := by have := ni_c (x := f R 2) (by omega); omega
  unfold rw_ok
  rw [n0, e2 0 (by omega)]
  refine ⟨by omega, by omega, h.2.2.1, h.2.2.2.1, fun k hk => ?_, fun p hp => ?_⟩
  · by_cases e : k = t
    · subst e
      rw [e2 k (by omega)]
      exact ⟨e4, e5, e6⟩
    · rw [e2 k (by omega), e2 (k + 1) (by omega)]
      exact h.2.2.2.2.1 k (by omega)
  · by_cases e : (p : Int) < (f T t).toInt
    · rw [e3 p e]
      exact h.2.2.2.2.2 p (by rw [n1]; exact e)
    · exact e7 p (by omega) hp
/-- fewer rows -/
theorem rw_s {f' : Nat → Nat → Int32} {t : Nat} (h : rw_ok f R I T MR MI ML NM) (e1 : (f' R 2).toInt = (t : Int)) (ht : (t : Int) ≤ (f R 2).toInt) (e2 : f' T = f T) (e3 : f' I = f I) : rw_ok f' R I T MR MI ML NM := by
  have n0 : ix_n (f' R 2) = t := by have := ni_c (x := f' R 2) (by omega); omega
  have n1 := ni_c h.1
  unfold rw_ok
  have q := h.2.1
  rw [n0, e2, e3]
  refine ⟨by omega, by omega, h.2.2.1, h.2.2.2.1, fun k hk => h.2.2.2.2.1 k (by omega), fun p hp => h.2.2.2.2.2 p ?_⟩
  have := rw_m h (k := t) (l := ix_n (f R 2)) (by omega) (by omega)
  omega
theorem rw_nm {NM' : Int} (h : rw_ok f R I T MR MI ML NM) (hn : NM ≤ NM') : rw_ok f R I T MR MI ML NM' :=
  ⟨h.1, h.2.1, h.2.2.1, h.2.2.2.1, h.2.2.2.2.1, fun p hp => by have := h.2.2.2.2.2 p hp; omega⟩
end RWG
/-- heads, links and owners -/
def oc_ok (f : Nat → Nat → Int32) (R I T H L O : Nat) : Prop :=
  (∀ v : Int32, v.toInt ≠ 0 → -300 ≤ v.toInt → v.toInt ≤ 300 → f H (ix_n (v + 300)) = nI (oc_ (f I) v (ix_n (f T (ix_n (f R 2)))))) ∧ (∀ p : Nat, p < ix_n (f T (ix_n (f R 2))) → f L p = nI (oc_ (f I) (f I p) p)) ∧ (∀ k p : Nat, (k : Int) < (f R 2).toInt → (f T k).toInt ≤ (p : Int) → (p : Int) < (f T (k + 1)).toInt → f O p = nI k)
/-- how often v stands in a stretch, from place P on -/
def ct_ (it : Nat → Int32) (v : Int32) (P a b : Nat) : Int := sm_ (fun p => if it p = v ∧ P ≤ p then 1 else 0) a b
theorem ct_0 {it : Nat → Int32} {v : Int32} {P a b : Nat} : 0 ≤ ct_ it v P a b := (sm_0 (fun p => by split <;> omega)).1
theorem ct_le {it : Nat → Int32} {v : Int32} {P a b : Nat} (h : a ≤ b) : ct_ it v P a b ≤ (b : Int) - a := by
  have := sm_le (f := fun p => if it p = v ∧ P ≤ p then 1 else 0) (a := a) (c := 1) (fun p => by split <;> omega) (by omega) h
  unfold ct_
  omega
/-- the value of an item; what it counts for in left -/
def vl_ (f : Nat → Nat → Int32) (V : Nat) (v : Int32) : Int := if 0 < v.toInt then (f V (ix_n v)).toInt else -(f V (ix_n (-v))).toInt
def wv_ (f : Nat → Nat → Int32) (V : Nat) (v : Int32) : Int := if 0 < vl_ f V v then 1000 else vl_ f V v + 1
def lw_s (f : Nat → Nat → Int32) (I T V k : Nat) : Int := sm_ (fun p => wv_ f V (f I p)) (ix_n (f T k)) (ix_n (f T (k + 1)))
def vl_ok (f : Nat → Nat → Int32) (V : Nat) : Prop := ∀ n, n ≤ 300 → (f V n).toInt = 0 ∨ (f V n).toInt = 1 ∨ (f V n).toInt = -1
def lo_ok (f : Nat → Nat → Int32) (R I T F V : Nat) : Prop := ∀ k : Nat, (k : Int) < (f R 2).toInt → (f F k).toInt = lw_s f I T V k ∨ (f F k).toInt = lw_s f I T V k + 1000000
def bo_ok (c : ix_D2) (R F Q U : Nat) : Prop := ∀ k : Nat, k < 1408 → (tb_ (c.2 Q (k / 64)) (k % 64) = decide ((k : Int) < (c.1 R 2).toInt ∧ (c.1 F k).toInt = 0)) ∧ (tb_ (c.2 U (k / 64)) (k % 64) = decide ((k : Int) < (c.1 R 2).toInt ∧ (c.1 F k).toInt = 1))
theorem vl_b {f : Nat → Nat → Int32} {V : Nat} {v : Int32} (h : vl_ok f V) (h1 : -300 ≤ v.toInt) (h2 : v.toInt ≤ 300) : vl_ f V v = 0 ∨ vl_ f V v = 1 ∨ vl_ f V v = -1 := by
  unfold vl_
  by_cases c : 0 < v.toInt
  · rw [if_pos c]
    have := ni_c (x := v) (by omega)
    exact h _ (by omega)
  · rw [if_neg c]
    have e : (-v).toInt = -v.toInt := ta_neg (by omega)
    have := ni_c (x := -v) (by omega)
    have := h (ix_n (-v)) (by omega)
    omega
theorem vl_n {f : Nat → Nat → Int32} {V : Nat} {v : Int32} (h1 : -300 ≤ v.toInt) (h2 : v.toInt ≤ 300) (h0 : v.toInt ≠ 0) : vl_ f V (-v) = -vl_ f V v := by
  have e : (-v).toInt = -v.toInt := ta_neg (by omega)
  have e2 : -(-v) = v := Int32.neg_neg
  unfold vl_
  rw [e, e2]
  by_cases c : 0 < v.toInt
  · rw [if_neg (by omega), if_pos c]
  · rw [if_pos (by omega), if_neg c]
    omega
theorem wv_b {f : Nat → Nat → Int32} {V : Nat} {v : Int32} (h : vl_ok f V) (h1 : -300 ≤ v.toInt) (h2 : v.toInt ≤ 300) : 0 ≤ wv_ f V v ∧ wv_ f V v ≤ 1000 := by
  have := vl_b h h1 h2
  unfold wv_
  split <;> omega
/-- a word with one bit set or cleared -/
theorem bq_1 {X : Nat → Int64} {k i : Nat} {P : Bool} {Xn : Int64} (h : ∀ m, m < 64 → tb_ Xn m = if m = k % 64 then P else tb_ (X (k / 64)) m) : tb_ (if i / 64 = k / 64 then Xn else X (i / 64)) (i % 64) = if i = k then P else tb_ (X (i / 64)) (i % 64) := by
  by_cases c : i / 64 = k / 64
  · rw [if_pos c, h _ (Nat.mod_lt _ (by decide)), c]
    by_cases e : i = k
    · rw [if_pos e, if_pos (by rw [e])]
    · rw [if_neg e, if_neg (by omega)]
  · rw [if_neg c, if_neg (by intro e; rw [e] at c; exact c rfl)]
theorem ab_ti {v : Int32} (h : -2147483648 < v.toInt) : (ix_abs v).toInt = if 0 ≤ v.toInt then v.toInt else -v.toInt := by
  have hb := ti_b v
  unfold ix_abs
  by_cases c : 0 ≤ v
  · have c' : (0 : Int32).toInt ≤ v.toInt := by rw [← ti_le]; exact c
    rw [if_pos c, if_pos (show (0 : Int) ≤ v.toInt from c')]
  · have c' : ¬ 0 ≤ v.toInt := fun q => c (ti_le ▸ q)
    rw [if_neg c, if_neg c']
    have e0 : (0 : Int32).toInt = 0 := rfl
    rw [ta_sub (by omega) (by omega), e0]
    omega
theorem ab_n {v : Int32} (h : -2147483648 < v.toInt) : (ix_n (ix_abs v) : Int) = if 0 ≤ v.toInt then v.toInt else -v.toInt := by
  rw [← ab_ti h]
  exact ni_c (by rw [ab_ti h]; split <;> omega)
theorem vl_a {f : Nat → Nat → Int32} {V : Nat} {v : Int32} : vl_ f V v = if 0 < v.toInt then (f V (ix_n (ix_abs v))).toInt else -(f V (ix_n (ix_abs v))).toInt := by
  unfold vl_ ix_abs
  by_cases c : 0 < v.toInt
  · rw [if_pos c, if_pos c, if_pos (ti_le ▸ (show (0 : Int32).toInt ≤ v.toInt from by show (0 : Int) ≤ _; omega))]
  · rw [if_neg c, if_neg c]
    by_cases c2 : 0 ≤ v
    · have : v.toInt = 0 := by
        have q : (0 : Int32).toInt ≤ v.toInt := ti_le ▸ c2
        have q : (0 : Int) ≤ v.toInt := q
        omega
      have e : v = 0 := Int32.toInt_inj.mp this
      rw [if_pos c2, e]
      rfl
    · rw [if_neg c2, Int32.zero_sub]
/-- an item becomes true -/
theorem wv_as {f f' : Nat → Nat → Int32} {V : Nat} {v : Int32} (v0 : v.toInt ≠ 0) (v1 : -300 ≤ v.toInt) (v2 : v.toInt ≤ 300) (hV : ∀ m, f' V m = if m = ix_n (ix_abs v) then (if 0 < v.toInt then 1 else -1) else f V m) (h0 : vl_ f V v = 0) (u : Int32) (p : Nat) : wv_ f' V u = wv_ f V u + 999 * (if u = v ∧ 0 ≤ p then 1 else 0) + (-1) * (if u = -v ∧ 0 ≤ p then 1 else 0) := by
  have nv := ab_n (v := v) (by omega)
  have ev : (-v).toInt = -v.toInt := ta_neg (by omega)
  have hu := ti_b u
  by_cases cu : u.toInt = -2147483648
  · have n1 : ¬ u = v := fun e => by rw [e] at cu; omega
    have n2 : ¬ u = -v := fun e => by rw [e] at cu; omega
    have nu : ix_n (ix_abs u) = 0 := by
      have : u = -2147483648 := Int32.toInt_inj.mp cu
      rw [this]
      decide
    have e1 : vl_ f' V u = vl_ f V u := by rw [vl_a, vl_a, hV, if_neg (show ¬ ix_n (ix_abs u) = ix_n (ix_abs v) from by split at nv <;> omega)]
    unfold wv_
    rw [e1, if_neg (show ¬ (u = v ∧ 0 ≤ p) from fun q => n1 q.1), if_neg (show ¬ (u = -v ∧ 0 ≤ p) from fun q => n2 q.1)]
    simp only [Int.mul_zero, Int.add_zero]
  have nu := ab_n (v := u) (by omega)
  by_cases c1 : u = v
  · subst c1
    have n2 : ¬ u = -u := fun e => by have := congrArg Int32.toInt e; omega
    rw [if_pos ⟨rfl, Nat.zero_le _⟩, if_neg (fun q => n2 q.1)]
    unfold wv_
    rw [h0, vl_a, hV, if_pos rfl]
    by_cases c : 0 < u.toInt
    · rw [if_pos c, if_pos c]; decide
    · rw [if_neg c, if_neg c]; decide
  · by_cases c2 : u = -v
    · rw [if_neg (fun q => c1 q.1), if_pos ⟨c2, Nat.zero_le _⟩]
      have hu2 : u.toInt = -v.toInt := by rw [c2, ev]
      have e2 : ix_n (ix_abs u) = ix_n (ix_abs v) := by
        rw [hu2] at nu
        split at nu <;> split at nv <;> omega
      have h3 : vl_ f V u = 0 := by rw [c2, vl_n v1 v2 v0, h0]; rfl
      unfold wv_
      rw [h3, vl_a, hV, if_pos e2]
      by_cases c : 0 < v.toInt
      · rw [if_neg (show ¬ 0 < u.toInt by omega), if_pos c]; decide
      · rw [if_pos (show 0 < u.toInt by omega), if_neg c]; decide
    · rw [if_neg (fun q => c1 q.1), if_neg (fun q => c2 q.1)]
      have d1 : u.toInt ≠ v.toInt := fun e => c1 (Int32.toInt_inj.mp e)
      have d2 : u.toInt ≠ -v.toInt := fun e => c2 (Int32.toInt_inj.mp (by rw [ev]; exact e))
      have e2 : ix_n (ix_abs u) ≠ ix_n (ix_abs v) := by
        split at nu <;> split at nv <;> omega
      unfold wv_
      rw [vl_a, vl_a, hV, if_neg e2]
      omega
/-- a true item is opened again -/
theorem wv_un {f f' : Nat → Nat → Int32} {V : Nat} {v : Int32} (v0 : v.toInt ≠ 0) (v1 : -300 ≤ v.toInt) (v2 : v.toInt ≤ 300) (hV : ∀ m, f' V m = if m = ix_n (ix_abs v) then 0 else f V m) (h0 : vl_ f V v = 1) (u : Int32) (p : Nat) : wv_ f' V u = wv_ f V u + (-999) * (if u = v ∧ 0 ≤ p then 1 else 0) + 1 * (if u = -v ∧ 0 ≤ p then 1 else 0) := by
  have hV2 : ∀ m, f V m = if m = ix_n (ix_abs v) then (if 0 < v.toInt then 1 else -1) else f' V m := by
    intro m
    by_cases c : m = ix_n (ix_abs v)
    · rw [if_pos c, c]
      rw [vl_a] at h0
      refine Int32.toInt_inj.mp ?_
      by_cases c2 : 0 < v.toInt
      · rw [if_pos c2] at h0 ⊢
        rw [h0]; rfl
      · rw [if_neg c2] at h0 ⊢
        show _ = (-1 : Int)
        omega
    · rw [if_neg c, hV, if_neg c]
  have h1 : vl_ f' V v = 0 := by
    rw [vl_a, hV, if_pos rfl]
    split <;> rfl
  have := wv_as (f := f') (f' := f) v0 v1 v2 hV2 h1 u p
  omega
theorem lw_b {f : Nat → Nat → Int32} {R I T V k : Nat} {MR MI NM : Int} (h : rw_ok f R I T MR MI 301 NM) (hn : NM ≤ 300) (hv : vl_ok f V) (hk : (k : Int) < (f R 2).toInt) : 0 ≤ lw_s f I T V k ∧ lw_s f I T V k ≤ 301000 := by
  have hb := rw_b h hk
  have n1 := ni_c hb.1
  have n2 := ni_c (x := f T (k + 1)) (by omega)
  let g : Nat → Int := fun p => if (p : Int) < (f T (k + 1)).toInt then wv_ f V (f I p) else 0
  have hg : ∀ p, 0 ≤ g p ∧ g p ≤ 1000 := by
    intro p
    show 0 ≤ (if (p : Int) < (f T (k + 1)).toInt then wv_ f V (f I p) else 0) ∧ (if (p : Int) < (f T (k + 1)).toInt then wv_ f V (f I p) else 0) ≤ 1000
    by_cases c : (p : Int) < (f T (k + 1)).toInt
    · rw [if_pos c]
      have := rw_i h hk c
      exact wv_b hv (by omega) (by omega)
    · rw [if_neg c]; omega
  have e : lw_s f I T V k = sm_ g (ix_n (f T k)) (ix_n (f T (k + 1))) := by
    unfold lw_s
    refine sm_c (fun p p1 p2 => ?_)
    show _ = if (p : Int) < (f T (k + 1)).toInt then wv_ f V (f I p) else 0
    rw [if_pos (by omega)]
  rw [e]
  have q1 := (sm_0 (f := g) (a := ix_n (f T k)) (fun p => (hg p).1) (b := ix_n (f T (k + 1)))).1
  have q2 := sm_le (f := g) (a := ix_n (f T k)) (c := 1000) (fun p => (hg p).2) (by omega) (b := ix_n (f T (k + 1))) (by omega)
  omega
theorem oc_cg {f f' : Nat → Nat → Int32} {R I T H L O : Nat} (h : oc_ok f R I T H L O) (e1 : f' R 2 = f R 2) (e2 : f' T = f T) (e3 : f' I = f I) (e4 : f' H = f H) (e5 : f' L = f L) (e6 : f' O = f O) : oc_ok f' R I T H L O := by
  unfold oc_ok
  rw [e1, e2, e3, e4, e5, e6]
  exact h
theorem rw_cg {f f' : Nat → Nat → Int32} {R I T : Nat} {MR MI ML NM : Int} (h : rw_ok f R I T MR MI ML NM) (e1 : f' R 2 = f R 2) (e2 : f' T = f T) (e3 : f' I = f I) : rw_ok f' R I T MR MI ML NM := by
  unfold rw_ok
  rw [e1, e2, e3]
  exact h
theorem lw_g {f f' : Nat → Nat → Int32} {I T V k : Nat} {v : Int32} {x y : Int} (e2 : f' T = f T) (e3 : f' I = f I) (h : ∀ (u : Int32) (p : Nat), wv_ f' V u = wv_ f V u + x * (if u = v ∧ 0 ≤ p then 1 else 0) + y * (if u = -v ∧ 0 ≤ p then 1 else 0)) : lw_s f' I T V k = lw_s f I T V k + x * ct_ (f I) v 0 (ix_n (f T k)) (ix_n (f T (k + 1))) + y * ct_ (f I) (-v) 0 (ix_n (f T k)) (ix_n (f T (k + 1))) := by
  unfold lw_s ct_
  rw [e2, e3]
  exact sm_l (fun p => h (f I p) p)
theorem ni_k {x : Int32} {k : Nat} (h : x.toInt = (k : Int)) : ix_n x = k := by rw [ni_def, h]; omega
/-! the reference's rows by their numbers -/
def rz_ (f : Nat → Nat → Int32) (q row : Nat) : Int32 := if row < 1000 then f 143 (row + 1) - f 143 row else if row < 2000 then f 147 (ix_n (f 125 66) + row - 1000) else f 176 (801 * q + row - 1999) - f 176 (801 * q + row - 2000)
def ri_ (f : Nat → Nat → Int32) (q row j : Nat) : Int32 := if row < 1000 then f 144 (ix_n (f 143 row) + j) else if row < 2000 then f 148 (20 * (ix_n (f 125 66) + row - 1000) + j) else f 177 (8050 * q + ix_n (f 176 (801 * q + row - 2000)) + j)
def vr_ (f : Nat → Nat → Int32) (q row : Nat) : Prop := (row < 500 ∧ 0 ≤ (f 143 row).toInt ∧ (f 143 row).toInt ≤ (f 143 (row + 1)).toInt ∧ (f 143 (row + 1)).toInt ≤ 2500) ∨ (1000 ≤ row ∧ row < 1064 ∧ 0 ≤ (f 125 66).toInt ∧ (f 125 66).toInt ≤ 64 ∧ 0 ≤ (f 147 (ix_n (f 125 66) + row - 1000)).toInt ∧ (f 147 (ix_n (f 125 66) + row - 1000)).toInt ≤ 20) ∨ (2000 ≤ row ∧ row < 2800 ∧ 0 ≤ (f 176 (801 * q + row - 2000)).toInt ∧ (f 176 (801 * q + row - 2000)).toInt ≤ (f 176 (801 * q + row - 1999)).toInt ∧ (f 176 (801 * q + row - 1999)).toInt ≤ 8000)
theorem rz_b {f : Nat → Nat → Int32} {q row : Nat} (h : vr_ f q row) : 0 ≤ (rz_ f q row).toInt ∧ (rz_ f q row).toInt ≤ 8000 := by
  unfold rz_
  rcases h with ⟨h1, h2, h3, h4⟩ | ⟨h1, h2, h3, h4, h5, h6⟩ | ⟨h1, h2, h3, h4, h5⟩
  · rw [if_pos (by omega), ta_sub (by omega) (by omega)]; omega
  · rw [if_neg (by omega), if_pos (by omega)]; omega
  · rw [if_neg (by omega), if_neg (by omega), ta_sub (by omega) (by omega)]; omega
/-- the value that the reference has: 2 open, 1 true, 0 false -/
def sv_ (x : Int) : Int := if x = 0 then 2 else if 0 < x then 1 else 0
def su_rr (a k : Nat) : Prop := a = 143 ∨ a = 144 ∨ a = 147 ∨ a = 148 ∨ a = 176 ∨ a = 177 ∨ a = 162 ∨ a = 163 ∨ a = 179 ∨ a = 180 ∨ a = 167 ∨ (a = 125 ∧ (k = 66 ∨ k = 67 ∨ k = 58))
/-- names of a stretch of items, those of level 0: their sources -/
def gp_ (it : Nat → Int32) (lv : Nat → Int32) (ns : Nat → Nat → Int64) (w : Nat) (g : Int64) (a : Nat) : Nat → Int64
  | 0 => g
  | j + 1 => if (lv (ix_n (ix_abs (it (a + j))))).toInt = 0 then gp_ it lv ns w g a j ||| ns (ix_n (ix_abs (it (a + j)))) w else gp_ it lv ns w g a j
/-- the marks behind j items of a row -/
def mj_ (it : Nat → Int32) (lv : Nat → Int32) (mk : Nat → Int32) (a : Nat) : Nat → Nat → Int32
  | 0 => mk
  | j + 1 => fun k => if k = ix_n (ix_abs (it (a + j))) ∧ (lv k).toInt ≠ 0 ∧ (mj_ it lv mk a j k).toInt = 0 then 1 else mj_ it lv mk a j k
theorem mj_c {it lv mk : Nat → Int32} {a : Nat} : ∀ {j k : Nat}, mj_ it lv mk a j k = mk k ∨ (mj_ it lv mk a j k = 1 ∧ (mk k).toInt = 0 ∧ (lv k).toInt ≠ 0 ∧ ∃ i, i < j ∧ k = ix_n (ix_abs (it (a + i))))
  | 0, k => Or.inl rfl
  | j + 1, k => by
    show (if _ then 1 else mj_ it lv mk a j k) = mk k ∨ ((if _ then 1 else mj_ it lv mk a j k) = 1 ∧ _)
    rcases mj_c (it := it) (lv := lv) (mk := mk) (a := a) (j := j) (k := k) with q | ⟨q1, q2, q3, i, i1, i2⟩
    · by_cases h : k = ix_n (ix_abs (it (a + j))) ∧ (lv k).toInt ≠ 0 ∧ (mj_ it lv mk a j k).toInt = 0
      · rw [if_pos h]
        exact Or.inr ⟨rfl, by rw [← q]; exact h.2.2, h.2.1, j, by omega, h.1⟩
      · rw [if_neg h]
        exact Or.inl q
    · right
      refine ⟨?_, q2, q3, i, by omega, i2⟩
      by_cases h : k = ix_n (ix_abs (it (a + j))) ∧ (lv k).toInt ≠ 0 ∧ (mj_ it lv mk a j k).toInt = 0
      · rw [if_pos h]
      · rw [if_neg h]; exact q1
theorem mj_o {it lv mk : Nat → Int32} {a : Nat} : ∀ {j k i : Nat}, i < j → k = ix_n (ix_abs (it (a + i))) → (lv k).toInt ≠ 0 → (mk k).toInt = 0 → mj_ it lv mk a j k = 1
  | 0, _, _, h, _, _, _ => absurd h (by omega)
  | j + 1, k, i, h, e, l, m => by
    show (if _ then 1 else mj_ it lv mk a j k) = 1
    by_cases c : k = ix_n (ix_abs (it (a + j))) ∧ (lv k).toInt ≠ 0 ∧ (mj_ it lv mk a j k).toInt = 0
    · rw [if_pos c]
    · rw [if_neg c]
      by_cases e2 : i = j
      · subst e2
        rcases mj_c (it := it) (lv := lv) (mk := mk) (a := a) (j := i) (k := k) with q | q
        · exact absurd ⟨e, l, by rw [q]; exact m⟩ c
        · exact q.1
      · exact mj_o (i := i) (by omega) e l m
theorem nb_0 : vp_nar .boolean 0 = 0 := rfl
theorem nb_1 : vp_nar .boolean 1 = 1 := rfl
/-- sources of names gathered, as far as P takes them -/
def gl_ (it : Nat → Int32) (P : Nat → Prop) [DecidablePred P] (ns : Nat → Nat → Int64) (w : Nat) (g : Int64) : Nat → Int64
  | 0 => g
  | j + 1 => if P (ix_n (ix_abs (it j))) then gl_ it P ns w g j ||| ns (ix_n (ix_abs (it j))) w else gl_ it P ns w g j
/-- the marks on both sides -/
def mr_ (r : ix_D2) (mk : Nat → Int32) : Prop := ∀ m, m ≤ 300 → (r.1 192 m).toInt = (if (mk m).toInt = 1 then 1 else 0) ∧ (r.1 193 m).toInt = (if (mk m).toInt = 0 then 0 else 1) ∧ ((mk m).toInt = 0 ∨ (mk m).toInt = 1 ∨ (mk m).toInt = 2)
theorem if_nn {α : Type} {P : Prop} [Decidable P] {a b e : α} : (if P then a else if P then b else e) = if P then a else e := by by_cases h : P <;> simp [h]

/-! THE PURE PART. wp_t: a model comes to an end, with Q -/
def wp_t {α : Type} (o : Option α) (Q : α → Prop) : Prop := ∃ r, o = some r ∧ Q r
theorem wp_some {α : Type} {r : α} {Q : α → Prop} : wp_t (some r) Q = Q r := propext ⟨fun ⟨_, h, q⟩ => by cases h; exact q, fun q => ⟨r, rfl, q⟩⟩
theorem wp_ck {α : Type} {P : Prop} {k : Option α} {Q : α → Prop} : wp_t (ix_ck P k) Q = (P ∧ wp_t k Q) := by
  refine propext ⟨fun ⟨r, h, q⟩ => ?_, fun ⟨p, r, h, q⟩ => ⟨r, by rw [ix_ck_pos p]; exact h, q⟩⟩
  obtain ⟨p, h⟩ := ix_ck_some h
  exact ⟨p, r, h, q⟩
theorem wp_if {α : Type} {P : Prop} {a b : Option α} {Q : α → Prop} : wp_t (ix_if P a b) Q = ((P → wp_t a Q) ∧ (¬ P → wp_t b Q)) := by
  refine propext ⟨fun h => ⟨fun p => by rwa [ix_if_pos p] at h, fun p => by rwa [ix_if_neg p] at h⟩, fun h => ?_⟩
  by_cases p : P
  · rw [ix_if_pos p]; exact h.1 p
  · rw [ix_if_neg p]; exact h.2 p
theorem wp_lt {α β : Type} {a : α} {k : α → Option β} {Q : β → Prop} : wp_t (ix_lt a k) Q = wp_t (k a) Q := rfl
theorem wp_bind {α β : Type} {a : Option α} {k : α → Option β} {Q : β → Prop} : wp_t (a.bind k) Q = wp_t a (fun t => wp_t (k t) Q) := by
  cases a with
  | none => exact propext ⟨fun ⟨_, h, _⟩ => (by cases h), fun ⟨_, h, _⟩ => (by cases h)⟩
  | some t => rw [wp_some]; rfl
theorem wp_bd1 {α β : Type} {a : Option α} {k : α → Option β} {Q : β → Prop} : wp_t (ix_bd1 a k) Q = wp_t a (fun t => wp_t (k t) Q) := wp_bind
theorem wp_bd2 {α β γ : Type} {a : Option (α × β)} {k : α → β → Option γ} {Q : γ → Prop} : wp_t (ix_bd2 a k) Q = wp_t a (fun t => wp_t (k t.1 t.2) Q) := wp_bind
theorem wp_bd3 {α β γ δ : Type} {a : Option (α × β × γ)} {k : α → β → γ → Option δ} {Q : δ → Prop} : wp_t (ix_bd3 a k) Q = wp_t a (fun t => wp_t (k t.1 t.2.1 t.2.2) Q) := wp_bind
theorem wp_on {α : Type} {r : Option Nat} {A : Option α} {B : Nat → Option α} {Q : α → Prop} : wp_t (ix_on r A B) Q = ((r = none → wp_t A Q) ∧ ∀ b, r = some b → wp_t (B b) Q) := by
  cases r with
  | none => exact propext ⟨fun h => ⟨fun _ => h, fun _ h => (by cases h)⟩, fun h => h.1 rfl⟩
  | some b => exact propext ⟨fun h => ⟨fun h => (by cases h), fun b e => (by cases e; exact h)⟩, fun h => h.2 b rfl⟩
theorem wp_m {α : Type} {o : Option α} {Q R : α → Prop} (h : wp_t o Q) (k : ∀ r, Q r → R r) : wp_t o R := by
  obtain ⟨r, h, q⟩ := h
  exact ⟨r, h, k r q⟩
theorem wp_fx1 {A R : Type} {B : (A → Option R) → A → Option R} {bot : A → Option R} (J : A → Prop) (μ : A → Nat) {Q : R → Prop} (hs : ∀ rec a, J a → (∀ a', J a' → μ a' < μ a → wp_t (rec a') Q) → wp_t (B rec a) Q) : ∀ n a, J a → μ a < n → wp_t (ix_fix B bot n a) Q := by
  intro n
  induction n with
  | zero => intro a _ h; exact absurd h (Nat.not_lt_zero _)
  | succ n ih => intro a j h; exact hs _ a j (fun a' j' h' => ih a' j' (by omega))
theorem wp_fx2 {A A2 R : Type} {B : (A → A2 → Option R) → A → A2 → Option R} {bot : A → A2 → Option R} (J : A → A2 → Prop) (μ : A → A2 → Nat) {Q : R → Prop} (hs : ∀ rec a b, J a b → (∀ a' b', J a' b' → μ a' b' < μ a b → wp_t (rec a' b') Q) → wp_t (B rec a b) Q) : ∀ n a b, J a b → μ a b < n → wp_t (ix_fix B bot n a b) Q := by
  intro n
  induction n with
  | zero => intro a b _ h; exact absurd h (Nat.not_lt_zero _)
  | succ n ih => intro a b j h; exact hs _ a b j (fun a' b' j' h' => ih a' b' j' (by omega))
theorem wp_fx3 {A A2 A3 R : Type} {B : (A → A2 → A3 → Option R) → A → A2 → A3 → Option R} {bot : A → A2 → A3 → Option R} (J : A → A2 → A3 → Prop) (μ : A → A2 → A3 → Nat) {Q : R → Prop} (hs : ∀ rec a b c, J a b c → (∀ a' b' c', J a' b' c' → μ a' b' c' < μ a b c → wp_t (rec a' b' c') Q) → wp_t (B rec a b c) Q) : ∀ n a b c, J a b c → μ a b c < n → wp_t (ix_fix B bot n a b c) Q := by
  intro n
  induction n with
  | zero => intro a b c _ h; exact absurd h (Nat.not_lt_zero _)
  | succ n ih => intro a b c j h; exact hs _ a b c j (fun a' b' c' j' h' => ih a' b' c' j' (by omega))
theorem wp_fx4 {A A2 A3 A4 R : Type} {B : (A → A2 → A3 → A4 → Option R) → A → A2 → A3 → A4 → Option R} {bot : A → A2 → A3 → A4 → Option R} (J : A → A2 → A3 → A4 → Prop) (μ : A → A2 → A3 → A4 → Nat) {Q : R → Prop} (hs : ∀ rec a b c e, J a b c e → (∀ a' b' c' e', J a' b' c' e' → μ a' b' c' e' < μ a b c e → wp_t (rec a' b' c' e') Q) → wp_t (B rec a b c e) Q) : ∀ n a b c e, J a b c e → μ a b c e < n → wp_t (ix_fix B bot n a b c e) Q := by
  intro n
  induction n with
  | zero => intro a b c e _ h; exact absurd h (Nat.not_lt_zero _)
  | succ n ih => intro a b c e j h; exact hs _ a b c e j (fun a' b' c' e' j' h' => ih a' b' c' e' j' (by omega))
/-! places -/
theorem ni_def (x : Int32) : ix_n x = x.toInt.toNat := rfl
theorem ni_le {x y : Int32} (h : x ≤ y) : x.toInt ≤ y.toInt := Int32.le_iff_toInt_le.mp h
theorem ni_lt {x y : Int32} (h : x < y) : x.toInt < y.toInt := Int32.lt_iff_toInt_lt.mp h
theorem ni_0 {x : Int32} (h : 0 ≤ x) : 0 ≤ x.toInt := ni_le h
theorem ni_inj {x y : Int32} (hx : 0 ≤ x) (hy : 0 ≤ y) : (ix_n x = ix_n y) = (x = y) := by
  have h1 := ni_0 hx
  have h2 := ni_0 hy
  refine propext ⟨fun h => Int32.toInt_inj.mp ?_, fun h => h ▸ rfl⟩
  rw [ni_def, ni_def] at h
  omega
theorem ni_mono {x y : Int32} (hx : 0 ≤ x) (h : x < y) : ix_n x < ix_n y := by
  have h1 := ni_0 hx
  have h2 := ni_lt h
  rw [ni_def, ni_def]
  omega
theorem ni_ofNat {L : Nat} (hL : L < 2147483648) : (Int32.ofNat L).toInt = L := by
  exact Int32.toInt_ofNat_of_lt hL
theorem ni_vp {i : Int32} {L : Nat} (hL : L < 2147483648) : vp_in i L ↔ 0 ≤ i ∧ i < Int32.ofNat L := by
  rw [Int32.lt_iff_toInt_lt, Int32.le_iff_toInt_le, ni_ofNat hL]
  have e : vp_in i L ↔ ¬ (i.toInt < (0 : Int32).toInt ∨ L ≤ i.toInt.toNat) := by
    rw [← Int32.lt_iff_toInt_lt]; exact Iff.rfl
  rw [e]
  have e0 : (0 : Int32).toInt = 0 := rfl
  rw [e0]
  omega
theorem up_1 {d : ix_D2} {a k a' k' : Nat} {v : Int32} : (ix_di d a k v).1 a' k' = if a' = a ∧ k' = k then v else d.1 a' k' := rfl
theorem up_2 {d : ix_D2} {a k : Nat} {v : Int32} : (ix_di d a k v).2 = d.2 := rfl
theorem up_a {d : ix_D2} {a k a' : Nat} {v : Int32} (h : a' ≠ a) : (ix_di d a k v).1 a' = d.1 a' := funext fun k' => if_neg (fun q => h q.1)
theorem up_eq {d : ix_D2} {a k : Nat} {v : Int32} : ix_di d a k v = (ix_up d.1 a k v, d.2) := rfl
theorem wp_eq {α : Type} {o : Option α} {x : α} : wp_t o (fun r => r = x) = (o = some x) := propext ⟨fun ⟨_, h, e⟩ => by rw [h, e], fun h => ⟨x, h, rfl⟩⟩
/-- a stretch of a cell set to v -/
def pv_rng (d : ix_D2) (a lo hi : Nat) (v : Int32) : ix_D2 := (fun a' k => if a' = a ∧ lo ≤ k ∧ k < hi then v else d.1 a' k, d.2)
theorem rng_1 {d : ix_D2} {a lo hi a' k : Nat} {v : Int32} : (pv_rng d a lo hi v).1 a' k = if a' = a ∧ lo ≤ k ∧ k < hi then v else d.1 a' k := rfl
theorem rng_2 {d : ix_D2} {a lo hi : Nat} {v : Int32} : (pv_rng d a lo hi v).2 = d.2 := rfl
theorem rng_0 {d : ix_D2} {a lo : Nat} {v : Int32} : pv_rng d a lo lo v = d := by
  refine Prod.ext (funext fun a' => funext fun k => ?_) rfl
  rw [rng_1, if_neg (by omega)]
theorem rng_s {d : ix_D2} {a lo hi : Nat} {v : Int32} (h : lo ≤ hi) : ix_di (pv_rng d a lo hi v) a hi v = pv_rng d a lo (hi + 1) v := by
  refine Prod.ext (funext fun a' => funext fun k => ?_) rfl
  rw [up_1, rng_1, rng_1]
  by_cases h1 : a' = a ∧ k = hi
  · rw [if_pos h1, if_pos (by omega)]
  · rw [if_neg h1]
    by_cases h2 : a' = a ∧ lo ≤ k ∧ k < hi
    · rw [if_pos h2, if_pos (by omega)]
    · rw [if_neg h2, if_neg (by omega)]
theorem nI_n {k : Nat} (h : k < 2147483648) : ix_n (nI k) = k := nI_clamp h
theorem ni_of {x : Int32} (h : 0 ≤ x) : x = nI (ix_n x) := by
  refine Int32.toInt_inj.mp ?_
  have h1 := ni_0 h
  have h2 : ix_n x < 2 ^ 31 := x.toNatClampNeg_lt
  rw [nI_toInt h2, ni_def]
  omega
theorem nI_leb {a b : Nat} (ha : a < 2147483648) (hb : b < 2147483648) : (nI a ≤ nI b) = (a ≤ b) := propext (nI_leI ha hb)
theorem nI_ltb {a b : Nat} (ha : a < 2147483648) (hb : b < 2147483648) : (nI a < nI b) = (a < b) := by
  have h1 := nI_toInt (n := a) ha
  have h2 := nI_toInt (n := b) hb
  rw [Int32.lt_iff_toInt_lt, h1, h2]
  exact propext ⟨fun h => by omega, fun h => by omega⟩
theorem nI_vp {i L : Nat} (hi : i < L) (hL : L < 2147483648) : vp_in (nI i) L := nI_in hi hL
/-- Arrays.fill -/
theorem wp_fill {n L a : Nat} {z : ix_Z} {d : ix_D2} {v : Int32} (ha : a < z.2.2) (hk : z.2.1 a = (20, L)) (hn : L < n) (hL : L < 2147483648) : f_J7_fill_53178 n z a v d = some (pv_rng d a 0 L v) := by
  rw [← wp_eq]
  unfold f_J7_fill_53178 f_J7_fill_53178_5
  rw [wp_ck, wp_lt]
  refine ⟨⟨ha, by rw [hk]; exact ⟨Nat.le_of_ble_eq_true rfl, Nat.le_of_ble_eq_true rfl⟩⟩, ?_⟩
  refine wp_fx2 (J := fun x d' => ∃ i, i ≤ L ∧ x = nI i ∧ d' = pv_rng d a 0 i v) (μ := fun x _ => L - ix_n x) ?_ n 0 d ⟨0, by omega, rfl, rng_0.symm⟩ (by omega)
  rintro rec x d' ⟨i, hi, rfl, rfl⟩ ih
  unfold b_J7_fill_53178_5
  rw [hk, wp_if, nI_leb (by omega) (by omega)]
  refine ⟨fun h => ?_, fun h => ?_⟩
  · rw [wp_some]
    have : i = L := by omega
    rw [this]
  · rw [wp_ck, wp_lt, wp_lt]
    refine ⟨⟨ha, by rw [hk], by rw [hk]; exact nI_vp (by omega) hL⟩, ?_⟩
    rw [nI_n (by omega), rng_s (by omega), nI_1]
    refine ih _ _ ⟨i + 1, by omega, rfl, rfl⟩ ?_
    rw [nI_n (by omega), nI_n (by omega)]
    omega
/-- Arrays.fill of longs -/
def pv_rnj (d : ix_D2) (a lo hi : Nat) (v : Int64) : ix_D2 := (d.1, fun a' k => if a' = a ∧ lo ≤ k ∧ k < hi then v else d.2 a' k)
theorem rnj_s {d : ix_D2} {a lo hi : Nat} {v : Int64} (h : lo ≤ hi) : ix_dj (pv_rnj d a lo hi v) a hi v = pv_rnj d a lo (hi + 1) v := by
  refine Prod.ext rfl (funext fun a' => funext fun k => ?_)
  show (if a' = a ∧ k = hi then v else if a' = a ∧ lo ≤ k ∧ k < hi then v else d.2 a' k) = if a' = a ∧ lo ≤ k ∧ k < hi + 1 then v else d.2 a' k
  by_cases h1 : a' = a ∧ k = hi
  · rw [if_pos h1, if_pos (by omega)]
  · rw [if_neg h1]
    by_cases h2 : a' = a ∧ lo ≤ k ∧ k < hi
    · rw [if_pos h2, if_pos (by omega)]
    · rw [if_neg h2, if_neg (by omega)]
theorem rnj_0 {d : ix_D2} {a lo : Nat} {v : Int64} : pv_rnj d a lo lo v = d := by
  refine Prod.ext rfl (funext fun a' => funext fun k => ?_)
  show (if a' = a ∧ lo ≤ k ∧ k < lo then v else d.2 a' k) = _
  rw [if_neg (by omega)]
theorem wp_fillj {n L a : Nat} {z : ix_Z} {d : ix_D2} {v : Int64} (ha : a < z.2.2) (hk : z.2.1 a = (23, L)) (hn : L < n) (hL : L < 2147483648) : f_J7_fill_d0a16 n z a v d = some (pv_rnj d a 0 L v) := by
  rw [← wp_eq]
  unfold f_J7_fill_d0a16 f_J7_fill_d0a16_6
  rw [wp_ck, wp_lt]
  refine ⟨⟨ha, by rw [hk]; exact ⟨Nat.le_of_ble_eq_true rfl, Nat.le_of_ble_eq_true rfl⟩⟩, ?_⟩
  refine wp_fx2 (J := fun x d' => ∃ i, i ≤ L ∧ x = nI i ∧ d' = pv_rnj d a 0 i v) (μ := fun x _ => L - ix_n x) ?_ n 0 d ⟨0, by omega, rfl, rnj_0.symm⟩ (by omega)
  rintro rec x d' ⟨i, hi, rfl, rfl⟩ ih
  unfold b_J7_fill_d0a16_6
  rw [hk, wp_if, nI_leb (by omega) (by omega)]
  refine ⟨fun h => ?_, fun h => ?_⟩
  · rw [wp_some]
    have : i = L := by omega
    rw [this]
  · rw [wp_ck, wp_lt, wp_lt]
    refine ⟨⟨ha, by rw [hk], by rw [hk]; exact nI_vp (by omega) hL⟩, ?_⟩
    rw [nI_n (by omega), rnj_s (by omega), nI_1]
    refine ih _ _ ⟨i + 1, by omega, rfl, rfl⟩ ?_
    rw [nI_n (by omega), nI_n (by omega)]
    omega
/-- only S may have changed of the ints, nothing of the longs -/
def fr_ok (S : Nat → Nat → Prop) (d d' : ix_D2) : Prop := (∀ a k, ¬ S a k → d'.1 a k = d.1 a k) ∧ d'.2 = d.2
theorem ni_addI {x y : Int32} (h1 : 0 ≤ x) (h2 : 0 ≤ y) (h3 : x ≤ 1000000000) (h4 : y ≤ 1000000000) : ix_n (x + y) = ix_n x + ix_n y := by
  have e1 := ni_0 h1
  have e2 := ni_0 h2
  have e3 : x.toInt ≤ 1000000000 := ni_le h3
  have e4 : y.toInt ≤ 1000000000 := ni_le h4
  have e : (x + y).toInt = x.toInt + y.toInt := by
    rw [Int32.toInt_add]
    exact Int.bmod_eq_of_le (by omega) (by omega)
  rw [ni_def, ni_def, ni_def, e]
  omega
theorem ni_mulI {c : Int32} {x : Int32} (h1 : 0 ≤ x) (h2 : 0 ≤ c) (h3 : x ≤ 10000) (h4 : c ≤ 10000) : ix_n (c * x) = ix_n c * ix_n x := by
  have e1 := ni_0 h1
  have e2 := ni_0 h2
  have e3 : x.toInt ≤ 10000 := ni_le h3
  have e4 : c.toInt ≤ 10000 := ni_le h4
  have q1 : 0 ≤ c.toInt * x.toInt := Int.mul_nonneg e2 e1
  have q2 : c.toInt * x.toInt ≤ 10000 * 10000 := Int.mul_le_mul e4 e3 e1 (by omega)
  have e : (c * x).toInt = c.toInt * x.toInt := by
    rw [Int32.toInt_mul]
    exact Int.bmod_eq_of_le (by omega) (by omega)
  rw [ni_def, ni_def, ni_def, e, Int.toNat_mul e2 e1]
theorem ni_12 {x y : Int32} (h1 : 0 ≤ x) (h2 : x < 40) (h3 : 0 ≤ y) (h4 : y ≤ 12) : ix_n (12 * x + y) = 12 * ix_n x + ix_n y ∧ 0 ≤ 12 * x + y := by
  have e : ix_n (12 * x) = 12 * ix_n x := ni_mulI (c := 12) h1 (by decide) (by grind) (by decide)
  rw [ni_addI (by grind) h3 (by grind) (by grind), e]
  exact ⟨rfl, by grind⟩
theorem ni_lt' {x y : Int32} (h1 : 0 ≤ x) (h2 : x < y) : ix_n x < ix_n y := ni_mono h1 h2
theorem ni_le' {x y : Int32} (h1 : 0 ≤ x) (h2 : x ≤ y) : ix_n x ≤ ix_n y := by
  have e1 := ni_0 h1
  have e2 := ni_le h2
  rw [ni_def, ni_def]
  omega
theorem ni_12b {x : Int32} (h1 : 0 ≤ x) (h2 : x < 40) (y : Int32) : 0 ≤ y → y < 12 → 0 ≤ 12 * x + y ∧ 12 * x + y < 480 := by
  intro h3 h4
  grind
/-! Int32 as Int, for omega -/
theorem ti_bm (a : Int) : Int.bmod a 4294967296 = (a + 2147483648) % 4294967296 - 2147483648 := by
  rw [Int.bmod_def]
  split <;> omega
theorem ti_add (x y : Int32) : (x + y).toInt = (x.toInt + y.toInt + 2147483648) % 4294967296 - 2147483648 := by rw [Int32.toInt_add]; exact ti_bm _
theorem ti_sub (x y : Int32) : (x - y).toInt = (x.toInt - y.toInt + 2147483648) % 4294967296 - 2147483648 := by rw [Int32.toInt_sub]; exact ti_bm _
theorem ti_mul (x y : Int32) : (x * y).toInt = (x.toInt * y.toInt + 2147483648) % 4294967296 - 2147483648 := by rw [Int32.toInt_mul]; exact ti_bm _
theorem ti_neg (x : Int32) : (-x).toInt = (-x.toInt + 2147483648) % 4294967296 - 2147483648 := by rw [Int32.toInt_neg]; exact ti_bm _
theorem ti_eq {x y : Int32} : (x = y) = (x.toInt = y.toInt) := propext Int32.toInt_inj.symm
theorem ti_le {x y : Int32} : (x ≤ y) = (x.toInt ≤ y.toInt) := propext Int32.le_iff_toInt_le
theorem ti_lt {x y : Int32} : (x < y) = (x.toInt < y.toInt) := propext Int32.lt_iff_toInt_lt
theorem ti_b (x : Int32) : -2147483648 ≤ x.toInt ∧ x.toInt < 2147483648 := ⟨Int32.le_toInt x, Int32.toInt_lt x⟩
theorem ti_ite {P : Prop} [Decidable P] (x y : Int32) : (if P then x else y).toInt = if P then x.toInt else y.toInt := by split <;> rfl
theorem wi_ck {α : Type} {P : Prop} {k : Option α} {Q : α → Prop} (h : P) (kk : wp_t k Q) : wp_t (ix_ck P k) Q := by rw [wp_ck]; exact ⟨h, kk⟩
theorem wi_ifp {α : Type} {P : Prop} {a b : Option α} {Q : α → Prop} (h : P) (kk : wp_t a Q) : wp_t (ix_if P a b) Q := by rw [ix_if_pos h]; exact kk
theorem wi_ifn {α : Type} {P : Prop} {a b : Option α} {Q : α → Prop} (h : ¬ P) (kk : wp_t b Q) : wp_t (ix_if P a b) Q := by rw [ix_if_neg h]; exact kk
theorem wi_if {α : Type} {P : Prop} {a b : Option α} {Q : α → Prop} (h1 : P → wp_t a Q) (h2 : ¬ P → wp_t b Q) : wp_t (ix_if P a b) Q := by rw [wp_if]; exact ⟨h1, h2⟩
theorem wi_lt {α β : Type} {a : α} {k : α → Option β} {Q : β → Prop} (h : wp_t (k a) Q) : wp_t (ix_lt a k) Q := h
theorem wi_bd1 {α β : Type} {a : Option α} {k : α → Option β} {Q : β → Prop} (h : wp_t a (fun t => wp_t (k t) Q)) : wp_t (ix_bd1 a k) Q := by rw [wp_bd1]; exact h
theorem wi_bd2 {α β γ : Type} {a : Option (α × β)} {k : α → β → Option γ} {Q : γ → Prop} (h : wp_t a (fun t => wp_t (k t.1 t.2) Q)) : wp_t (ix_bd2 a k) Q := by rw [wp_bd2]; exact h
theorem wi_bd3 {α β γ δ : Type} {a : Option (α × β × γ)} {k : α → β → γ → Option δ} {Q : δ → Prop} (h : wp_t a (fun t => wp_t (k t.1 t.2.1 t.2.2) Q)) : wp_t (ix_bd3 a k) Q := by rw [wp_bd3]; exact h
theorem wi_some {α : Type} {r : α} {Q : α → Prop} (h : Q r) : wp_t (some r) Q := by rw [wp_some]; exact h
theorem wi_e {α : Type} {o : Option α} {r : α} {Q : α → Prop} (e : o = some r) (h : Q r) : wp_t o Q := ⟨r, e, h⟩
theorem wi_t {α : Type} {P : Prop} {k : Option α} {Q : α → Prop} (h : P = True) (kk : wp_t k Q) : wp_t (ix_ck P k) Q := wi_ck (of_eq_true h) kk
theorem wi_r {α : Type} {o : Option Nat} {b : Nat} {k : Nat → Option α} {Q : α → Prop} (h : o = some b) (kk : wp_t (k b) Q) : wp_t (ix_bd1 o k) Q := by rw [h]; exact kk
theorem wi_x {α : Type} {P : Prop} {i c : Int32} {k : Option α} {Q : α → Prop} (h : P = (0 ≤ i ∧ i < c)) (h0 : 0 ≤ i.toInt) (h1 : i.toInt < c.toInt) (kk : wp_t k Q) : wp_t (ix_ck P k) Q := wi_ck (by rw [h, ti_le, ti_lt]; exact ⟨h0, h1⟩) kk
theorem ta_add {x y : Int32} (h1 : -2147483648 ≤ x.toInt + y.toInt) (h2 : x.toInt + y.toInt < 2147483648) : (x + y).toInt = x.toInt + y.toInt := by rw [ti_add]; omega
theorem ta_sub {x y : Int32} (h1 : -2147483648 ≤ x.toInt - y.toInt) (h2 : x.toInt - y.toInt < 2147483648) : (x - y).toInt = x.toInt - y.toInt := by rw [ti_sub]; omega
theorem ta_mul {x y : Int32} (h1 : -2147483648 ≤ x.toInt * y.toInt) (h2 : x.toInt * y.toInt < 2147483648) : (x * y).toInt = x.toInt * y.toInt := by
  rw [ti_mul]
  generalize x.toInt * y.toInt = a at *
  omega
theorem ta_neg {x : Int32} (h1 : -2147483648 < x.toInt) : (-x).toInt = -x.toInt := by
  have := ti_b x
  rw [ti_neg]; omega
theorem fr_rf {S : Nat → Nat → Prop} {d : ix_D2} : fr_ok S d d := ⟨fun _ _ _ => rfl, rfl⟩
theorem fr_di {S : Nat → Nat → Prop} {d d' : ix_D2} {a k : Nat} {v : Int32} (h : fr_ok S d d') (hs : S a k) : fr_ok S d (ix_di d' a k v) :=
  ⟨fun a' k' hn => by rw [up_1, if_neg (fun e => hn (by rw [e.1, e.2]; exact hs))]; exact h.1 a' k' hn, h.2⟩
theorem fr_rng {S : Nat → Nat → Prop} {d d' : ix_D2} {a lo hi : Nat} {v : Int32} (h : fr_ok S d d') (hs : ∀ k, lo ≤ k → k < hi → S a k) : fr_ok S d (pv_rng d' a lo hi v) :=
  ⟨fun a' k' hn => by rw [rng_1, if_neg (fun e => hn (by rw [e.1]; exact hs k' e.2.1 e.2.2))]; exact h.1 a' k' hn, h.2⟩
theorem fr_cp {S : Nat → Nat → Prop} {d d' : ix_D2} {s t sp dp n : Nat} (h : fr_ok S d d') (hs : ∀ k, dp ≤ k → k < dp + n → S t k) : fr_ok S d (ix_cpI d' s t sp dp n) :=
  ⟨fun a' k' hn => by rw [show (ix_cpI d' s t sp dp n).1 a' k' = if a' = t ∧ dp ≤ k' ∧ k' < dp + n then d'.1 s (sp + (k' - dp)) else d'.1 a' k' from rfl, if_neg (fun e => hn (by rw [e.1]; exact hs k' e.2.1 e.2.2))]; exact h.1 a' k' hn, h.2⟩
theorem cp_s {d : ix_D2} {s t sp dp k : Nat} {v : Int32} (hv : v = d.1 s (sp + k)) : ix_di (ix_cpI d s t sp dp k) t (dp + k) v = ix_cpI d s t sp dp (k + 1) := by
  refine Prod.ext (funext fun a' => funext fun k' => ?_) rfl
  show (if a' = t ∧ k' = dp + k then v else if a' = t ∧ dp ≤ k' ∧ k' < dp + k then d.1 s (sp + (k' - dp)) else d.1 a' k') = if a' = t ∧ dp ≤ k' ∧ k' < dp + (k + 1) then d.1 s (sp + (k' - dp)) else d.1 a' k'
  by_cases h1 : a' = t ∧ k' = dp + k
  · rw [if_pos h1, if_pos (by omega), hv, show k' - dp = k by omega]
  · rw [if_neg h1]
    by_cases h2 : a' = t ∧ dp ≤ k' ∧ k' < dp + k
    · rw [if_pos h2, if_pos (by omega)]
    · rw [if_neg h2, if_neg (by omega)]
theorem cp_0 {d : ix_D2} {s t sp dp : Nat} : ix_cpI d s t sp dp 0 = d := by
  refine Prod.ext (funext fun a' => funext fun k' => ?_) rfl
  show (if a' = t ∧ dp ≤ k' ∧ k' < dp + 0 then _ else d.1 a' k') = _
  rw [if_neg (by omega)]
theorem cpv_i {d : ix_D2} {s t sp dp n k : Nat} (h1 : dp ≤ k) (h2 : k < dp + n) : (ix_cpI d s t sp dp n).1 t k = d.1 s (sp + (k - dp)) := if_pos ⟨rfl, h1, h2⟩
theorem cpv_o {d : ix_D2} {s t sp dp n a k : Nat} (h : ¬ (a = t ∧ dp ≤ k ∧ k < dp + n)) : (ix_cpI d s t sp dp n).1 a k = d.1 a k := if_neg h
theorem ni_c {x : Int32} (h : 0 ≤ x.toInt) : (ix_n x : Int) = x.toInt := by rw [ni_def]; omega
theorem ni_ex {x : Int32} (h : 0 ≤ x.toInt) : ∃ k : Nat, x = nI k ∧ (k : Int) = x.toInt ∧ ix_n x = k := by
  have h0 : 0 ≤ x := ti_le ▸ h
  exact ⟨ix_n x, ni_of h0, ni_c h, rfl⟩
theorem nI_ti {k : Nat} (h : k < 2147483648) : (nI k).toInt = (k : Int) := nI_toInt h
theorem ta_div {x y : Int32} (h1 : 0 ≤ x.toInt) (h2 : 0 < y.toInt) : (x / y).toInt = x.toInt / y.toInt := by
  have hx := ti_b x
  rw [Int32.toInt_div, Int.tdiv_eq_ediv_of_nonneg h1]
  have h3 : 0 ≤ x.toInt / y.toInt := Int.ediv_nonneg h1 (by omega)
  have h4 : x.toInt / y.toInt ≤ x.toInt := Int.ediv_le_self _ h1
  exact Int.bmod_eq_of_le (by omega) (by omega)
theorem cp_1 {d : ix_D2} {s t sp dp n a k : Nat} : (ix_cpI d s t sp dp n).1 a k = if a = t ∧ dp ≤ k ∧ k < dp + n then d.1 s (sp + (k - dp)) else d.1 a k := rfl
theorem cp_2 {d : ix_D2} {s t sp dp n : Nat} : (ix_cpI d s t sp dp n).2 = d.2 := rfl
theorem dj_1 {d : ix_D2} {a k : Nat} {v : Int64} : (ix_dj d a k v).1 = d.1 := rfl
theorem dj_2 {d : ix_D2} {a k a' k' : Nat} {v : Int64} : (ix_dj d a k v).2 a' k' = if a' = a ∧ k' = k then v else d.2 a' k' := rfl
/-- a stretch of a cell by a function -/
def pv_fn (d : ix_D2) (a lo hi : Nat) (g : Nat → Int32) : ix_D2 := (fun a' k => if a' = a ∧ lo ≤ k ∧ k < hi then g k else d.1 a' k, d.2)
theorem fn_1 {d : ix_D2} {a lo hi a' k : Nat} {g : Nat → Int32} : (pv_fn d a lo hi g).1 a' k = if a' = a ∧ lo ≤ k ∧ k < hi then g k else d.1 a' k := rfl
theorem fn_2 {d : ix_D2} {a lo hi : Nat} {g : Nat → Int32} : (pv_fn d a lo hi g).2 = d.2 := rfl
theorem fn_0 {d : ix_D2} {a lo : Nat} {g : Nat → Int32} : pv_fn d a lo lo g = d := by
  refine Prod.ext (funext fun a' => funext fun k => ?_) rfl
  rw [fn_1, if_neg (by omega)]
theorem fn_s {d : ix_D2} {a lo hi : Nat} {g : Nat → Int32} {v : Int32} (h : lo ≤ hi) (hv : v = g hi) : ix_di (pv_fn d a lo hi g) a hi v = pv_fn d a lo (hi + 1) g := by
  refine Prod.ext (funext fun a' => funext fun k => ?_) rfl
  rw [up_1, fn_1, fn_1]
  by_cases h1 : a' = a ∧ k = hi
  · rw [if_pos h1, if_pos (by omega), hv, h1.2]
  · rw [if_neg h1]
    by_cases h2 : a' = a ∧ lo ≤ k ∧ k < hi
    · rw [if_pos h2, if_pos (by omega)]
    · rw [if_neg h2, if_neg (by omega)]
theorem di_c {d : ix_D2} {a k b j : Nat} {v w : Int32} (h : a ≠ b ∨ k ≠ j) : ix_di (ix_di d a k v) b j w = ix_di (ix_di d b j w) a k v := by
  refine Prod.ext (funext fun a' => funext fun k' => ?_) rfl
  simp only [up_1]
  by_cases h1 : a' = b ∧ k' = j
  · rw [if_pos h1, if_neg (by omega), if_pos h1]
  · rw [if_neg h1, if_neg h1]
theorem di_i {d : ix_D2} {a k : Nat} {v w : Int32} : ix_di (ix_di d a k v) a k w = ix_di d a k w := by
  refine Prod.ext (funext fun a' => funext fun k' => ?_) rfl
  simp only [up_1]
  by_cases h1 : a' = a ∧ k' = k
  · rw [if_pos h1, if_pos h1]
  · rw [if_neg h1, if_neg h1, if_neg h1]
/-- a cell grows by one, and its count with it -/
theorem fn_p {d : ix_D2} {a lo hi c k : Nat} {g : Nat → Int32} {v v' x : Int32} (h : lo ≤ hi) (hne : a ≠ c) (hx : x = g hi) : ix_di (ix_di (ix_di (pv_fn d a lo hi g) c k v) a hi x) c k v' = ix_di (pv_fn d a lo (hi + 1) g) c k v' := by
  rw [di_c (a := c) (b := a) (Or.inl (fun e => hne e.symm)), di_i, fn_s h hx]
theorem fr_fn {S : Nat → Nat → Prop} {d d' : ix_D2} {a lo hi : Nat} {g : Nat → Int32} (h : fr_ok S d d') (hs : ∀ k, lo ≤ k → k < hi → S a k) : fr_ok S d (pv_fn d' a lo hi g) :=
  ⟨fun a' k' hn => by rw [fn_1, if_neg (fun e => hn (by rw [e.1]; exact hs k' e.2.1 e.2.2))]; exact h.1 a' k' hn, h.2⟩

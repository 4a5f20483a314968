/-! THE CLASS'S follows, against partial truths -/
def l0_ (c : ix_D2) : Prop := ∀ i : Nat, (i : Int) < (c.1 91 12).toInt → (c.1 103 (ix_n (ix_abs (c.1 105 i)))).toInt = 0
def fF_ (c c' : ix_D2) : Prop := (∀ a k, a ≠ 98 → (a < 101 ∨ 105 < a) → (a ≠ 91 ∨ (k ≠ 12 ∧ k ≠ 13)) → c'.1 a k = c.1 a k) ∧ ∀ a k, a ≠ 99 → a ≠ 100 → c'.2 a k = c.2 a k
/-- the board at rest: level 0, and each quiet truth has what it has -/
def RS_ (c : ix_D2) : Prop := bT_ c ∧ c.1 91 13 = 0 ∧ l0_ c ∧ ∀ V, vkV V → qA_ c V → xV (cV c) V
section FOL
variable {n : Nat} {z : ix_Z} {c0 c c1 c2 c4 : ix_D2} {v y x : Int32} {P : (Nat → Int) → Prop}
theorem fF_t (h1 : fF_ c c1) (h2 : fF_ c1 c2) : fF_ c c2 := ⟨fun a k g1 g2 g3 => (h2.1 a k g1 g2 g3).trans (h1.1 a k g1 g2 g3), fun a k g1 g2 => (h2.2 a k g1 g2).trans (h1.2 a k g1 g2)⟩
theorem fF_e (h : ext_ c c1) : fF_ c c1 := ⟨fun a k g1 g2 g3 => h.2.2.2.2.1 a k g1 (by omega) (by omega) (by omega) (by omega) (by omega), h.2.2.2.2.2⟩
theorem qA_f (h : fF_ c c1) {V : Nat → Int} : qA_ c1 V = qA_ c V := by
  unfold qA_
  rw [h.1 92 2 (by omega) (by omega) (by omega), show c1.1 93 = c.1 93 from funext fun k => h.1 _ _ (by omega) (by omega) (by omega), show c1.1 94 = c.1 94 from funext fun k => h.1 _ _ (by omega) (by omega) (by omega)]
theorem ext_t (hb : bT_ c2) (h1 : ext_ c0 c1) (h2 : ext_ c1 c2) : ext_ c0 c2 := by
  obtain ⟨-, ⟨-, -, -, hd⟩, -, -⟩ := hb
  have l1 := h1.1
  have l2 := h2.1
  refine ⟨by omega, fun i hi => by rw [h2.2.1 i (by omega)]; exact h1.2.1 i hi, fun m hm => ?_, fun i g1 g2 => ?_, fun a k g8 g1 g2 g3 g4 g5 => by rw [h2.2.2.2.2.1 a k g8 g1 g2 g3 g4 g5]; exact h1.2.2.2.2.1 a k g8 g1 g2 g3 g4 g5, fun a k g1 g2 => by rw [h2.2.2.2.2.2 a k g1 g2]; exact h1.2.2.2.2.2 a k g1 g2⟩
  · have q2 := h2.2.2.1 m fun i g1 g2 => hm i (by omega) g2
    have q1 := h1.2.2.1 m fun i g1 g2 => by rw [← h2.2.1 i g2]; exact hm i g1 (by omega)
    exact ⟨q2.1.trans q1.1, q2.2.trans q1.2⟩
  · by_cases ci : (i : Int) < (c1.1 91 12).toInt
    · have e := h2.2.1 i ci
      have q2 := h2.2.2.1 (ix_n (ix_abs (c2.1 105 i))) fun j g3 g4 => (hd i j (by omega) g4).symm
      rw [q2.2, e]
      exact h1.2.2.2.1 i g1 ci
    · rw [h2.2.2.2.1 i (by omega) g2]
      exact h1.2.2.2.2.1 91 13 (by omega) (by omega) (by omega) (by omega) (by omega) (by omega)
theorem ext_v (hb : bT_ c1) (hb2 : bT_ c2) (h : ext_ c1 c2) : ∀ m, 1 ≤ m → m ≤ 300 → cV c1 m ≠ 0 → cV c2 m = cV c1 m ∧ c2.1 103 m = c1.1 103 m := by
  intro m m1 m2 m3
  obtain ⟨-, ⟨-, -, -, hd⟩, -, -⟩ := hb2
  obtain ⟨i, i1, i2⟩ := hb.2.2.2 m m1 m2 m3
  have l := h.1
  have q := h.2.2.1 m fun j g1 g2 => by
    rw [← i2, ← h.2.1 i i1]
    exact (hd i j (by omega) g2).symm
  exact ⟨by unfold cV; rw [q.1], q.2⟩
theorem bT_c (hb : bT_ c) (e : ∀ a k, (a ≠ 91 ∨ k ≠ 13) → c1.1 a k = c.1 a k) (el : c1.2 = c.2) : bT_ c1 := by
  obtain ⟨h1, h2, h3, h4⟩ := hb
  have f : ∀ a, a ≠ 91 → c1.1 a = c.1 a := fun a ha => funext fun k => e a k (Or.inl ha)
  refine ⟨bi_c90 h1 (fun a k _ => e a k (by omega)) (fun k => by rw [el]) (fun k => by rw [el]), ?_, ?_, ?_⟩
  · unfold tk_90 vl_; rw [f 105 (by omega), f 101 (by omega), e 91 12 (by omega)]; exact h2
  · rw [f 98 (by omega), f 92 (by omega)]; exact h3
  · rw [f 101 (by omega), f 105 (by omega), e 91 12 (by omega)]; exact h4
/-- back to level 0 -/
theorem e_bk0 (hz : ly_z z) (hn : 20000 ≤ n) (h1 : bT_ c1) (hl : l0_ c1) (h4 : bT_ c4) (e2 : c2 = ix_di c1 91 13 1) (hx : ext_ c2 c4) : wp_t (f_X1_backTo n z 91 0 c4) (fun c5 => bT_ c5 ∧ c5.1 91 13 = 0 ∧ l0_ c5 ∧ (∀ m, cV c5 m = cV c1 m) ∧ fF_ c1 c5) := by
  have e2o : ∀ a k, (a ≠ 91 ∨ k ≠ 13) → c2.1 a k = c1.1 a k := fun a k h => by rw [e2, up_1, if_neg (by omega)]
  have e213 : c2.1 91 13 = 1 := by rw [e2, up_1, if_pos ⟨rfl, rfl⟩]
  have h2 : bT_ c2 := bT_c h1 e2o (by rw [e2]; rfl)
  have t212 : c2.1 91 12 = c1.1 91 12 := e2o _ _ (by omega)
  obtain ⟨k1, k2, k3, k4⟩ := h4.2.1
  obtain ⟨t, et⟩ : ∃ t : Nat, (t : Int) = (c4.1 91 12).toInt := ⟨ix_n (c4.1 91 12), ni_c k1⟩
  obtain ⟨j1, j2, j3, j4⟩ := h1.2.1
  obtain ⟨T, eT⟩ : ∃ T : Nat, (T : Int) = (c1.1 91 12).toInt := ⟨ix_n (c1.1 91 12), ni_c j1⟩
  have hTt : T ≤ t := by have := hx.1; rw [t212] at this; omega
  have h105 : ∀ i, i < T → c4.1 105 i = c1.1 105 i := fun i hi => by rw [hx.2.1 i (by rw [t212]; omega)]; exact e2o _ _ (by omega)
  have hnin : ∀ i j, i < T → T ≤ j → j < t → ix_n (ix_abs (c4.1 105 j)) ≠ ix_n (ix_abs (c1.1 105 i)) := fun i j g1 g2 g3 => by
    have := k4 i j (by omega) (by omega)
    rw [h105 i g1] at this
    exact this.symm
  have lv0 : ∀ i, i < T → (c4.1 103 (ix_n (ix_abs (c4.1 105 i)))).toInt = 0 := fun i hi => by
    have q := hx.2.2.1 (ix_n (ix_abs (c4.1 105 i))) fun j g1 g2 => by
      rw [t212] at g1
      rw [h105 i hi]
      exact hnin i j hi (by omega) (by omega)
    rw [q.2, h105 i hi, e2o _ _ (by omega)]
    exact hl i (by omega)
  have lv1 : ∀ i, T ≤ i → i < t → (c4.1 103 (ix_n (ix_abs (c4.1 105 i)))).toInt = 1 := fun i g1 g2 => by
    rw [hx.2.2.2.1 i (by rw [t212]; omega) (by omega), e213]; rfl
  obtain ⟨c5, E, m, m1, m2, m3, m4, m5, b1, b2, b3, b4, b5, b6⟩ := e_bt90 (n := n) (d := c4) (x := 0) hz hn h4.1 h4.2.1 et
  have z0 : (0 : Int32).toInt = 0 := rfl
  have emT : m = T := by
    rcases Nat.lt_trichotomy m T with g | g | g
    · have := m3 m (Nat.le_refl _) (by omega)
      rw [lv0 m g, z0] at this
      omega
    · exact g
    · rcases m2 with m2 | m2
      · omega
      · rw [lv1 (m - 1) (by omega) (by omega), z0] at m2
        omega
  rw [emT] at m4 b1 b2
  have o12 : (c5.1 91 12).toInt = (c1.1 91 12).toInt := by omega
  have c5105 : ∀ i, i < T → c5.1 105 i = c1.1 105 i := fun i hi => by rw [b4 _ _ (by omega) (by omega) (by omega) (by omega)]; exact h105 i hi
  have c5103 : ∀ i, c5.1 103 i = c4.1 103 i := fun i => b4 _ _ (by omega) (by omega) (by omega) (by omega)
  have hval : ∀ a, c5.1 101 a = c1.1 101 a := fun a => by
    by_cases ca : ∃ i, T ≤ i ∧ i < t ∧ ix_n (ix_abs (c4.1 105 i)) = a
    · obtain ⟨i, i1, i2, i3⟩ := ca
      rw [(b1 i a i1 i2 i3).1]
      have q := k3 i (by omega)
      have hb := na_b q.1 q.2.1 q.2.2.1
      rw [i3] at hb
      by_cases c0 : (c1.1 101 a).toInt = 0
      · exact (Int32.toInt_inj.mp c0).symm
      · obtain ⟨j, j5, j6⟩ := h1.2.2.2 a hb.1 hb.2.1 c0
        exact absurd (by rw [i3, j6]) (hnin j i (by omega) i1 i2)
    · have q : ∀ i, T ≤ i → i < t → ix_n (ix_abs (c4.1 105 i)) ≠ a := fun i g1 g2 g3 => ca ⟨i, g1, g2, g3⟩
      rw [(b2 a q).1, (hx.2.2.1 a fun i g1 g2 => q i (by rw [t212] at g1; omega) (by omega)).1, e2o _ _ (by omega)]
  have f101 : c5.1 101 = c1.1 101 := funext hval
  have hfr : fF_ c1 c5 := ⟨fun a k g1 g2 g3 => by
    rw [b4 a k g1 (by omega) (by omega) g3, hx.2.2.2.2.1 a k g1 (by omega) (by omega) (by omega) (by omega) (by omega), e2o a k (by omega)], fun a k g1 g2 => by
    rw [b5 a k g1 g2, hx.2.2.2.2.2 a k g1 g2, e2]; rfl⟩
  have e92 : c5.1 92 2 = c1.1 92 2 := hfr.1 _ _ (by omega) (by omega) (by omega)
  have e924 : c4.1 92 2 = c1.1 92 2 := by rw [hx.2.2.2.2.1 92 2 (by omega) (by omega) (by omega) (by omega) (by omega) (by omega), e2o _ _ (by omega)]
  refine ⟨c5, E, ⟨b3, ⟨by omega, by omega, fun i hi => ?_, fun i j g1 g2 => ?_⟩, fun k hk => ?_, fun a a1 a2 a3 => ?_⟩, m5, fun i hi => ?_, fun a => by unfold cV; rw [hval], hfr⟩
  · rw [c5105 i (by omega)]
    have q := j3 i (by omega)
    refine ⟨q.1, q.2.1, q.2.2.1, ?_⟩
    unfold vl_ at *
    rw [f101]
    exact q.2.2.2
  · rw [c5105 i (by omega), c5105 j (by omega)]
    exact j4 i j g1 (by omega)
  · rw [e92] at hk
    have q1 := h4.2.2.1 k (by rw [e924]; exact hk)
    have q2 := b6 k (by rw [e924]; exact hk)
    omega
  · rw [hval] at a3
    obtain ⟨i, i1, i2⟩ := h1.2.2.2 a a1 a2 a3
    exact ⟨i, by omega, by rw [c5105 i (by omega)]; exact i2⟩
  · rw [c5105 i (by omega), c5103, ← h105 i (by omega)]
    exact lv0 i (by omega)
end FOL

/-! STEPS: force and decide, class (90) and reference (1) -/
section STP
variable {n : Nat} {z : ix_Z} {c c' c3 r r' : ix_D2} {rn : Nat → Nat} {v x y y' w : Int32}
theorem bi_c90 (h : bi_90 c) (e : ∀ a k, ((92 ≤ a ∧ a ≤ 98) ∨ a = 101) → c'.1 a k = c.1 a k) (e9 : ∀ k, c'.2 99 k = c.2 99 k) (e10 : ∀ k, c'.2 100 k = c.2 100 k) : bi_90 c' := by
  obtain ⟨i1, i2, i3, i4, i5⟩ := h
  have f2 : c'.1 92 = c.1 92 := funext fun k => e _ _ (by omega)
  have f3 : c'.1 93 = c.1 93 := funext fun k => e _ _ (by omega)
  have f4 : c'.1 94 = c.1 94 := funext fun k => e _ _ (by omega)
  have f5 : c'.1 95 = c.1 95 := funext fun k => e _ _ (by omega)
  have f6 : c'.1 96 = c.1 96 := funext fun k => e _ _ (by omega)
  have f7 : c'.1 97 = c.1 97 := funext fun k => e _ _ (by omega)
  have f8 : c'.1 98 = c.1 98 := funext fun k => e _ _ (by omega)
  have f11 : c'.1 101 = c.1 101 := funext fun k => e _ _ (by omega)
  refine ⟨rw_cg i1 (by rw [f2]) f4 f3, oc_cg i2 (by rw [f2]) f4 f3 f5 f6 f7, ?_, ?_, ?_⟩
  · intro k hk
    rw [f2, f8, e9, e10]
    exact i3 k hk
  · unfold lo_ok lw_s wv_ vl_; rw [f2, f3, f4, f8, f11]; exact i4
  · unfold vl_ok; rw [f11]; exact i5
theorem rr_c90 (h : rr_90 c r rn) (e : ∀ a k, ((92 ≤ a ∧ a ≤ 94) ∨ a = 98 ∨ a = 101 ∨ (a = 91 ∧ (k = 15 ∨ k = 16))) → c'.1 a k = c.1 a k) : rr_90 c' r rn := by
  have f2 : c'.1 92 = c.1 92 := funext fun k => e _ _ (by omega)
  have f3 : c'.1 93 = c.1 93 := funext fun k => e _ _ (by omega)
  have f4 : c'.1 94 = c.1 94 := funext fun k => e _ _ (by omega)
  have f8 : c'.1 98 = c.1 98 := funext fun k => e _ _ (by omega)
  have f11 : c'.1 101 = c.1 101 := funext fun k => e _ _ (by omega)
  have f15 : c'.1 91 15 = c.1 91 15 := e _ _ (by omega)
  have f16 : c'.1 91 16 = c.1 91 16 := e _ _ (by omega)
  unfold rr_90 ra_90 rb_90 rv_90
  rw [f2, f3, f4, f8, f11, f15, f16]
  exact h
/-- all that isn't the trail, behind a step -/
theorem ro_c90 (h2 : wg_90 c r) (h3 : nb_90 c) (h4 : ty_90 c r) (h5 : aq_90 c r) (h6 : cq_90 c r)
    (hc : ∀ a k, a ≠ 98 → a ≠ 101 → a ≠ 102 → a ≠ 103 → a ≠ 104 → a ≠ 105 → (a ≠ 91 ∨ (k ≠ 12 ∧ k ≠ 13)) → (a ≠ 115 ∨ (k ≠ 1 ∧ k ≠ 2 ∧ k ≠ 3 ∧ k ≠ 9)) → c'.1 a k = c.1 a k)
    (hc2 : ∀ a k, a ≠ 99 → a ≠ 100 → a ≠ 113 → a ≠ 114 → c'.2 a k = c.2 a k)
    (hg : ∀ k : Nat, (k : Int) < (c.1 92 2).toInt → (1000000 ≤ (c'.1 98 k).toInt ↔ 1000000 ≤ (c.1 98 k).toInt))
    (hr : ∀ a k, (a < 167 ∨ 170 < a) → a ≠ 173 → a ≠ 174 → a ≠ 175 → a ≠ 187 → (a ≠ 125 ∨ (k ≠ 89 ∧ (k < 97 ∨ 100 < k))) → r'.1 a k = r.1 a k)
    (hr2 : ∀ a k, a ≠ 183 → a ≠ 184 → r'.2 a k = r.2 a k) (ht : ∀ k, tt_ k → c'.1 115 k = r'.1 187 (10 * 1 + k)) (h0 : 0 ≤ (c.1 92 2).toInt) : wg_90 c' r' ∧ (∀ p : Nat, (p : Int) < (c'.1 94 (ix_n (c'.1 92 2))).toInt → (ix_n (ix_abs (c'.1 93 p)) : Int) ≤ (c'.1 91 14).toInt) ∧ ty_90 c' r' ∧ aq_90 c' r' ∧ cq_90 c' r' := by
  have q : ∀ a k, a ≠ 98 → a ≠ 101 → a ≠ 102 → a ≠ 103 → a ≠ 104 → a ≠ 105 → (a ≠ 91 ∨ (k ≠ 12 ∧ k ≠ 13)) → (a ≠ 115 ∨ (k ≠ 1 ∧ k ≠ 2 ∧ k ≠ 3 ∧ k ≠ 9)) → c'.1 a k = c.1 a k := hc
  have k8 : c'.1 115 8 = c.1 115 8 := q _ _ (by omega) (by omega) (by omega) (by omega) (by omega) (by omega) (by omega) (by omega)
  have k4 : c'.1 115 4 = c.1 115 4 := q _ _ (by omega) (by omega) (by omega) (by omega) (by omega) (by omega) (by omega) (by omega)
  have k5 : c'.1 115 5 = c.1 115 5 := q _ _ (by omega) (by omega) (by omega) (by omega) (by omega) (by omega) (by omega) (by omega)
  have k7 : c'.1 115 7 = c.1 115 7 := q _ _ (by omega) (by omega) (by omega) (by omega) (by omega) (by omega) (by omega) (by omega)
  have b14 : c'.1 91 14 = c.1 91 14 := q _ _ (by omega) (by omega) (by omega) (by omega) (by omega) (by omega) (by omega) (by omega)
  have b15 : c'.1 91 15 = c.1 91 15 := q _ _ (by omega) (by omega) (by omega) (by omega) (by omega) (by omega) (by omega) (by omega)
  have b16 : c'.1 91 16 = c.1 91 16 := q _ _ (by omega) (by omega) (by omega) (by omega) (by omega) (by omega) (by omega) (by omega)
  have f2 : c'.1 92 = c.1 92 := funext fun k => q _ _ (by omega) (by omega) (by omega) (by omega) (by omega) (by omega) (by omega) (by omega)
  have f3 : c'.1 93 = c.1 93 := funext fun k => q _ _ (by omega) (by omega) (by omega) (by omega) (by omega) (by omega) (by omega) (by omega)
  have f4 : c'.1 94 = c.1 94 := funext fun k => q _ _ (by omega) (by omega) (by omega) (by omega) (by omega) (by omega) (by omega) (by omega)
  have f0 : c'.1 90 = c.1 90 := funext fun k => q _ _ (by omega) (by omega) (by omega) (by omega) (by omega) (by omega) (by omega) (by omega)
  have f20 : c'.1 110 = c.1 110 := funext fun k => q _ _ (by omega) (by omega) (by omega) (by omega) (by omega) (by omega) (by omega) (by omega)
  have f21 : c'.1 111 = c.1 111 := funext fun k => q _ _ (by omega) (by omega) (by omega) (by omega) (by omega) (by omega) (by omega) (by omega)
  have f26 : c'.1 116 = c.1 116 := funext fun k => q _ _ (by omega) (by omega) (by omega) (by omega) (by omega) (by omega) (by omega) (by omega)
  have l19 : c'.2 109 = c.2 109 := funext fun k => hc2 _ _ (by omega) (by omega) (by omega) (by omega)
  have l22 : c'.2 112 = c.2 112 := funext fun k => hc2 _ _ (by omega) (by omega) (by omega) (by omega)
  have l0 : c'.2 90 3 = c.2 90 3 := hc2 _ _ (by omega) (by omega) (by omega) (by omega)
  have o : ∀ a, (a < 167 ∨ 170 < a) → a ≠ 173 → a ≠ 174 → a ≠ 175 → a ≠ 187 → a ≠ 125 → r'.1 a = r.1 a := fun a g1 g2 g3 g4 g5 g6 => funext fun k => hr a k g1 g2 g3 g4 g5 (Or.inl g6)
  have m161 := o 161 (by omega) (by omega) (by omega) (by omega) (by omega) (by omega)
  have m164 := o 164 (by omega) (by omega) (by omega) (by omega) (by omega) (by omega)
  have m165 := o 165 (by omega) (by omega) (by omega) (by omega) (by omega) (by omega)
  have m176 := o 176 (by omega) (by omega) (by omega) (by omega) (by omega) (by omega)
  have m178 := o 178 (by omega) (by omega) (by omega) (by omega) (by omega) (by omega)
  have m179 := o 179 (by omega) (by omega) (by omega) (by omega) (by omega) (by omega)
  have m181 := o 181 (by omega) (by omega) (by omega) (by omega) (by omega) (by omega)
  have m185 := o 185 (by omega) (by omega) (by omega) (by omega) (by omega) (by omega)
  have m186 := o 186 (by omega) (by omega) (by omega) (by omega) (by omega) (by omega)
  have m188 := o 188 (by omega) (by omega) (by omega) (by omega) (by omega) (by omega)
  have a30 : r'.1 125 30 = r.1 125 30 := hr _ _ (by omega) (by omega) (by omega) (by omega) (by omega) (by omega)
  have a31 : r'.1 125 31 = r.1 125 31 := hr _ _ (by omega) (by omega) (by omega) (by omega) (by omega) (by omega)
  have a91 : r'.1 125 91 = r.1 125 91 := hr _ _ (by omega) (by omega) (by omega) (by omega) (by omega) (by omega)
  have u171 : r'.2 171 = r.2 171 := funext fun k => hr2 _ _ (by omega) (by omega)
  have u172 : r'.2 172 = r.2 172 := funext fun k => hr2 _ _ (by omega) (by omega)
  have u182 : r'.2 182 = r.2 182 := funext fun k => hr2 _ _ (by omega) (by omega)
  refine ⟨?_, ?_, ?_, ?_, ?_⟩
  · unfold wg_90; rw [b14, l19, l0, m161, u171, u172]; exact h2
  · rw [f2, f3, f4, b14]; exact h3.1
  · obtain ⟨g1, g2, g3, g4, g5, g6⟩ := h4
    have es : sm_ (fun k => if (c'.1 98 k).toInt < 1000000 then 1 else 0) (ix_n (c.1 91 16)) (ix_n (c.1 92 2)) = sm_ (fun k => if (c.1 98 k).toInt < 1000000 then 1 else 0) (ix_n (c.1 91 16)) (ix_n (c.1 92 2)) := sm_c (fun p p1 p2 => by
      have n2 := ni_c h0
      have g := hg p (by omega)
      by_cases e : (c.1 98 p).toInt < 1000000
      · rw [if_pos e, if_pos (by omega)]
      · rw [if_neg e, if_neg (by omega)])
    unfold ty_90
    rw [f2, f4, f0, f21, b16, k4, k5, k7, k8, m176, m178, m179, m181, m185, m186, a30, a31, es]
    exact ⟨ht, g2, g3, g4, g5, g6⟩
  · unfold aq_90; rw [f0, f20, b14, m164, m165]; exact h5
  · unfold cq_90; rw [f26, a91, m188]; exact h6
/-- no quarrel: every row that is there has an item that isn't false -/
theorem nq_90 (hb : bi_90 c) (h : ∀ i : Nat, (i : Int) < (c.1 92 2).toInt → (c.1 98 i).toInt ≠ 0) {k : Nat} (hk : (k : Int) < (c.1 92 2).toInt) (hg : (c.1 98 k).toInt < 1000000) : ∃ p, in_90 c k p ∧ vl_ c.1 101 (c.1 93 p) ≠ -1 := by
  have l1 := hb.2.2.2.1 k hk
  have l2 := lw_b hb.1 (by omega) hb.2.2.2.2 hk
  have l3 := h k hk
  have rb := rw_b hb.1 hk
  have n1 := ni_c rb.1
  have n2 := ni_c (x := c.1 94 (k + 1)) (by omega)
  apply Classical.byContradiction
  intro hn
  have : lw_s c.1 93 94 101 k = 0 := by
    unfold lw_s
    have e : sm_ (fun p => wv_ c.1 101 (c.1 93 p)) (ix_n (c.1 94 k)) (ix_n (c.1 94 (k + 1))) = sm_ (fun _ => 0) (ix_n (c.1 94 k)) (ix_n (c.1 94 (k + 1))) := sm_c (fun p p1 p2 => by
      have : vl_ c.1 101 (c.1 93 p) = -1 := Classical.byContradiction (fun g => hn ⟨p, ⟨by omega, by omega⟩, g⟩)
      show wv_ c.1 101 (c.1 93 p) = 0
      unfold wv_
      rw [this]
      rfl)
    rw [e]
    exact (sm_0 (f := fun _ => (0 : Int)) (fun _ => by omega)).2.mpr (fun _ _ _ => rfl)
  omega
/-- the unit's items -/
theorem un_90 (hb : bi_90 c) {k p0 : Nat} (hk : (k : Int) < (c.1 92 2).toInt) (h1 : (c.1 98 k).toInt = 1) (hp : in_90 c k p0) (hv : vl_ c.1 101 (c.1 93 p0) = 0) : ∀ p, in_90 c k p → p = p0 ∨ vl_ c.1 101 (c.1 93 p) = -1 := by
  have l1 := hb.2.2.2.1 k hk
  have l2 := lw_b hb.1 (by omega) hb.2.2.2.2 hk
  have rb := rw_b hb.1 hk
  have n1 := ni_c rb.1
  have n2 := ni_c (x := c.1 94 (k + 1)) (by omega)
  intro p hp1
  obtain ⟨a1, a2⟩ := hp
  obtain ⟨b1, b2⟩ := hp1
  let g : Nat → Int := fun p => if (p : Int) < (c.1 94 (k + 1)).toInt then wv_ c.1 101 (c.1 93 p) else 0
  have hg0 : ∀ p, 0 ≤ g p := by
    intro p
    show 0 ≤ (if (p : Int) < (c.1 94 (k + 1)).toInt then wv_ c.1 101 (c.1 93 p) else 0)
    by_cases e : (p : Int) < (c.1 94 (k + 1)).toInt
    · rw [if_pos e]
      have := rw_i hb.1 hk e
      exact (wv_b hb.2.2.2.2 (by omega) (by omega)).1
    · rw [if_neg e]; exact Int.le_refl 0
  have e : sm_ g (ix_n (c.1 94 k)) (ix_n (c.1 94 (k + 1))) = 1 := by
    have : lw_s c.1 93 94 101 k = 1 := by omega
    rw [← this]
    unfold lw_s
    refine sm_c (fun p p1 p2 => ?_)
    show (if (p : Int) < (c.1 94 (k + 1)).toInt then wv_ c.1 101 (c.1 93 p) else 0) = _
    rw [if_pos (by omega)]
  obtain ⟨p1, q1, q2, q3, q4⟩ := sm_1 hg0 e
  have gp : ∀ p : Nat, (p : Int) < (c.1 94 (k + 1)).toInt → g p = wv_ c.1 101 (c.1 93 p) := fun p hp => if_pos hp
  have e0 : p1 = p0 := by
    apply Classical.byContradiction
    intro hn
    have := q4 p0 (by omega) (by omega) (fun e => hn e.symm)
    rw [gp p0 a2] at this
    unfold wv_ at this
    rw [hv] at this
    exact absurd this (by decide)
  by_cases ep : p = p0
  · exact Or.inl ep
  · right
    have := q4 p (by omega) (by omega) (by omega)
    rw [gp p b2] at this
    have hi := rw_i hb.1 hk b2
    have hv2 := vl_b hb.2.2.2.2 (v := c.1 93 p) (by omega) (by omega)
    unfold wv_ at this
    rcases hv2 with g | g | g
    · rw [g] at this; exact absurd this (by decide)
    · rw [g] at this; exact absurd this (by decide)
    · exact g
/-- a quarrel behind a new value -/
theorem as_ql90 (hnq : ∀ k : Nat, (k : Int) < (c.1 92 2).toInt → (c.1 98 k).toInt < 1000000 → ∃ p, in_90 c k p ∧ vl_ c.1 101 (c.1 93 p) ≠ -1) (h3 : ∀ a k, a ≠ 98 → c3.1 a k = (am_90 v y c).1 a k) (h4 : ∀ k : Nat, (k : Int) < (c.1 92 2).toInt → (1000000 ≤ (c3.1 98 k).toInt ↔ 1000000 ≤ (c.1 98 k).toInt)) : ql_90 c3 := by
  intro _ k hk hg hf
  have o : ∀ a k, a ≠ 98 → a ≠ 101 → a ≠ 103 → a ≠ 104 → a ≠ 105 → (a ≠ 91 ∨ k ≠ 12) → c3.1 a k = c.1 a k := fun a k g8 g1 g2 g3 g4 g5 => by rw [h3 a k g8]; exact am_o90 g1 g2 g3 g4 g5
  have f2 : c3.1 92 = c.1 92 := funext fun k => o _ _ (by omega) (by omega) (by omega) (by omega) (by omega) (by omega)
  have f3 : c3.1 93 = c.1 93 := funext fun k => o _ _ (by omega) (by omega) (by omega) (by omega) (by omega) (by omega)
  have f4 : c3.1 94 = c.1 94 := funext fun k => o _ _ (by omega) (by omega) (by omega) (by omega) (by omega) (by omega)
  have e13 : c3.1 91 13 = c.1 91 13 := o _ _ (by omega) (by omega) (by omega) (by omega) (by omega) (by omega)
  rw [f2] at hk
  obtain ⟨p, hp, hv⟩ := hnq k hk (by have := h4 k hk; omega)
  have hp3 : in_90 c3 k p := by unfold in_90; rw [f4]; exact hp
  refine ⟨p, hp3, ?_⟩
  have hv3 := hf p hp3
  rw [f3] at hv3 ⊢
  have e11 : c3.1 101 (ix_n (ix_abs (c.1 93 p))) = if ix_n (ix_abs (c.1 93 p)) = ix_n (ix_abs v) then (if 0 < v.toInt then 1 else -1) else c.1 101 (ix_n (ix_abs (c.1 93 p))) := by rw [h3 _ _ (by omega)]; unfold am_90; simp only [up_1, Nat.reduceEqDiff, false_and, and_false, true_and, and_true, or_true, true_or, or_false, false_or, not_true_eq_false, not_false_eq_true, ↓reduceIte, eq_self, ne_eq]
  by_cases e : ix_n (ix_abs (c.1 93 p)) = ix_n (ix_abs v)
  · rw [e13, e, h3 _ _ (by omega)]
    unfold am_90
    simp only [up_1, Nat.reduceEqDiff, false_and, and_false, true_and, and_true, or_true, true_or, or_false, false_or, not_true_eq_false, not_false_eq_true, ↓reduceIte, eq_self, ne_eq]
  · rw [if_neg e] at e11
    rw [vl_a, e11, ← vl_a] at hv3
    exact absurd hv3 hv
end STP

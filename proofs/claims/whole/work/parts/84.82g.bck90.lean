/-! going back on both sides (90, 1) -/
section BKR
variable {n : Nat} {z : ix_Z} {c r : ix_D2} {rn : Nat → Nat} {v x y w : Int32}
def bk_90 (c r : ix_D2) (rn : Nat → Nat) (x : Int32) (c' r' : ix_D2) : Prop := bi_90 c' ∧ rr_90 c' r' rn ∧ tk_90 c' ∧ rt_90 c' r' rn ∧ la_90 c' ∧ c'.1 91 13 = x ∧ (c'.1 91 12).toInt ≤ (c.1 91 12).toInt ∧ x.toInt ≤ (c'.1 91 12).toInt ∧ (∀ a k, a ≠ 98 → a ≠ 101 → a ≠ 102 → (a ≠ 91 ∨ (k ≠ 12 ∧ k ≠ 13)) → c'.1 a k = c.1 a k) ∧ (∀ a w, a ≠ 99 → a ≠ 100 → c'.2 a w = c.2 a w) ∧ (∀ a k, ((a ≠ 167 ∧ a ≠ 170) ∨ k < 301 * 1 ∨ 301 * 1 + 301 ≤ k) → (a ≠ 174 ∨ k ≠ 1) → (a ≠ 175 ∨ k ≠ 1) → r'.1 a k = r.1 a k) ∧ r'.2 = r.2 ∧ (∀ i : Nat, (i : Int) < (c.1 91 12).toInt → (c'.1 91 12).toInt ≤ (i : Int) → x.toInt < le_90 c i ∧ c'.1 101 (ix_n (ix_abs (c.1 105 i))) = 0) ∧ (∀ i : Nat, (i : Int) < (c'.1 91 12).toInt → le_90 c i ≤ x.toInt ∧ c'.1 101 (ix_n (ix_abs (c.1 105 i))) = c.1 101 (ix_n (ix_abs (c.1 105 i)))) ∧ (∀ k : Nat, (k : Int) < (c.1 92 2).toInt → (1000000 ≤ (c'.1 98 k).toInt ↔ 1000000 ≤ (c.1 98 k).toInt))
theorem e_bk90 (hz : ly_z z) (hn : 20000 ≤ n) (hb : bi_90 c) (hrr : rr_90 c r rn) (htk : tk_90 c) (hrt : rt_90 c r rn) (hla : la_90 c) (hx0 : 0 ≤ x.toInt) (hx : x.toInt = 0 ∨ ∃ i : Nat, (i : Int) < (c.1 91 12).toInt ∧ le_90 c i = x.toInt) : wp_t (f_X1_backTo n z 91 x c) (fun c' => wp_t (f_X12_goBack n z 125 1 x r) (fun r' => bk_90 c r rn x c' r')) := by
  have htk0 := htk
  obtain ⟨t1, t2, t3, t4⟩ := htk
  obtain ⟨t, et⟩ : ∃ t : Nat, (t : Int) = (c.1 91 12).toInt := ⟨ix_n (c.1 91 12), ni_c t1⟩
  refine wp_m (e_bt90 (n := n) (d := c) (x := x) hz hn hb htk0 (t := t) et) (fun c' h => ?_)
  obtain ⟨m, m1, m2, m3, m4, m5, b1, b2, b3, b4, b5, b6⟩ := h
  have q3 : ∀ i : Nat, i < t → r.1 173 (300 * 1 + i) = c.1 105 i := fun i hi => (hrt.2.2.1 i (by omega)).1
  have htq : tq_q1 r := by
    unfold tq_q1
    rw [hrt.1]
    refine ⟨t1, t2, fun i hi => ?_, fun i j hij hj => ?_⟩
    · rw [q3 i (by omega)]
      have := t3 i hi
      exact ⟨this.1, this.2.1, this.2.2.1⟩
    · rw [q3 i (by omega), q3 j (by omega)]
      exact t4 i j hij hj
  refine wp_m (e_gbq1 (n := n) (r := r) (x := x) hz hn htq (t := t) (by rw [hrt.1]; exact et)) (fun r' h => ?_)
  obtain ⟨m', g1, g2, g3, g4, g5, k1, k2, k3, k4⟩ := h
  have lr : ∀ i : Nat, i < t → (r.1 168 (301 * 1 + ix_n (ix_abs (r.1 173 (300 * 1 + i))))).toInt = le_90 c i := fun i hi => by
    rw [q3 i hi, (hrt.2.2.1 i (by omega)).2.1]; rfl
  have em : m' = m := by
    apply Classical.byContradiction
    intro hne
    rcases Nat.lt_or_gt_of_ne hne with q | q
    · rcases m2 with e | e
      · omega
      · have := g3 (m - 1) (by omega) (by omega)
        rw [lr _ (by omega)] at this
        unfold le_90 at this
        omega
    · rcases g2 with e | e
      · omega
      · rw [lr _ (by omega)] at e
        have := m3 (m' - 1) (by omega) (by omega)
        unfold le_90 at e
        omega
  subst em
  have nb : ∀ i : Nat, i < t → 1 ≤ ix_n (ix_abs (c.1 105 i)) ∧ ix_n (ix_abs (c.1 105 i)) ≤ 300 := fun i hi => by
    obtain ⟨a0, a1, a2, _⟩ := t3 i (by omega)
    have := na_b a0 a1 a2
    omega
  have keep : ∀ i : Nat, i < m' → ∀ j, m' ≤ j → j < t → ix_n (ix_abs (c.1 105 j)) ≠ ix_n (ix_abs (c.1 105 i)) := fun i hi j j1 j2 e => t4 i j (by omega) (by omega) e.symm
  have v11 : ∀ i : Nat, i < m' → c'.1 101 (ix_n (ix_abs (c.1 105 i))) = c.1 101 (ix_n (ix_abs (c.1 105 i))) := fun i hi => (b2 _ (keep i hi)).1
  have f1 : ∀ k, k ≠ 12 → k ≠ 13 → c'.1 91 k = c.1 91 k := fun k p1 p2 => b4 _ _ (by omega) (by omega) (by omega) (by omega)
  have f2 : c'.1 92 = c.1 92 := funext fun k => b4 _ _ (by omega) (by omega) (by omega) (by omega)
  have f3 : c'.1 93 = c.1 93 := funext fun k => b4 _ _ (by omega) (by omega) (by omega) (by omega)
  have f4 : c'.1 94 = c.1 94 := funext fun k => b4 _ _ (by omega) (by omega) (by omega) (by omega)
  have f13 : c'.1 103 = c.1 103 := funext fun k => b4 _ _ (by omega) (by omega) (by omega) (by omega)
  have f14 : c'.1 104 = c.1 104 := funext fun k => b4 _ _ (by omega) (by omega) (by omega) (by omega)
  have f15 : c'.1 105 = c.1 105 := funext fun k => b4 _ _ (by omega) (by omega) (by omega) (by omega)
  have hle : ∀ i, le_90 c' i = le_90 c i := fun i => by unfold le_90; rw [f13, f15]
  have hlx : ∀ i : Nat, i < m' → le_90 c i ≤ x.toInt := fun i hi => by
    rcases m2 with e | e
    · omega
    · by_cases ei : i = m' - 1
      · rw [ei]; exact e
      · have := hla.2.2.1 i (m' - 1) (by omega) (by omega)
        unfold le_90 at this ⊢
        omega
  have ro : ∀ a k, a ≠ 167 → a ≠ 170 → (a ≠ 174 ∨ k ≠ 1) → (a ≠ 175 ∨ k ≠ 1) → r'.1 a k = r.1 a k := k3
  have ra : ∀ a, a ≠ 167 → a ≠ 170 → a ≠ 174 → a ≠ 175 → r'.1 a = r.1 a := fun a p1 p2 p3 p4 => funext fun k => k3 a k p1 p2 (Or.inl p3) (Or.inl p4)
  refine ⟨b3, ⟨?_, ?_, fun a ha => ?_⟩, ⟨by omega, by omega, fun i hi => ?_, fun i j hij hj => ?_⟩, ⟨?_, ?_, fun i hi => ?_, fun a ha => ?_⟩, ⟨by rw [m5]; exact hx0, fun i hi => ?_, fun i j hij hj => ?_, fun i hi hn' => ?_, fun i k hi hk1 hk2 => ?_, fun a a1 a2 ha => ?_⟩, m5, by omega, ?_, b4, b5, fun a k p1 p2 p3 => ?_, k4, fun i i1 i2 => ⟨?_, (b1 i _ (by omega) (by omega) rfl).1⟩, fun i hi => ⟨hlx i (by omega), v11 i (by omega)⟩, b6⟩
  · have := hrr.1
    unfold ra_90 vr_ rz_ ri_ at this ⊢
    rw [f2, f3, f4, ra 143 (by omega) (by omega) (by omega) (by omega), ra 144 (by omega) (by omega) (by omega) (by omega), ra 147 (by omega) (by omega) (by omega) (by omega), ra 148 (by omega) (by omega) (by omega) (by omega), ra 176 (by omega) (by omega) (by omega) (by omega), ra 177 (by omega) (by omega) (by omega) (by omega), ra 125 (by omega) (by omega) (by omega) (by omega)]
    exact this
  · obtain ⟨h1, h2, h3, h4, h5, h6, h7, h8, h9, h10, h11, h12, h13, h14, h15⟩ := hrr.2.1
    unfold rb_90
    rw [f2, f1 15 (by omega) (by omega), f1 16 (by omega) (by omega), ra 162 (by omega) (by omega) (by omega) (by omega), ra 163 (by omega) (by omega) (by omega) (by omega), ra 179 (by omega) (by omega) (by omega) (by omega), ra 180 (by omega) (by omega) (by omega) (by omega), ra 125 (by omega) (by omega) (by omega) (by omega)]
    refine ⟨h1, h2, h3, h4, h5, h6, h7, h8, h9, h10, h11, h12, h13, fun k p1 p2 => ⟨(h14 k p1 p2).1, ?_⟩, fun k p1 => ?_⟩
    · rw [(h14 k p1 p2).2]
      exact (b6 k p2).symm
    · have := h15 k p1
      have := b6 k (by omega)
      omega
  · by_cases hp : ∃ i, m' ≤ i ∧ i < t ∧ ix_n (ix_abs (c.1 105 i)) = a
    · obtain ⟨i, i1, i2, i3⟩ := hp
      have e1 := (b1 i a i1 i2 i3).1
      have e2 := (k1 i a i1 i2 (by rw [q3 i i2]; exact i3)).1
      rw [e1, e2]; rfl
    · have e1 := (b2 a (fun i i1 i2 i3 => hp ⟨i, i1, i2, i3⟩)).1
      have e2 := (k2 (301 * 1 + a) (fun i i1 i2 i3 => hp ⟨i, i1, i2, by rw [q3 i i2] at i3; omega⟩)).1
      rw [e1, e2]
      exact hrr.2.2 a ha
  · rw [f15]
    obtain ⟨a0, a1, a2, a3⟩ := t3 i (by omega)
    refine ⟨a0, a1, a2, ?_⟩
    rw [vl_a, v11 i (by omega), ← vl_a]
    exact a3
  · rw [f15]
    exact t4 i j hij (by omega)
  · refine Int32.toInt_inj.mp ?_
    rw [g4, m4]
  · rw [g5, m5]
  · rw [f15, f13, f14, f2]
    have q := hrt.2.2.1 i (by omega)
    rw [ra 173 (by omega) (by omega) (by omega) (by omega), ra 168 (by omega) (by omega) (by omega) (by omega), ra 169 (by omega) (by omega) (by omega) (by omega)]
    exact q
  · by_cases hp : ∃ i, m' ≤ i ∧ i < t ∧ ix_n (ix_abs (c.1 105 i)) = a
    · obtain ⟨i, i1, i2, i3⟩ := hp
      have e1 := (b1 i a i1 i2 i3).2
      have e2 := (k1 i a i1 i2 (by rw [q3 i i2]; exact i3)).2
      rw [e1, e2]
      refine Int32.toInt_inj.mp ?_
      rw [hrr.2.2 a ha]
      obtain ⟨a0, a1, a2, a3⟩ := t3 i (by omega)
      rw [vl_a, i3] at a3
      unfold sv_
      by_cases cp : 0 < (c.1 105 i).toInt
      · rw [if_pos cp] at a3 ⊢
        rw [if_neg (by omega), if_pos (by omega)]; rfl
      · rw [if_neg cp] at a3 ⊢
        rw [if_neg (by omega), if_neg (by omega)]; rfl
    · have e1 := (b2 a (fun i i1 i2 i3 => hp ⟨i, i1, i2, i3⟩)).2
      have e2 := (k2 (301 * 1 + a) (fun i i1 i2 i3 => hp ⟨i, i1, i2, by rw [q3 i i2] at i3; omega⟩)).2
      rw [e1, e2]
      exact hrt.2.2.2 a ha
  · rw [hle, m5]
    have := hla.2.1 i (by omega)
    exact ⟨this.1, hlx i (by omega), this.2.2⟩
  · rw [hle, hle]
    exact hla.2.2.1 i j hij (by omega)
  · rw [f14, f15] at hn'
    simp only [hle]
    exact hla.2.2.2.1 i (by omega) hn'
  · rw [f14, f15] at hk1
    rw [f2] at hk2
    unfold in_90
    rw [f3, f4, f15]
    exact hla.2.2.2.2.1 i k (by omega) hk1 hk2
  · rw [f15]
    have hp : ¬ ∃ i, m' ≤ i ∧ i < t ∧ ix_n (ix_abs (c.1 105 i)) = a := by
      rintro ⟨i, i1, i2, i3⟩
      rw [(b1 i a i1 i2 i3).1] at ha
      exact ha rfl
    rw [(b2 a (fun i i1 i2 i3 => hp ⟨i, i1, i2, i3⟩)).1] at ha
    obtain ⟨i, i1, i2⟩ := hla.2.2.2.2.2 a a1 a2 ha
    refine ⟨i, ?_, i2⟩
    apply Classical.byContradiction
    intro hge
    exact hp ⟨i, by omega, by omega, i2⟩
  · rcases hx with e | ⟨i, i1, i2⟩
    · omega
    · have : i < m' := by
        apply Classical.byContradiction
        intro hge
        have := m3 i (by omega) (by omega)
        unfold le_90 at i2
        omega
      have := (hla.2.1 i i1).2.2
      omega
  · by_cases ea : a = 167 ∨ a = 170
    · have hk : ∀ i, m' ≤ i → i < t → 301 * 1 + ix_n (ix_abs (r.1 173 (300 * 1 + i))) ≠ k := fun i i1 i2 e => by
        rw [q3 i i2] at e
        have := nb i i2
        omega
      rcases ea with e | e
      · subst e; exact (k2 k hk).1
      · subst e; exact (k2 k hk).2
    · exact k3 a k (by omega) (by omega) p2 p3
  · exact m3 i (by omega) (by omega)
end BKR

/-! sources: what a step adds (90, 1) -/
section SPR
variable {n : Nat} {z : ix_Z} {c r r1 r2 : ix_D2} {rn : Nat → Nat} {v x y w : Int32} {k p0 : Nat} {P : Nat → Int64 → Prop}
theorem bm_eq1 {A t : Nat} (hA : ix_n (ix_abs v) = A) (ht : (r.1 174 1).toInt = t) (h3 : t < 300) : (∀ a k, a ≠ 167 → a ≠ 168 → a ≠ 169 → a ≠ 173 → a ≠ 174 → (bm_q1 v y r).1 a k = r.1 a k) ∧ (∀ m, (bm_q1 v y r).1 168 m = if m = 301 * 1 + A then r.1 175 1 else r.1 168 m) ∧ (∀ m, (bm_q1 v y r).1 173 m = if m = 300 * 1 + t then v else r.1 173 m) ∧ ((bm_q1 v y r).1 174 1).toInt = (t : Int) + 1 := by
  have nt : ix_n (r.1 174 1) = t := ni_k ht
  refine ⟨fun a k h1 h2 h3 h4 h5 => ?_, fun m => ?_, fun m => ?_, ?_⟩
  · unfold bm_q1; rw [up_1, if_neg (fun q => h5 q.1), up_1, if_neg (fun q => h4 q.1), up_1, if_neg (fun q => h3 q.1), up_1, if_neg (fun q => h2 q.1), up_1, if_neg (fun q => h1 q.1)]
  · rw [← hA]; unfold bm_q1; simp only [up_1, Nat.reduceEqDiff, false_and, and_false, true_and, and_true, or_true, true_or, or_false, false_or, not_true_eq_false, not_false_eq_true, ↓reduceIte, eq_self, ne_eq]
  · rw [← nt]; unfold bm_q1; simp only [up_1, Nat.reduceEqDiff, false_and, and_false, true_and, and_true, or_true, true_or, or_false, false_or, not_true_eq_false, not_false_eq_true, ↓reduceIte, eq_self, ne_eq]
  · have e : (bm_q1 v y r).1 174 1 = r.1 174 1 + 1 := by unfold bm_q1; simp only [up_1, Nat.reduceEqDiff, false_and, and_false, true_and, and_true, or_true, true_or, or_false, false_or, not_true_eq_false, not_false_eq_true, ↓reduceIte, eq_self, ne_eq]
    rw [e, td_p (by omega), ht]
theorem sQ_bmq1 (h : sQ_q1 P r) (hl : (r.1 175 1).toInt ≠ 0) (t0 : 0 ≤ (r.1 174 1).toInt) (t1 : (r.1 174 1).toInt < 300) : sQ_q1 P (bm_q1 v y r) := by
  obtain ⟨t, ht⟩ : ∃ t : Nat, (r.1 174 1).toInt = t := ⟨ix_n (r.1 174 1), (ni_c t0).symm⟩
  obtain ⟨o, p168, p173, p174⟩ := bm_eq1 (v := v) (y := y) (r := r) rfl ht (by omega)
  refine ⟨fun m w hm hw => h.1 m w (by rw [← o 162 _ (by omega) (by omega) (by omega) (by omega) (by omega)]; exact hm) hw, fun k w hk hw => h.2.1 k w (by rw [← o 178 _ (by omega) (by omega) (by omega) (by omega) (by omega)]; exact hk) hw, fun i w hi h0 hw => ?_⟩
  rw [p168] at h0
  by_cases e4 : 301 * 1 + ix_n (ix_abs ((bm_q1 v y r).1 173 (300 * 1 + i))) = 301 * 1 + ix_n (ix_abs v)
  · rw [if_pos e4] at h0; exact absurd h0 hl
  · rw [if_neg e4] at h0
    by_cases e : i = t
    · rw [e, p173, if_pos rfl] at e4; exact absurd rfl e4
    · have e3 : (bm_q1 v y r).1 173 (300 * 1 + i) = r.1 173 (300 * 1 + i) := by rw [p173, if_neg (by omega)]
      rw [e3] at h0 ⊢
      exact h.2.2 i w (by omega) h0 hw
set_option maxHeartbeats 4000000 in
theorem sQ_fr90 (hz : ly_z z) (hn : 20000 ≤ n) (h : R_90 c r rn) (hP : cl_ P) (hQ : sQ_q1 P r) (hk : (k : Int) < (c.1 92 2).toInt) (hp : in_90 c k p0) (hpv : vl_ c.1 101 (c.1 93 p0) = 0) (hr1 : r1 = ix_di (ix_di (ix_di r 125 89 (r.1 125 89 - 1)) 187 (10 * 1 + 1) (r.1 187 (10 * 1 + 1) + 1)) 187 (10 * 1 + 2) (r.1 187 (10 * 1 + 2) + 1)) (he : f_X12_become n z 125 1 (c.1 93 p0) (nI (rn k)) r1 = some r2) : sQ_q1 P r2 := by
  have o1 : ∀ a i, a ≠ 187 → (a ≠ 125 ∨ i ≠ 89) → r1.1 a i = r.1 a i := fun a i d1 d2 => by rw [hr1, up_1, if_neg (fun q => d1 q.1), up_1, if_neg (fun q => d1 q.1), up_1, if_neg (by omega)]
  have l1 : r1.2 = r.2 := by rw [hr1]; rfl
  have hQ1 : sQ_q1 P r1 := sQ_cq1 hQ (fun a i d => o1 a i (by omega) (by omega)) (fun a i _ => by rw [l1])
  have hit := rw_i h.1.1 hk hp.2
  obtain ⟨v, hv⟩ : ∃ v, v = c.1 93 p0 := ⟨_, rfl⟩
  rw [← hv] at hit hpv he
  obtain ⟨hne, hroom⟩ := tk_room90 h.2.2.1 hit.1 hit.2.1 hit.2.2 hpv
  have e174 : r1.1 174 1 = c.1 91 12 := by rw [o1 _ _ (by omega) (by omega)]; exact h.2.2.2.1.1
  have t0 : 0 ≤ (r1.1 174 1).toInt := by rw [e174]; exact h.2.2.1.1
  have t1 : (r1.1 174 1).toInt < 300 := by rw [e174]; exact hroom
  by_cases hl : (r1.1 175 1).toInt = 0
  · obtain ⟨ra1, ra2, ra3⟩ := h.2.1.1 k hk
    have rb := rw_b h.1.1 hk
    have nS := ni_c rb.1
    obtain ⟨Y, hY⟩ : ∃ Y : Nat, (Y : Int) = (rz_ r.1 1 (rn k)).toInt := ⟨((c.1 94 (k + 1)).toInt - (c.1 94 k).toInt).toNat, by omega⟩
    have rnk : rn k < 500 ∨ (1000 ≤ rn k ∧ rn k < 2800) := by
      rcases ra1 with q | q | q
      · exact Or.inl q.1
      · exact Or.inr ⟨q.1, by omega⟩
      · exact Or.inr ⟨by omega, q.2.1⟩
    obtain ⟨u1, u2, u3⟩ := vr_c (f := r.1) (g := r1.1) (q := 1) (row := rn k) (fun a i p => o1 a i (by omega) (by omega))
    have hri : ∀ j, j < Y → (ri_ r.1 1 (rn k) j).toInt ≠ 0 ∧ -300 ≤ (ri_ r.1 1 (rn k) j).toInt ∧ (ri_ r.1 1 (rn k) j).toInt ≤ 300 := fun j hj => by
      rw [ra3 j (by omega)]
      exact rw_i h.1.1 hk (by omega)
    obtain ⟨r2', he', b1, b2, b3⟩ := e_b4q1 (n := n) (r := r1) (v := v) hz hn hit.1 hit.2.1 hit.2.2 t0 t1 (row := rn k) (Y := Y) hl rnk (u1 ra1) (by rw [u2]; exact hY) (fun j hj => by rw [u3]; exact (hri j hj).2)
    have e2 : r2' = r2 := Option.some.inj (he'.symm.trans he)
    subst e2
    obtain ⟨t, ht⟩ : ∃ t : Nat, (r1.1 174 1).toInt = t := ⟨ix_n (r1.1 174 1), (ni_c t0).symm⟩
    obtain ⟨o, p168, p173, p174⟩ := bm_eq1 (v := v) (y := nI (rn k)) (r := r1) rfl ht (by omega)
    rw [← b1] at p174
    have hnew : ∀ w, w < 8 → P w (r2'.2 183 (8 * (301 * 1 + ix_n (ix_abs v)) + w)) := fun w hw => by
      rw [b3 w hw]
      refine gl_P hP ?_ _ (fun j hj hc => ?_)
      · exact gs_P90 (r0 := r1) (c0 := c) hP hQ1 (rr_f90 h.2.1 (fun a i hs => o1 a i (by unfold su_rr at hs; omega) (by unfold su_rr at hs; omega))) (by rw [o1 _ _ (by omega) (by omega)]; exact h.2.2.2.2.2.2.2.2.1.2.2.1) h.2.2.2.2.2.2.2.2.1.2.2.2.1 hk hw
      · try dsimp only at hc ⊢
        rw [u3] at hc ⊢
        have q := hri j hj
        obtain ⟨d1, d2, d3, d4⟩ := na_b q.1 q.2.1 q.2.2
        rw [o1 _ _ (by omega) (by omega), o1 _ _ (by omega) (by omega)] at hc
        rw [l1]
        exact nm_P90 hQ h.2.1.2.2 h.2.2.2.2.1.1 h.2.2.2.1 d1 d2 hc.2.1 hc.2.2 hw
    refine ⟨fun m w hm hw => hQ1.1 m w (by rw [← o 162 _ (by omega) (by omega) (by omega) (by omega) (by omega), ← b1]; exact hm) hw, fun k' w hk' hw => ?_, fun i w hi h0 hw => ?_⟩
    · rw [b2 _ _ (by omega) (by omega)]
      exact hQ1.2.1 k' w (by rw [← o 178 _ (by omega) (by omega) (by omega) (by omega) (by omega), ← b1]; exact hk') hw
    · rw [b1, p168] at h0
      rw [b1]
      by_cases e4 : ix_n (ix_abs ((bm_q1 v (nI (rn k)) r1).1 173 (300 * 1 + i))) = ix_n (ix_abs v)
      · rw [e4]; exact hnew w hw
      · rw [if_neg (by omega)] at h0
        by_cases e : i = t
        · rw [e, p173, if_pos rfl] at e4; exact absurd rfl e4
        · have e3 : (bm_q1 v (nI (rn k)) r1).1 173 (300 * 1 + i) = r1.1 173 (300 * 1 + i) := by rw [p173, if_neg (by omega)]
          rw [e3] at h0 e4 ⊢
          have q := hQ1.2.2 i w (by omega) h0 hw
          rw [b2 _ _ (by omega) (by omega)]
          exact q
  · have e2 := e_bcq1 (n := n) (r := r1) (v := v) (y := nI (rn k)) hz hit.1 hit.2.1 hit.2.2 t0 t1 (Or.inl hl)
    have e3 : bm_q1 v (nI (rn k)) r1 = r2 := Option.some.inj (e2.symm.trans he)
    rw [← e3]
    exact sQ_bmq1 hQ1 hl t0 t1
end SPR

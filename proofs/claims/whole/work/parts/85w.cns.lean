/-! beside: the beginning of a count, class and reference apart -/
section NXM
variable {n : Nat} {z : ix_Z} {d c r r1 r' : ix_D2} {N T B : Nat}
set_option maxHeartbeats 4000000 in
theorem R_m90 (h1 : on_90 d c N T B) (hp : pr_q1 r r1) (o : ∀ a k, (a ≠ 125 ∨ (k ≠ 58 ∧ k ≠ 59 ∧ k ≠ 66 ∧ k ≠ 67 ∧ k ≠ 89 ∧ k ≠ 91)) → r'.1 a k = r1.1 a k) (ol : r'.2 = r1.2) (h58 : 1 = 1 ∨ (r'.1 125 58).toInt ≠ 0) (h66 : (r'.1 125 66).toInt = 64 * 1) (h67 : (r'.1 125 67).toInt = (B : Int)) (h91 : 1 = 0 → (r'.1 125 91).toInt = 0) (hN : (d.1 51 5).toInt = N) (hN2 : N ≤ 300) (hT : (T : Int) = (d.1 52 2).toInt) (hB : (B : Int) = (d.1 106 2).toInt) (n1 : d.1 51 5 = r.1 125 1) (ibg : d.1 51 8 = r.1 125 30 ∧ 0 ≤ (r.1 125 30).toInt ∧ (r.1 125 30).toInt ≤ 100 ∧ d.1 51 9 = r.1 125 31 ∧ 0 ≤ (r.1 125 31).toInt ∧ (r.1 125 31).toInt ≤ 800) (iwt : ∀ i, i ≤ 300 → d.1 55 i = r.1 126 i ∧ 0 ≤ (r.1 126 i).toInt ∧ (r.1 126 i).toInt ≤ 1000) (hcw : cw_ d.1) (c2 : d.1 52 2 = r.1 125 23) (c3 : ∀ k : Nat, (k : Int) ≤ (r.1 125 23).toInt → r.1 143 k = d.1 54 k) (c4 : ∀ p : Nat, (p : Int) < (d.1 54 (ix_n (d.1 52 2))).toInt → r.1 144 p = d.1 53 p ∧ (ix_n (ix_abs (d.1 53 p)) : Int) ≤ (r.1 125 1).toInt) (hbw : bw_90 d.1) (hbr : br_90 d.1 r.1 B) (hbn : ∀ p : Nat, (p : Int) < (d.1 108 B).toInt → (ix_n (ix_abs (d.1 107 p)) : Int) ≤ (r.1 125 1).toInt) : R_90 c r' (rk_90 T) ∧ h0_90 r' := by
  obtain ⟨a1, a2, a3, a4, a5, a5b, a6, a6b, a7, a8, a9, a10, a11, a12, a14, a15, a16, a17, a18, a19, a20, a21⟩ := h1
  obtain ⟨p1, p2, p3, p4, p5, p6, p7, p8, p9, p10, p11, p12, p13, p14, p15, p16⟩ := hp
  have hT5 := hcw.2.1
  have hB6 := hbw.2.1
  have nT : ix_n (d.1 52 2) = T := ni_k hT.symm
  rw [nT] at c4
  have nT2 : ix_n (c.1 92 2) = T + B := ni_k a2
  have e23 : (r.1 125 23).toInt = T := by rw [← c2]; exact hT.symm
  have hM := rw_M hcw (k := T) (by omega)
  have hM0 := rw_0 hcw (k := T) (by omega)
  have hMB := rw_M hbw (k := B) (by omega)
  obtain ⟨S, hS⟩ : ∃ S : Nat, (d.1 54 T).toInt = (S : Int) := ⟨ix_n (d.1 54 T), (ni_c hM0).symm⟩
  have nS : ix_n (d.1 54 T) = S := ni_k hS
  have e64 : c.1 94 T = d.1 54 T := a5 T (Nat.le_refl T)
  have hd : ∀ a k, 125 ≤ a → a ≤ 198 → ¬ pq_q1 a k → (a ≠ 125 ∨ (k ≠ 58 ∧ k ≠ 59 ∧ k ≠ 66 ∧ k ≠ 67 ∧ k ≠ 89 ∧ k ≠ 91)) → r'.1 a k = r.1 a k := fun a k x1 x2 x3 x4 => by rw [o a k x4]; exact (p16 a k x3).1
  have e143 : ∀ k, r'.1 143 k = r.1 143 k := fun k => hd _ _ (by omega) (by omega) (by unfold pq_q1 sq_q1; omega) (by omega)
  have e144 : ∀ k, r'.1 144 k = r.1 144 k := fun k => hd _ _ (by omega) (by omega) (by unfold pq_q1 sq_q1; omega) (by omega)
  have e147 : r'.1 147 = r.1 147 := funext fun k => hd _ _ (by omega) (by omega) (by unfold pq_q1 sq_q1; omega) (by omega)
  have e148 : r'.1 148 = r.1 148 := funext fun k => hd _ _ (by omega) (by omega) (by unfold pq_q1 sq_q1; omega) (by omega)
  have e30 : r'.1 125 30 = r.1 125 30 := hd _ _ (by omega) (by omega) (by unfold pq_q1 sq_q1; omega) (by omega)
  have e31 : r'.1 125 31 = r.1 125 31 := hd _ _ (by omega) (by omega) (by unfold pq_q1 sq_q1; omega) (by omega)
  have e161 : r'.1 161 1 = r.1 125 1 := by rw [o _ _ (by omega)]; exact p1
  have r162 : (r'.1 162 1).toInt = T := by rw [o _ _ (by omega), p2]; exact e23
  have r163 : ∀ m, m < 500 → r'.1 163 (500 * 1 + m) = 1 := fun m hm => by rw [o _ _ (by omega)]; exact p3 m hm
  have hrr : rr_90 c r' (rk_90 T) := rr_n90 (f := d.1) (T := T) (B := B) (S := S) (fun k hk => if_pos hk) (fun k h1 h2 => if_neg (by omega)) a1 a2 (by omega) (by omega) a3 (by rw [a4]; exact a2) (fun j hj => by rw [a5 j hj, e143]; exact (c3 j (by omega)).symm) (fun p hp => by rw [e64] at hp; rw [a6 p hp, e144]; exact (c4 p hp).1.symm) (by rw [e64]; exact hM) (by rw [e64]; exact hS) hbw hB (fun j hj => by rw [a5b j hj, hS]) (fun p hp => by have := a6b p hp; rw [nS] at this; exact this) (by unfold br_90; rw [e147, e148]; exact hbr) a7 (fun m hm => (a8 m hm).1) r162 r163 (fun m hm => by rw [o _ _ (by omega)]; exact (p6 m hm).1) (by rw [o _ _ (by omega)]; exact p12) h58 h66 h67
  obtain ⟨g1, g2, g3, g4, g5, g6⟩ := ibg
  have n2 : 0 ≤ (r.1 125 1).toInt := by rw [← n1]; omega
  have n3 : (r.1 125 1).toInt ≤ 300 := by rw [← n1]; omega
  have hwg : wg_90 c r' := by
    have z64 : (64 : Int64).toInt = 64 := rfl
    refine ⟨by rw [a11, e161]; exact n1, by rw [e161]; exact n2, by rw [e161]; exact n3, fun m m1 m2 => ?_, by rw [a20, ol]; exact p7.symm, by rw [a20, z64]; omega, by rw [a20, z64]; omega⟩
    rw [e161, ← n1, hN] at m2
    obtain ⟨w1, w2, w3⟩ := iwt m (by omega)
    have q1 : c.2 109 m = (r.1 126 m).toInt64 := by rw [a19 m m1 (by omega), w1]
    have q2 : r'.2 171 (301 * 1 + m) = (r.1 126 m).toInt64 := by rw [ol, (p6 m (by omega)).2.2]
    rw [q1, q2, Int32.toInt_toInt64]
    exact ⟨rfl, w2, by omega⟩
  have e165 : r'.1 165 1 = 0 := by rw [o _ _ (by omega)]; exact p4
  have z0 : (0 : Int32).toInt = 0 := rfl
  have haq : aq_90 c r' := ⟨by rw [a12, e165], by rw [e165, z0]; omega, by rw [e165, z0]; omega, fun i hi => absurd hi (by rw [e165, z0]; omega)⟩
  refine ⟨R_b90 a1 hrr a8 a9 a10 (by rw [o _ _ (by omega)]; exact p8) (by rw [o _ _ (by omega)]; exact p9) (fun m hm => by rw [o _ _ (by omega)]; exact (p6 m hm).2.1) hwg (fun p hp => ?_) a17 (fun k hk => by rw [o _ _ (by omega)]; exact p15 k hk) (by rw [o _ _ (by omega)]; exact p11) (by rw [o _ _ (by omega)]; exact p12) a16 (by rw [o _ _ (by omega)]; exact p13) (by rw [o _ _ (by omega)]; exact p14) a4 (by rw [o _ _ (by omega)]; exact p10) (by rw [a14, e30]; exact g1) (by rw [a15, e31]; exact g4) (by rw [e30]; exact ⟨g2, g3⟩) (by rw [e31]; exact ⟨g5, g6⟩) (by rw [a2]; omega) (by rw [nT2, a5b B (Nat.le_refl _)]; omega) haq h91 a18, h0_s90 r163 (by rw [r162]; omega)⟩
  rw [nT2, a5b B (Nat.le_refl _)] at hp
  rw [a11, n1]
  by_cases e : (p : Int) < (d.1 54 T).toInt
  · rw [a6 p e]; exact (c4 p e).2
  · obtain ⟨i, hi⟩ : ∃ i, p = S + i := ⟨p - S, by omega⟩
    have q := a6b i (by omega)
    rw [nS] at q
    rw [hi, q]
    exact hbn i (by omega)
end NXM

/-! tried: the relation at its beginning -/
/-- the case's number of the j-th row taken -/
noncomputable def xn_ (P : Nat → Bool) (g : Nat → Int32) (C j : Nat) : Nat := by
  classical exact if h : ∃ m, m < C ∧ P m = true ∧ cb_ P m = j then ix_n (g (Classical.choose h)) else 0
section TRD
variable {n : Nat} {z : ix_Z} {d d0 d1 c r r0 r1 r' : ix_D2} {x y : Int32} {P Pi : Nat → Bool} {N T C Y : Nat}
theorem cb_in {P : Nat → Bool} {a b : Nat} (ha : P a = true) (hb : P b = true) (h : cb_ P a = cb_ P b) : a = b := by
  rcases Nat.lt_trichotomy a b with q | q | q
  · have := cb_lt q ha; omega
  · exact q
  · have := cb_lt q hb; omega
theorem xn_e {g : Nat → Int32} {m : Nat} (hm : m < C) (hp : P m = true) : xn_ P g C (cb_ P m) = ix_n (g m) := by
  have h : ∃ a, a < C ∧ P a = true ∧ cb_ P a = cb_ P m := ⟨m, hm, hp, rfl⟩
  unfold xn_
  rw [dif_pos h]
  have q := Classical.choose_spec h
  rw [cb_in q.2.1 hp q.2.2]
set_option maxHeartbeats 4000000 in
theorem R_tr90 (h1 : tr_ P Pi d c N C Y) (hp : pr_q1 r r1) (hq : tq_ P Pi r r1 r' C Y) (hN : (d.1 51 5).toInt = N) (hN2 : N ≤ 300) (hT : (T : Int) = (d.1 52 2).toInt) (n1 : d.1 51 5 = r.1 125 1) (ibg : d.1 51 8 = r.1 125 30 ∧ 0 ≤ (r.1 125 30).toInt ∧ (r.1 125 30).toInt ≤ 100 ∧ d.1 51 9 = r.1 125 31 ∧ 0 ≤ (r.1 125 31).toInt ∧ (r.1 125 31).toInt ≤ 800) (iwt : ∀ i, i ≤ 300 → d.1 55 i = r.1 126 i ∧ 0 ≤ (r.1 126 i).toInt ∧ (r.1 126 i).toInt ≤ 1000) (hcw : cw_ d.1) (c2 : d.1 52 2 = r.1 125 23) (c3 : ∀ k : Nat, (k : Int) ≤ (r.1 125 23).toInt → r.1 143 k = d.1 54 k) (c4 : ∀ p : Nat, (p : Int) < (d.1 54 (ix_n (d.1 52 2))).toInt → r.1 144 p = d.1 53 p ∧ (ix_n (ix_abs (d.1 53 p)) : Int) ≤ (r.1 125 1).toInt) (hC2 : C ≤ T) (hY2 : Y ≤ 20) (hr : ∀ k, k < C → d.1 123 k = r.1 189 k ∧ 0 ≤ (r.1 189 k).toInt ∧ (r.1 189 k).toInt < (T : Int)) (hin : ∀ i k, i < k → k < C → (r.1 189 i).toInt < (r.1 189 k).toInt) (hit : ∀ k, k < Y → d.1 124 k = r.1 190 k ∧ (r.1 190 k).toInt ≠ 0 ∧ (ix_n (ix_abs (r.1 190 k)) : Int) ≤ (r.1 125 1).toInt ∧ -300 ≤ (r.1 190 k).toInt ∧ (r.1 190 k).toInt ≤ 300) : R_90 c r' (xn_ P (r.1 189) C) ∧ h0_90 r' := by
  obtain ⟨a1, a2, a3, a4, a5, a6, a7, a8, a9, a10, a11, a12, a13, a14, a15, a16, a17, a18, a19, a20, a21⟩ := h1
  obtain ⟨p1, p2, p3, p4, p5, p6, p7, p8, p9, p10, p11, p12, p13, p14, p15, p16⟩ := hp
  obtain ⟨b1, b2, b3, b4, b5⟩ := hq
  have hT5 := hcw.2.1
  have nT : ix_n (d.1 52 2) = T := ni_k hT.symm
  rw [nT] at c4
  have e23 : (r.1 125 23).toInt = T := by rw [← c2]; exact hT.symm
  obtain ⟨K, hK⟩ : ∃ K, cb_ P C = K := ⟨_, rfl⟩
  have hKC : K ≤ C := by rw [← hK]; exact cb_le
  obtain ⟨KI, hKI⟩ : ∃ K, cb_ Pi Y = K := ⟨_, rfl⟩
  have hKY : KI ≤ Y := by rw [← hKI]; exact cb_le
  rw [hK] at a2 a6 a7
  rw [hKI] at a12 b2
  have nT2 : ix_n (c.1 92 2) = K := ni_k a2
  have hd : ∀ a k, ¬ pq_q1 a k → r'.1 a k = r.1 a k := fun a k x3 => by
    rw [b4 a k (by unfold pq_q1 at x3; omega) (by unfold pq_q1 at x3; omega) (by unfold pq_q1 at x3; omega)]; exact (p16 a k x3).1
  have e143 : ∀ k, r'.1 143 k = r.1 143 k := fun k => hd _ _ (by unfold pq_q1 sq_q1; omega)
  have e144 : ∀ k, r'.1 144 k = r.1 144 k := fun k => hd _ _ (by unfold pq_q1 sq_q1; omega)
  have e30 : r'.1 125 30 = r.1 125 30 := hd _ _ (by unfold pq_q1 sq_q1; omega)
  have e31 : r'.1 125 31 = r.1 125 31 := hd _ _ (by unfold pq_q1 sq_q1; omega)
  have o : ∀ a k, a ≠ 163 → a ≠ 164 → a ≠ 165 → r'.1 a k = r1.1 a k := fun a k q1 q2 q3 => b4 a k (by omega) (by omega) (by omega)
  have e161 : r'.1 161 1 = r.1 125 1 := by rw [o _ _ (by omega) (by omega) (by omega)]; exact p1
  have r162 : (r'.1 162 1).toInt = T := by rw [o _ _ (by omega) (by omega) (by omega), p2]; exact e23
  have e67 : r'.1 125 67 = 0 := by rw [o _ _ (by omega) (by omega) (by omega)]; exact (p5 rfl).2
  have rowp : ∀ k, k < K → ∃ m, m < C ∧ P m = true ∧ cb_ P m = k ∧ xn_ P (r.1 189) C k = ix_n (r.1 189 m) := fun k hk => by
    obtain ⟨m, m1, m2, m3⟩ := cb_ex (P := P) (k := k) (n := C) (by rw [hK]; exact hk)
    exact ⟨m, m1, m2, m3, by rw [← m3]; exact xn_e m1 m2⟩
  have hrr : rr_90 c r' (xn_ P (r.1 189) C) := by
    refine ⟨fun k hk => ?_, ?_, fun m hm => by rw [o _ _ (by omega) (by omega) (by omega), (p6 m hm).1, (a8 m hm).1]; rfl⟩
    · obtain ⟨m, m1, m2, m3, m4⟩ := rowp k (by omega)
      obtain ⟨q1, q2, q3⟩ := hr m m1
      obtain ⟨M, hM⟩ : ∃ M : Nat, (r.1 189 m).toInt = (M : Int) := ⟨ix_n (r.1 189 m), (ni_c q2).symm⟩
      have nM : ix_n (r.1 189 m) = M := ni_k hM
      obtain ⟨s1, s2⟩ := a5 m m1 m2
      rw [q1, nM, m3] at s1 s2
      rw [m4, nM]
      have rb := rw_b hcw (k := M) (by omega)
      have rM := rw_M hcw (k := M + 1) (by omega)
      have e1 := c3 M (by omega)
      have e2 := c3 (M + 1) (by omega)
      refine ⟨Or.inl ⟨by omega, by rw [e143, e1]; exact rb.1, by rw [e143, e143, e1, e2]; omega, by rw [e143, e2]; omega⟩, ?_, fun j hj => ?_⟩
      · unfold rz_
        rw [if_pos (by omega), e143, e143, e1, e2, ta_sub (by omega) (by omega)]
        exact s1.symm
      · unfold ri_
        unfold rz_ at hj
        rw [if_pos (by omega), e143, e143, e1, e2, ta_sub (by omega) (by omega)] at hj
        rw [if_pos (by omega), e143, e144, e1, s2 j hj]
        have nn := ni_c (x := d.1 54 M) rb.1
        have mm := rw_m hcw (k := M + 1) (l := T) (by omega) (by omega)
        exact (c4 _ (by omega)).1
    · have z9 : (r'.1 179 1).toInt = 0 := by rw [o _ _ (by omega) (by omega) (by omega), p12]; rfl
      have h15 : (c.1 91 15).toInt = (K : Int) := by rw [a3]; exact a2
      have h16 : (c.1 91 16).toInt = (K : Int) := by rw [a4]; exact a2
      have z67 : (r'.1 125 67).toInt = 0 := by rw [e67]; rfl
      refine ⟨by omega, by omega, by omega, by omega, by omega, fun k hk => ?_, fun m hm h3 => ?_, fun i k hik hk => ?_, fun _ => ⟨by omega, by omega⟩, fun q => absurd (Or.inl rfl) q, fun k h1 h2 => absurd h2 (by omega), by omega, by omega, fun k h1 h2 => absurd h2 (by omega), fun k hk => a7 k (by omega)⟩
      · obtain ⟨m, m1, m2, m3, m4⟩ := rowp k (by omega)
        obtain ⟨q1, q2, q3⟩ := hr m m1
        have nn := ni_c q2
        rw [m4]
        refine ⟨by omega, ?_⟩
        rw [show 500 * 1 + ix_n (r.1 189 m) = 500 + ix_n (r.1 189 m) by omega]
        exact (b1 _ (by omega)).mpr ⟨m, m1, m2, by omega⟩
      · rw [show 500 * 1 + m = 500 + m by omega] at h3
        obtain ⟨k, k1, k2, k3⟩ := (b1 m (by omega)).mp h3
        have := cb_lt (P := P) k1 k2
        refine ⟨cb_ P k, by omega, ?_⟩
        rw [xn_e k1 k2]
        exact ni_k k3
      · obtain ⟨m, m1, m2, m3, m4⟩ := rowp i (by omega)
        obtain ⟨m', m1', m2', m3', m4'⟩ := rowp k (by omega)
        have hlt : m < m' := by
          rcases Nat.lt_trichotomy m m' with q | q | q
          · exact q
          · rw [q] at m3; omega
          · have := cb_lt q m2'; omega
        have q := hin m m' hlt m1'
        have q1 := (hr m m1).2.1
        have q2 := (hr m' m1').2.1
        have n1 := ni_c q1
        have n2 := ni_c q2
        rw [m4, m4']
        omega
  obtain ⟨g1, g2, g3, g4, g5, g6⟩ := ibg
  have n2 : 0 ≤ (r.1 125 1).toInt := by rw [← n1]; omega
  have n3 : (r.1 125 1).toInt ≤ 300 := by rw [← n1]; omega
  have hwg : wg_90 c r' := by
    have z64 : (64 : Int64).toInt = 64 := rfl
    refine ⟨by rw [a11, e161]; exact n1, by rw [e161]; exact n2, by rw [e161]; exact n3, fun m m1 m2 => ?_, by rw [a20, b5]; exact p7.symm, by rw [a20, z64]; omega, by rw [a20, z64]; omega⟩
    rw [e161, ← n1, hN] at m2
    obtain ⟨w1, w2, w3⟩ := iwt m (by omega)
    have q1 : c.2 109 m = (r.1 126 m).toInt64 := by rw [a19 m m1 (by omega), w1]
    have q2 : r'.2 171 (301 * 1 + m) = (r.1 126 m).toInt64 := by rw [b5, (p6 m (by omega)).2.2]
    rw [q1, q2, Int32.toInt_toInt64]
    exact ⟨rfl, w2, by omega⟩
  have haq : aq_90 c r' := by
    refine ⟨Int32.toInt_inj.mp (by rw [a12, b2]), by rw [b2]; omega, by rw [b2]; omega, fun i hi => ?_⟩
    rw [b2] at hi
    obtain ⟨m, m1, m2, m3⟩ := cb_ex (P := Pi) (k := i) (n := Y) (by rw [hKI]; omega)
    have s1 := a13 m m1 m2
    have s2 := b3 m m1 m2
    rw [m3] at s1 s2
    obtain ⟨t1, t2, t3, t4, t5⟩ := hit m m1
    rw [show 20 * 1 + i = 20 + i by omega, s1, s2, t1, a11, n1]
    exact ⟨rfl, t2, t3, t4, t5⟩
  refine ⟨R_b90 a1 hrr a8 a9 a10 (by rw [o _ _ (by omega) (by omega) (by omega)]; exact p8) (by rw [o _ _ (by omega) (by omega) (by omega)]; exact p9) (fun m hm => by rw [o _ _ (by omega) (by omega) (by omega)]; exact (p6 m hm).2.1) hwg (fun p hp => ?_) a17 (fun k hk => by rw [o _ _ (by omega) (by omega) (by omega)]; exact p15 k hk) (by rw [o _ _ (by omega) (by omega) (by omega)]; exact p11) (by rw [o _ _ (by omega) (by omega) (by omega)]; exact p12) a16 (by rw [o _ _ (by omega) (by omega) (by omega)]; exact p13) (by rw [o _ _ (by omega) (by omega) (by omega)]; exact p14) a4 (by rw [o _ _ (by omega) (by omega) (by omega)]; exact p10) (by rw [a14, e30]; exact g1) (by rw [a15, e31]; exact g4) (by rw [e30]; exact ⟨g2, g3⟩) (by rw [e31]; exact ⟨g5, g6⟩) (by rw [a2]; omega) (by rw [nT2]; omega) haq (fun q => absurd q (by decide)) a18, fun q => absurd q (by decide)⟩
  rw [nT2] at hp
  have z0 := a1.1.2.2.1
  obtain ⟨k, k1, k2, k3⟩ := rc_ex (f := fun j => (c.1 94 j).toInt) (by show (c.1 94 0).toInt ≤ 0; omega) (p := (p : Int)) (by omega) K hp
  have k2' : (c.1 94 k).toInt ≤ (p : Int) := k2
  have k3' : (p : Int) < (c.1 94 (k + 1)).toInt := k3
  obtain ⟨m, m1, m2, m3, m4⟩ := rowp k k1
  obtain ⟨q1, q2, q3⟩ := hr m m1
  obtain ⟨M, hM⟩ : ∃ M : Nat, (r.1 189 m).toInt = (M : Int) := ⟨ix_n (r.1 189 m), (ni_c q2).symm⟩
  have nM : ix_n (r.1 189 m) = M := ni_k hM
  obtain ⟨s1, s2⟩ := a5 m m1 m2
  rw [q1, nM, m3] at s1 s2
  have b0 := rw_0 a1.1 (k := k) (by omega)
  have nk := ni_c b0
  obtain ⟨i, hi⟩ : ∃ i, p = ix_n (c.1 94 k) + i := ⟨p - ix_n (c.1 94 k), by omega⟩
  have rb := rw_b hcw (k := M) (by omega)
  have nn := ni_c (x := d.1 54 M) rb.1
  have mm := rw_m hcw (k := M + 1) (l := T) (by omega) (by omega)
  rw [hi, s2 i (by omega), a11, n1]
  exact (c4 _ (by omega)).2
end TRD

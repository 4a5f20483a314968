/-! solve: the relation at its beginning; bits of sources -/
section SLC
variable {n : Nat} {z : ix_Z} {d c r r' : ix_D2} {v x y w : Int32} {N T A : Nat} {f : Nat → Nat → Int32}
/-- the case's rows on both sides -/
def iv_cs (f : Nat → Nat → Int32) : Prop := cw_ f ∧ f 52 2 = f 125 23 ∧ (∀ k : Nat, (k : Int) ≤ (f 125 23).toInt → f 143 k = f 54 k) ∧ ∀ p : Nat, (p : Int) < (f 54 (ix_n (f 52 2))).toInt → f 144 p = f 53 p ∧ (ix_n (ix_abs (f 53 p)) : Int) ≤ (f 125 1).toInt
/-- no bit from B on -/
def sz_ (B w : Nat) (x : Int64) : Prop := ∀ b, b < 64 → B ≤ 64 * w + b → tb_ x b = false
theorem sz_cl {B : Nat} : cl_ (sz_ B) := ⟨fun w b _ _ => tb_z, fun w x y hx hy b b1 b2 => by rw [tb_or, hx b b1 b2, hy b b1 b2]; rfl⟩
theorem sz_b {B m w : Nat} (h : m < B) : sz_ B w (if w = m / 64 then bt_ (m % 64) else 0) := fun b b1 b2 => by
  by_cases e : w = m / 64
  · rw [if_pos e, tb_bt (by omega)]
    exact decide_eq_false (by omega)
  · rw [if_neg e]; exact tb_z
theorem R_sv (h1 : sv1_ d c N T A) (h2 : sv2_ r r' x A) (hdr : ∀ a k, 125 ≤ a → a ≤ 198 → r.1 a k = d.1 a k) (hN : (d.1 51 5).toInt = N) (hN2 : N ≤ 300) (hT : (T : Int) = (d.1 52 2).toInt) (hA : (d.1 51 7).toInt = A) (inm : iv_nm d.1) (ibg : iv_bg d.1) (iwt : iv_wt d.1) (ias : iv_as d.1) (ics : iv_cs d.1) : R_60 c r' (fun k => k) ∧ h0_60 r' ∧ sQ_0 (sz_ T) r' := by
  obtain ⟨a1, a2, a3, a4, a5, a6, a7, a8, a9, a10, a11, a12, a13, a14, a15, a16, a17, a18, a19, a20, a21, a22, a23, a24⟩ := h1
  obtain ⟨b1, b2, b3, b4, b5, b6, b7, b8, b9, b10, b11, b12, b13, b14, b15, b16, b17, b18, b19, b20, b21⟩ := h2
  obtain ⟨c1, c2, c3, c4⟩ := ics
  have hT5 := c1.2.1
  have nT : ix_n (d.1 52 2) = T := ni_k hT.symm
  have nT2 : ix_n (c.1 62 2) = T := ni_k a2
  rw [nT] at c4
  have e23 : (d.1 125 23).toInt = T := by rw [← c2]; exact hT.symm
  have r162 : (r'.1 162 0).toInt = T := by rw [b2, hdr _ _ (by omega) (by omega)]; exact e23
  have hM := rw_M c1 (k := T) (by omega)
  have e143 : ∀ k, r'.1 143 k = d.1 143 k := fun k => by rw [b20 _ _ (by unfold pq_0 sq_0; omega) (by omega)]; exact hdr _ _ (by omega) (by omega)
  have e144 : ∀ k, r'.1 144 k = d.1 144 k := fun k => by rw [b20 _ _ (by unfold pq_0 sq_0; omega) (by omega)]; exact hdr _ _ (by omega) (by omega)
  have e30 : r'.1 125 30 = d.1 125 30 := by rw [b20 _ _ (by unfold pq_0 sq_0; omega) (by omega)]; exact hdr _ _ (by omega) (by omega)
  have e31 : r'.1 125 31 = d.1 125 31 := by rw [b20 _ _ (by unfold pq_0 sq_0; omega) (by omega)]; exact hdr _ _ (by omega) (by omega)
  have e161 : r'.1 161 0 = d.1 125 1 := by rw [b1]; exact hdr _ _ (by omega) (by omega)
  have e165 : r'.1 165 0 = d.1 125 29 := by rw [b4]; exact hdr _ _ (by omega) (by omega)
  have e64 : c.1 64 T = d.1 54 T := a5 T (Nat.le_refl T)
  have hrr : rr_60 c r' (fun k => k) := rr_s60 (fun _ => rfl) a1 (T := T) a2 (by omega) (by rw [a3]; exact a2) (by rw [a4]; exact a2) (fun j hj => by rw [a5 j hj, e143]; exact (c3 j (by omega)).symm) (fun p hp => by rw [e64] at hp; rw [a6 p hp, e144]; exact (c4 p hp).1.symm) (by rw [e64]; exact hM) a7 (fun m hm => (a8 m hm).1) r162 (fun m hm => by rw [show 500 * 0 + m = m by omega]; exact b3 m hm) (fun m hm => by rw [show 301 * 0 + m = m by omega]; exact (b6 m hm).1) b12 (fun h => by
    rcases h with h | h
    · exact absurd h (by decide)
    · rw [b16] at h; exact absurd rfl h)
  obtain ⟨n1, n2, n3⟩ := inm
  obtain ⟨g1, g2, g3, g4, g5, g6⟩ := ibg
  obtain ⟨s1, s2, s3, s4⟩ := ias
  have hwg : wg_60 c r' := by
    have z64 : (64 : Int64).toInt = 64 := rfl
    refine ⟨by rw [a11, e161]; exact n1, by rw [e161]; exact n2, by rw [e161]; exact n3, fun m m1 m2 => ?_, by rw [a20]; exact b7.symm, by rw [a20, z64]; omega, by rw [a20, z64]; omega⟩
    rw [e161, ← n1, hN] at m2
    obtain ⟨w1, w2, w3⟩ := iwt m (by omega)
    have q1 : c.2 79 m = (d.1 126 m).toInt64 := by rw [a19 m m1 (by omega), w1]
    have q2 : r'.2 171 (301 * 0 + m) = (d.1 126 m).toInt64 := by rw [show 301 * 0 + m = m by omega, (b6 m (by omega)).2.2, hdr _ _ (by omega) (by omega)]
    rw [q1, q2, Int32.toInt_toInt64]
    exact ⟨rfl, w2, by omega⟩
  have haq : aq_60 c r' := by
    refine ⟨by rw [a12, e165]; exact s1, by rw [e165]; exact s2, by rw [e165]; exact s3, fun i hi => ?_⟩
    rw [e165] at hi
    have hiA : i < A := by rw [s1] at hA; omega
    obtain ⟨t1, t2, t3, t4⟩ := s4 i hi
    rw [a13 i hiA, t1, show 20 * 0 + i = i by omega, b5 i hiA, hdr _ _ (by omega) (by omega), a11, n1]
    have t0 : (d.1 146 i).toInt ≠ 0 := fun q => t2 (Int32.toInt_inj.mp q)
    have na := ab_n (v := d.1 146 i) (by omega)
    exact ⟨rfl, t0, by split at na <;> omega, by omega, by omega⟩
  refine ⟨R_b60 a1 hrr a8 a9 a10 b8 b9 (fun m hm => by rw [show 301 * 0 + m = m by omega]; exact (b6 m hm).2.1) hwg (fun p hp => ?_) a17 (fun k hk => by rw [show 10 * 0 + k = k by omega]; exact b15 k hk) b11 b12 a16 b13 b14 a4 b10 (by rw [a14, e30]; exact g1) (by rw [a15, e31]; exact g4) (by rw [e30]; exact ⟨g2, g3⟩) (by rw [e31]; exact ⟨g5, g6⟩) (by rw [a2]; omega) (by rw [nT2, e64]; omega) haq (fun _ => by rw [b18]; rfl) a18, h0_s60 (fun m hm => by rw [show 500 * 0 + m = m by omega]; exact b3 m hm) (by rw [r162]; omega), ⟨fun m w hm hw => sz_b (by omega), fun k w hk => ?_, fun i w hi => ?_⟩⟩
  · rw [nT2, e64] at hp
    rw [a6 p hp, a11, n1]
    exact (c4 p hp).2
  · rw [b11] at hk
    exact absurd hk (by have : (0 : Int32).toInt = 0 := rfl; omega)
  · rw [b8] at hi
    exact absurd hi (by have : (0 : Int32).toInt = 0 := rfl; omega)
end SLC

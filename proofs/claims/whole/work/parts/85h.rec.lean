/-! the records on both sides behind NO -/
section REC
variable {n : Nat} {z : ix_Z} {c c' c1 c2 r r' r1 r2 : ix_D2} {rn : Nat → Nat}
def rc_ (c r : ix_D2) : Prop := ∃ F K : Nat, (c.1 61 16).toInt = (F : Int) ∧ (c.1 62 2).toInt = (F : Int) + K ∧ (r.1 178 0).toInt = (K : Int) ∧ K ≤ 800 ∧ F ≤ 564 ∧ 0 ≤ (c.1 64 F).toInt ∧ (c.1 64 F).toInt ≤ 3780 ∧ (∀ k, k ≤ K → (r.1 176 k).toInt = (c.1 64 (F + k)).toInt - (c.1 64 F).toInt ∧ 0 ≤ (r.1 176 k).toInt ∧ (r.1 176 k).toInt ≤ 8000) ∧ (∀ k, k < K → (r.1 176 k).toInt ≤ (r.1 176 (k + 1)).toInt ∧ (r.1 176 (k + 1)).toInt ≤ (r.1 176 k).toInt + 301) ∧ ∀ p : Nat, (p : Int) < (r.1 176 K).toInt → r.1 177 p = c.1 63 (ix_n (c.1 64 F) + p) ∧ (r.1 177 p).toInt ≠ 0 ∧ -300 ≤ (r.1 177 p).toInt ∧ (r.1 177 p).toInt ≤ 300
theorem rc_ex {f : Nat → Int} (h0 : f 0 ≤ 0) {p : Int} (hp0 : 0 ≤ p) : ∀ K, p < f K → ∃ k, k < K ∧ f k ≤ p ∧ p < f (k + 1)
  | 0, h => absurd h (by omega)
  | K + 1, h => by
    by_cases c : p < f K
    · obtain ⟨k, k1, k2⟩ := rc_ex h0 hp0 K c
      exact ⟨k, by omega, k2⟩
    · exact ⟨K, by omega, by omega, h⟩
theorem rc_N (h : R_60 c1 r1 rn) (hnz : nz_60 c1 r1 rn c2 r2) : rc_ c2 r2 := by
  have haq := h.2.2.2.2.2.2.2.2.2.1
  have hT1 := h.1.1.2.1
  have y4 := h.2.2.2.2.2.2.2.2.1.2.2.2.1
  have y18 : (c1.1 61 16).toInt ≤ 564 := h.2.2.2.2.2.2.2.2.1.2.2.2.2.2.2.2.2.2.2.2.2.2.2.2.2.2.1
  have y11 := h.2.2.2.2.2.2.2.2.1.2.2.2.2.2.2.2.2.2.2.1
  have y19 := h.2.2.2.2.2.2.2.2.1.2.2.2.2.2.2.2.2.2.2.2.2.2.2.2.2.2.2
  obtain ⟨G1, G2, G3, G4, G5, G6, G7, G8, G9, G10, G11, G12, G13, G14, G15⟩ := h.2.1.2.1
  clear G4 G5 G6 G7 G8 G9 G10 G11 G15
  obtain ⟨Y, fr, hY, ⟨F, T, A, S, g1, g2, g3, g4, g5, g6, g7, g8, g9, g10, g11, g12, g13, g14, g15, g16, g17, g18, g19, g20⟩, hfr, hco⟩ := hnz
  have nF : ix_n (c1.1 61 16) = F := ni_k g1.symm
  rw [nF] at y11 y19
  have z8 : ∀ k, 801 * 0 + k = k := fun k => by omega
  have z8a : ∀ k, 800 * 0 + k = k := fun k => by omega
  have m0 := rw_0 h.1.1 (k := F) (by omega)
  have c64 : ∀ k, k ≤ F + T → c2.1 64 k = c1.1 64 k := fun k hk => g7 _ _ (by omega) (by omega) (by omega) (by omega) (by omega) (by omega) (by omega) (by omega) (by omega)
  have r176 : ∀ k, k ≤ T → r2.1 176 k = r1.1 176 k := fun k hk => g13 _ _ (by omega) (by omega) (by omega) (by omega) (by omega) (by omega)
  have h176 : ∀ k, k ≤ T → (r1.1 176 k).toInt = (c1.1 64 (F + k)).toInt - (c1.1 64 F).toInt ∧ (r1.1 176 k).toInt ≤ 8000 := fun k hk => by
    have q := y11 k (by omega)
    rw [z8] at q
    exact q
  have hA := (h176 T (Nat.le_refl T)).1
  rw [z8] at g3 g14
  have e16 : c2.1 61 16 = c1.1 61 16 := g7 _ _ (by omega) (by omega) (by omega) (by omega) (by omega) (by omega) (by omega) (by omega) (by omega)
  have hm : ∀ k, k ≤ T → (c1.1 64 F).toInt ≤ (c1.1 64 (F + k)).toInt := fun k hk => rw_m h.1.1 (k := F) (l := F + k) (by omega) (by omega)
  refine ⟨F, T + 1, by rw [e16]; exact g1.symm, by rw [g8]; omega, by rw [g15]; omega, by omega, by omega, by rw [c64 F (by omega)]; exact m0, by rw [c64 F (by omega)]; exact y19, fun k hk => ?_, fun k hk => ?_, fun p hp => ?_⟩
  · by_cases e : k = T + 1
    · rw [e, g14, c64 F (by omega), show F + (T + 1) = F + T + 1 from rfl, g9]
      have := hm T (Nat.le_refl T)
      omega
    · rw [r176 k (by omega), c64 _ (by omega), c64 _ (by omega)]
      have := h176 k (by omega)
      have := hm k (by omega)
      omega
  · by_cases e : k = T
    · rw [e, g14, r176 T (Nat.le_refl T)]; omega
    · rw [r176 k (by omega), r176 (k + 1) (by omega)]
      have q1 := (h176 k (by omega)).1
      have q2 := (h176 (k + 1) (by omega)).1
      have q3 := rw_m h.1.1 (k := F + k) (l := F + (k + 1)) (by omega) (by omega)
      have q4 := (h.1.1.2.2.2.2.1 (F + k) (by omega)).2.1
      rw [show F + (k + 1) = F + k + 1 from rfl] at q2 q3
      omega
  · rw [g14] at hp
    rw [c64 F (by omega)]
    by_cases e : p < A
    · obtain ⟨k, k1, k2, k3⟩ := rc_ex (f := fun k => (r1.1 176 k).toInt) (by have := (h176 0 (by omega)).1; rw [this]; show (c1.1 64 F).toInt - _ ≤ 0; omega) (p := (p : Int)) (by omega) T (by omega)
      have q1 := (h176 k (by omega)).1
      have q2 := (h176 (k + 1) (by omega)).1
      have hk2 : ((F + k : Nat) : Int) < (c1.1 62 2).toInt := by omega
      obtain ⟨ra1, ra2, ra3⟩ := h.2.1.1 (F + k) hk2
      have ern : rn (F + k) = 2000 + k := by have := (G14 (F + k) (by omega) hk2).1; omega
      rw [ern] at ra2 ra3
      have e36 : F + (k + 1) = F + k + 1 := rfl
      rw [e36] at q2
      have nk := ni_c (x := r1.1 176 k) (by have := hm k (by omega); omega)
      have mk := hm k (by omega)
      have nk2 := ni_c (x := c1.1 64 (F + k)) (by omega)
      have nk3 := ni_c (x := c1.1 64 F) m0
      obtain ⟨j, hj⟩ : ∃ j : Nat, (j : Int) = (p : Int) - (r1.1 176 k).toInt := ⟨((p : Int) - (r1.1 176 k).toInt).toNat, by omega⟩
      have q := ra3 j (by rw [ra2]; omega)
      unfold ri_ at q
      rw [if_neg (by omega), if_neg (by omega)] at q
      have i1 : 801 * 0 + (2000 + k) - 2000 = k := by omega
      rw [i1] at q
      have i2 : 8050 * 0 + ix_n (r1.1 176 k) + j = p := by omega
      rw [i2] at q
      have i3 : ix_n (c1.1 64 (F + k)) + j = ix_n (c1.1 64 F) + p := by omega
      rw [i3] at q
      have i4 : ix_n (c1.1 64 F) + p < S := by omega
      have r177 : r2.1 177 p = r1.1 177 p := g13 _ _ (by omega) (by omega) (by omega) (by omega) (by omega) (by omega)
      have c63 : c2.1 63 (ix_n (c1.1 64 F) + p) = c1.1 63 (ix_n (c1.1 64 F) + p) := g7 _ _ (by omega) (by omega) (by omega) (by omega) (by omega) (by omega) (by omega) (by omega) (by omega)
      rw [r177, c63, q]
      exact ⟨rfl, rw_i h.1.1 hk2 (by omega)⟩
    · obtain ⟨i, hi⟩ : ∃ i, p = A + i := ⟨p - A, by omega⟩
      have hiY : i < Y := by omega
      have nk3 := ni_c (x := c1.1 64 F) m0
      have i3 : ix_n (c1.1 64 F) + p = S + i := by omega
      have q1 := g16 i hiY
      have i2 : 8050 * 0 + A + i = p := by omega
      rw [i2] at q1
      rw [i3, q1, g10 i hiY]
      obtain ⟨j, j1, j2⟩ := hfr i hiY
      obtain ⟨t1, t2, t3, t4, t5⟩ := haq.2.2.2 j (by rw [← haq.1]; exact j1)
      have en : (fr i).toInt = -(c1.1 80 j).toInt := by rw [j2]; exact ta_neg (by omega)
      exact ⟨rfl, by omega, by omega, by omega⟩
/-- the rows learnt on both sides -/
def rl_ (c r : ix_D2) : Prop := ∃ F K : Nat, (c.1 61 16).toInt = (F : Int) ∧ (F : Int) + K ≤ (c.1 62 2).toInt ∧ (c.1 85 4).toInt = (K : Int) ∧ (r.1 179 0).toInt = (K : Int) ∧ K ≤ 800 ∧ F ≤ 564 ∧ 0 ≤ (c.1 64 F).toInt ∧ (c.1 64 F).toInt ≤ 3780 ∧ (∀ k, k ≤ K → (r.1 176 k).toInt = (c.1 64 (F + k)).toInt - (c.1 64 F).toInt ∧ 0 ≤ (r.1 176 k).toInt ∧ (r.1 176 k).toInt ≤ 8000) ∧ (∀ k, k < K → (r.1 176 k).toInt ≤ (r.1 176 (k + 1)).toInt) ∧ ∀ p : Nat, (p : Int) < (r.1 176 K).toInt → r.1 177 p = c.1 63 (ix_n (c.1 64 F) + p)
theorem rl_R (h : R_60 c r rn) : rl_ c r := by
  have hT1 := h.1.1.2.1
  have y2 := h.2.2.2.2.2.2.2.2.1.2.1
  have y3 := h.2.2.2.2.2.2.2.2.1.2.2.1
  have y4 := h.2.2.2.2.2.2.2.2.1.2.2.2.1
  have y18 : (c.1 61 16).toInt ≤ 564 := h.2.2.2.2.2.2.2.2.1.2.2.2.2.2.2.2.2.2.2.2.2.2.2.2.2.2.1
  have y11 := h.2.2.2.2.2.2.2.2.1.2.2.2.2.2.2.2.2.2.2.1
  have y19 := h.2.2.2.2.2.2.2.2.1.2.2.2.2.2.2.2.2.2.2.2.2.2.2.2.2.2.2
  obtain ⟨G1, G2, G3, G4, G5, G6, G7, G8, G9, G10, G11, G12, G13, G14, G15⟩ := h.2.1.2.1
  clear G4 G5 G6 G7 G8 G9 G10 G11 G15
  obtain ⟨F, g1⟩ : ∃ F : Nat, (F : Int) = (c.1 61 16).toInt := ⟨ix_n (c.1 61 16), ni_c (by omega)⟩
  obtain ⟨T, g2⟩ : ∃ T : Nat, (T : Int) = (c.1 85 8).toInt := ⟨ix_n (c.1 85 8), ni_c (by omega)⟩
  have nF : ix_n (c.1 61 16) = F := ni_k g1.symm
  rw [nF] at y11 y19
  have z8 : ∀ k, 801 * 0 + k = k := fun k => by omega
  have m0 := rw_0 h.1.1 (k := F) (by omega)
  have h176 : ∀ k, k ≤ T → (r.1 176 k).toInt = (c.1 64 (F + k)).toInt - (c.1 64 F).toInt ∧ (r.1 176 k).toInt ≤ 8000 := fun k hk => by
    have q := y11 k (by omega)
    rw [z8] at q
    exact q
  have hm : ∀ k, k ≤ T → (c.1 64 F).toInt ≤ (c.1 64 (F + k)).toInt := fun k hk => rw_m h.1.1 (k := F) (l := F + k) (by omega) (by omega)
  have e4 : (c.1 85 4).toInt = (T : Int) := by rw [y2]; omega
  refine ⟨F, T, g1.symm, by omega, e4, by omega, by omega, by omega, m0, y19, fun k hk => ?_, fun k hk => ?_, fun p hp => ?_⟩
  · have := h176 k hk
    have := hm k hk
    omega
  · have q1 := (h176 k (by omega)).1
    have q2 := (h176 (k + 1) (by omega)).1
    have q3 := rw_m h.1.1 (k := F + k) (l := F + (k + 1)) (by omega) (by omega)
    omega
  · obtain ⟨k, k1, k2, k3⟩ := rc_ex (f := fun k => (r.1 176 k).toInt) (by have := (h176 0 (by omega)).1; rw [this]; show (c.1 64 F).toInt - _ ≤ 0; omega) (p := (p : Int)) (by omega) T (by omega)
    have q1 := (h176 k (by omega)).1
    have q2 := (h176 (k + 1) (by omega)).1
    have hk2 : ((F + k : Nat) : Int) < (c.1 62 2).toInt := by omega
    obtain ⟨ra1, ra2, ra3⟩ := h.2.1.1 (F + k) hk2
    have ern : rn (F + k) = 2000 + k := by have := (G14 (F + k) (by omega) hk2).1; omega
    rw [ern] at ra2 ra3
    have e36 : F + (k + 1) = F + k + 1 := rfl
    rw [e36] at q2
    have nk := ni_c (x := r.1 176 k) (by have := hm k (by omega); omega)
    have mk := hm k (by omega)
    have nk2 := ni_c (x := c.1 64 (F + k)) (by omega)
    have nk3 := ni_c (x := c.1 64 F) m0
    obtain ⟨j, hj⟩ : ∃ j : Nat, (j : Int) = (p : Int) - (r.1 176 k).toInt := ⟨((p : Int) - (r.1 176 k).toInt).toNat, by omega⟩
    have q := ra3 j (by rw [ra2]; omega)
    unfold ri_ at q
    rw [if_neg (by omega), if_neg (by omega)] at q
    have i1 : 801 * 0 + (2000 + k) - 2000 = k := by omega
    rw [i1] at q
    have i2 : 8050 * 0 + ix_n (r.1 176 k) + j = p := by omega
    rw [i2] at q
    have i3 : ix_n (c.1 64 (F + k)) + j = ix_n (c.1 64 F) + p := by omega
    rw [i3] at q
    exact q
theorem rl_N (h : R_60 c1 r1 rn) (hnz : nz_60 c1 r1 rn c2 r2) : rl_ c2 r2 := by
  obtain ⟨F', K, a1, a2, a3, a4, a5, a6, a7, a8, a9, a10, a11⟩ := rl_R h
  have y4 := h.2.2.2.2.2.2.2.2.1.2.2.2.1
  have y2 := h.2.2.2.2.2.2.2.2.1.2.1
  have G12 := h.2.1.2.1.2.2.2.2.2.2.2.2.2.2.2.1
  obtain ⟨Y, fr, hY, ⟨F, T, A, S, g1, g2, g3, g4, g5, g6, g7, g8, g9, g10, g11, g12, g13, g14, g15, g16, g17, g18, g19, g20⟩, hfr, hco⟩ := hnz
  have eF : F' = F := by omega
  subst eF
  have eK : K = T := by omega
  subst eK
  rw [show 801 * 0 + K = K by omega] at g3
  have c64 : ∀ k, k ≤ F' + K → c2.1 64 k = c1.1 64 k := fun k hk => g7 _ _ (by omega) (by omega) (by omega) (by omega) (by omega) (by omega) (by omega) (by omega) (by omega)
  have r176 : ∀ k, k ≤ K → r2.1 176 k = r1.1 176 k := fun k hk => g13 _ _ (by omega) (by omega) (by omega) (by omega) (by omega) (by omega)
  have e16 : c2.1 61 16 = c1.1 61 16 := g7 _ _ (by omega) (by omega) (by omega) (by omega) (by omega) (by omega) (by omega) (by omega) (by omega)
  have e85 : c2.1 85 4 = c1.1 85 4 := g7 _ _ (by omega) (by omega) (by omega) (by omega) (by omega) (by omega) (by omega) (by omega) (by omega)
  have e179 : r2.1 179 0 = r1.1 179 0 := g13 _ _ (by omega) (by omega) (by omega) (by omega) (by omega) (by omega)
  have hAK := (a9 K (Nat.le_refl _)).1
  refine ⟨F', K, by rw [e16]; exact a1, by omega, by rw [e85]; exact a3, by rw [e179]; exact a4, a5, a6, by rw [c64 F' (by omega)]; exact a7, by rw [c64 F' (by omega)]; exact a8, fun k hk => by rw [r176 k hk, c64 _ (by omega), c64 _ (by omega)]; exact a9 k hk, fun k hk => by rw [r176 k (by omega), r176 (k + 1) (by omega)]; exact a10 k hk, fun p hp => ?_⟩
  rw [r176 K (Nat.le_refl _)] at hp
  rw [c64 F' (by omega)]
  have nk3 := ni_c (x := c1.1 64 F') a7
  have r177 : r2.1 177 p = r1.1 177 p := g13 _ _ (by omega) (by omega) (by omega) (by omega) (by omega) (by omega)
  have c63 : c2.1 63 (ix_n (c1.1 64 F') + p) = c1.1 63 (ix_n (c1.1 64 F') + p) := g7 _ _ (by omega) (by omega) (by omega) (by omega) (by omega) (by omega) (by omega) (by omega) (by omega)
  rw [r177, c63]
  exact a11 p hp
end REC

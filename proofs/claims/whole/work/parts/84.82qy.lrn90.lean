/-! the relation behind learn, piece by piece (90, 1) -/
def rx90_ (rn : Nat → Nat) (N M i : Nat) : Nat := if i = N then M else rn i
section LRY
variable {c0 r0 c7 r7 D E : ix_D2} {rn : Nat → Nat} {F T A S Y : Nat} {fr : Nat → Int32}
theorem rx_n90 {N M i : Nat} (h : i ≠ N) : rx90_ rn N M i = rn i := if_neg h
theorem rx_e90 {N M : Nat} : rx90_ rn N M N = M := if_pos rfl
theorem z_inS90 (hb : bi_90 c0) (hN : (c0.1 92 2).toInt = ((F + T : Nat) : Int)) (hS : (S : Int) = (c0.1 94 (F + T)).toInt) {i p : Nat} (hi : i < F + T) (hp : in_90 c0 i p) : p < S := by
  have := rw_m hb.1 (k := i + 1) (l := F + T) (by omega) (by omega)
  have := hp.2
  omega
theorem z_ra90 (hb : bi_90 c0) (hrr : rr_90 c0 r0 rn) (hN : (c0.1 92 2).toInt = ((F + T : Nat) : Int)) (hT : T < 800) (hA : (A : Int) = (r0.1 176 (801 * 1 + T)).toInt) (hA8 : (A : Int) + Y ≤ 8000) (hS : (S : Int) = (c0.1 94 (F + T)).toInt) (hAS : (A : Int) = (c0.1 94 (F + T)).toInt - (c0.1 94 F).toInt) (y11 : ∀ k : Nat, k ≤ T → (r0.1 176 (801 * 1 + k)).toInt = (c0.1 94 (F + k)).toInt - (c0.1 94 F).toInt) (rnF : ∀ i : Nat, i < F + T → rn i < 2000 ∨ (F ≤ i ∧ rn i = 2000 + (i - F))) (dN : (D.1 92 2).toInt = ((F + T : Nat) : Int) + 1) (d4a : ∀ i, i ≤ F + T → D.1 94 i = c0.1 94 i) (d4b : (D.1 94 (F + T + 1)).toInt = (S : Int) + Y) (d3a : ∀ p, p < S → D.1 93 p = c0.1 93 p) (d3b : ∀ i, i < Y → D.1 93 (S + i) = fr i) (c176 : ∀ j, j ≤ T → E.1 176 (801 * 1 + j) = r0.1 176 (801 * 1 + j)) (c177 : ∀ p, p < A → E.1 177 (8050 * 1 + p) = r0.1 177 (8050 * 1 + p)) (c176T : (E.1 176 (801 * 1 + (T + 1))).toInt = (A : Int) + Y) (c177T : ∀ j, j < Y → E.1 177 (8050 * 1 + A + j) = fr j) (e143 : E.1 143 = r0.1 143) (e144 : E.1 144 = r0.1 144) (e147 : E.1 147 = r0.1 147) (e148 : E.1 148 = r0.1 148) (e66 : E.1 125 66 = r0.1 125 66) : ra_90 D E (rx90_ rn (F + T) (2000 + T)) := by
  intro i hi
  rw [dN] at hi
  by_cases e : i = F + T
  · rw [e, rx_e90]
    have i1 : 801 * 1 + (2000 + T) - 2000 = 801 * 1 + T := by rw [show 801 * 1 + (2000 + T) = 801 * 1 + T + 2000 by omega, Nat.add_sub_cancel]
    have i2 : 801 * 1 + (2000 + T) - 1999 = 801 * 1 + (T + 1) := by rw [show 801 * 1 + (2000 + T) = 801 * 1 + (T + 1) + 1999 by omega, Nat.add_sub_cancel]
    have a1 : (E.1 176 (801 * 1 + T)).toInt = A := by rw [c176 T (Nat.le_refl T)]; exact hA.symm
    have nA : ix_n (E.1 176 (801 * 1 + T)) = A := ni_k a1
    have ez : (rz_ E.1 1 (2000 + T)).toInt = Y := by
      unfold rz_
      rw [if_neg (by omega), if_neg (by omega), i1, i2, ls_ c176T a1 (by omega) (by omega)]
      omega
    have nS : ix_n (D.1 94 (F + T)) = S := ni_k (by rw [d4a _ (Nat.le_refl _)]; exact hS.symm)
    refine ⟨Or.inr (Or.inr ⟨by omega, by omega, ?_, ?_, ?_⟩), ?_, fun j hj => ?_⟩
    · rw [i1, a1]; omega
    · rw [i1, i2, a1, c176T]; omega
    · rw [i2, c176T]; omega
    · rw [ez, d4b, d4a _ (Nat.le_refl _), ← hS]; omega
    · rw [ez] at hj
      unfold ri_
      rw [if_neg (by omega), if_neg (by omega), i1, nA, c177T j (by omega), nS, d3b j (by omega)]
  · rw [rx_n90 e, d4a i (by omega), d4a (i + 1) (by omega)]
    obtain ⟨a1, a2, a3⟩ := hrr.1 i (by omega)
    have hlt := rnF i (by omega)
    have rb := rw_b hb.1 (k := i) (by omega)
    have ni := ni_c rb.1
    have him : ∀ j : Nat, (j : Int) < (c0.1 94 (i + 1)).toInt - (c0.1 94 i).toInt → ix_n (c0.1 94 i) + j < S := fun j hj => z_inS90 hb hN hS (i := i) (by omega) ⟨by omega, by omega⟩
    by_cases e2 : rn i < 2000
    · have z1 : vr_ E.1 1 (rn i) := by
        rcases a1 with q | q | q
        · left; rw [e143]; exact q
        · right; left; rw [e147, e66]; exact q
        · omega
      have z2 : rz_ E.1 1 (rn i) = rz_ r0.1 1 (rn i) := by
        unfold rz_
        rw [e143, e147, e66]
        by_cases e3 : rn i < 1000
        · rw [if_pos e3, if_pos e3]
        · rw [if_neg e3, if_neg e3, if_pos e2, if_pos e2]
      refine ⟨z1, by rw [z2]; exact a2, fun j hj => ?_⟩
      rw [z2] at hj
      rw [d3a _ (him j (by omega)), ← a3 j hj]
      unfold ri_
      rw [e143, e144, e148, e66]
      by_cases e3 : rn i < 1000
      · rw [if_pos e3, if_pos e3]
      · rw [if_neg e3, if_neg e3, if_pos e2, if_pos e2]
    · obtain ⟨h1, h2⟩ := hlt.resolve_left e2
      have i1 : 801 * 1 + rn i - 2000 = 801 * 1 + (i - F) := by rw [show 801 * 1 + rn i = 801 * 1 + (i - F) + 2000 by omega, Nat.add_sub_cancel]
      have i2 : 801 * 1 + rn i - 1999 = 801 * 1 + (i - F + 1) := by rw [show 801 * 1 + rn i = 801 * 1 + (i - F + 1) + 1999 by omega, Nat.add_sub_cancel]
      have z2 : rz_ E.1 1 (rn i) = rz_ r0.1 1 (rn i) := by
        unfold rz_
        rw [if_neg (by omega), if_neg e2, if_neg (by omega), if_neg e2, i1, i2, c176 _ (by omega), c176 _ (by omega)]
      have y11a := y11 (i - F) (by omega)
      have y11b := y11 (i - F + 1) (by omega)
      rw [show F + (i - F) = i by omega] at y11a
      rw [show F + (i - F + 1) = i + 1 by omega] at y11b
      have mSi := rw_m hb.1 (k := i + 1) (l := F + T) (by omega) (by omega)
      refine ⟨?_, by rw [z2]; exact a2, fun j hj => ?_⟩
      · rcases a1 with q | q | q
        · omega
        · omega
        · right; right
          rw [i1, i2] at q ⊢
          rw [c176 _ (by omega), c176 _ (by omega)]
          exact q
      · rw [z2] at hj
        rw [d3a _ (him j (by omega)), ← a3 j hj]
        have m0' := rw_m hb.1 (k := F) (l := i) (by omega) (by omega)
        have na := ni_c (x := r0.1 176 (801 * 1 + (i - F))) (by omega)
        unfold ri_
        rw [if_neg (by omega), if_neg e2, if_neg (by omega), if_neg e2, i1, c176 _ (by omega), show 8050 * 1 + ix_n (r0.1 176 (801 * 1 + (i - F))) + j = 8050 * 1 + (ix_n (r0.1 176 (801 * 1 + (i - F))) + j) by omega, c177 _ (by omega)]
theorem z_rb90 (hrr : rr_90 c0 r0 rn) (hF : (F : Int) = (c0.1 91 16).toInt) (hN : (c0.1 92 2).toInt = ((F + T : Nat) : Int)) (hT : T < 800) (h15 : D.1 91 15 = c0.1 91 15) (h16 : D.1 91 16 = c0.1 91 16) (dN : (D.1 92 2).toInt = ((F + T : Nat) : Int) + 1) (e162 : E.1 162 = r0.1 162) (e163 : E.1 163 = r0.1 163) (e58 : E.1 125 58 = r0.1 125 58) (e67 : E.1 125 67 = r0.1 125 67) (c179 : (E.1 179 1).toInt = (T : Int) + 1) (g14 : ∀ i, F ≤ i → i < F + T → ((E.1 180 (800 * 1 + (i - F))).toInt = 0 ↔ 1000000 ≤ (D.1 98 i).toInt)) (g15 : ∀ i, i < F → (D.1 98 i).toInt < 1000000) (e180 : E.1 180 (800 * 1 + T) = 1) (d8b : (D.1 98 (F + T)).toInt < 1000000) : rb_90 D E (rx90_ rn (F + T) (2000 + T)) := by
  obtain ⟨G1, G2, G3, G4, G5, G6, G7, G8, G9, G10, G11, G12, G13, G14, G15⟩ := hrr.2.1
  unfold rb_90
  rw [h15, h16, dN, e162, e163, e58, e67]
  refine ⟨G1, G2, by omega, G4, G5, fun i hi => ?_, fun m hm1 hm2 => ?_, fun i j hij hj => ?_, G9, G10, fun i i1 i2 => ?_, by omega, by omega, fun i i1 i2 => ?_, fun i hi => g15 i (by omega)⟩
  · rw [rx_n90 (by omega)]; exact G6 i hi
  · obtain ⟨i, i1, i2⟩ := G7 m hm1 hm2
    exact ⟨i, i1, by rw [rx_n90 (by omega)]; exact i2⟩
  · rw [rx_n90 (by omega), rx_n90 (by omega)]; exact G8 i j hij hj
  · rw [rx_n90 (by omega)]; exact G11 i i1 i2
  · by_cases e : i = F + T
    · rw [e, rx_e90, show 2000 + T - 2000 = T by omega, e180]
      exact ⟨by omega, fun q => absurd q (by decide), fun q => by omega⟩
    · rw [rx_n90 e]
      have a := (G14 i i1 (by omega)).1
      have g := g14 i (by omega) (by omega)
      refine ⟨a, ?_⟩
      rw [show rn i - 2000 = i - F by omega]
      exact g
theorem z_rt90 (rt7 : rt_90 c7 r7 rn) (f72 : (c7.1 92 2).toInt = ((F + T : Nat) : Int)) (dN : (D.1 92 2).toInt = ((F + T : Nat) : Int) + 1) (e1 : D.1 91 = c7.1 91) (e12 : D.1 102 = c7.1 102) (e13 : D.1 103 = c7.1 103) (e14 : D.1 104 = c7.1 104) (e15 : D.1 105 = c7.1 105) (rE7 : ∀ a i, 167 ≤ a → a ≤ 175 → E.1 a i = r7.1 a i) : rt_90 D E (rx90_ rn (F + T) (2000 + T)) := by
  obtain ⟨x1, x2, x3, x4⟩ := rt7
  refine ⟨by rw [rE7 _ _ (by omega) (by omega), e1]; exact x1, by rw [rE7 _ _ (by omega) (by omega), e1]; exact x2, fun i hi => ?_, fun m hm => by rw [rE7 _ _ (by omega) (by omega), e12]; exact x4 m hm⟩
  rw [e1] at hi
  have q := x3 i hi
  rw [rE7 _ _ (by omega) (by omega), rE7 _ _ (by omega) (by omega), rE7 _ _ (by omega) (by omega), e13, e14, e15]
  refine ⟨q.1, q.2.1, ?_⟩
  rcases q.2.2 with q | ⟨k', k1, k2, k3⟩
  · exact Or.inl q
  · have hk : k' < F + T := by omega
    exact Or.inr ⟨k', by rw [dN]; omega, k2, by rw [rx_n90 (by omega)]; exact k3⟩
theorem z_la90 (hb : bi_90 c0) (la7 : la_90 c7) (rt7 : rt_90 c7 r7 rn) (hN : (c0.1 92 2).toInt = ((F + T : Nat) : Int)) (hFT : F + T < 2000) (hS : (S : Int) = (c0.1 94 (F + T)).toInt) (f72 : c7.1 92 = c0.1 92) (f73 : c7.1 93 = c0.1 93) (f74 : c7.1 94 = c0.1 94) (dN : (D.1 92 2).toInt = ((F + T : Nat) : Int) + 1) (d4a : ∀ i, i ≤ F + T → D.1 94 i = c0.1 94 i) (d3a : ∀ p, p < S → D.1 93 p = c0.1 93 p) (e1 : D.1 91 = c7.1 91) (e11 : D.1 101 = c7.1 101) (e13 : D.1 103 = c7.1 103) (e14 : D.1 104 = c7.1 104) (e15 : D.1 105 = c7.1 105) : la_90 D := by
  obtain ⟨g1, g2, g3, g4, g5, g6⟩ := la7
  have leD : ∀ i, le_90 D i = le_90 c7 i := fun i => by unfold le_90; rw [e13, e15]
  refine ⟨by rw [e1]; exact g1, fun i hi => ?_, fun i j hij hj => ?_, fun i hi hn' => ?_, fun i k' hi hk1 hk2 => ?_, fun m m1 m2 hm => ?_⟩
  · rw [e1] at hi; rw [leD, e1]; exact g2 i hi
  · rw [e1] at hj; rw [leD, leD]; exact g3 i j hij hj
  · rw [e1] at hi
    rw [e14, e15] at hn'
    simp only [leD]
    exact g4 i hi hn'
  · rw [e1] at hi
    rw [e14, e15] at hk1
    rw [dN] at hk2
    have hk' : k' < F + T := by
      have q := (rt7.2.2.1 i hi).2.2
      rw [f72, hk1, nI_ti (by omega)] at q
      rcases q with q | ⟨k2, b1, b2, b3⟩
      · omega
      · have := congrArg Int32.toInt b2
        rw [nI_ti (by omega), nI_ti (by omega)] at this
        omega
    have q := g5 i k' hi hk1 (by rw [f72]; omega)
    unfold in_90 at q
    rw [f73, f74] at q
    rw [e15]
    have inD : ∀ p, in_90 D k' p ↔ in_90 c0 k' p := fun p => by unfold in_90; rw [d4a k' (by omega), d4a (k' + 1) (by omega)]
    refine ⟨?_, fun p hp => ?_⟩
    · obtain ⟨p, hp, hpe⟩ := q.1
      exact ⟨p, (inD p).mpr hp, by rw [d3a p (z_inS90 hb hN hS hk' hp)]; exact hpe⟩
    · have hp0 := (inD p).mp hp
      rw [d3a p (z_inS90 hb hN hS hk' hp0)]
      exact q.2 p hp0
  · rw [e11] at hm
    rw [e1, e15]
    exact g6 m m1 m2 hm
/-- no row is false all through -/
theorem z_ql90 (hb : bi_90 c0) (htk : tk_90 c0) (hql : ql_90 c0) (la7 : la_90 c7) (hL : 0 < (c0.1 91 13).toInt) (hlL : (c7.1 91 13).toInt < (c0.1 91 13).toInt) (hN : (c0.1 92 2).toInt = ((F + T : Nat) : Int)) (hS : (S : Int) = (c0.1 94 (F + T)).toInt) (hY : 1 ≤ Y) (dN : (D.1 92 2).toInt = ((F + T : Nat) : Int) + 1) (d4a : ∀ i, i ≤ F + T → D.1 94 i = c0.1 94 i) (d4b : (D.1 94 (F + T + 1)).toInt = (S : Int) + Y) (d3a : ∀ p, p < S → D.1 93 p = c0.1 93 p) (d3b : D.1 93 S = fr 0) (e11 : D.1 101 = c7.1 101) (f715 : c7.1 105 = c0.1 105) {j0 : Nat} (j1 : (j0 : Int) < (c0.1 91 12).toInt) (j2 : fr 0 = -(c0.1 105 j0)) (j3 : le_90 c0 j0 = (c0.1 91 13).toInt) (kept7 : ∀ i : Nat, (i : Int) < (c7.1 91 12).toInt → le_90 c0 i ≤ (c7.1 91 13).toInt ∧ c7.1 101 (ix_n (ix_abs (c0.1 105 i))) = c0.1 101 (ix_n (ix_abs (c0.1 105 i)))) (hgone : ∀ i, i < F + T → (D.1 98 i).toInt < 1000000 → (c0.1 98 i).toInt < 1000000) : ql_90 D := by
  intro hl' i hi hg hf
  exfalso
  rw [dN] at hi
  have vlD : ∀ u : Int32, vl_ D.1 101 u = vl_ c7.1 101 u := fun u => by unfold vl_; rw [e11]
  have val7 : ∀ m : Nat, 1 ≤ m → m ≤ 300 → (c7.1 101 m).toInt ≠ 0 → c7.1 101 m = c0.1 101 m ∧ (c0.1 103 m).toInt ≤ (c7.1 91 13).toInt := fun m m1 m2 hm => by
    obtain ⟨j, b1, b2⟩ := la7.2.2.2.2.2 m m1 m2 hm
    rw [f715] at b2
    have q := kept7 j b1
    unfold le_90 at q
    rw [b2] at q
    exact ⟨q.2, q.1⟩
  by_cases e : i = F + T
  · have hp : in_90 D i S := by unfold in_90; rw [e, d4a _ (Nat.le_refl _), d4b]; omega
    have hv := hf S hp
    rw [d3b, vlD] at hv
    obtain ⟨w0, w1', w2, _⟩ := htk.2.2.1 j0 j1
    obtain ⟨nb1, nb2, _, _⟩ := na_b w0 w1' w2
    have hne : (c7.1 101 (ix_n (ix_abs (c0.1 105 j0)))).toInt ≠ 0 := by
      intro e0
      rw [j2, vl_a, na_n w1' w2] at hv
      split at hv <;> omega
    have b4 := (val7 _ nb1 nb2 hne).2
    unfold le_90 at j3
    omega
  · have hlt : i < F + T := by omega
    have inD : ∀ p, in_90 D i p ↔ in_90 c0 i p := fun p => by unfold in_90; rw [d4a i (by omega), d4a (i + 1) (by omega)]
    have hall : ∀ p, in_90 c0 i p → vl_ c0.1 101 (c0.1 93 p) = -1 ∧ (c0.1 103 (ix_n (ix_abs (c0.1 93 p)))).toInt ≤ (c7.1 91 13).toInt := fun p hp => by
      have hv := hf p ((inD p).mpr hp)
      rw [d3a p (z_inS90 hb hN hS hlt hp), vlD] at hv
      have hit := rw_i hb.1 (k := i) (by omega) hp.2
      obtain ⟨nb1, nb2, _, _⟩ := na_b hit.1 hit.2.1 hit.2.2
      have hne : (c7.1 101 (ix_n (ix_abs (c0.1 93 p)))).toInt ≠ 0 := by
        intro e0
        rw [vl_a] at hv
        split at hv <;> omega
      obtain ⟨b3, b4⟩ := val7 _ nb1 nb2 hne
      refine ⟨?_, b4⟩
      rw [vl_a, b3, ← vl_a] at hv
      exact hv
    obtain ⟨p, hp, hpl⟩ := hql hL i (by omega) (hgone i hlt hg) (fun p hp => (hall p hp).1)
    have := (hall p hp).2
    omega
theorem z_nb90 (hnb : nb_90 c0) (hN : (c0.1 92 2).toInt = ((F + T : Nat) : Int)) (hS : (S : Int) = (c0.1 94 (F + T)).toInt) (dN : (D.1 92 2).toInt = ((F + T : Nat) : Int) + 1) (d4b : (D.1 94 (F + T + 1)).toInt = (S : Int) + Y) (d3a : ∀ p, p < S → D.1 93 p = c0.1 93 p) (d3b : ∀ i, i < Y → D.1 93 (S + i) = fr i) (h14 : D.1 91 14 = c0.1 91 14) (e15 : D.1 105 = c0.1 105) (ht : (D.1 91 12).toInt ≤ (c0.1 91 12).toInt) (frb : ∀ i, i < Y → (ix_n (ix_abs (fr i)) : Int) ≤ (c0.1 91 14).toInt) : nb_90 D := by
  refine ⟨fun p hp => ?_, fun i hi => ?_⟩
  · rw [h14]
    have nD : ix_n (D.1 92 2) = F + T + 1 := ni_k (by rw [dN]; omega)
    have nN : ix_n (c0.1 92 2) = F + T := ni_k hN
    rw [nD, d4b] at hp
    by_cases e : p < S
    · rw [d3a p e]
      exact hnb.1 p (by rw [nN]; omega)
    · obtain ⟨i, rfl⟩ : ∃ i, p = S + i := ⟨p - S, by omega⟩
      rw [d3b i (by omega)]
      exact frb i (by omega)
  · rw [e15, h14]
    exact hnb.2 i (by omega)
end LRY

/-! the latest solver at rest, where rows beyond those that there are have changed -/
section LTP
variable {c r r' d d' : ix_D2} {rn : Nat → Nat}
set_option maxHeartbeats 4000000 in
theorem R_p60 (h : R_60 c r rn) (h58 : (r.1 125 58).toInt = 0) (e3 : ∀ a i, q0i a i → a ≠ 143 → a ≠ 144 → r'.1 a i = r.1 a i) (e4 : ∀ a i, q0l a i → r'.2 a i = r.2 a i) (e143 : ∀ k : Nat, (k : Int) ≤ (r.1 162 0).toInt → r'.1 143 k = r.1 143 k) (e144 : ∀ p : Nat, (p : Int) < (r.1 143 (ix_n (r.1 162 0))).toInt → r'.1 144 p = r.1 144 p) (hmo : ∀ k : Nat, (k : Int) < (r.1 162 0).toInt → (r.1 143 (k + 1)).toInt ≤ (r.1 143 (ix_n (r.1 162 0))).toInt) : R_60 c r' rn := by
  have hT1 := h.1.1.2.1
  have y4 := h.2.2.2.2.2.2.2.2.1.2.2.2.1
  have y18 : (c.1 61 16).toInt ≤ 564 := h.2.2.2.2.2.2.2.2.1.2.2.2.2.2.2.2.2.2.2.2.2.2.2.2.2.2.1
  obtain ⟨hb, hrr, htk, hrt, hlv, hrs, hwg, hnb, hty, haq, hcq⟩ := h
  obtain ⟨G1, G2, G3, G4, G5, G6, G7, G8, G9, G10, G11, G12, G13, G14, G15⟩ := hrr.2.1
  have h10 := G10 (by omega)
  have f188 : r'.1 188 = r.1 188 := funext fun k => e3 _ _ (by unfold q0i; omega) (by omega) (by omega)
  have p0 : ∀ a, (a = 161 ∨ a = 162 ∨ a = 165 ∨ a = 174 ∨ a = 175 ∨ a = 178 ∨ a = 179 ∨ a = 185 ∨ a = 186) → r'.1 a 0 = r.1 a 0 := fun a ha => e3 _ _ (by unfold q0i; omega) (by omega) (by omega)
  have p176 : ∀ i, i ≤ 800 → r'.1 176 i = r.1 176 i := fun i hi => e3 _ _ (by unfold q0i; omega) (by omega) (by omega)
  have p177 : ∀ i, i < 8050 → r'.1 177 i = r.1 177 i := fun i hi => e3 _ _ (by unfold q0i; omega) (by omega) (by omega)
  have pn : ∀ a i, 167 ≤ a → a ≤ 170 → i ≤ 300 → r'.1 a i = r.1 a i := fun a i q1 q2 q3 => e3 _ _ (by unfold q0i; omega) (by omega) (by omega)
  have e58 : r'.1 125 58 = r.1 125 58 := e3 _ _ (by unfold q0i; omega) (by omega) (by omega)
  have e30 : r'.1 125 30 = r.1 125 30 := e3 _ _ (by unfold q0i; omega) (by omega) (by omega)
  have e31 : r'.1 125 31 = r.1 125 31 := e3 _ _ (by unfold q0i; omega) (by omega) (by omega)
  have e91 : r'.1 125 91 = r.1 125 91 := e3 _ _ (by unfold q0i; omega) (by omega) (by omega)
  have nmb : ∀ i : Nat, (i : Int) < (c.1 61 12).toInt → ix_n (ix_abs (c.1 75 i)) ≤ 300 := fun i hi => by
    obtain ⟨q0, q1, q2, _⟩ := htk.2.2.1 i hi
    exact (na_b q0 q1 q2).2.1
  have ht3 := htk.2.1
  have hs8 : (c.1 85 8).toInt ≤ 800 := by omega
  refine ⟨hb, ⟨fun k hk => ?_, ?_, fun m hm => ?_⟩, htk, ⟨?_, ?_, fun i hi => ?_, fun m hm => ?_⟩, hlv, fun hid => ⟨fun k w hk hw => ?_, fun i w hi h0 hw => ?_⟩, ?_, hnb, ?_, ?_, ?_⟩
  · obtain ⟨a1, a2, a3⟩ := hrr.1 k hk
    have hrow : (rn k < 500 ∧ (rn k : Int) < (r.1 162 0).toInt) ∨ (2000 ≤ rn k ∧ rn k < 2800) := by
      by_cases e : (k : Int) < (c.1 61 15).toInt
      · have := (G6 k e).1; omega
      · have := (G14 k (by omega) hk).1; omega
    have ez : rz_ r'.1 0 (rn k) = rz_ r.1 0 (rn k) := by
      unfold rz_
      rcases hrow with q | q
      · rw [if_pos (by omega), if_pos (by omega), e143 _ (by omega), e143 _ (by omega)]
      · rw [if_neg (by omega), if_neg (by omega), if_neg (by omega), if_neg (by omega), p176 _ (by omega), p176 _ (by omega)]
    refine ⟨?_, by rw [ez]; exact a2, fun j hj => ?_⟩
    · rcases a1 with q | q | q
      · have hw : (rn k : Int) < (r.1 162 0).toInt := by omega
        exact Or.inl (by rw [e143 _ (by omega), e143 _ (by omega)]; exact q)
      · exact absurd q.1 (by omega)
      · exact Or.inr (Or.inr (by rw [p176 _ (by omega), p176 _ (by omega)]; exact q))
    · rw [ez] at hj
      have q := a3 j hj
      have rzb := hj
      unfold ri_ at q ⊢
      rcases hrow with w | w
      · rw [if_pos (by omega)] at q ⊢
        rw [e143 _ (by omega)]
        have v : 0 ≤ (r.1 143 (rn k)).toInt ∧ (r.1 143 (rn k)).toInt ≤ (r.1 143 (rn k + 1)).toInt ∧ (r.1 143 (rn k + 1)).toInt ≤ 2500 := by
          rcases a1 with v | v | v
          · exact v.2
          · exact absurd v.1 (by omega)
          · exact absurd v.1 (by omega)
        have rze : (rz_ r.1 0 (rn k)).toInt = (r.1 143 (rn k + 1)).toInt - (r.1 143 (rn k)).toInt := by
          unfold rz_
          rw [if_pos (by omega), ta_sub (by omega) (by omega)]
        rw [rze] at hj
        have nk := ni_c (x := r.1 143 (rn k)) v.1
        have hm := hmo (rn k) (by omega)
        rw [e144 _ (by omega)]
        exact q
      · rw [if_neg (by omega), if_neg (by omega)] at q ⊢
        rcases a1 with v | v | v
        · exact absurd v.1 (by omega)
        · exact absurd v.1 (by omega)
        · have nk := ni_c (x := r.1 176 (801 * 0 + rn k - 2000)) v.2.2.1
          have rze : (rz_ r.1 0 (rn k)).toInt = (r.1 176 (801 * 0 + rn k - 1999)).toInt - (r.1 176 (801 * 0 + rn k - 2000)).toInt := by
            unfold rz_
            rw [if_neg (by omega), if_neg (by omega), ta_sub (by omega) (by omega)]
          rw [rze] at hj
          rw [p176 _ (by omega), p177 _ (by omega)]
          exact q
  · refine ⟨G1, G2, G3, by rw [p0 162 (by omega)]; exact G4, by rw [p0 162 (by omega)]; exact G5, fun k hk => ?_, fun m hm hm2 => ?_, G8, fun q => absurd q (by rw [e58]; omega), fun _ => h10, G11, by rw [p0 179 (by omega)]; exact G12, by rw [p0 179 (by omega)]; exact G13, fun k k1 k2 => ?_, G15⟩
    · have q := G6 k hk
      rw [p0 162 (by omega), e3 163 _ (by unfold q0i; omega) (by omega) (by omega)]
      exact q
    · rw [p0 162 (by omega)] at hm
      rw [e3 163 _ (by unfold q0i; omega) (by omega) (by omega)] at hm2
      exact G7 m hm hm2
    · have q := G14 k k1 k2
      rw [e3 180 _ (by unfold q0i; omega) (by omega) (by omega)]
      exact q
  · rw [pn _ _ (by omega) (by omega) (by omega)]; exact hrr.2.2 m hm
  · rw [p0 174 (by omega)]; exact hrt.1
  · rw [p0 175 (by omega)]; exact hrt.2.1
  · have q := hrt.2.2.1 i hi
    have nb := nmb i hi
    rw [e3 173 _ (by unfold q0i; omega) (by omega) (by omega), pn 168 _ (by omega) (by omega) (by omega), pn 169 _ (by omega) (by omega) (by omega)]
    exact q
  · rw [pn _ _ (by omega) (by omega) (by omega)]; exact hrt.2.2.2 m hm
  · rw [e4 182 _ (by unfold q0l; omega)]; exact (hrs hid).1 k w hk hw
  · have nb := nmb i hi
    rw [e4 183 _ (by unfold q0l; omega)]; exact (hrs hid).2 i w hi h0 hw
  · obtain ⟨w1, w2, w3, w4, w5, w6, w7⟩ := hwg
    refine ⟨by rw [p0 161 (by omega)]; exact w1, by rw [p0 161 (by omega)]; exact w2, by rw [p0 161 (by omega)]; exact w3, fun m m1 m2 => ?_, by rw [e4 172 _ (by unfold q0l; omega)]; exact w5, w6, w7⟩
    rw [p0 161 (by omega)] at m2
    rw [e4 171 _ (by unfold q0l; omega)]
    exact w4 m m1 m2
  · obtain ⟨y1, y2, y3, y4', y5, y6, y7, y8, y9, y10, y11, y12, y13, y14, y15, y16, y17, y18', y19⟩ := hty
    refine ⟨fun k hk => ?_, by rw [p0 179 (by omega)]; exact y2, by rw [p0 178 (by omega)]; exact y3, y4', y5, by rw [p0 185 (by omega)]; exact y6, by rw [p0 186 (by omega)]; exact y7, y8, y9, fun k hk => ?_, fun k hk => ?_, by rw [e30]; exact y12, by rw [e31]; exact y13, by rw [e30]; exact y14, by rw [e30]; exact y15, by rw [e31]; exact y16, by rw [e31]; exact y17, y18', y19⟩
    · have h10 : k < 10 := by unfold tt_ at hk; omega
      rw [e3 187 _ (by unfold q0i; omega) (by omega) (by omega)]; exact y1 k hk
    · rw [e3 181 _ (by unfold q0i; omega) (by omega) (by omega)]; exact y10 k hk
    · rw [p176 _ (by omega)]; exact y11 k hk
  · obtain ⟨a1, a2, a3, a4⟩ := haq
    refine ⟨by rw [p0 165 (by omega)]; exact a1, by rw [p0 165 (by omega)]; exact a2, by rw [p0 165 (by omega)]; exact a3, fun i hi => ?_⟩
    rw [p0 165 (by omega)] at hi
    rw [e3 164 _ (by unfold q0i; omega) (by omega) (by omega)]
    exact a4 i hi
  · unfold cq_60
    rw [e91, f188]
    exact hcq
set_option maxHeartbeats 4000000 in
theorem lt_k2 (h : lt_ d) (e1 : ∀ a k, 60 ≤ a → a ≤ 89 → (a < 76 ∨ 78 < a) → d'.1 a k = d.1 a k ∧ d'.2 a k = d.2 a k) (e14 : (d'.1 0 14).toInt = 1 → (d.1 0 14).toInt = 1 ∧ d'.1 52 2 = d.1 52 2 ∧ (∀ a i, q0i a i → a ≠ 143 → a ≠ 144 → d'.1 a i = d.1 a i) ∧ (∀ a i, q0l a i → d'.2 a i = d.2 a i) ∧ (∀ k : Nat, (k : Int) ≤ (d.1 162 0).toInt → d'.1 143 k = d.1 143 k) ∧ (∀ p : Nat, (p : Int) < (d.1 143 (ix_n (d.1 162 0))).toInt → d'.1 144 p = d.1 144 p) ∧ ∀ k : Nat, (k : Int) < (d.1 162 0).toInt → (d.1 143 (k + 1)).toInt ≤ (d.1 143 (ix_n (d.1 162 0))).toInt) (e3 : ∀ a i, q0i a i → (a = 161 ∨ (176 ≤ a ∧ a ≤ 180) ∨ (187 ≤ a ∧ a ≤ 188) ∨ (a = 125 ∧ i = 91)) → d'.1 a i = d.1 a i) (e4 : ∀ i, i ≤ 300 → d'.2 171 i = d.2 171 i) (e160 : ∀ i, d'.1 160 i = d.1 160 i) (e166 : d'.1 166 0 = d.1 166 0) (hco : (d'.1 85 0).toInt = 0 → d'.1 0 13 = 0 → d.1 0 13 = 0 ∧ ((∃ T : Nat, (T : Int) ≤ (d.1 52 2).toInt ∧ co_ d d T) → ∃ T : Nat, (T : Int) ≤ (d'.1 52 2).toInt ∧ co_ d' d' T)) : lt_ d' := by
  obtain ⟨h1, h2, h3, h4, h5, h6⟩ := h
  have f85 : d'.1 85 = d.1 85 := funext fun k => (e1 _ _ (by omega) (by omega) (by omega)).1
  have f61 : d'.1 61 = d.1 61 := funext fun k => (e1 _ _ (by omega) (by omega) (by omega)).1
  have f62 : d'.1 62 = d.1 62 := funext fun k => (e1 _ _ (by omega) (by omega) (by omega)).1
  have f63 : d'.1 63 = d.1 63 := funext fun k => (e1 _ _ (by omega) (by omega) (by omega)).1
  have f64 : d'.1 64 = d.1 64 := funext fun k => (e1 _ _ (by omega) (by omega) (by omega)).1
  have f71 : d'.1 71 = d.1 71 := funext fun k => (e1 _ _ (by omega) (by omega) (by omega)).1
  have f86 : d'.1 86 = d.1 86 := funext fun k => (e1 _ _ (by omega) (by omega) (by omega)).1
  have m79 : d'.2 79 = d.2 79 := funext fun k => (e1 _ _ (by omega) (by omega) (by omega)).2
  have f160 : d'.1 160 = d.1 160 := funext e160
  have g161 : d'.1 161 0 = d.1 161 0 := e3 _ _ (by unfold q0i; omega) (by omega)
  have g178 : d'.1 178 0 = d.1 178 0 := e3 _ _ (by unfold q0i; omega) (by omega)
  have g179 : d'.1 179 0 = d.1 179 0 := e3 _ _ (by unfold q0i; omega) (by omega)
  have g91 : d'.1 125 91 = d.1 125 91 := e3 _ _ (by unfold q0i; omega) (by omega)
  have f188 : d'.1 188 = d.1 188 := funext fun k => e3 _ _ (by unfold q0i; omega) (by omega)
  have g176 : ∀ i, i ≤ 800 → d'.1 176 i = d.1 176 i := fun i hi => e3 _ _ (by unfold q0i; omega) (by omega)
  have g177 : ∀ i, i < 8050 → d'.1 177 i = d.1 177 i := fun i hi => e3 _ _ (by unfold q0i; omega) (by omega)
  refine ⟨?_, by rw [f85, e166]; exact h2, by rw [f85, f71, f160, g161]; exact h3, fun hg => ?_, fun hs hb => ?_, ?_⟩
  · obtain ⟨a0, ⟨b1, b2, b3, b4, b5⟩, hcq, c1, c2, c3, c4⟩ := h1
    refine ⟨by rw [f62, f64]; exact a0, ⟨fun k hk => ?_, by rw [f85, g178]; exact b2, by rw [g179]; exact b3, by rw [g179]; exact b4, ?_⟩, ?_, by rw [f61, g161]; exact c1, by rw [g161]; exact c2, by rw [g161]; exact c3, fun m m1 m2 => ?_⟩
    · have h10 : k < 10 := by unfold tt_ at hk; omega
      rw [f85, e3 187 k (by unfold q0i; omega) (by omega)]; exact b1 k hk
    · rw [f85, g179, b5]
      refine sm_c (fun p p1 p2 => ?_)
      have nk := ni_c b3
      rw [e3 180 p (by unfold q0i; omega) (by omega)]
    · unfold cq_60; rw [f86, g91, f188]; exact hcq
    · rw [g161] at m2
      rw [m79, e4 m (by omega)]; exact c4 m m1 m2
  · obtain ⟨k1, k2, k3, k4, k5, k6, k7⟩ := e14 hg
    obtain ⟨t1, t2, t3, t4, rn, hR⟩ := h4 k1
    have g162 : d'.1 162 0 = d.1 162 0 := k3 _ _ (by unfold q0i; omega) (by omega) (by omega)
    have g58 : d'.1 125 58 = d.1 125 58 := k3 _ _ (by unfold q0i; omega) (by omega) (by omega)
    have g174 : d'.1 174 0 = d.1 174 0 := k3 _ _ (by unfold q0i; omega) (by omega) (by omega)
    have h162 := hR.2.1.2.1.2.2.2.2.1
    have h178 : (d.1 178 0).toInt ≤ 800 := by
      have q1 := hR.2.2.2.2.2.2.2.2.1.2.2.1
      have q2 := hR.2.2.2.2.2.2.2.2.1.2.2.2.1
      have q3 := hR.1.1.2.1
      have G := hR.2.1.2.1
      obtain ⟨G1, G2, G3, G4, G5, G6, G7, G8, G9, G10, G11, G12, G13, G14, G15⟩ := G
      rw [← q1]; omega
    refine ⟨by rw [k2, g162]; exact t1, by rw [g58]; exact t2, fun q m hm => ?_, ⟨fun m w hm hw => ?_, fun k w hk hw => ?_, fun i w hi h0 hw => ?_⟩, rn, ?_⟩
    · rw [g162] at hm
      rw [k3 163 _ (by unfold q0i; omega) (by omega) (by omega)]; exact t3 q m hm
    · rw [g162] at hm ⊢
      exact t4.1 m w hm hw
    · rw [g178] at hk
      rw [g162, k4 182 _ (by unfold q0l; omega)]
      exact t4.2.1 k w hk hw
    · rw [g174] at hi
      have e174 : d.1 61 12 = d.1 174 0 := hR.2.2.2.1.1.symm
      have hi2 : (i : Int) < (d.1 61 12).toInt := by rw [e174]; exact hi
      have ht3 := hR.2.2.1.2.1
      obtain ⟨q0, q1, q2, _⟩ := hR.2.2.1.2.2.1 i hi2
      have nb := (na_b q0 q1 q2).2.1
      have e173 : d.1 75 i = d.1 173 (300 * 0 + i) := (hR.2.2.2.1.2.2.1 i hi2).1.symm
      have g173 : d'.1 173 (300 * 0 + i) = d.1 173 (300 * 0 + i) := k3 173 _ (by unfold q0i; omega) (by omega) (by omega)
      rw [e173] at nb
      rw [g173] at h0 ⊢
      rw [k3 168 _ (by unfold q0i; omega) (by omega) (by omega)] at h0
      rw [g162, k4 183 _ (by unfold q0l; omega)]
      exact t4.2.2 i w hi h0 hw
    · exact R_h60 (R_p60 hR (by rw [t2]; rfl) k3 k4 k5 k6 k7) (by rw [g58, t2]; rfl) (fun a i a1 a2 a3 => (e1 a i a1 a2 a3).1) (fun a i a1 a2 a3 => (e1 a i a1 a2 a3).2) (fun _ _ _ _ _ _ _ => rfl) (fun _ _ _ _ => rfl)
  · obtain ⟨q1, q2⟩ := hco hs hb
    rw [f85] at hs
    obtain ⟨T, hT, hc, hr⟩ := h5 hs q1
    obtain ⟨T', hT', hc'⟩ := q2 ⟨T, hT, hc⟩
    refine ⟨T', hT', hc', ?_⟩
    obtain ⟨F, K, r1, r2, r3, r4, r5, r6, r7, r8, r9, r10⟩ := hr
    refine ⟨F, K, by rw [f61]; exact r1, by rw [f62]; exact r2, by rw [g178]; exact r3, r4, r5, by rw [f64]; exact r6, by rw [f64]; exact r7, fun k hk => ?_, fun k hk => ?_, fun p hp => ?_⟩
    · rw [g176 k (by omega), f64]; exact r8 k hk
    · rw [g176 k (by omega), g176 (k + 1) (by omega)]; exact r9 k hk
    · rw [g176 K (by omega)] at hp
      have := (r8 K (Nat.le_refl _)).2.2
      rw [g177 p (by omega), f63, f64]; exact r10 p hp
  · obtain ⟨F, K, r1, r2, r3, r3b, r4, r5, r6, r7, r8, r9, r10⟩ := h6
    refine ⟨F, K, by rw [f61]; exact r1, by rw [f62]; exact r2, by rw [f85]; exact r3, by rw [g179]; exact r3b, r4, r5, by rw [f64]; exact r6, by rw [f64]; exact r7, fun k hk => ?_, fun k hk => ?_, fun p hp => ?_⟩
    · rw [g176 k (by omega), f64]; exact r8 k hk
    · rw [g176 k (by omega), g176 (k + 1) (by omega)]; exact r9 k hk
    · rw [g176 K (by omega)] at hp
      have := (r8 K (Nat.le_refl _)).2.2
      rw [g177 p (by omega), f63, f64]; exact r10 p hp
end LTP

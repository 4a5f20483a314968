/-! the latest solver's own places of the reference: the second solver's runs leave it at rest -/
/-- ints and longs that the first solver of the reference has as its own -/
def q0i (a i : Nat) : Prop := (143 ≤ a ∧ a ≤ 144) ∨ ((a = 161 ∨ a = 162 ∨ a = 165 ∨ a = 174 ∨ a = 175 ∨ a = 178 ∨ a = 179 ∨ a = 185 ∨ a = 186) ∧ i = 0) ∨ (a = 163 ∧ i < 500) ∨ (a = 164 ∧ i < 20) ∨ (167 ≤ a ∧ a ≤ 170 ∧ i ≤ 300) ∨ (a = 173 ∧ i < 300) ∨ (a = 176 ∧ i ≤ 800) ∨ (a = 177 ∧ i < 8050) ∨ ((a = 180 ∨ a = 181) ∧ i < 800) ∨ (a = 187 ∧ i < 10) ∨ a = 188 ∨ (a = 125 ∧ (i = 30 ∨ i = 31 ∨ i = 58 ∨ i = 91))
def q0l (a i : Nat) : Prop := (a = 171 ∧ i ≤ 300) ∨ (a = 172 ∧ i = 0) ∨ (a = 182 ∧ i < 6400) ∨ (a = 183 ∧ i < 2408)
section QZR
variable {c r r' : ix_D2} {rn : Nat → Nat}
set_option maxHeartbeats 4000000 in
theorem R_q60 (h : R_60 c r rn) (h58 : (r.1 125 58).toInt = 0) (e3 : ∀ a i, q0i a i → r'.1 a i = r.1 a i) (e4 : ∀ a i, q0l a i → r'.2 a i = r.2 a i) : R_60 c r' rn := by
  have hT1 := h.1.1.2.1
  have y4 := h.2.2.2.2.2.2.2.2.1.2.2.2.1
  have y18 : (c.1 61 16).toInt ≤ 564 := h.2.2.2.2.2.2.2.2.1.2.2.2.2.2.2.2.2.2.2.2.2.2.2.2.2.2.1
  obtain ⟨hb, hrr, htk, hrt, hlv, hrs, hwg, hnb, hty, haq, hcq⟩ := h
  obtain ⟨G1, G2, G3, G4, G5, G6, G7, G8, G9, G10, G11, G12, G13, G14, G15⟩ := hrr.2.1
  have h10 := G10 (by omega)
  have f143 : r'.1 143 = r.1 143 := funext fun k => e3 _ _ (by unfold q0i; omega)
  have f144 : r'.1 144 = r.1 144 := funext fun k => e3 _ _ (by unfold q0i; omega)
  have f188 : r'.1 188 = r.1 188 := funext fun k => e3 _ _ (by unfold q0i; omega)
  have p0 : ∀ a, (a = 161 ∨ a = 162 ∨ a = 165 ∨ a = 174 ∨ a = 175 ∨ a = 178 ∨ a = 179 ∨ a = 185 ∨ a = 186) → r'.1 a 0 = r.1 a 0 := fun a ha => e3 _ _ (by unfold q0i; omega)
  have p176 : ∀ i, i ≤ 800 → r'.1 176 i = r.1 176 i := fun i hi => e3 _ _ (by unfold q0i; omega)
  have p177 : ∀ i, i < 8050 → r'.1 177 i = r.1 177 i := fun i hi => e3 _ _ (by unfold q0i; omega)
  have pn : ∀ a i, 167 ≤ a → a ≤ 170 → i ≤ 300 → r'.1 a i = r.1 a i := fun a i q1 q2 q3 => e3 _ _ (by unfold q0i; omega)
  have e58 : r'.1 125 58 = r.1 125 58 := e3 _ _ (by unfold q0i; omega)
  have e30 : r'.1 125 30 = r.1 125 30 := e3 _ _ (by unfold q0i; omega)
  have e31 : r'.1 125 31 = r.1 125 31 := e3 _ _ (by unfold q0i; omega)
  have e91 : r'.1 125 91 = r.1 125 91 := e3 _ _ (by unfold q0i; omega)
  have nmb : ∀ i : Nat, (i : Int) < (c.1 61 12).toInt → ix_n (ix_abs (c.1 75 i)) ≤ 300 := fun i hi => by
    obtain ⟨q0, q1, q2, _⟩ := htk.2.2.1 i hi
    exact (na_b q0 q1 q2).2.1
  have ht3 := htk.2.1
  have hs8 : (c.1 85 8).toInt ≤ 800 := by omega
  refine ⟨hb, ⟨fun k hk => ?_, ?_, fun m hm => ?_⟩, htk, ⟨?_, ?_, fun i hi => ?_, fun m hm => ?_⟩, hlv, fun hid => ⟨fun k w hk hw => ?_, fun i w hi h0 hw => ?_⟩, ?_, hnb, ?_, ?_, ?_⟩
  · obtain ⟨a1, a2, a3⟩ := hrr.1 k hk
    have hrow : rn k < 500 ∨ (2000 ≤ rn k ∧ rn k < 2800) := by
      by_cases e : (k : Int) < (c.1 61 15).toInt
      · have := (G6 k e).1; omega
      · have := (G14 k (by omega) hk).1; omega
    have ez : rz_ r'.1 0 (rn k) = rz_ r.1 0 (rn k) := by
      unfold rz_
      rcases hrow with q | q
      · rw [if_pos (by omega), if_pos (by omega), f143]
      · rw [if_neg (by omega), if_neg (by omega), if_neg (by omega), if_neg (by omega), p176 _ (by omega), p176 _ (by omega)]
    refine ⟨?_, by rw [ez]; exact a2, fun j hj => ?_⟩
    · rcases a1 with q | q | q
      · exact Or.inl (by rw [f143]; exact q)
      · exact absurd q.1 (by omega)
      · exact Or.inr (Or.inr (by rw [p176 _ (by omega), p176 _ (by omega)]; exact q))
    · rw [ez] at hj
      have q := a3 j hj
      have rzb := hj
      unfold ri_ at q ⊢
      rcases hrow with w | w
      · rw [if_pos (by omega)] at q ⊢
        rw [f143, f144]; exact q
      · rw [if_neg (by omega), if_neg (by omega)] at q ⊢
        rcases a1 with v | v | v
        · exact absurd v.1 (by omega)
        · exact absurd v.1 (by omega)
        · have nk := ni_c (x := r.1 176 (801 * 0 + rn k - 2000)) v.2.2.1
          have rze : (rz_ r.1 0 (rn k)).toInt = (r.1 176 (801 * 0 + rn k - 1999)).toInt - (r.1 176 (801 * 0 + rn k - 2000)).toInt := by
            unfold rz_
            rw [if_neg (by omega), if_neg (by omega), ta_sub (by omega) (by omega)]
          rw [rze] at hj
          rw [p176 _ (by omega), p177 _ (by omega)]
          exact q
  · refine ⟨G1, G2, G3, by rw [p0 162 (by omega)]; exact G4, by rw [p0 162 (by omega)]; exact G5, fun k hk => ?_, fun m hm hm2 => ?_, G8, fun q => absurd q (by rw [e58]; omega), fun _ => h10, G11, by rw [p0 179 (by omega)]; exact G12, by rw [p0 179 (by omega)]; exact G13, fun k k1 k2 => ?_, G15⟩
    · have q := G6 k hk
      rw [p0 162 (by omega), e3 163 _ (by unfold q0i; omega)]
      exact q
    · rw [p0 162 (by omega)] at hm
      rw [e3 163 _ (by unfold q0i; omega)] at hm2
      exact G7 m hm hm2
    · have q := G14 k k1 k2
      rw [e3 180 _ (by unfold q0i; omega)]
      exact q
  · rw [pn _ _ (by omega) (by omega) (by omega)]; exact hrr.2.2 m hm
  · rw [p0 174 (by omega)]; exact hrt.1
  · rw [p0 175 (by omega)]; exact hrt.2.1
  · have q := hrt.2.2.1 i hi
    have nb := nmb i hi
    rw [e3 173 _ (by unfold q0i; omega), pn 168 _ (by omega) (by omega) (by omega), pn 169 _ (by omega) (by omega) (by omega)]
    exact q
  · rw [pn _ _ (by omega) (by omega) (by omega)]; exact hrt.2.2.2 m hm
  · rw [e4 182 _ (by unfold q0l; omega)]; exact (hrs hid).1 k w hk hw
  · have nb := nmb i hi
    rw [e4 183 _ (by unfold q0l; omega)]; exact (hrs hid).2 i w hi h0 hw
  · obtain ⟨w1, w2, w3, w4, w5, w6, w7⟩ := hwg
    refine ⟨by rw [p0 161 (by omega)]; exact w1, by rw [p0 161 (by omega)]; exact w2, by rw [p0 161 (by omega)]; exact w3, fun m m1 m2 => ?_, by rw [e4 172 _ (by unfold q0l; omega)]; exact w5, w6, w7⟩
    rw [p0 161 (by omega)] at m2
    rw [e4 171 _ (by unfold q0l; omega)]
    exact w4 m m1 m2
  · obtain ⟨y1, y2, y3, y4', y5, y6, y7, y8, y9, y10, y11, y12, y13, y14, y15, y16, y17, y18', y19⟩ := hty
    refine ⟨fun k hk => ?_, by rw [p0 179 (by omega)]; exact y2, by rw [p0 178 (by omega)]; exact y3, y4', y5, by rw [p0 185 (by omega)]; exact y6, by rw [p0 186 (by omega)]; exact y7, y8, y9, fun k hk => ?_, fun k hk => ?_, by rw [e30]; exact y12, by rw [e31]; exact y13, by rw [e30]; exact y14, by rw [e30]; exact y15, by rw [e31]; exact y16, by rw [e31]; exact y17, y18', y19⟩
    · have h10 : k < 10 := by unfold tt_ at hk; omega
      rw [e3 187 _ (by unfold q0i; omega)]; exact y1 k hk
    · rw [e3 181 _ (by unfold q0i; omega)]; exact y10 k hk
    · rw [p176 _ (by omega)]; exact y11 k hk
  · obtain ⟨a1, a2, a3, a4⟩ := haq
    refine ⟨by rw [p0 165 (by omega)]; exact a1, by rw [p0 165 (by omega)]; exact a2, by rw [p0 165 (by omega)]; exact a3, fun i hi => ?_⟩
    rw [p0 165 (by omega)] at hi
    rw [e3 164 _ (by unfold q0i; omega)]
    exact a4 i hi
  · unfold cq_60
    rw [e91, f188]
    exact hcq
end QZR

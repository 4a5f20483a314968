/-! the latest solver at rest: only its own places count -/
section LTQ
variable {d d' : ix_D2}
set_option maxHeartbeats 4000000 in
theorem lt_k (h : lt_ d) (e1 : ∀ a k, 60 ≤ a → a ≤ 89 → (a < 76 ∨ 78 < a) → d'.1 a k = d.1 a k ∧ d'.2 a k = d.2 a k) (e14 : (d'.1 0 14).toInt = 1 → (d.1 0 14).toInt = 1 ∧ d'.1 52 2 = d.1 52 2 ∧ (∀ a i, q0i a i → d'.1 a i = d.1 a i) ∧ ∀ a i, q0l a i → d'.2 a i = d.2 a i) (e3 : ∀ a i, q0i a i → (a = 161 ∨ (176 ≤ a ∧ a ≤ 180) ∨ (187 ≤ a ∧ a ≤ 188) ∨ (a = 125 ∧ i = 91)) → d'.1 a i = d.1 a i) (e4 : ∀ i, i ≤ 300 → d'.2 171 i = d.2 171 i) (e160 : ∀ i, d'.1 160 i = d.1 160 i) (e166 : d'.1 166 0 = d.1 166 0) (hco : (d'.1 85 0).toInt = 0 → d'.1 0 13 = 0 → d.1 0 13 = 0 ∧ ((∃ T : Nat, (T : Int) ≤ (d.1 52 2).toInt ∧ co_ d d T) → ∃ T : Nat, (T : Int) ≤ (d'.1 52 2).toInt ∧ co_ d' d' T)) : lt_ d' := by
  obtain ⟨h1, h2, h3, h4, h5, h6⟩ := h
  have f85 : d'.1 85 = d.1 85 := funext fun k => (e1 _ _ (by omega) (by omega) (by omega)).1
  have f61 : d'.1 61 = d.1 61 := funext fun k => (e1 _ _ (by omega) (by omega) (by omega)).1
  have f62 : d'.1 62 = d.1 62 := funext fun k => (e1 _ _ (by omega) (by omega) (by omega)).1
  have f63 : d'.1 63 = d.1 63 := funext fun k => (e1 _ _ (by omega) (by omega) (by omega)).1
  have f64 : d'.1 64 = d.1 64 := funext fun k => (e1 _ _ (by omega) (by omega) (by omega)).1
  have f71 : d'.1 71 = d.1 71 := funext fun k => (e1 _ _ (by omega) (by omega) (by omega)).1
  have f86 : d'.1 86 = d.1 86 := funext fun k => (e1 _ _ (by omega) (by omega) (by omega)).1
  have m79 : d'.2 79 = d.2 79 := funext fun k => (e1 _ _ (by omega) (by omega) (by omega)).2
  have f160 : d'.1 160 = d.1 160 := funext e160
  have g161 : d'.1 161 0 = d.1 161 0 := e3 _ _ (by unfold q0i; omega) (by omega)
  have g178 : d'.1 178 0 = d.1 178 0 := e3 _ _ (by unfold q0i; omega) (by omega)
  have g179 : d'.1 179 0 = d.1 179 0 := e3 _ _ (by unfold q0i; omega) (by omega)
  have g91 : d'.1 125 91 = d.1 125 91 := e3 _ _ (by unfold q0i; omega) (by omega)
  have f188 : d'.1 188 = d.1 188 := funext fun k => e3 _ _ (by unfold q0i; omega) (by omega)
  have g176 : ∀ i, i ≤ 800 → d'.1 176 i = d.1 176 i := fun i hi => e3 _ _ (by unfold q0i; omega) (by omega)
  have g177 : ∀ i, i < 8050 → d'.1 177 i = d.1 177 i := fun i hi => e3 _ _ (by unfold q0i; omega) (by omega)
  refine ⟨?_, by rw [f85, e166]; exact h2, by rw [f85, f71, f160, g161]; exact h3, fun hg => ?_, fun hs hb => ?_, ?_⟩
  · obtain ⟨a0, ⟨b1, b2, b3, b4, b5⟩, hcq, c1, c2, c3, c4⟩ := h1
    refine ⟨by rw [f62, f64]; exact a0, ⟨fun k hk => ?_, by rw [f85, g178]; exact b2, by rw [g179]; exact b3, by rw [g179]; exact b4, ?_⟩, ?_, by rw [f61, g161]; exact c1, by rw [g161]; exact c2, by rw [g161]; exact c3, fun m m1 m2 => ?_⟩
    · have h10 : k < 10 := by unfold tt_ at hk; omega
      rw [f85, e3 187 k (by unfold q0i; omega) (by omega)]; exact b1 k hk
    · rw [f85, g179, b5]
      refine sm_c (fun p p1 p2 => ?_)
      have nk := ni_c b3
      rw [e3 180 p (by unfold q0i; omega) (by omega)]
    · unfold cq_60; rw [f86, g91, f188]; exact hcq
    · rw [g161] at m2
      rw [m79, e4 m (by omega)]; exact c4 m m1 m2
  · obtain ⟨k1, k2, k3, k4⟩ := e14 hg
    obtain ⟨t1, t2, t3, t4, rn, hR⟩ := h4 k1
    have g162 : d'.1 162 0 = d.1 162 0 := k3 _ _ (by unfold q0i; omega)
    have g58 : d'.1 125 58 = d.1 125 58 := k3 _ _ (by unfold q0i; omega)
    have g174 : d'.1 174 0 = d.1 174 0 := k3 _ _ (by unfold q0i; omega)
    have h162 := hR.2.1.2.1.2.2.2.2.1
    have h178 : (d.1 178 0).toInt ≤ 800 := by
      have q1 := hR.2.2.2.2.2.2.2.2.1.2.2.1
      have q2 := hR.2.2.2.2.2.2.2.2.1.2.2.2.1
      have q3 := hR.1.1.2.1
      have G := hR.2.1.2.1
      obtain ⟨G1, G2, G3, G4, G5, G6, G7, G8, G9, G10, G11, G12, G13, G14, G15⟩ := G
      rw [← q1]; omega
    refine ⟨by rw [k2, g162]; exact t1, by rw [g58]; exact t2, fun q m hm => ?_, ⟨fun m w hm hw => ?_, fun k w hk hw => ?_, fun i w hi h0 hw => ?_⟩, rn, ?_⟩
    · rw [g162] at hm
      rw [k3 163 _ (by unfold q0i; omega)]; exact t3 q m hm
    · rw [g162] at hm ⊢
      exact t4.1 m w hm hw
    · rw [g178] at hk
      rw [g162, k4 182 _ (by unfold q0l; omega)]
      exact t4.2.1 k w hk hw
    · rw [g174] at hi
      have e174 : d.1 61 12 = d.1 174 0 := hR.2.2.2.1.1.symm
      have hi2 : (i : Int) < (d.1 61 12).toInt := by rw [e174]; exact hi
      have ht3 := hR.2.2.1.2.1
      obtain ⟨q0, q1, q2, _⟩ := hR.2.2.1.2.2.1 i hi2
      have nb := (na_b q0 q1 q2).2.1
      have e173 : d.1 75 i = d.1 173 (300 * 0 + i) := (hR.2.2.2.1.2.2.1 i hi2).1.symm
      have g173 : d'.1 173 (300 * 0 + i) = d.1 173 (300 * 0 + i) := k3 173 _ (by unfold q0i; omega)
      rw [e173] at nb
      rw [g173] at h0 ⊢
      rw [k3 168 _ (by unfold q0i; omega)] at h0
      rw [g162, k4 183 _ (by unfold q0l; omega)]
      exact t4.2.2 i w hi h0 hw
    · exact R_h60 (R_q60 hR (by rw [t2]; rfl) k3 k4) (by rw [g58, t2]; rfl) (fun a i a1 a2 a3 => (e1 a i a1 a2 a3).1) (fun a i a1 a2 a3 => (e1 a i a1 a2 a3).2) (fun _ _ _ _ _ _ _ => rfl) (fun _ _ _ _ => rfl)
  · obtain ⟨q1, q2⟩ := hco hs hb
    rw [f85] at hs
    obtain ⟨T, hT, hc, hr⟩ := h5 hs q1
    obtain ⟨T', hT', hc'⟩ := q2 ⟨T, hT, hc⟩
    refine ⟨T', hT', hc', ?_⟩
    obtain ⟨F, K, r1, r2, r3, r4, r5, r6, r7, r8, r9, r10⟩ := hr
    refine ⟨F, K, by rw [f61]; exact r1, by rw [f62]; exact r2, by rw [g178]; exact r3, r4, r5, by rw [f64]; exact r6, by rw [f64]; exact r7, fun k hk => ?_, fun k hk => ?_, fun p hp => ?_⟩
    · rw [g176 k (by omega), f64]; exact r8 k hk
    · rw [g176 k (by omega), g176 (k + 1) (by omega)]; exact r9 k hk
    · rw [g176 K (by omega)] at hp
      have := (r8 K (Nat.le_refl _)).2.2
      rw [g177 p (by omega), f63, f64]; exact r10 p hp
  · obtain ⟨F, K, r1, r2, r3, r3b, r4, r5, r6, r7, r8, r9, r10⟩ := h6
    refine ⟨F, K, by rw [f61]; exact r1, by rw [f62]; exact r2, by rw [f85]; exact r3, by rw [g179]; exact r3b, r4, r5, by rw [f64]; exact r6, by rw [f64]; exact r7, fun k hk => ?_, fun k hk => ?_, fun p hp => ?_⟩
    · rw [g176 k (by omega), f64]; exact r8 k hk
    · rw [g176 k (by omega), g176 (k + 1) (by omega)]; exact r9 k hk
    · rw [g176 K (by omega)] at hp
      have := (r8 K (Nat.le_refl _)).2.2
      rw [g177 p (by omega), f63, f64]; exact r10 p hp
/-- nothing of it changed -/
theorem lt_q (h : lt_ d) (e1 : ∀ a k, 60 ≤ a → a ≤ 89 → (a < 76 ∨ 78 < a) → d'.1 a k = d.1 a k ∧ d'.2 a k = d.2 a k) (e2 : ∀ k, k = 10 ∨ k = 12 ∨ k = 13 ∨ k = 14 → d'.1 0 k = d.1 0 k) (e52 : d'.1 52 2 = d.1 52 2) (ec : ∀ a k, a = 123 ∨ a = 124 ∨ a = 189 ∨ a = 190 → d'.1 a k = d.1 a k) (e94 : d'.1 125 94 = d.1 125 94) (e96 : d'.1 125 96 = d.1 125 96) (e3 : ∀ a i, q0i a i → d'.1 a i = d.1 a i) (e4 : ∀ a i, q0l a i → d'.2 a i = d.2 a i) (e160 : ∀ i, d'.1 160 i = d.1 160 i) (e166 : d'.1 166 0 = d.1 166 0) : lt_ d' := by
  refine lt_k h e1 (fun hg => ⟨by rw [← e2 14 (by omega)]; exact hg, e52, e3, e4⟩) (fun a i q _ => e3 a i q) (fun i hi => e4 _ _ (by unfold q0l; omega)) e160 e166 (fun _ hb => ⟨by rw [← e2 13 (by omega)]; exact hb, fun ⟨T, hT, hc⟩ => ⟨T, by rw [e52]; exact hT, ?_⟩⟩)
  have f123 : d'.1 123 = d.1 123 := funext fun k => ec _ _ (by omega)
  have f124 : d'.1 124 = d.1 124 := funext fun k => ec _ _ (by omega)
  have f189 : d'.1 189 = d.1 189 := funext fun k => ec _ _ (by omega)
  have f190 : d'.1 190 = d.1 190 := funext fun k => ec _ _ (by omega)
  have g161 : d'.1 161 0 = d.1 161 0 := e3 _ _ (by unfold q0i; omega)
  unfold co_
  rw [f123, f124, f189, f190, e2 10 (by omega), e2 12 (by omega), e94, e96, g161]
  exact hc
end LTQ

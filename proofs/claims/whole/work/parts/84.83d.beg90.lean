/-! the relation at the beginning (90, 1) -/
section BEG
variable {n : Nat} {z : ix_Z} {c r : ix_D2} {rn : Nat → Nat}
theorem R_b90 (hb : bi_90 c) (hr : rr_90 c r rn) (v0 : ∀ m, m ≤ 300 → c.1 101 m = 0 ∧ c.1 102 m = 0) (t0 : c.1 91 12 = 0) (l0 : c.1 91 13 = 0) (t1 : r.1 174 1 = 0) (l1 : r.1 175 1 = 0) (lt : ∀ m, m ≤ 300 → r.1 170 (301 * 1 + m) = 0)
    (hwg : wg_90 c r) (hnb : ∀ p : Nat, (p : Int) < (c.1 94 (ix_n (c.1 92 2))).toInt → (ix_n (ix_abs (c.1 93 p)) : Int) ≤ (c.1 91 14).toInt)
    (y1 : ∀ k, k < 10 → c.1 115 k = 0) (y2 : ∀ k, k < 10 → r.1 187 (10 * 1 + k) = 0) (y3 : r.1 178 1 = 0) (y4 : r.1 179 1 = 0) (y5 : c.1 90 19 = 0) (y6 : r.1 185 1 = 0) (y7 : r.1 186 1 = 1) (y8 : c.1 91 16 = c.1 92 2) (y9 : r.1 176 (801 * 1) = 0) (y10 : c.1 90 17 = r.1 125 30) (y11 : c.1 90 18 = r.1 125 31) (y12 : 0 ≤ (r.1 125 30).toInt ∧ (r.1 125 30).toInt ≤ 100) (y13 : 0 ≤ (r.1 125 31).toInt ∧ (r.1 125 31).toInt ≤ 800) (y14 : (c.1 92 2).toInt ≤ 564) (y15 : (c.1 94 (ix_n (c.1 92 2))).toInt ≤ 3780)
    (haq : aq_90 c r) (q1 : 1 = 0 → (r.1 125 91).toInt = 0) (q2 : ∀ i, i < 5 → c.1 116 i = -1005) : R_90 c r rn := by
  have z0 : (0 : Int32).toInt = 0 := rfl
  have t0' : (c.1 91 12).toInt = 0 := by rw [t0]; rfl
  have l0' : (c.1 91 13).toInt = 0 := by rw [l0]; rfl
  have k8 : (c.1 115 8).toInt = 0 := by rw [y1 8 (by omega)]; rfl
  have k5 : (c.1 115 5).toInt = 0 := by rw [y1 5 (by omega)]; rfl
  refine ⟨hb, hr, ⟨by omega, by omega, fun i hi => absurd hi (by omega), fun i j _ hj => absurd hj (by omega)⟩, ⟨by rw [t0, t1], by rw [l0, l1], fun i hi => absurd hi (by omega), fun m hm => by rw [lt m hm, (v0 m hm).2]⟩, ⟨⟨by omega, fun i hi => absurd hi (by omega), fun i j _ hj => absurd hj (by omega), fun i hi => absurd hi (by omega), fun i k hi => absurd hi (by omega), fun m m1 m2 hm => absurd (by rw [(v0 m m2).1]; rfl) hm⟩, by omega, fun h => absurd h (by omega)⟩, fun hid => ⟨fun k w hk => absurd hk (by omega), fun i w hi => absurd hi (by omega)⟩, hwg, ⟨hnb, fun i hi => absurd hi (by omega)⟩, ?_, haq, fun h0 => Or.inl ⟨q1 h0, fun i hi => by rw [q2 i hi]; rfl⟩⟩
  refine ⟨fun k hk => ?_, ?_, ?_, ?_, ?_, ?_, ?_, ?_, ?_, fun k hk => absurd hk (by omega), fun k hk => ?_, y10, y11, y12.1, y12.2, y13.1, y13.2, ?_, ?_⟩
  · have h10 : k < 10 := by unfold tt_ at hk; omega
    rw [y1 k h10, y2 k h10]
  · rw [y1 4 (by omega), y4]
  · rw [y1 8 (by omega), y3]
  · rw [k8, y8]; omega
  · rw [y8, y1 7 (by omega), sm_e (by omega)]; rfl
  · rw [y5, y6]
  · rw [y7, k5]; rfl
  · omega
  · rw [y1 4 (by omega), y1 5 (by omega)]; exact Int.le_refl _
  · have e : k = 0 := by omega
    subst e
    have e9 : r.1 176 (801 * 1 + 0) = 0 := y9
    rw [e9]
    have e0 : ix_n (c.1 91 16) + 0 = ix_n (c.1 91 16) := rfl
    rw [e0]
    omega
  · rw [y8]; exact y14
  · rw [y8]; exact y15
end BEG

/-! the start with all the case's rows and no barred ones; go and solving as they are called (90, 1) -/
section STA
variable {n : Nat} {z : ix_Z} {c r : ix_D2} {rn : Nat → Nat} {x : Int32}
theorem rr_s90 (hrn : ∀ k, rn k = k) (hb : bi_90 c) {T : Nat} (hT : (c.1 92 2).toInt = T) (hT5 : T ≤ 500) (h15 : (c.1 91 15).toInt = T) (h16 : (c.1 91 16).toInt = T) (s4 : ∀ j, j ≤ T → c.1 94 j = r.1 143 j) (s3 : ∀ p : Nat, (p : Int) < (c.1 94 T).toInt → c.1 93 p = r.1 144 p) (hM : (c.1 94 T).toInt ≤ 2500) (s8 : ∀ j, j < T → (c.1 98 j).toInt < 1000000) (v0 : ∀ m, m ≤ 300 → c.1 101 m = 0) (r162 : (r.1 162 1).toInt = T) (r163 : ∀ m, m < 500 → r.1 163 (500 * 1 + m) = 1) (r167 : ∀ m, m ≤ 300 → r.1 167 (301 * 1 + m) = 2) (r179 : r.1 179 1 = 0) (hbar : (1 = 1 ∨ (r.1 125 58).toInt ≠ 0) → (r.1 125 67).toInt = 0) : rr_90 c r rn := by
  refine ⟨fun k hk => ?_, ?_, fun m hm => by rw [r167 m hm, v0 m hm]; rfl⟩
  · rw [hrn k]
    have rb := rw_b hb.1 hk
    have m1 := rw_m hb.1 (k := k + 1) (l := T) (by omega) (by omega)
    have e1 := s4 k (by omega)
    have e2 := s4 (k + 1) (by omega)
    have n1 := ni_c rb.1
    refine ⟨Or.inl ⟨by omega, by rw [← e1]; exact rb.1, by rw [← e1, ← e2]; omega, by rw [← e2]; omega⟩, ?_, fun j hj => ?_⟩
    · unfold rz_
      rw [if_pos (by omega), ← e1, ← e2, ta_sub (by omega) (by omega)]
    · unfold ri_
      unfold rz_ at hj
      rw [if_pos (by omega), ← e1, ← e2, ta_sub (by omega) (by omega)] at hj
      rw [if_pos (by omega), ← e1, s3 _ (by omega)]
  · have z9 : (r.1 179 1).toInt = 0 := by rw [r179]; rfl
    refine ⟨by omega, by omega, by omega, by omega, by omega, fun k hk => ?_, fun m hm _ => ⟨m, by omega, hrn m⟩, fun i k hik _ => by rw [hrn i, hrn k]; exact hik, fun h => ⟨by rw [hbar h]; omega, by rw [hbar h]; omega⟩, fun _ => by omega, fun k h1 h2 => absurd h2 (by omega), by omega, by omega, fun k h1 h2 => absurd h2 (by omega), fun k hk => s8 k (by omega)⟩
    rw [hrn k, r163 k (by omega)]
    exact ⟨by omega, by decide⟩
theorem h0_s90 (r163 : ∀ m, m < 500 → r.1 163 (500 * 1 + m) = 1) (r162 : (r.1 162 1).toInt ≤ 500) : h0_90 r := fun _ m hm => by rw [r163 m (by omega)]; decide
theorem e_gt90 (hz : ly_z z) (hn : 20000 ≤ n) (h : R_90 c r rn) (h0 : h0_90 r) {g : Nat} (hg : g ≤ 5000) (h89 : (r.1 125 89).toInt = (g : Int)) : wp_t (f_X9_go n z 90 (nI g) c) (fun u => wp_t (f_X12_solving n z 125 1 r) (fun w => ge_90 c r u w)) := by
  unfold f_X9_go f_X9_go_4 f_X12_solving f_X12_solving_3
  obtain ⟨M, rfl⟩ : ∃ M, n = M + 1 := ⟨n - 1, by omega⟩
  exact wp_m (e_gg90 hz hn g (by omega) (by omega) (M + 1) (M + 1) M (by omega) (by omega) (by omega) c r rn h h0 h89) (fun u hu => e_s790 hz hu)
end STA

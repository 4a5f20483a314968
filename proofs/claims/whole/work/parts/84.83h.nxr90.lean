/-! the start with the case's rows and barred ones (90, 1) -/
section NXR
variable {n : Nat} {z : ix_Z} {c r : ix_D2} {rn : Nat → Nat} {x : Int32} {f : Nat → Nat → Int32}
/-- the barred rows on both sides -/
def br_90 (f g : Nat → Nat → Int32) (B : Nat) : Prop := ∀ j, j < B → (g 147 (64 * 1 + j)).toInt = (f 108 (j + 1)).toInt - (f 108 j).toInt ∧ ∀ i : Nat, (i : Int) < (g 147 (64 * 1 + j)).toInt → g 148 (20 * (64 * 1 + j) + i) = f 107 (ix_n (f 108 j) + i)
theorem rr_n90 {f : Nat → Nat → Int32} {T B S : Nat} (hrn : ∀ k, k < T → rn k = k) (hrn2 : ∀ k, T ≤ k → k < T + B → rn k = 1000 + (k - T)) (hb : bi_90 c) (hT : (c.1 92 2).toInt = ((T + B : Nat) : Int)) (hT5 : T ≤ 500) (hB : B ≤ 64) (h15 : (c.1 91 15).toInt = T) (h16 : (c.1 91 16).toInt = ((T + B : Nat) : Int)) (s4 : ∀ j, j ≤ T → c.1 94 j = r.1 143 j) (s3 : ∀ p : Nat, (p : Int) < (c.1 94 T).toInt → c.1 93 p = r.1 144 p) (hM : (c.1 94 T).toInt ≤ 2500) (hS : (c.1 94 T).toInt = (S : Int)) (bw : bw_90 f) (hfB : (B : Int) = (f 106 2).toInt) (s4b : ∀ j, j ≤ B → (c.1 94 (T + j)).toInt = (S : Int) + (f 108 j).toInt) (s3b : ∀ p : Nat, (p : Int) < (f 108 B).toInt → c.1 93 (S + p) = f 107 p) (hbr : br_90 f r.1 B) (s8 : ∀ j, j < T + B → (c.1 98 j).toInt < 1000000) (v0 : ∀ m, m ≤ 300 → c.1 101 m = 0) (r162 : (r.1 162 1).toInt = T) (r163 : ∀ m, m < 500 → r.1 163 (500 * 1 + m) = 1) (r167 : ∀ m, m ≤ 300 → r.1 167 (301 * 1 + m) = 2) (r179 : r.1 179 1 = 0) (hbs : 1 = 1 ∨ (r.1 125 58).toInt ≠ 0) (h66 : (r.1 125 66).toInt = 64 * 1) (h67 : (r.1 125 67).toInt = (B : Int)) : rr_90 c r rn := by
  refine ⟨fun k hk => ?_, ?_, fun m hm => by rw [r167 m hm, v0 m hm]; rfl⟩
  · have rb := rw_b hb.1 hk
    by_cases hkT : k < T
    · rw [hrn k hkT]
      have m1 := rw_m hb.1 (k := k + 1) (l := T) (by omega) (by omega)
      have e1 := s4 k (by omega)
      have e2 := s4 (k + 1) (by omega)
      have n1 := ni_c rb.1
      refine ⟨Or.inl ⟨by omega, by rw [← e1]; exact rb.1, by rw [← e1, ← e2]; omega, by rw [← e2]; omega⟩, ?_, fun j hj => ?_⟩
      · unfold rz_
        rw [if_pos (by omega), ← e1, ← e2, ta_sub (by omega) (by omega)]
      · unfold ri_
        unfold rz_ at hj
        rw [if_pos (by omega), ← e1, ← e2, ta_sub (by omega) (by omega)] at hj
        rw [if_pos (by omega), ← e1, s3 _ (by omega)]
    · obtain ⟨j, hj⟩ : ∃ j, k = T + j := ⟨k - T, by omega⟩
      have hjB : j < B := by omega
      have b0 := rw_b bw (k := j) (by omega)
      have bm := rw_m bw (k := j + 1) (l := B) (by omega) (by omega)
      have r3 := (bw.2.2.2.2.1 j (by omega)).2.1
      have n66 : ix_n (r.1 125 66) = 64 * 1 := ni_k (by rw [h66]; omega)
      obtain ⟨t1, t2⟩ := hbr j hjB
      have ei : ix_n (r.1 125 66) + (1000 + j) - 1000 = 64 * 1 + j := by rw [n66]; omega
      have q1 := s4b j (by omega)
      have q2 := s4b (j + 1) (by omega)
      rw [show T + (j + 1) = T + j + 1 from rfl] at q2
      have ek : 1000 + (k - T) = 1000 + j := by omega
      rw [hrn2 k (by omega) (by omega), ek]
      have ez : rz_ r.1 1 (1000 + j) = r.1 147 (64 * 1 + j) := by
        unfold rz_
        rw [if_neg (by omega), if_pos (by omega), ei]
      refine ⟨Or.inr (Or.inl ⟨by omega, by omega, by omega, by omega, by rw [ei]; omega, by rw [ei]; omega⟩), ?_, fun i hi => ?_⟩
      · rw [ez, hj, t1]; omega
      · rw [ez] at hi
        have n1 := ni_c (x := f 108 j) b0.1
        have n2 := ni_c (x := c.1 94 (T + j)) (by omega)
        unfold ri_
        rw [if_neg (by omega), if_pos (by omega), ei, t2 i hi, hj]
        rw [show ix_n (c.1 94 (T + j)) + i = S + (ix_n (f 108 j) + i) by omega]
        exact (s3b _ (by omega)).symm
  · have z9 : (r.1 179 1).toInt = 0 := by rw [r179]; rfl
    refine ⟨by omega, by omega, by omega, by omega, by omega, fun k hk => ?_, fun m hm _ => ⟨m, by omega, hrn m (by omega)⟩, fun i k hik hk => by rw [hrn i (by omega), hrn k (by omega)]; exact hik, fun h => ⟨by rw [h67]; omega, by rw [h67]; omega⟩, fun h => absurd hbs h, fun k h1 h2 => ?_, by omega, by omega, fun k h1 h2 => absurd h2 (by omega), fun k hk => s8 k (by omega)⟩
    · rw [hrn k (by omega), r163 k (by omega)]
      exact ⟨by omega, by decide⟩
    · rw [hrn2 k (by omega) (by omega)]; omega
end NXR

/-! TOLD: the rule's object -/
def MT_ (z : ix_Z) (d : ix_D2) (z5 : ix_Z) (d5 : ix_D2) (N L K : Nat) : Prop := z5.2.2 = z.2.2 + 5 ∧ (∀ a, a < z.2.2 → z5.2.1 a = z.2.1 a) ∧ (∀ a k, a < z.2.2 → z5.1 a k = z.1 a k) ∧ (z5.2.1 z.2.2).1 = 9 ∧ z5.1 z.2.2 0 = some (z.2.2 + 1) ∧ z5.1 z.2.2 3 = some (z.2.2 + 2) ∧ z5.1 z.2.2 4 = some (z.2.2 + 3) ∧ z5.1 z.2.2 5 = some (z.2.2 + 4) ∧ z5.2.1 (z.2.2 + 1) = (20, N) ∧ z5.2.1 (z.2.2 + 2) = (21, L) ∧ z5.2.1 (z.2.2 + 3) = (20, K) ∧ z5.2.1 (z.2.2 + 4) = (20, K + 1) ∧ (∀ a k, a < z.2.2 → d5.1 a k = d.1 a k ∧ d5.2 a k = d.2 a k) ∧ (∀ j, j < L → d5.1 (z.2.2 + 2) j = d.1 44 j) ∧ ∀ k, k < K → d5.1 (z.2.2 + 3) k = d.1 47 k
section TLH
variable {n : Nat} {z z1 z' : ix_Z} {c d r c' : ix_D2} {v x w : Int32} {K k i N L : Nat} {T : Nat → Nat × Nat × Nat × Int32}
theorem e_toI (hz : ly_z z) (hn : 100 ≤ n) (h7 : d.1 43 7 = nI K) (hK : K ≤ 60) (hT : ∀ k, k < K → tkO (T k) (pD T k)) (hc : ∀ k, k < K → d.1 47 k = cdT (T k)) (hb : ∀ j, j < 60 → -128 ≤ (d.1 44 j).toInt ∧ (d.1 44 j).toInt ≤ 127) (hL : L ≤ 60) (hx : x.toInt = L) : ∃ z5 d5, f_X10_init n (ix_zn z 9 6) z.2.2 43 x (ix_dn d z.2.2) = some (z5, d5) ∧ MT_ z d z5 d5 (pI T K) L K ∧ ∀ k, k < K → (T k).1 = 4 → d5.1 (z.2.2 + 1) (pI T k) = (T k).2.2.2 := by
  have hz3 := hz.2.2
  have hIK := pI_k (T := T) K
  obtain ⟨Z, hZ⟩ : ∃ Z, Z = z.2.2 := ⟨_, rfl⟩
  rw [← hZ] at hz3
  obtain ⟨za, hza⟩ : ∃ za, za = ix_zn z 9 6 := ⟨_, rfl⟩
  obtain ⟨da, hda⟩ : ∃ da, da = ix_dn d Z := ⟨_, rfl⟩
  have lya : ly_z za := by rw [hza]; exact zn_ly hz
  have na : za.2.2 = Z + 1 := by rw [hza, zn_n, hZ]
  have da1 : ∀ a k, a ≠ Z → da.1 a k = d.1 a k := fun a k h => by rw [hda]; exact dn_1 h
  have da2 : ∀ a k, a ≠ Z → da.2 a k = d.2 a k := fun a k h => by rw [hda]; exact dn_2 h
  obtain ⟨d1, E1, q1, q2⟩ := e_nrd (n := n) (c := da) (T := T) lya hn (by rw [da1 _ _ (by omega)]; exact h7) hK hT (fun k hk => by rw [da1 _ _ (by omega)]; exact hc k hk)
  rw [na] at E1 q1 q2
  obtain ⟨z1, hz1⟩ : ∃ z1, z1 = ix_zn za 20 (pI T K) := ⟨_, rfl⟩
  rw [← hz1] at E1
  have ly1 : ly_z z1 := by rw [hz1]; exact zn_ly lya
  have n1 : z1.2.2 = Z + 2 := by rw [hz1, zn_n, na]
  have kZ1 : z1.2.1 Z = (9, 6) := by rw [hz1, zn_k (by omega), hza, hZ]; exact zn_s
  obtain ⟨z2, hz2⟩ : ∃ z2, z2 = ix_zr z1 Z 0 (some (Z + 1)) := ⟨_, rfl⟩
  have zr_k : ∀ (zz : ix_Z) (b : Nat) (v : Option Nat), (ix_zr zz Z b v).2 = zz.2 := fun _ _ _ => rfl
  have zr_ly : ∀ (zz : ix_Z) (b : Nat) (v : Option Nat), ly_z zz → ly_z (ix_zr zz Z b v) := fun zz b v h => ⟨h.1, fun a k ha h9 => by rw [zr_o (by omega)]; exact h.2.1 a k ha h9, h.2.2⟩
  have ly2 : ly_z z2 := by rw [hz2]; exact zr_ly _ _ _ ly1
  have E2 : f_X3_init n z1 Z (Z + 1) d1 = some (z2, d1) := by
    have k9 : ix_ok z1 [0, 3, 5, 6, 9] Z := ⟨by omega, by rw [kZ1]; decide⟩
    rw [← wp_eq]
    unfold f_X3_init f_X8_init
    refine wi_bd2 ?_
    refine wi_ck k9 ?_
    refine wi_lt ?_
    rw [← hz2]
    refine wi_some ?_
    exact wi_some rfl
  have n2 : z2.2.2 = Z + 2 := by rw [hz2]; exact n1
  have k2 : ∀ a, z2.2.1 a = z1.2.1 a := fun a => by rw [hz2]; rfl
  obtain ⟨d3, E3, s1, s2⟩ := e_cpB (n := n) (z := z2) (src := 44) (LEN := 60) (N := L) (x := x) (d := d1) (by omega) (ly2.1 44 (by omega)) (by omega) hL hx (fun j hj => by rw [(q1 _ _ (by omega)).1, da1 _ _ (by omega)]; exact hb j hj)
  rw [n2] at E3 s1 s2
  obtain ⟨z3, hz3'⟩ : ∃ z3, z3 = ix_zn z2 21 L := ⟨_, rfl⟩
  rw [← hz3'] at E3
  have ly3 : ly_z z3 := by rw [hz3']; exact zn_ly ly2
  have n3 : z3.2.2 = Z + 3 := by rw [hz3', zn_n, n2]
  obtain ⟨z4, hz4⟩ : ∃ z4, z4 = ix_zr z3 Z 3 (some (Z + 2)) := ⟨_, rfl⟩
  have ly4 : ly_z z4 := by rw [hz4]; exact zr_ly _ _ _ ly3
  have n4 : z4.2.2 = Z + 3 := by rw [hz4]; exact n3
  have e7 : (d3.1 43 7).toInt = K := by rw [(s1 _ _ (by omega)).1, (q1 _ _ (by omega)).1, da1 _ _ (by omega), h7]; exact nI_ti (by omega)
  obtain ⟨d5, E5, u1, u2⟩ := e_cpI (n := n) (z := z4) (src := 47) (LEN := 60) (N := K) (x := d3.1 43 7) (d := d3) (by omega) (ly4.1 47 (by omega)) (by omega) hK e7
  rw [n4] at E5 u1 u2
  obtain ⟨z5, hz5⟩ : ∃ z5, z5 = ix_zn z4 20 K := ⟨_, rfl⟩
  rw [← hz5] at E5
  have ly5 : ly_z z5 := by rw [hz5]; exact zn_ly ly4
  have n5 : z5.2.2 = Z + 4 := by rw [hz5, zn_n, n4]
  obtain ⟨z6, hz6⟩ : ∃ z6, z6 = ix_zr z5 Z 4 (some (Z + 3)) := ⟨_, rfl⟩
  have ly6 : ly_z z6 := by rw [hz6]; exact zr_ly _ _ _ ly5
  have n6 : z6.2.2 = Z + 4 := by rw [hz6]; exact n5
  have e75 : d5.1 43 7 = nI K := by rw [(u1 _ _ (by omega)).1, (s1 _ _ (by omega)).1, (q1 _ _ (by omega)).1, da1 _ _ (by omega)]; exact h7
  have e1K : d5.1 43 7 + 1 = nI (K + 1) := by rw [e75]; exact nI_1 _
  have eK1 : (nI (K + 1)).toInt = ((K + 1 : Nat) : Int) := nI_ti (by omega)
  have nK1 : ix_n (nI (K + 1)) = K + 1 := nI_n (by omega)
  have kcK : ¬ nI (K + 1) < 0 ∧ ix_n (nI (K + 1)) ≤ 64 := ⟨by rw [ti_lt, eK1]; simp only [Int32.reduceToInt]; omega, by omega⟩
  obtain ⟨z7, hz7⟩ : ∃ z7, z7 = ix_zn z6 20 (K + 1) := ⟨_, rfl⟩
  have ly7 : ly_z z7 := by rw [hz7]; exact zn_ly ly6
  have n7 : z7.2.2 = Z + 5 := by rw [hz7, zn_n, n6]
  obtain ⟨z8, hz8⟩ : ∃ z8, z8 = ix_zr z7 Z 5 (some (Z + 4)) := ⟨_, rfl⟩
  -- kinds and references at the end
  have ks : ∀ a, a < Z + 4 → z8.2.1 a = z5.2.1 a := fun a ha => by rw [hz8, zr_k, hz7, zn_k (by omega), hz6, zr_k]
  have ks4 : ∀ a, a < Z + 3 → z5.2.1 a = z3.2.1 a := fun a ha => by rw [hz5, zn_k (by omega), hz4, zr_k]
  have ks3 : ∀ a, a < Z + 2 → z3.2.1 a = z1.2.1 a := fun a ha => by rw [hz3', zn_k (by omega), hz2, zr_k]
  have kr8 : ∀ a k, a < Z + 4 → (a ≠ Z ∨ k ≠ 5) → (a ≠ Z ∨ k ≠ 4) → z8.1 a k = z5.1 a k := fun a k ha h5 h4 => by rw [hz8, zr_o h5, hz7, zn_r (by omega), hz6, zr_o h4]
  have kr5 : ∀ a k, a < Z + 3 → (a ≠ Z ∨ k ≠ 3) → z5.1 a k = z3.1 a k := fun a k ha h3 => by rw [hz5, zn_r (by omega), hz4, zr_o h3]
  have kr3 : ∀ a k, a < Z + 2 → (a ≠ Z ∨ k ≠ 0) → z3.1 a k = z1.1 a k := fun a k ha h3 => by rw [hz3', zn_r (by omega), hz2, zr_o h3]
  have k94 : ix_ok z3 [9] Z := ⟨by omega, by rw [ks3 Z (by omega), kZ1]; decide⟩
  have k96 : ix_ok z5 [9] Z := ⟨by omega, by rw [ks4 Z (by omega), ks3 Z (by omega), kZ1]; decide⟩
  have k97 : ix_ok z7 [9] Z := ⟨by omega, by rw [hz7, zn_k (by omega), hz6, zr_k, ks4 Z (by omega), ks3 Z (by omega), kZ1]; decide⟩
  have d8 : ∀ a k, a ≠ Z + 4 → (ix_dn d5 (Z + 4)).1 a k = d5.1 a k := fun a k h => dn_1 h
  refine ⟨z8, ix_dn d5 (Z + 4), ?_, ?_, fun k hk h4 => ?_⟩
  · have ko1 : ix_ok za [4] 43 := of_eq_true (ly_o43 lya)
    have ko2 : ix_ok z2 [4] 43 := of_eq_true (ly_o43 ly2)
    have kr2 : z2.1 43 0 = some 44 := ly_r43_0 ly2
    have ko4 : ix_ok z4 [4] 43 := of_eq_true (ly_o43 ly4)
    have kr4 : z4.1 43 6 = some 47 := ly_r43_6 ly4
    have ko6 : ix_ok z6 [4] 43 := of_eq_true (ly_o43 ly6)
    rw [← hza, ← hZ, ← hda, ← wp_eq]
    unfold f_X10_init
    refine wi_ck ko1 ?_
    refine wi_bd3 ?_
    refine wi_e E1 ?_
    refine wi_r rfl ?_
    refine wi_bd2 ?_
    refine wi_e E2 ?_
    refine wi_ck ko2 ?_
    refine wi_r kr2 ?_
    refine wi_bd3 ?_
    refine wi_e E3 ?_
    refine wi_r rfl ?_
    refine wi_ck k94 ?_
    refine wi_lt ?_
    dsimp only
    rw [← hz4]
    refine wi_ck ko4 ?_
    refine wi_r kr4 ?_
    refine wi_bd3 ?_
    refine wi_e E5 ?_
    refine wi_r rfl ?_
    refine wi_ck k96 ?_
    refine wi_lt ?_
    dsimp only
    rw [← hz6]
    refine wi_ck ko6 ?_
    rw [e1K]
    refine wi_ck kcK ?_
    rw [nK1, ← hz7, n6]
    refine wi_lt ?_
    refine wi_lt ?_
    refine wi_ck k97 ?_
    rw [← hz8]
    refine wi_lt ?_
    exact wi_some rfl
  · unfold MT_
    rw [← hZ]
    refine ⟨by rw [hz8]; exact n7, fun a ha => ?_, fun a k ha => ?_, ?_, ?_, ?_, ?_, ?_, ?_, ?_, ?_, ?_, fun a k ha => ⟨?_, ?_⟩, fun j hj => ?_, fun k hk => ?_⟩
    · rw [ks a (by omega), ks4 a (by omega), ks3 a (by omega), hz1, zn_k (by omega), hza, zn_k (by omega)]
    · rw [kr8 a k (by omega) (by omega) (by omega), kr5 a k (by omega) (by omega), kr3 a k (by omega) (by omega), hz1, zn_r (by omega), hza, zn_r (by omega)]
    · rw [ks _ (by omega), ks4 _ (by omega), ks3 _ (by omega), kZ1]
    · rw [kr8 _ _ (by omega) (by omega) (by omega), kr5 _ _ (by omega) (by omega), hz3', zn_r (by omega), hz2]; exact zr_s
    · rw [kr8 _ _ (by omega) (by omega) (by omega), hz5, zn_r (by omega), hz4]; exact zr_s
    · rw [hz8, zr_o (by omega), hz7, zn_r (by omega), hz6]; exact zr_s
    · rw [hz8]; exact zr_s
    · rw [ks _ (by omega), ks4 _ (by omega), ks3 _ (by omega), hz1, ← na]; exact zn_s
    · rw [ks _ (by omega), ks4 _ (by omega), hz3', ← n2]; exact zn_s
    · rw [ks _ (by omega), hz5, ← n4]; exact zn_s
    · rw [hz8, zr_k, hz7, ← n6]; exact zn_s
    · rw [d8 _ _ (by omega), (u1 _ _ (by omega)).1, (s1 _ _ (by omega)).1, (q1 _ _ (by omega)).1]; exact da1 _ _ (by omega)
    · rw [show (ix_dn d5 (Z + 4)).2 a k = d5.2 a k from dn_2 (by omega), (u1 _ _ (by omega)).2, (s1 _ _ (by omega)).2, (q1 _ _ (by omega)).2]; exact da2 _ _ (by omega)
    · rw [d8 _ _ (by omega), (u1 _ _ (by omega)).1, s2 j hj, (q1 _ _ (by omega)).1]; exact da1 _ _ (by omega)
    · rw [d8 _ _ (by omega), u2 k hk, (s1 _ _ (by omega)).1, (q1 _ _ (by omega)).1]; exact da1 _ _ (by omega)
  · rw [← hZ, d8 _ _ (by omega), (u1 _ _ (by omega)).1, (s1 _ _ (by omega)).1]
    exact q2 k hk h4
end TLH

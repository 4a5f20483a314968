/-! THE CELLS BEHIND BOTH CONSTRUCTORS: kinds, lengths, references -/
def ly_K (a : Nat) : Nat × Nat := [(10, 18), (25, 40), (20, 12), (20, 12), (20, 12), (20, 12), (20, 12), (20, 12), (20, 12), (20, 12), (20, 12), (20, 12), (20, 12), (20, 12), (20, 12), (20, 12), (20, 12), (20, 12), (20, 12), (20, 12), (20, 12), (20, 12), (20, 12), (20, 12), (20, 12), (20, 12), (20, 12), (20, 12), (20, 12), (20, 12), (20, 12), (20, 12), (20, 12), (20, 12), (20, 12), (20, 12), (20, 12), (20, 12), (20, 12), (20, 12), (20, 12), (20, 12), (20, 40), (4, 17), (21, 60), (21, 13500), (20, 100), (20, 60), (20, 8), (20, 8), (20, 8), (2, 12), (7, 3), (20, 2500), (20, 501), (20, 301), (22, 301), (20, 20), (20, 12), (24, 60), (8, 20), (1, 17), (7, 3), (20, 11780), (20, 1365), (20, 601), (20, 11780), (20, 11780), (20, 1364), (23, 22), (23, 22), (20, 301), (20, 301), (20, 301), (20, 301), (20, 301), (7, 3), (20, 1280), (20, 65), (23, 301), (20, 20), (20, 800), (23, 6400), (23, 2408), (23, 8), (20, 10), (20, 5), (20, 301), (20, 301), (20, 800), (8, 20), (1, 17), (7, 3), (20, 11780), (20, 1365), (20, 601), (20, 11780), (20, 11780), (20, 1364), (23, 22), (23, 22), (20, 301), (20, 301), (20, 301), (20, 301), (20, 301), (7, 3), (20, 1280), (20, 65), (23, 301), (20, 20), (20, 800), (23, 6400), (23, 2408), (23, 8), (20, 10), (20, 5), (20, 301), (20, 301), (20, 800), (7, 3), (20, 8000), (20, 801), (20, 500), (20, 20), (11, 116), (20, 301), (22, 301), (20, 40), (20, 480), (20, 60), (20, 16384), (20, 60), (20, 60), (22, 60), (20, 60), (20, 1800), (20, 60), (20, 60), (20, 3600), (20, 60), (20, 3600), (20, 60), (20, 501), (20, 2600), (20, 100), (20, 20), (20, 130), (20, 2600), (20, 12), (20, 40), (20, 40), (20, 14), (20, 14), (20, 60), (20, 60), (20, 60), (20, 60), (22, 60), (20, 26), (20, 301), (20, 2), (20, 2), (22, 1000), (20, 40), (20, 2), (20, 2), (20, 602), (20, 602), (20, 602), (20, 602), (23, 602), (23, 2), (20, 600), (20, 2), (20, 2), (20, 1602), (20, 16100), (20, 2), (20, 2), (22, 1600), (20, 1600), (23, 12800), (23, 4816), (23, 8), (20, 2), (20, 2), (20, 20), (20, 5), (20, 500), (20, 20), (20, 320), (22, 301), (22, 301), (20, 320), (22, 800), (20, 801), (20, 8100), (20, 301)].getD a (0, 0)
def ly_R (a k : Nat) : Option Nat := (([[some 1, some 42, some 43, some 51, some 59, none, some 60, some 90, some 120, some 123, none, some 124], [some 2, some 3, some 4, some 5, some 6, some 7, some 8, some 9, some 10, some 11, some 12, some 13, some 14, some 15, some 16, some 17, some 18, some 19, some 20, some 21, some 22, some 23, some 24, some 25, some 26, some 27, some 28, some 29, some 30, some 31, some 32, some 33, some 34, some 35, some 36, some 37, some 38, some 39, some 40, some 41], [], [], [], [], [], [], [], [], [], [], [], [], [], [], [], [], [], [], [], [], [], [], [], [], [], [], [], [], [], [], [], [], [], [], [], [], [], [], [], [], [], [some 44, none, some 45, none, some 46, none, some 47, none, some 48, some 49, some 50], [], [], [], [], [], [], [], [some 52, some 55, some 56, some 57, some 58], [some 53, some 54], [], [], [], [], [], [], [], [some 61, some 76, some 79, none, some 80, none, some 81, some 82, some 83, some 84, some 85, some 86, some 87, some 88, none, some 89], [some 62, some 65, some 66, some 67, some 68, some 69, some 70, some 71, some 72, some 73, some 74, some 75], [some 63, some 64], [], [], [], [], [], [], [], [], [], [], [], [], [], [some 77, some 78], [], [], [], [], [], [], [], [], [], [], [], [], [], [some 91, some 106, some 109, none, some 110, none, some 111, some 112, some 113, some 114, some 115, some 116, some 117, some 118, none, some 119], [some 92, some 95, some 96, some 97, some 98, some 99, some 100, some 101, some 102, some 103, some 104, some 105], [some 93, some 94], [], [], [], [], [], [], [], [], [], [], [], [], [], [some 107, some 108], [], [], [], [], [], [], [], [], [], [], [], [], [], [some 121, some 122], [], [], [], [], [none, none, some 126, some 127, none, some 128, some 129, some 130, none, some 131, none, none, some 132, some 133, some 134, some 135, some 136, some 137, some 138, some 139, some 140, some 141, some 142, none, some 143, some 144, some 145, none, some 146, none, none, none, none, some 147, some 148, some 149, none, none, none, some 150, none, some 151, none, some 152, some 153, some 154, none, some 155, some 156, none, none, none, none, some 157, none, some 158, some 159, none, none, none, some 160, some 161, some 162, some 163, some 164, some 165, none, none, some 166, some 167, some 168, some 169, some 170, some 171, some 172, some 173, some 174, some 175, some 176, some 177, some 178, some 179, some 180, some 181, some 182, some 183, some 184, some 185, some 186, none, some 187, none, some 188, some 189, none, some 190, none, none, none, none, none, some 191, some 192, some 193, none, some 194, none, some 195, none, some 196, some 197, none, some 198], [], [], [], [], [], [], [], [], [], [], [], [], [], [], [], [], [], [], [], [], [], [], [], [], [], [], [], [], [], [], [], [], [], [], [], [], [], [], [], [], [], [], [], [], [], [], [], [], [], [], [], [], [], [], [], [], [], [], [], [], [], [], [], [], [], [], [], [], [], [], [], [], []] : List (List (Option Nat))).getD a []).getD k none
def ly_z (z : ix_Z) : Prop := (∀ a, a < 199 → z.2.1 a = ly_K a) ∧ (∀ a k, a < 199 → a ≠ 59 → z.1 a k = ly_R a k) ∧ 199 ≤ z.2.2
theorem ly_ok {z : ix_Z} (h : ly_z z) {a t : Nat} (ha : a < 199) (hk : (ly_K a).1 = t) : ix_ok z [t] a = True := eq_true ⟨Nat.lt_of_lt_of_le ha h.2.2, by rw [h.1 a ha, hk]; exact List.mem_singleton.mpr rfl⟩
theorem ly_ix {z : ix_Z} (h : ly_z z) {a t L : Nat} {i : Int32} (ha : a < 199) (hk : ly_K a = (t, L)) (hL : L < 2147483648) : ix_ix z t a i = (0 ≤ i ∧ i < Int32.ofNat L) := by
  refine propext ⟨fun ⟨_, _, q⟩ => ?_, fun q => ⟨Nat.lt_of_lt_of_le ha h.2.2, by rw [h.1 a ha, hk], ?_⟩⟩
  · rw [h.1 a ha, hk] at q
    exact (ni_vp hL).mp q
  · rw [h.1 a ha, hk]
    exact (ni_vp hL).mpr q
theorem wi_ok {z : ix_Z} (hz : ly_z z) {a t : Nat} {α : Type} {k : Option α} {Q : α → Prop} (ha : a < 199) (hk : (ly_K a).1 = t) (kk : wp_t k Q) : wp_t (ix_ck (ix_ok z [t] a) k) Q := wi_ck (of_eq_true (ly_ok hz ha hk)) kk
theorem wi_z {z : ix_Z} (hz : ly_z z) {a i b : Nat} {α : Type} {k : Nat → Option α} {Q : α → Prop} (ha : a < 199) (h9 : a ≠ 59) (hk : ly_R a i = some b) (kk : wp_t (k b) Q) : wp_t (ix_bd1 (z.1 a i) k) Q := by rw [hz.2.1 a i ha h9, hk]; exact kk
theorem wi_ix {z : ix_Z} (hz : ly_z z) {a t L : Nat} {i : Int32} {α : Type} {k : Option α} {Q : α → Prop} (ha : a < 199) (hk : ly_K a = (t, L)) (hL : L < 2147483648) (h0 : 0 ≤ i.toInt) (h1 : i.toInt < (L : Int)) (kk : wp_t k Q) : wp_t (ix_ck (ix_ix z t a i) k) Q := by
  refine wi_ck ?_ kk
  rw [ly_ix hz ha hk hL]
  exact ⟨ti_le ▸ h0, by rw [ti_lt, ni_ofNat hL]; exact h1⟩
theorem ly_pk {z : ix_Z} (h : ly_z z) {r : Int32} (h0 : 0 ≤ r) (h1 : r < 40) : z.2.1 (2 + ix_n r) = (20, 12) ∧ z.1 1 (ix_n r) = some (2 + ix_n r) ∧ 2 + ix_n r < z.2.2 := by
  have h2 : ix_n r < 40 := ni_mono h0 h1
  have e : ∀ k, k < 40 → ly_K (2 + k) = (20, 12) ∧ ly_R 1 k = some (2 + k) := by decide
  rw [h.1 _ (by omega), h.2.1 1 _ (by decide) (by decide)]
  exact ⟨(e _ h2).1, (e _ h2).2, Nat.lt_of_lt_of_le (by omega) h.2.2⟩
theorem ly_pr {z : ix_Z} (h : ly_z z) {r : Int32} (h0 : 0 ≤ r) (h1 : r < 40) : z.1 1 (ix_n r) = some (2 + ix_n r) := (ly_pk h h0 h1).2.1
theorem ly_pi {z : ix_Z} (h : ly_z z) {r i : Int32} (h0 : 0 ≤ r) (h1 : r < 40) : ix_ix z 20 (2 + ix_n r) i = (0 ≤ i ∧ i < 12) := by
  have h2 : ix_n r < 40 := ni_mono h0 h1
  exact ly_ix h (by omega) ((h.1 _ (by omega)).symm.trans (ly_pk h h0 h1).1) (by decide)
theorem ly_p1 {z : ix_Z} (h : ly_z z) {r : Int32} : ix_ix z 25 1 r = (0 ≤ r ∧ r < 40) := ly_ix h (by decide) rfl (by decide)
theorem ly_o0 {z : ix_Z} (h : ly_z z) : ix_ok z [10] 0 = True := ly_ok h (by decide) rfl
theorem ly_a1 {z : ix_Z} (h : ly_z z) : (1 < z.2.2 ∧ 20 ≤ (z.2.1 1).1 ∧ (z.2.1 1).1 < 26) = True := by rw [h.1 1 (by decide)]; exact eq_true ⟨Nat.lt_of_lt_of_le (by decide) h.2.2, by decide, by decide⟩
theorem ly_n1 {z : ix_Z} (h : ly_z z) : nI (z.2.1 1).2 = 40 := by rw [h.1 1 (by decide)]; rfl
theorem ly_l1 {z : ix_Z} (h : ly_z z) : (z.2.1 1).2 = 40 := by rw [h.1 1 (by decide)]; rfl
theorem ly_a2 {z : ix_Z} (h : ly_z z) : (2 < z.2.2 ∧ 20 ≤ (z.2.1 2).1 ∧ (z.2.1 2).1 < 26) = True := by rw [h.1 2 (by decide)]; exact eq_true ⟨Nat.lt_of_lt_of_le (by decide) h.2.2, by decide, by decide⟩
theorem ly_n2 {z : ix_Z} (h : ly_z z) : nI (z.2.1 2).2 = 12 := by rw [h.1 2 (by decide)]; rfl
theorem ly_l2 {z : ix_Z} (h : ly_z z) : (z.2.1 2).2 = 12 := by rw [h.1 2 (by decide)]; rfl
theorem ly_a3 {z : ix_Z} (h : ly_z z) : (3 < z.2.2 ∧ 20 ≤ (z.2.1 3).1 ∧ (z.2.1 3).1 < 26) = True := by rw [h.1 3 (by decide)]; exact eq_true ⟨Nat.lt_of_lt_of_le (by decide) h.2.2, by decide, by decide⟩
theorem ly_n3 {z : ix_Z} (h : ly_z z) : nI (z.2.1 3).2 = 12 := by rw [h.1 3 (by decide)]; rfl
theorem ly_l3 {z : ix_Z} (h : ly_z z) : (z.2.1 3).2 = 12 := by rw [h.1 3 (by decide)]; rfl
theorem ly_a4 {z : ix_Z} (h : ly_z z) : (4 < z.2.2 ∧ 20 ≤ (z.2.1 4).1 ∧ (z.2.1 4).1 < 26) = True := by rw [h.1 4 (by decide)]; exact eq_true ⟨Nat.lt_of_lt_of_le (by decide) h.2.2, by decide, by decide⟩
theorem ly_n4 {z : ix_Z} (h : ly_z z) : nI (z.2.1 4).2 = 12 := by rw [h.1 4 (by decide)]; rfl
theorem ly_l4 {z : ix_Z} (h : ly_z z) : (z.2.1 4).2 = 12 := by rw [h.1 4 (by decide)]; rfl
theorem ly_a5 {z : ix_Z} (h : ly_z z) : (5 < z.2.2 ∧ 20 ≤ (z.2.1 5).1 ∧ (z.2.1 5).1 < 26) = True := by rw [h.1 5 (by decide)]; exact eq_true ⟨Nat.lt_of_lt_of_le (by decide) h.2.2, by decide, by decide⟩
theorem ly_n5 {z : ix_Z} (h : ly_z z) : nI (z.2.1 5).2 = 12 := by rw [h.1 5 (by decide)]; rfl
theorem ly_l5 {z : ix_Z} (h : ly_z z) : (z.2.1 5).2 = 12 := by rw [h.1 5 (by decide)]; rfl
theorem ly_a6 {z : ix_Z} (h : ly_z z) : (6 < z.2.2 ∧ 20 ≤ (z.2.1 6).1 ∧ (z.2.1 6).1 < 26) = True := by rw [h.1 6 (by decide)]; exact eq_true ⟨Nat.lt_of_lt_of_le (by decide) h.2.2, by decide, by decide⟩
theorem ly_n6 {z : ix_Z} (h : ly_z z) : nI (z.2.1 6).2 = 12 := by rw [h.1 6 (by decide)]; rfl
theorem ly_l6 {z : ix_Z} (h : ly_z z) : (z.2.1 6).2 = 12 := by rw [h.1 6 (by decide)]; rfl
theorem ly_a7 {z : ix_Z} (h : ly_z z) : (7 < z.2.2 ∧ 20 ≤ (z.2.1 7).1 ∧ (z.2.1 7).1 < 26) = True := by rw [h.1 7 (by decide)]; exact eq_true ⟨Nat.lt_of_lt_of_le (by decide) h.2.2, by decide, by decide⟩
theorem ly_n7 {z : ix_Z} (h : ly_z z) : nI (z.2.1 7).2 = 12 := by rw [h.1 7 (by decide)]; rfl
theorem ly_l7 {z : ix_Z} (h : ly_z z) : (z.2.1 7).2 = 12 := by rw [h.1 7 (by decide)]; rfl
theorem ly_a8 {z : ix_Z} (h : ly_z z) : (8 < z.2.2 ∧ 20 ≤ (z.2.1 8).1 ∧ (z.2.1 8).1 < 26) = True := by rw [h.1 8 (by decide)]; exact eq_true ⟨Nat.lt_of_lt_of_le (by decide) h.2.2, by decide, by decide⟩
theorem ly_n8 {z : ix_Z} (h : ly_z z) : nI (z.2.1 8).2 = 12 := by rw [h.1 8 (by decide)]; rfl
theorem ly_l8 {z : ix_Z} (h : ly_z z) : (z.2.1 8).2 = 12 := by rw [h.1 8 (by decide)]; rfl
theorem ly_a9 {z : ix_Z} (h : ly_z z) : (9 < z.2.2 ∧ 20 ≤ (z.2.1 9).1 ∧ (z.2.1 9).1 < 26) = True := by rw [h.1 9 (by decide)]; exact eq_true ⟨Nat.lt_of_lt_of_le (by decide) h.2.2, by decide, by decide⟩
theorem ly_n9 {z : ix_Z} (h : ly_z z) : nI (z.2.1 9).2 = 12 := by rw [h.1 9 (by decide)]; rfl
theorem ly_l9 {z : ix_Z} (h : ly_z z) : (z.2.1 9).2 = 12 := by rw [h.1 9 (by decide)]; rfl
theorem ly_a10 {z : ix_Z} (h : ly_z z) : (10 < z.2.2 ∧ 20 ≤ (z.2.1 10).1 ∧ (z.2.1 10).1 < 26) = True := by rw [h.1 10 (by decide)]; exact eq_true ⟨Nat.lt_of_lt_of_le (by decide) h.2.2, by decide, by decide⟩
theorem ly_n10 {z : ix_Z} (h : ly_z z) : nI (z.2.1 10).2 = 12 := by rw [h.1 10 (by decide)]; rfl
theorem ly_l10 {z : ix_Z} (h : ly_z z) : (z.2.1 10).2 = 12 := by rw [h.1 10 (by decide)]; rfl
theorem ly_a11 {z : ix_Z} (h : ly_z z) : (11 < z.2.2 ∧ 20 ≤ (z.2.1 11).1 ∧ (z.2.1 11).1 < 26) = True := by rw [h.1 11 (by decide)]; exact eq_true ⟨Nat.lt_of_lt_of_le (by decide) h.2.2, by decide, by decide⟩
theorem ly_n11 {z : ix_Z} (h : ly_z z) : nI (z.2.1 11).2 = 12 := by rw [h.1 11 (by decide)]; rfl
theorem ly_l11 {z : ix_Z} (h : ly_z z) : (z.2.1 11).2 = 12 := by rw [h.1 11 (by decide)]; rfl
theorem ly_a12 {z : ix_Z} (h : ly_z z) : (12 < z.2.2 ∧ 20 ≤ (z.2.1 12).1 ∧ (z.2.1 12).1 < 26) = True := by rw [h.1 12 (by decide)]; exact eq_true ⟨Nat.lt_of_lt_of_le (by decide) h.2.2, by decide, by decide⟩
theorem ly_n12 {z : ix_Z} (h : ly_z z) : nI (z.2.1 12).2 = 12 := by rw [h.1 12 (by decide)]; rfl
theorem ly_l12 {z : ix_Z} (h : ly_z z) : (z.2.1 12).2 = 12 := by rw [h.1 12 (by decide)]; rfl
theorem ly_a13 {z : ix_Z} (h : ly_z z) : (13 < z.2.2 ∧ 20 ≤ (z.2.1 13).1 ∧ (z.2.1 13).1 < 26) = True := by rw [h.1 13 (by decide)]; exact eq_true ⟨Nat.lt_of_lt_of_le (by decide) h.2.2, by decide, by decide⟩
theorem ly_n13 {z : ix_Z} (h : ly_z z) : nI (z.2.1 13).2 = 12 := by rw [h.1 13 (by decide)]; rfl
theorem ly_l13 {z : ix_Z} (h : ly_z z) : (z.2.1 13).2 = 12 := by rw [h.1 13 (by decide)]; rfl
theorem ly_a14 {z : ix_Z} (h : ly_z z) : (14 < z.2.2 ∧ 20 ≤ (z.2.1 14).1 ∧ (z.2.1 14).1 < 26) = True := by rw [h.1 14 (by decide)]; exact eq_true ⟨Nat.lt_of_lt_of_le (by decide) h.2.2, by decide, by decide⟩
theorem ly_n14 {z : ix_Z} (h : ly_z z) : nI (z.2.1 14).2 = 12 := by rw [h.1 14 (by decide)]; rfl
theorem ly_l14 {z : ix_Z} (h : ly_z z) : (z.2.1 14).2 = 12 := by rw [h.1 14 (by decide)]; rfl
theorem ly_a15 {z : ix_Z} (h : ly_z z) : (15 < z.2.2 ∧ 20 ≤ (z.2.1 15).1 ∧ (z.2.1 15).1 < 26) = True := by rw [h.1 15 (by decide)]; exact eq_true ⟨Nat.lt_of_lt_of_le (by decide) h.2.2, by decide, by decide⟩
theorem ly_n15 {z : ix_Z} (h : ly_z z) : nI (z.2.1 15).2 = 12 := by rw [h.1 15 (by decide)]; rfl
theorem ly_l15 {z : ix_Z} (h : ly_z z) : (z.2.1 15).2 = 12 := by rw [h.1 15 (by decide)]; rfl
theorem ly_a16 {z : ix_Z} (h : ly_z z) : (16 < z.2.2 ∧ 20 ≤ (z.2.1 16).1 ∧ (z.2.1 16).1 < 26) = True := by rw [h.1 16 (by decide)]; exact eq_true ⟨Nat.lt_of_lt_of_le (by decide) h.2.2, by decide, by decide⟩
theorem ly_n16 {z : ix_Z} (h : ly_z z) : nI (z.2.1 16).2 = 12 := by rw [h.1 16 (by decide)]; rfl
theorem ly_l16 {z : ix_Z} (h : ly_z z) : (z.2.1 16).2 = 12 := by rw [h.1 16 (by decide)]; rfl
theorem ly_a17 {z : ix_Z} (h : ly_z z) : (17 < z.2.2 ∧ 20 ≤ (z.2.1 17).1 ∧ (z.2.1 17).1 < 26) = True := by rw [h.1 17 (by decide)]; exact eq_true ⟨Nat.lt_of_lt_of_le (by decide) h.2.2, by decide, by decide⟩
theorem ly_n17 {z : ix_Z} (h : ly_z z) : nI (z.2.1 17).2 = 12 := by rw [h.1 17 (by decide)]; rfl
theorem ly_l17 {z : ix_Z} (h : ly_z z) : (z.2.1 17).2 = 12 := by rw [h.1 17 (by decide)]; rfl
theorem ly_a18 {z : ix_Z} (h : ly_z z) : (18 < z.2.2 ∧ 20 ≤ (z.2.1 18).1 ∧ (z.2.1 18).1 < 26) = True := by rw [h.1 18 (by decide)]; exact eq_true ⟨Nat.lt_of_lt_of_le (by decide) h.2.2, by decide, by decide⟩
theorem ly_n18 {z : ix_Z} (h : ly_z z) : nI (z.2.1 18).2 = 12 := by rw [h.1 18 (by decide)]; rfl
theorem ly_l18 {z : ix_Z} (h : ly_z z) : (z.2.1 18).2 = 12 := by rw [h.1 18 (by decide)]; rfl
theorem ly_a19 {z : ix_Z} (h : ly_z z) : (19 < z.2.2 ∧ 20 ≤ (z.2.1 19).1 ∧ (z.2.1 19).1 < 26) = True := by rw [h.1 19 (by decide)]; exact eq_true ⟨Nat.lt_of_lt_of_le (by decide) h.2.2, by decide, by decide⟩
theorem ly_n19 {z : ix_Z} (h : ly_z z) : nI (z.2.1 19).2 = 12 := by rw [h.1 19 (by decide)]; rfl
theorem ly_l19 {z : ix_Z} (h : ly_z z) : (z.2.1 19).2 = 12 := by rw [h.1 19 (by decide)]; rfl
theorem ly_a20 {z : ix_Z} (h : ly_z z) : (20 < z.2.2 ∧ 20 ≤ (z.2.1 20).1 ∧ (z.2.1 20).1 < 26) = True := by rw [h.1 20 (by decide)]; exact eq_true ⟨Nat.lt_of_lt_of_le (by decide) h.2.2, by decide, by decide⟩
theorem ly_n20 {z : ix_Z} (h : ly_z z) : nI (z.2.1 20).2 = 12 := by rw [h.1 20 (by decide)]; rfl
theorem ly_l20 {z : ix_Z} (h : ly_z z) : (z.2.1 20).2 = 12 := by rw [h.1 20 (by decide)]; rfl
theorem ly_a21 {z : ix_Z} (h : ly_z z) : (21 < z.2.2 ∧ 20 ≤ (z.2.1 21).1 ∧ (z.2.1 21).1 < 26) = True := by rw [h.1 21 (by decide)]; exact eq_true ⟨Nat.lt_of_lt_of_le (by decide) h.2.2, by decide, by decide⟩
theorem ly_n21 {z : ix_Z} (h : ly_z z) : nI (z.2.1 21).2 = 12 := by rw [h.1 21 (by decide)]; rfl
theorem ly_l21 {z : ix_Z} (h : ly_z z) : (z.2.1 21).2 = 12 := by rw [h.1 21 (by decide)]; rfl
theorem ly_a22 {z : ix_Z} (h : ly_z z) : (22 < z.2.2 ∧ 20 ≤ (z.2.1 22).1 ∧ (z.2.1 22).1 < 26) = True := by rw [h.1 22 (by decide)]; exact eq_true ⟨Nat.lt_of_lt_of_le (by decide) h.2.2, by decide, by decide⟩
theorem ly_n22 {z : ix_Z} (h : ly_z z) : nI (z.2.1 22).2 = 12 := by rw [h.1 22 (by decide)]; rfl
theorem ly_l22 {z : ix_Z} (h : ly_z z) : (z.2.1 22).2 = 12 := by rw [h.1 22 (by decide)]; rfl
theorem ly_a23 {z : ix_Z} (h : ly_z z) : (23 < z.2.2 ∧ 20 ≤ (z.2.1 23).1 ∧ (z.2.1 23).1 < 26) = True := by rw [h.1 23 (by decide)]; exact eq_true ⟨Nat.lt_of_lt_of_le (by decide) h.2.2, by decide, by decide⟩
theorem ly_n23 {z : ix_Z} (h : ly_z z) : nI (z.2.1 23).2 = 12 := by rw [h.1 23 (by decide)]; rfl
theorem ly_l23 {z : ix_Z} (h : ly_z z) : (z.2.1 23).2 = 12 := by rw [h.1 23 (by decide)]; rfl
theorem ly_a24 {z : ix_Z} (h : ly_z z) : (24 < z.2.2 ∧ 20 ≤ (z.2.1 24).1 ∧ (z.2.1 24).1 < 26) = True := by rw [h.1 24 (by decide)]; exact eq_true ⟨Nat.lt_of_lt_of_le (by decide) h.2.2, by decide, by decide⟩
theorem ly_n24 {z : ix_Z} (h : ly_z z) : nI (z.2.1 24).2 = 12 := by rw [h.1 24 (by decide)]; rfl
theorem ly_l24 {z : ix_Z} (h : ly_z z) : (z.2.1 24).2 = 12 := by rw [h.1 24 (by decide)]; rfl
theorem ly_a25 {z : ix_Z} (h : ly_z z) : (25 < z.2.2 ∧ 20 ≤ (z.2.1 25).1 ∧ (z.2.1 25).1 < 26) = True := by rw [h.1 25 (by decide)]; exact eq_true ⟨Nat.lt_of_lt_of_le (by decide) h.2.2, by decide, by decide⟩
theorem ly_n25 {z : ix_Z} (h : ly_z z) : nI (z.2.1 25).2 = 12 := by rw [h.1 25 (by decide)]; rfl
theorem ly_l25 {z : ix_Z} (h : ly_z z) : (z.2.1 25).2 = 12 := by rw [h.1 25 (by decide)]; rfl
theorem ly_a26 {z : ix_Z} (h : ly_z z) : (26 < z.2.2 ∧ 20 ≤ (z.2.1 26).1 ∧ (z.2.1 26).1 < 26) = True := by rw [h.1 26 (by decide)]; exact eq_true ⟨Nat.lt_of_lt_of_le (by decide) h.2.2, by decide, by decide⟩
theorem ly_n26 {z : ix_Z} (h : ly_z z) : nI (z.2.1 26).2 = 12 := by rw [h.1 26 (by decide)]; rfl
theorem ly_l26 {z : ix_Z} (h : ly_z z) : (z.2.1 26).2 = 12 := by rw [h.1 26 (by decide)]; rfl
theorem ly_a27 {z : ix_Z} (h : ly_z z) : (27 < z.2.2 ∧ 20 ≤ (z.2.1 27).1 ∧ (z.2.1 27).1 < 26) = True := by rw [h.1 27 (by decide)]; exact eq_true ⟨Nat.lt_of_lt_of_le (by decide) h.2.2, by decide, by decide⟩
theorem ly_n27 {z : ix_Z} (h : ly_z z) : nI (z.2.1 27).2 = 12 := by rw [h.1 27 (by decide)]; rfl
theorem ly_l27 {z : ix_Z} (h : ly_z z) : (z.2.1 27).2 = 12 := by rw [h.1 27 (by decide)]; rfl
theorem ly_a28 {z : ix_Z} (h : ly_z z) : (28 < z.2.2 ∧ 20 ≤ (z.2.1 28).1 ∧ (z.2.1 28).1 < 26) = True := by rw [h.1 28 (by decide)]; exact eq_true ⟨Nat.lt_of_lt_of_le (by decide) h.2.2, by decide, by decide⟩
theorem ly_n28 {z : ix_Z} (h : ly_z z) : nI (z.2.1 28).2 = 12 := by rw [h.1 28 (by decide)]; rfl
theorem ly_l28 {z : ix_Z} (h : ly_z z) : (z.2.1 28).2 = 12 := by rw [h.1 28 (by decide)]; rfl
theorem ly_a29 {z : ix_Z} (h : ly_z z) : (29 < z.2.2 ∧ 20 ≤ (z.2.1 29).1 ∧ (z.2.1 29).1 < 26) = True := by rw [h.1 29 (by decide)]; exact eq_true ⟨Nat.lt_of_lt_of_le (by decide) h.2.2, by decide, by decide⟩
theorem ly_n29 {z : ix_Z} (h : ly_z z) : nI (z.2.1 29).2 = 12 := by rw [h.1 29 (by decide)]; rfl
theorem ly_l29 {z : ix_Z} (h : ly_z z) : (z.2.1 29).2 = 12 := by rw [h.1 29 (by decide)]; rfl
theorem ly_a30 {z : ix_Z} (h : ly_z z) : (30 < z.2.2 ∧ 20 ≤ (z.2.1 30).1 ∧ (z.2.1 30).1 < 26) = True := by rw [h.1 30 (by decide)]; exact eq_true ⟨Nat.lt_of_lt_of_le (by decide) h.2.2, by decide, by decide⟩
theorem ly_n30 {z : ix_Z} (h : ly_z z) : nI (z.2.1 30).2 = 12 := by rw [h.1 30 (by decide)]; rfl
theorem ly_l30 {z : ix_Z} (h : ly_z z) : (z.2.1 30).2 = 12 := by rw [h.1 30 (by decide)]; rfl
theorem ly_a31 {z : ix_Z} (h : ly_z z) : (31 < z.2.2 ∧ 20 ≤ (z.2.1 31).1 ∧ (z.2.1 31).1 < 26) = True := by rw [h.1 31 (by decide)]; exact eq_true ⟨Nat.lt_of_lt_of_le (by decide) h.2.2, by decide, by decide⟩
theorem ly_n31 {z : ix_Z} (h : ly_z z) : nI (z.2.1 31).2 = 12 := by rw [h.1 31 (by decide)]; rfl
theorem ly_l31 {z : ix_Z} (h : ly_z z) : (z.2.1 31).2 = 12 := by rw [h.1 31 (by decide)]; rfl
theorem ly_a32 {z : ix_Z} (h : ly_z z) : (32 < z.2.2 ∧ 20 ≤ (z.2.1 32).1 ∧ (z.2.1 32).1 < 26) = True := by rw [h.1 32 (by decide)]; exact eq_true ⟨Nat.lt_of_lt_of_le (by decide) h.2.2, by decide, by decide⟩
theorem ly_n32 {z : ix_Z} (h : ly_z z) : nI (z.2.1 32).2 = 12 := by rw [h.1 32 (by decide)]; rfl
theorem ly_l32 {z : ix_Z} (h : ly_z z) : (z.2.1 32).2 = 12 := by rw [h.1 32 (by decide)]; rfl
theorem ly_a33 {z : ix_Z} (h : ly_z z) : (33 < z.2.2 ∧ 20 ≤ (z.2.1 33).1 ∧ (z.2.1 33).1 < 26) = True := by rw [h.1 33 (by decide)]; exact eq_true ⟨Nat.lt_of_lt_of_le (by decide) h.2.2, by decide, by decide⟩
theorem ly_n33 {z : ix_Z} (h : ly_z z) : nI (z.2.1 33).2 = 12 := by rw [h.1 33 (by decide)]; rfl
theorem ly_l33 {z : ix_Z} (h : ly_z z) : (z.2.1 33).2 = 12 := by rw [h.1 33 (by decide)]; rfl
theorem ly_a34 {z : ix_Z} (h : ly_z z) : (34 < z.2.2 ∧ 20 ≤ (z.2.1 34).1 ∧ (z.2.1 34).1 < 26) = True := by rw [h.1 34 (by decide)]; exact eq_true ⟨Nat.lt_of_lt_of_le (by decide) h.2.2, by decide, by decide⟩
theorem ly_n34 {z : ix_Z} (h : ly_z z) : nI (z.2.1 34).2 = 12 := by rw [h.1 34 (by decide)]; rfl
theorem ly_l34 {z : ix_Z} (h : ly_z z) : (z.2.1 34).2 = 12 := by rw [h.1 34 (by decide)]; rfl
theorem ly_a35 {z : ix_Z} (h : ly_z z) : (35 < z.2.2 ∧ 20 ≤ (z.2.1 35).1 ∧ (z.2.1 35).1 < 26) = True := by rw [h.1 35 (by decide)]; exact eq_true ⟨Nat.lt_of_lt_of_le (by decide) h.2.2, by decide, by decide⟩
theorem ly_n35 {z : ix_Z} (h : ly_z z) : nI (z.2.1 35).2 = 12 := by rw [h.1 35 (by decide)]; rfl
theorem ly_l35 {z : ix_Z} (h : ly_z z) : (z.2.1 35).2 = 12 := by rw [h.1 35 (by decide)]; rfl
theorem ly_a36 {z : ix_Z} (h : ly_z z) : (36 < z.2.2 ∧ 20 ≤ (z.2.1 36).1 ∧ (z.2.1 36).1 < 26) = True := by rw [h.1 36 (by decide)]; exact eq_true ⟨Nat.lt_of_lt_of_le (by decide) h.2.2, by decide, by decide⟩
theorem ly_n36 {z : ix_Z} (h : ly_z z) : nI (z.2.1 36).2 = 12 := by rw [h.1 36 (by decide)]; rfl
theorem ly_l36 {z : ix_Z} (h : ly_z z) : (z.2.1 36).2 = 12 := by rw [h.1 36 (by decide)]; rfl
theorem ly_a37 {z : ix_Z} (h : ly_z z) : (37 < z.2.2 ∧ 20 ≤ (z.2.1 37).1 ∧ (z.2.1 37).1 < 26) = True := by rw [h.1 37 (by decide)]; exact eq_true ⟨Nat.lt_of_lt_of_le (by decide) h.2.2, by decide, by decide⟩
theorem ly_n37 {z : ix_Z} (h : ly_z z) : nI (z.2.1 37).2 = 12 := by rw [h.1 37 (by decide)]; rfl
theorem ly_l37 {z : ix_Z} (h : ly_z z) : (z.2.1 37).2 = 12 := by rw [h.1 37 (by decide)]; rfl
theorem ly_a38 {z : ix_Z} (h : ly_z z) : (38 < z.2.2 ∧ 20 ≤ (z.2.1 38).1 ∧ (z.2.1 38).1 < 26) = True := by rw [h.1 38 (by decide)]; exact eq_true ⟨Nat.lt_of_lt_of_le (by decide) h.2.2, by decide, by decide⟩
theorem ly_n38 {z : ix_Z} (h : ly_z z) : nI (z.2.1 38).2 = 12 := by rw [h.1 38 (by decide)]; rfl
theorem ly_l38 {z : ix_Z} (h : ly_z z) : (z.2.1 38).2 = 12 := by rw [h.1 38 (by decide)]; rfl
theorem ly_a39 {z : ix_Z} (h : ly_z z) : (39 < z.2.2 ∧ 20 ≤ (z.2.1 39).1 ∧ (z.2.1 39).1 < 26) = True := by rw [h.1 39 (by decide)]; exact eq_true ⟨Nat.lt_of_lt_of_le (by decide) h.2.2, by decide, by decide⟩
theorem ly_n39 {z : ix_Z} (h : ly_z z) : nI (z.2.1 39).2 = 12 := by rw [h.1 39 (by decide)]; rfl
theorem ly_l39 {z : ix_Z} (h : ly_z z) : (z.2.1 39).2 = 12 := by rw [h.1 39 (by decide)]; rfl
theorem ly_a40 {z : ix_Z} (h : ly_z z) : (40 < z.2.2 ∧ 20 ≤ (z.2.1 40).1 ∧ (z.2.1 40).1 < 26) = True := by rw [h.1 40 (by decide)]; exact eq_true ⟨Nat.lt_of_lt_of_le (by decide) h.2.2, by decide, by decide⟩
theorem ly_n40 {z : ix_Z} (h : ly_z z) : nI (z.2.1 40).2 = 12 := by rw [h.1 40 (by decide)]; rfl
theorem ly_l40 {z : ix_Z} (h : ly_z z) : (z.2.1 40).2 = 12 := by rw [h.1 40 (by decide)]; rfl
theorem ly_a41 {z : ix_Z} (h : ly_z z) : (41 < z.2.2 ∧ 20 ≤ (z.2.1 41).1 ∧ (z.2.1 41).1 < 26) = True := by rw [h.1 41 (by decide)]; exact eq_true ⟨Nat.lt_of_lt_of_le (by decide) h.2.2, by decide, by decide⟩
theorem ly_n41 {z : ix_Z} (h : ly_z z) : nI (z.2.1 41).2 = 12 := by rw [h.1 41 (by decide)]; rfl
theorem ly_l41 {z : ix_Z} (h : ly_z z) : (z.2.1 41).2 = 12 := by rw [h.1 41 (by decide)]; rfl
theorem ly_i42 {z : ix_Z} (h : ly_z z) {i : Int32} : ix_ix z 20 42 i = (0 ≤ i ∧ i < 40) := ly_ix h (by decide) rfl (by decide)
theorem ly_a42 {z : ix_Z} (h : ly_z z) : (42 < z.2.2 ∧ 20 ≤ (z.2.1 42).1 ∧ (z.2.1 42).1 < 26) = True := by rw [h.1 42 (by decide)]; exact eq_true ⟨Nat.lt_of_lt_of_le (by decide) h.2.2, by decide, by decide⟩
theorem ly_n42 {z : ix_Z} (h : ly_z z) : nI (z.2.1 42).2 = 40 := by rw [h.1 42 (by decide)]; rfl
theorem ly_l42 {z : ix_Z} (h : ly_z z) : (z.2.1 42).2 = 40 := by rw [h.1 42 (by decide)]; rfl
theorem ly_o43 {z : ix_Z} (h : ly_z z) : ix_ok z [4] 43 = True := ly_ok h (by decide) rfl
theorem ly_i44 {z : ix_Z} (h : ly_z z) {i : Int32} : ix_ix z 21 44 i = (0 ≤ i ∧ i < 60) := ly_ix h (by decide) rfl (by decide)
theorem ly_a44 {z : ix_Z} (h : ly_z z) : (44 < z.2.2 ∧ 20 ≤ (z.2.1 44).1 ∧ (z.2.1 44).1 < 26) = True := by rw [h.1 44 (by decide)]; exact eq_true ⟨Nat.lt_of_lt_of_le (by decide) h.2.2, by decide, by decide⟩
theorem ly_n44 {z : ix_Z} (h : ly_z z) : nI (z.2.1 44).2 = 60 := by rw [h.1 44 (by decide)]; rfl
theorem ly_l44 {z : ix_Z} (h : ly_z z) : (z.2.1 44).2 = 60 := by rw [h.1 44 (by decide)]; rfl
theorem ly_i45 {z : ix_Z} (h : ly_z z) {i : Int32} : ix_ix z 21 45 i = (0 ≤ i ∧ i < 13500) := ly_ix h (by decide) rfl (by decide)
theorem ly_a45 {z : ix_Z} (h : ly_z z) : (45 < z.2.2 ∧ 20 ≤ (z.2.1 45).1 ∧ (z.2.1 45).1 < 26) = True := by rw [h.1 45 (by decide)]; exact eq_true ⟨Nat.lt_of_lt_of_le (by decide) h.2.2, by decide, by decide⟩
theorem ly_n45 {z : ix_Z} (h : ly_z z) : nI (z.2.1 45).2 = 13500 := by rw [h.1 45 (by decide)]; rfl
theorem ly_l45 {z : ix_Z} (h : ly_z z) : (z.2.1 45).2 = 13500 := by rw [h.1 45 (by decide)]; rfl
theorem ly_i46 {z : ix_Z} (h : ly_z z) {i : Int32} : ix_ix z 20 46 i = (0 ≤ i ∧ i < 100) := ly_ix h (by decide) rfl (by decide)
theorem ly_a46 {z : ix_Z} (h : ly_z z) : (46 < z.2.2 ∧ 20 ≤ (z.2.1 46).1 ∧ (z.2.1 46).1 < 26) = True := by rw [h.1 46 (by decide)]; exact eq_true ⟨Nat.lt_of_lt_of_le (by decide) h.2.2, by decide, by decide⟩
theorem ly_n46 {z : ix_Z} (h : ly_z z) : nI (z.2.1 46).2 = 100 := by rw [h.1 46 (by decide)]; rfl
theorem ly_l46 {z : ix_Z} (h : ly_z z) : (z.2.1 46).2 = 100 := by rw [h.1 46 (by decide)]; rfl
theorem ly_i47 {z : ix_Z} (h : ly_z z) {i : Int32} : ix_ix z 20 47 i = (0 ≤ i ∧ i < 60) := ly_ix h (by decide) rfl (by decide)
theorem ly_a47 {z : ix_Z} (h : ly_z z) : (47 < z.2.2 ∧ 20 ≤ (z.2.1 47).1 ∧ (z.2.1 47).1 < 26) = True := by rw [h.1 47 (by decide)]; exact eq_true ⟨Nat.lt_of_lt_of_le (by decide) h.2.2, by decide, by decide⟩
theorem ly_n47 {z : ix_Z} (h : ly_z z) : nI (z.2.1 47).2 = 60 := by rw [h.1 47 (by decide)]; rfl
theorem ly_l47 {z : ix_Z} (h : ly_z z) : (z.2.1 47).2 = 60 := by rw [h.1 47 (by decide)]; rfl
theorem ly_i48 {z : ix_Z} (h : ly_z z) {i : Int32} : ix_ix z 20 48 i = (0 ≤ i ∧ i < 8) := ly_ix h (by decide) rfl (by decide)
theorem ly_a48 {z : ix_Z} (h : ly_z z) : (48 < z.2.2 ∧ 20 ≤ (z.2.1 48).1 ∧ (z.2.1 48).1 < 26) = True := by rw [h.1 48 (by decide)]; exact eq_true ⟨Nat.lt_of_lt_of_le (by decide) h.2.2, by decide, by decide⟩
theorem ly_n48 {z : ix_Z} (h : ly_z z) : nI (z.2.1 48).2 = 8 := by rw [h.1 48 (by decide)]; rfl
theorem ly_l48 {z : ix_Z} (h : ly_z z) : (z.2.1 48).2 = 8 := by rw [h.1 48 (by decide)]; rfl
theorem ly_i49 {z : ix_Z} (h : ly_z z) {i : Int32} : ix_ix z 20 49 i = (0 ≤ i ∧ i < 8) := ly_ix h (by decide) rfl (by decide)
theorem ly_a49 {z : ix_Z} (h : ly_z z) : (49 < z.2.2 ∧ 20 ≤ (z.2.1 49).1 ∧ (z.2.1 49).1 < 26) = True := by rw [h.1 49 (by decide)]; exact eq_true ⟨Nat.lt_of_lt_of_le (by decide) h.2.2, by decide, by decide⟩
theorem ly_n49 {z : ix_Z} (h : ly_z z) : nI (z.2.1 49).2 = 8 := by rw [h.1 49 (by decide)]; rfl
theorem ly_l49 {z : ix_Z} (h : ly_z z) : (z.2.1 49).2 = 8 := by rw [h.1 49 (by decide)]; rfl
theorem ly_i50 {z : ix_Z} (h : ly_z z) {i : Int32} : ix_ix z 20 50 i = (0 ≤ i ∧ i < 8) := ly_ix h (by decide) rfl (by decide)
theorem ly_a50 {z : ix_Z} (h : ly_z z) : (50 < z.2.2 ∧ 20 ≤ (z.2.1 50).1 ∧ (z.2.1 50).1 < 26) = True := by rw [h.1 50 (by decide)]; exact eq_true ⟨Nat.lt_of_lt_of_le (by decide) h.2.2, by decide, by decide⟩
theorem ly_n50 {z : ix_Z} (h : ly_z z) : nI (z.2.1 50).2 = 8 := by rw [h.1 50 (by decide)]; rfl
theorem ly_l50 {z : ix_Z} (h : ly_z z) : (z.2.1 50).2 = 8 := by rw [h.1 50 (by decide)]; rfl
theorem ly_o51 {z : ix_Z} (h : ly_z z) : ix_ok z [2] 51 = True := ly_ok h (by decide) rfl
theorem ly_o52 {z : ix_Z} (h : ly_z z) : ix_ok z [7] 52 = True := ly_ok h (by decide) rfl
theorem ly_i53 {z : ix_Z} (h : ly_z z) {i : Int32} : ix_ix z 20 53 i = (0 ≤ i ∧ i < 2500) := ly_ix h (by decide) rfl (by decide)
theorem ly_a53 {z : ix_Z} (h : ly_z z) : (53 < z.2.2 ∧ 20 ≤ (z.2.1 53).1 ∧ (z.2.1 53).1 < 26) = True := by rw [h.1 53 (by decide)]; exact eq_true ⟨Nat.lt_of_lt_of_le (by decide) h.2.2, by decide, by decide⟩
theorem ly_n53 {z : ix_Z} (h : ly_z z) : nI (z.2.1 53).2 = 2500 := by rw [h.1 53 (by decide)]; rfl
theorem ly_l53 {z : ix_Z} (h : ly_z z) : (z.2.1 53).2 = 2500 := by rw [h.1 53 (by decide)]; rfl
theorem ly_i54 {z : ix_Z} (h : ly_z z) {i : Int32} : ix_ix z 20 54 i = (0 ≤ i ∧ i < 501) := ly_ix h (by decide) rfl (by decide)
theorem ly_a54 {z : ix_Z} (h : ly_z z) : (54 < z.2.2 ∧ 20 ≤ (z.2.1 54).1 ∧ (z.2.1 54).1 < 26) = True := by rw [h.1 54 (by decide)]; exact eq_true ⟨Nat.lt_of_lt_of_le (by decide) h.2.2, by decide, by decide⟩
theorem ly_n54 {z : ix_Z} (h : ly_z z) : nI (z.2.1 54).2 = 501 := by rw [h.1 54 (by decide)]; rfl
theorem ly_l54 {z : ix_Z} (h : ly_z z) : (z.2.1 54).2 = 501 := by rw [h.1 54 (by decide)]; rfl
theorem ly_i55 {z : ix_Z} (h : ly_z z) {i : Int32} : ix_ix z 20 55 i = (0 ≤ i ∧ i < 301) := ly_ix h (by decide) rfl (by decide)
theorem ly_a55 {z : ix_Z} (h : ly_z z) : (55 < z.2.2 ∧ 20 ≤ (z.2.1 55).1 ∧ (z.2.1 55).1 < 26) = True := by rw [h.1 55 (by decide)]; exact eq_true ⟨Nat.lt_of_lt_of_le (by decide) h.2.2, by decide, by decide⟩
theorem ly_n55 {z : ix_Z} (h : ly_z z) : nI (z.2.1 55).2 = 301 := by rw [h.1 55 (by decide)]; rfl
theorem ly_l55 {z : ix_Z} (h : ly_z z) : (z.2.1 55).2 = 301 := by rw [h.1 55 (by decide)]; rfl
theorem ly_i56 {z : ix_Z} (h : ly_z z) {i : Int32} : ix_ix z 22 56 i = (0 ≤ i ∧ i < 301) := ly_ix h (by decide) rfl (by decide)
theorem ly_a56 {z : ix_Z} (h : ly_z z) : (56 < z.2.2 ∧ 20 ≤ (z.2.1 56).1 ∧ (z.2.1 56).1 < 26) = True := by rw [h.1 56 (by decide)]; exact eq_true ⟨Nat.lt_of_lt_of_le (by decide) h.2.2, by decide, by decide⟩
theorem ly_n56 {z : ix_Z} (h : ly_z z) : nI (z.2.1 56).2 = 301 := by rw [h.1 56 (by decide)]; rfl
theorem ly_l56 {z : ix_Z} (h : ly_z z) : (z.2.1 56).2 = 301 := by rw [h.1 56 (by decide)]; rfl
theorem ly_i57 {z : ix_Z} (h : ly_z z) {i : Int32} : ix_ix z 20 57 i = (0 ≤ i ∧ i < 20) := ly_ix h (by decide) rfl (by decide)
theorem ly_a57 {z : ix_Z} (h : ly_z z) : (57 < z.2.2 ∧ 20 ≤ (z.2.1 57).1 ∧ (z.2.1 57).1 < 26) = True := by rw [h.1 57 (by decide)]; exact eq_true ⟨Nat.lt_of_lt_of_le (by decide) h.2.2, by decide, by decide⟩
theorem ly_n57 {z : ix_Z} (h : ly_z z) : nI (z.2.1 57).2 = 20 := by rw [h.1 57 (by decide)]; rfl
theorem ly_l57 {z : ix_Z} (h : ly_z z) : (z.2.1 57).2 = 20 := by rw [h.1 57 (by decide)]; rfl
theorem ly_i58 {z : ix_Z} (h : ly_z z) {i : Int32} : ix_ix z 20 58 i = (0 ≤ i ∧ i < 12) := ly_ix h (by decide) rfl (by decide)
theorem ly_a58 {z : ix_Z} (h : ly_z z) : (58 < z.2.2 ∧ 20 ≤ (z.2.1 58).1 ∧ (z.2.1 58).1 < 26) = True := by rw [h.1 58 (by decide)]; exact eq_true ⟨Nat.lt_of_lt_of_le (by decide) h.2.2, by decide, by decide⟩
theorem ly_n58 {z : ix_Z} (h : ly_z z) : nI (z.2.1 58).2 = 12 := by rw [h.1 58 (by decide)]; rfl
theorem ly_l58 {z : ix_Z} (h : ly_z z) : (z.2.1 58).2 = 12 := by rw [h.1 58 (by decide)]; rfl
theorem ly_a59 {z : ix_Z} (h : ly_z z) : (59 < z.2.2 ∧ 20 ≤ (z.2.1 59).1 ∧ (z.2.1 59).1 < 26) = True := by rw [h.1 59 (by decide)]; exact eq_true ⟨Nat.lt_of_lt_of_le (by decide) h.2.2, by decide, by decide⟩
theorem ly_n59 {z : ix_Z} (h : ly_z z) : nI (z.2.1 59).2 = 60 := by rw [h.1 59 (by decide)]; rfl
theorem ly_l59 {z : ix_Z} (h : ly_z z) : (z.2.1 59).2 = 60 := by rw [h.1 59 (by decide)]; rfl
theorem ly_o60 {z : ix_Z} (h : ly_z z) : ix_ok z [8] 60 = True := ly_ok h (by decide) rfl
theorem ly_o61 {z : ix_Z} (h : ly_z z) : ix_ok z [1] 61 = True := ly_ok h (by decide) rfl
theorem ly_o62 {z : ix_Z} (h : ly_z z) : ix_ok z [7] 62 = True := ly_ok h (by decide) rfl
theorem ly_i63 {z : ix_Z} (h : ly_z z) {i : Int32} : ix_ix z 20 63 i = (0 ≤ i ∧ i < 11780) := ly_ix h (by decide) rfl (by decide)
theorem ly_a63 {z : ix_Z} (h : ly_z z) : (63 < z.2.2 ∧ 20 ≤ (z.2.1 63).1 ∧ (z.2.1 63).1 < 26) = True := by rw [h.1 63 (by decide)]; exact eq_true ⟨Nat.lt_of_lt_of_le (by decide) h.2.2, by decide, by decide⟩
theorem ly_n63 {z : ix_Z} (h : ly_z z) : nI (z.2.1 63).2 = 11780 := by rw [h.1 63 (by decide)]; rfl
theorem ly_l63 {z : ix_Z} (h : ly_z z) : (z.2.1 63).2 = 11780 := by rw [h.1 63 (by decide)]; rfl
theorem ly_i64 {z : ix_Z} (h : ly_z z) {i : Int32} : ix_ix z 20 64 i = (0 ≤ i ∧ i < 1365) := ly_ix h (by decide) rfl (by decide)
theorem ly_a64 {z : ix_Z} (h : ly_z z) : (64 < z.2.2 ∧ 20 ≤ (z.2.1 64).1 ∧ (z.2.1 64).1 < 26) = True := by rw [h.1 64 (by decide)]; exact eq_true ⟨Nat.lt_of_lt_of_le (by decide) h.2.2, by decide, by decide⟩
theorem ly_n64 {z : ix_Z} (h : ly_z z) : nI (z.2.1 64).2 = 1365 := by rw [h.1 64 (by decide)]; rfl
theorem ly_l64 {z : ix_Z} (h : ly_z z) : (z.2.1 64).2 = 1365 := by rw [h.1 64 (by decide)]; rfl
theorem ly_i65 {z : ix_Z} (h : ly_z z) {i : Int32} : ix_ix z 20 65 i = (0 ≤ i ∧ i < 601) := ly_ix h (by decide) rfl (by decide)
theorem ly_a65 {z : ix_Z} (h : ly_z z) : (65 < z.2.2 ∧ 20 ≤ (z.2.1 65).1 ∧ (z.2.1 65).1 < 26) = True := by rw [h.1 65 (by decide)]; exact eq_true ⟨Nat.lt_of_lt_of_le (by decide) h.2.2, by decide, by decide⟩
theorem ly_n65 {z : ix_Z} (h : ly_z z) : nI (z.2.1 65).2 = 601 := by rw [h.1 65 (by decide)]; rfl
theorem ly_l65 {z : ix_Z} (h : ly_z z) : (z.2.1 65).2 = 601 := by rw [h.1 65 (by decide)]; rfl
theorem ly_i66 {z : ix_Z} (h : ly_z z) {i : Int32} : ix_ix z 20 66 i = (0 ≤ i ∧ i < 11780) := ly_ix h (by decide) rfl (by decide)
theorem ly_a66 {z : ix_Z} (h : ly_z z) : (66 < z.2.2 ∧ 20 ≤ (z.2.1 66).1 ∧ (z.2.1 66).1 < 26) = True := by rw [h.1 66 (by decide)]; exact eq_true ⟨Nat.lt_of_lt_of_le (by decide) h.2.2, by decide, by decide⟩
theorem ly_n66 {z : ix_Z} (h : ly_z z) : nI (z.2.1 66).2 = 11780 := by rw [h.1 66 (by decide)]; rfl
theorem ly_l66 {z : ix_Z} (h : ly_z z) : (z.2.1 66).2 = 11780 := by rw [h.1 66 (by decide)]; rfl
theorem ly_i67 {z : ix_Z} (h : ly_z z) {i : Int32} : ix_ix z 20 67 i = (0 ≤ i ∧ i < 11780) := ly_ix h (by decide) rfl (by decide)
theorem ly_a67 {z : ix_Z} (h : ly_z z) : (67 < z.2.2 ∧ 20 ≤ (z.2.1 67).1 ∧ (z.2.1 67).1 < 26) = True := by rw [h.1 67 (by decide)]; exact eq_true ⟨Nat.lt_of_lt_of_le (by decide) h.2.2, by decide, by decide⟩
theorem ly_n67 {z : ix_Z} (h : ly_z z) : nI (z.2.1 67).2 = 11780 := by rw [h.1 67 (by decide)]; rfl
theorem ly_l67 {z : ix_Z} (h : ly_z z) : (z.2.1 67).2 = 11780 := by rw [h.1 67 (by decide)]; rfl
theorem ly_i68 {z : ix_Z} (h : ly_z z) {i : Int32} : ix_ix z 20 68 i = (0 ≤ i ∧ i < 1364) := ly_ix h (by decide) rfl (by decide)
theorem ly_a68 {z : ix_Z} (h : ly_z z) : (68 < z.2.2 ∧ 20 ≤ (z.2.1 68).1 ∧ (z.2.1 68).1 < 26) = True := by rw [h.1 68 (by decide)]; exact eq_true ⟨Nat.lt_of_lt_of_le (by decide) h.2.2, by decide, by decide⟩
theorem ly_n68 {z : ix_Z} (h : ly_z z) : nI (z.2.1 68).2 = 1364 := by rw [h.1 68 (by decide)]; rfl
theorem ly_l68 {z : ix_Z} (h : ly_z z) : (z.2.1 68).2 = 1364 := by rw [h.1 68 (by decide)]; rfl
theorem ly_i69 {z : ix_Z} (h : ly_z z) {i : Int32} : ix_ix z 23 69 i = (0 ≤ i ∧ i < 22) := ly_ix h (by decide) rfl (by decide)
theorem ly_a69 {z : ix_Z} (h : ly_z z) : (69 < z.2.2 ∧ 20 ≤ (z.2.1 69).1 ∧ (z.2.1 69).1 < 26) = True := by rw [h.1 69 (by decide)]; exact eq_true ⟨Nat.lt_of_lt_of_le (by decide) h.2.2, by decide, by decide⟩
theorem ly_n69 {z : ix_Z} (h : ly_z z) : nI (z.2.1 69).2 = 22 := by rw [h.1 69 (by decide)]; rfl
theorem ly_l69 {z : ix_Z} (h : ly_z z) : (z.2.1 69).2 = 22 := by rw [h.1 69 (by decide)]; rfl
theorem ly_i70 {z : ix_Z} (h : ly_z z) {i : Int32} : ix_ix z 23 70 i = (0 ≤ i ∧ i < 22) := ly_ix h (by decide) rfl (by decide)
theorem ly_a70 {z : ix_Z} (h : ly_z z) : (70 < z.2.2 ∧ 20 ≤ (z.2.1 70).1 ∧ (z.2.1 70).1 < 26) = True := by rw [h.1 70 (by decide)]; exact eq_true ⟨Nat.lt_of_lt_of_le (by decide) h.2.2, by decide, by decide⟩
theorem ly_n70 {z : ix_Z} (h : ly_z z) : nI (z.2.1 70).2 = 22 := by rw [h.1 70 (by decide)]; rfl
theorem ly_l70 {z : ix_Z} (h : ly_z z) : (z.2.1 70).2 = 22 := by rw [h.1 70 (by decide)]; rfl
theorem ly_i71 {z : ix_Z} (h : ly_z z) {i : Int32} : ix_ix z 20 71 i = (0 ≤ i ∧ i < 301) := ly_ix h (by decide) rfl (by decide)
theorem ly_a71 {z : ix_Z} (h : ly_z z) : (71 < z.2.2 ∧ 20 ≤ (z.2.1 71).1 ∧ (z.2.1 71).1 < 26) = True := by rw [h.1 71 (by decide)]; exact eq_true ⟨Nat.lt_of_lt_of_le (by decide) h.2.2, by decide, by decide⟩
theorem ly_n71 {z : ix_Z} (h : ly_z z) : nI (z.2.1 71).2 = 301 := by rw [h.1 71 (by decide)]; rfl
theorem ly_l71 {z : ix_Z} (h : ly_z z) : (z.2.1 71).2 = 301 := by rw [h.1 71 (by decide)]; rfl
theorem ly_i72 {z : ix_Z} (h : ly_z z) {i : Int32} : ix_ix z 20 72 i = (0 ≤ i ∧ i < 301) := ly_ix h (by decide) rfl (by decide)
theorem ly_a72 {z : ix_Z} (h : ly_z z) : (72 < z.2.2 ∧ 20 ≤ (z.2.1 72).1 ∧ (z.2.1 72).1 < 26) = True := by rw [h.1 72 (by decide)]; exact eq_true ⟨Nat.lt_of_lt_of_le (by decide) h.2.2, by decide, by decide⟩
theorem ly_n72 {z : ix_Z} (h : ly_z z) : nI (z.2.1 72).2 = 301 := by rw [h.1 72 (by decide)]; rfl
theorem ly_l72 {z : ix_Z} (h : ly_z z) : (z.2.1 72).2 = 301 := by rw [h.1 72 (by decide)]; rfl
theorem ly_i73 {z : ix_Z} (h : ly_z z) {i : Int32} : ix_ix z 20 73 i = (0 ≤ i ∧ i < 301) := ly_ix h (by decide) rfl (by decide)
theorem ly_a73 {z : ix_Z} (h : ly_z z) : (73 < z.2.2 ∧ 20 ≤ (z.2.1 73).1 ∧ (z.2.1 73).1 < 26) = True := by rw [h.1 73 (by decide)]; exact eq_true ⟨Nat.lt_of_lt_of_le (by decide) h.2.2, by decide, by decide⟩
theorem ly_n73 {z : ix_Z} (h : ly_z z) : nI (z.2.1 73).2 = 301 := by rw [h.1 73 (by decide)]; rfl
theorem ly_l73 {z : ix_Z} (h : ly_z z) : (z.2.1 73).2 = 301 := by rw [h.1 73 (by decide)]; rfl
theorem ly_i74 {z : ix_Z} (h : ly_z z) {i : Int32} : ix_ix z 20 74 i = (0 ≤ i ∧ i < 301) := ly_ix h (by decide) rfl (by decide)
theorem ly_a74 {z : ix_Z} (h : ly_z z) : (74 < z.2.2 ∧ 20 ≤ (z.2.1 74).1 ∧ (z.2.1 74).1 < 26) = True := by rw [h.1 74 (by decide)]; exact eq_true ⟨Nat.lt_of_lt_of_le (by decide) h.2.2, by decide, by decide⟩
theorem ly_n74 {z : ix_Z} (h : ly_z z) : nI (z.2.1 74).2 = 301 := by rw [h.1 74 (by decide)]; rfl
theorem ly_l74 {z : ix_Z} (h : ly_z z) : (z.2.1 74).2 = 301 := by rw [h.1 74 (by decide)]; rfl
theorem ly_i75 {z : ix_Z} (h : ly_z z) {i : Int32} : ix_ix z 20 75 i = (0 ≤ i ∧ i < 301) := ly_ix h (by decide) rfl (by decide)
theorem ly_a75 {z : ix_Z} (h : ly_z z) : (75 < z.2.2 ∧ 20 ≤ (z.2.1 75).1 ∧ (z.2.1 75).1 < 26) = True := by rw [h.1 75 (by decide)]; exact eq_true ⟨Nat.lt_of_lt_of_le (by decide) h.2.2, by decide, by decide⟩
theorem ly_n75 {z : ix_Z} (h : ly_z z) : nI (z.2.1 75).2 = 301 := by rw [h.1 75 (by decide)]; rfl
theorem ly_l75 {z : ix_Z} (h : ly_z z) : (z.2.1 75).2 = 301 := by rw [h.1 75 (by decide)]; rfl
theorem ly_o76 {z : ix_Z} (h : ly_z z) : ix_ok z [7] 76 = True := ly_ok h (by decide) rfl
theorem ly_i77 {z : ix_Z} (h : ly_z z) {i : Int32} : ix_ix z 20 77 i = (0 ≤ i ∧ i < 1280) := ly_ix h (by decide) rfl (by decide)
theorem ly_a77 {z : ix_Z} (h : ly_z z) : (77 < z.2.2 ∧ 20 ≤ (z.2.1 77).1 ∧ (z.2.1 77).1 < 26) = True := by rw [h.1 77 (by decide)]; exact eq_true ⟨Nat.lt_of_lt_of_le (by decide) h.2.2, by decide, by decide⟩
theorem ly_n77 {z : ix_Z} (h : ly_z z) : nI (z.2.1 77).2 = 1280 := by rw [h.1 77 (by decide)]; rfl
theorem ly_l77 {z : ix_Z} (h : ly_z z) : (z.2.1 77).2 = 1280 := by rw [h.1 77 (by decide)]; rfl
theorem ly_i78 {z : ix_Z} (h : ly_z z) {i : Int32} : ix_ix z 20 78 i = (0 ≤ i ∧ i < 65) := ly_ix h (by decide) rfl (by decide)
theorem ly_a78 {z : ix_Z} (h : ly_z z) : (78 < z.2.2 ∧ 20 ≤ (z.2.1 78).1 ∧ (z.2.1 78).1 < 26) = True := by rw [h.1 78 (by decide)]; exact eq_true ⟨Nat.lt_of_lt_of_le (by decide) h.2.2, by decide, by decide⟩
theorem ly_n78 {z : ix_Z} (h : ly_z z) : nI (z.2.1 78).2 = 65 := by rw [h.1 78 (by decide)]; rfl
theorem ly_l78 {z : ix_Z} (h : ly_z z) : (z.2.1 78).2 = 65 := by rw [h.1 78 (by decide)]; rfl
theorem ly_i79 {z : ix_Z} (h : ly_z z) {i : Int32} : ix_ix z 23 79 i = (0 ≤ i ∧ i < 301) := ly_ix h (by decide) rfl (by decide)
theorem ly_a79 {z : ix_Z} (h : ly_z z) : (79 < z.2.2 ∧ 20 ≤ (z.2.1 79).1 ∧ (z.2.1 79).1 < 26) = True := by rw [h.1 79 (by decide)]; exact eq_true ⟨Nat.lt_of_lt_of_le (by decide) h.2.2, by decide, by decide⟩
theorem ly_n79 {z : ix_Z} (h : ly_z z) : nI (z.2.1 79).2 = 301 := by rw [h.1 79 (by decide)]; rfl
theorem ly_l79 {z : ix_Z} (h : ly_z z) : (z.2.1 79).2 = 301 := by rw [h.1 79 (by decide)]; rfl
theorem ly_i80 {z : ix_Z} (h : ly_z z) {i : Int32} : ix_ix z 20 80 i = (0 ≤ i ∧ i < 20) := ly_ix h (by decide) rfl (by decide)
theorem ly_a80 {z : ix_Z} (h : ly_z z) : (80 < z.2.2 ∧ 20 ≤ (z.2.1 80).1 ∧ (z.2.1 80).1 < 26) = True := by rw [h.1 80 (by decide)]; exact eq_true ⟨Nat.lt_of_lt_of_le (by decide) h.2.2, by decide, by decide⟩
theorem ly_n80 {z : ix_Z} (h : ly_z z) : nI (z.2.1 80).2 = 20 := by rw [h.1 80 (by decide)]; rfl
theorem ly_l80 {z : ix_Z} (h : ly_z z) : (z.2.1 80).2 = 20 := by rw [h.1 80 (by decide)]; rfl
theorem ly_i81 {z : ix_Z} (h : ly_z z) {i : Int32} : ix_ix z 20 81 i = (0 ≤ i ∧ i < 800) := ly_ix h (by decide) rfl (by decide)
theorem ly_a81 {z : ix_Z} (h : ly_z z) : (81 < z.2.2 ∧ 20 ≤ (z.2.1 81).1 ∧ (z.2.1 81).1 < 26) = True := by rw [h.1 81 (by decide)]; exact eq_true ⟨Nat.lt_of_lt_of_le (by decide) h.2.2, by decide, by decide⟩
theorem ly_n81 {z : ix_Z} (h : ly_z z) : nI (z.2.1 81).2 = 800 := by rw [h.1 81 (by decide)]; rfl
theorem ly_l81 {z : ix_Z} (h : ly_z z) : (z.2.1 81).2 = 800 := by rw [h.1 81 (by decide)]; rfl
theorem ly_i82 {z : ix_Z} (h : ly_z z) {i : Int32} : ix_ix z 23 82 i = (0 ≤ i ∧ i < 6400) := ly_ix h (by decide) rfl (by decide)
theorem ly_a82 {z : ix_Z} (h : ly_z z) : (82 < z.2.2 ∧ 20 ≤ (z.2.1 82).1 ∧ (z.2.1 82).1 < 26) = True := by rw [h.1 82 (by decide)]; exact eq_true ⟨Nat.lt_of_lt_of_le (by decide) h.2.2, by decide, by decide⟩
theorem ly_n82 {z : ix_Z} (h : ly_z z) : nI (z.2.1 82).2 = 6400 := by rw [h.1 82 (by decide)]; rfl
theorem ly_l82 {z : ix_Z} (h : ly_z z) : (z.2.1 82).2 = 6400 := by rw [h.1 82 (by decide)]; rfl
theorem ly_i83 {z : ix_Z} (h : ly_z z) {i : Int32} : ix_ix z 23 83 i = (0 ≤ i ∧ i < 2408) := ly_ix h (by decide) rfl (by decide)
theorem ly_a83 {z : ix_Z} (h : ly_z z) : (83 < z.2.2 ∧ 20 ≤ (z.2.1 83).1 ∧ (z.2.1 83).1 < 26) = True := by rw [h.1 83 (by decide)]; exact eq_true ⟨Nat.lt_of_lt_of_le (by decide) h.2.2, by decide, by decide⟩
theorem ly_n83 {z : ix_Z} (h : ly_z z) : nI (z.2.1 83).2 = 2408 := by rw [h.1 83 (by decide)]; rfl
theorem ly_l83 {z : ix_Z} (h : ly_z z) : (z.2.1 83).2 = 2408 := by rw [h.1 83 (by decide)]; rfl
theorem ly_i84 {z : ix_Z} (h : ly_z z) {i : Int32} : ix_ix z 23 84 i = (0 ≤ i ∧ i < 8) := ly_ix h (by decide) rfl (by decide)
theorem ly_a84 {z : ix_Z} (h : ly_z z) : (84 < z.2.2 ∧ 20 ≤ (z.2.1 84).1 ∧ (z.2.1 84).1 < 26) = True := by rw [h.1 84 (by decide)]; exact eq_true ⟨Nat.lt_of_lt_of_le (by decide) h.2.2, by decide, by decide⟩
theorem ly_n84 {z : ix_Z} (h : ly_z z) : nI (z.2.1 84).2 = 8 := by rw [h.1 84 (by decide)]; rfl
theorem ly_l84 {z : ix_Z} (h : ly_z z) : (z.2.1 84).2 = 8 := by rw [h.1 84 (by decide)]; rfl
theorem ly_i85 {z : ix_Z} (h : ly_z z) {i : Int32} : ix_ix z 20 85 i = (0 ≤ i ∧ i < 10) := ly_ix h (by decide) rfl (by decide)
theorem ly_a85 {z : ix_Z} (h : ly_z z) : (85 < z.2.2 ∧ 20 ≤ (z.2.1 85).1 ∧ (z.2.1 85).1 < 26) = True := by rw [h.1 85 (by decide)]; exact eq_true ⟨Nat.lt_of_lt_of_le (by decide) h.2.2, by decide, by decide⟩
theorem ly_n85 {z : ix_Z} (h : ly_z z) : nI (z.2.1 85).2 = 10 := by rw [h.1 85 (by decide)]; rfl
theorem ly_l85 {z : ix_Z} (h : ly_z z) : (z.2.1 85).2 = 10 := by rw [h.1 85 (by decide)]; rfl
theorem ly_i86 {z : ix_Z} (h : ly_z z) {i : Int32} : ix_ix z 20 86 i = (0 ≤ i ∧ i < 5) := ly_ix h (by decide) rfl (by decide)
theorem ly_a86 {z : ix_Z} (h : ly_z z) : (86 < z.2.2 ∧ 20 ≤ (z.2.1 86).1 ∧ (z.2.1 86).1 < 26) = True := by rw [h.1 86 (by decide)]; exact eq_true ⟨Nat.lt_of_lt_of_le (by decide) h.2.2, by decide, by decide⟩
theorem ly_n86 {z : ix_Z} (h : ly_z z) : nI (z.2.1 86).2 = 5 := by rw [h.1 86 (by decide)]; rfl
theorem ly_l86 {z : ix_Z} (h : ly_z z) : (z.2.1 86).2 = 5 := by rw [h.1 86 (by decide)]; rfl
theorem ly_i87 {z : ix_Z} (h : ly_z z) {i : Int32} : ix_ix z 20 87 i = (0 ≤ i ∧ i < 301) := ly_ix h (by decide) rfl (by decide)
theorem ly_a87 {z : ix_Z} (h : ly_z z) : (87 < z.2.2 ∧ 20 ≤ (z.2.1 87).1 ∧ (z.2.1 87).1 < 26) = True := by rw [h.1 87 (by decide)]; exact eq_true ⟨Nat.lt_of_lt_of_le (by decide) h.2.2, by decide, by decide⟩
theorem ly_n87 {z : ix_Z} (h : ly_z z) : nI (z.2.1 87).2 = 301 := by rw [h.1 87 (by decide)]; rfl
theorem ly_l87 {z : ix_Z} (h : ly_z z) : (z.2.1 87).2 = 301 := by rw [h.1 87 (by decide)]; rfl
theorem ly_i88 {z : ix_Z} (h : ly_z z) {i : Int32} : ix_ix z 20 88 i = (0 ≤ i ∧ i < 301) := ly_ix h (by decide) rfl (by decide)
theorem ly_a88 {z : ix_Z} (h : ly_z z) : (88 < z.2.2 ∧ 20 ≤ (z.2.1 88).1 ∧ (z.2.1 88).1 < 26) = True := by rw [h.1 88 (by decide)]; exact eq_true ⟨Nat.lt_of_lt_of_le (by decide) h.2.2, by decide, by decide⟩
theorem ly_n88 {z : ix_Z} (h : ly_z z) : nI (z.2.1 88).2 = 301 := by rw [h.1 88 (by decide)]; rfl
theorem ly_l88 {z : ix_Z} (h : ly_z z) : (z.2.1 88).2 = 301 := by rw [h.1 88 (by decide)]; rfl
theorem ly_i89 {z : ix_Z} (h : ly_z z) {i : Int32} : ix_ix z 20 89 i = (0 ≤ i ∧ i < 800) := ly_ix h (by decide) rfl (by decide)
theorem ly_a89 {z : ix_Z} (h : ly_z z) : (89 < z.2.2 ∧ 20 ≤ (z.2.1 89).1 ∧ (z.2.1 89).1 < 26) = True := by rw [h.1 89 (by decide)]; exact eq_true ⟨Nat.lt_of_lt_of_le (by decide) h.2.2, by decide, by decide⟩
theorem ly_n89 {z : ix_Z} (h : ly_z z) : nI (z.2.1 89).2 = 800 := by rw [h.1 89 (by decide)]; rfl
theorem ly_l89 {z : ix_Z} (h : ly_z z) : (z.2.1 89).2 = 800 := by rw [h.1 89 (by decide)]; rfl
theorem ly_o90 {z : ix_Z} (h : ly_z z) : ix_ok z [8] 90 = True := ly_ok h (by decide) rfl
theorem ly_o91 {z : ix_Z} (h : ly_z z) : ix_ok z [1] 91 = True := ly_ok h (by decide) rfl
theorem ly_o92 {z : ix_Z} (h : ly_z z) : ix_ok z [7] 92 = True := ly_ok h (by decide) rfl
theorem ly_i93 {z : ix_Z} (h : ly_z z) {i : Int32} : ix_ix z 20 93 i = (0 ≤ i ∧ i < 11780) := ly_ix h (by decide) rfl (by decide)
theorem ly_a93 {z : ix_Z} (h : ly_z z) : (93 < z.2.2 ∧ 20 ≤ (z.2.1 93).1 ∧ (z.2.1 93).1 < 26) = True := by rw [h.1 93 (by decide)]; exact eq_true ⟨Nat.lt_of_lt_of_le (by decide) h.2.2, by decide, by decide⟩
theorem ly_n93 {z : ix_Z} (h : ly_z z) : nI (z.2.1 93).2 = 11780 := by rw [h.1 93 (by decide)]; rfl
theorem ly_l93 {z : ix_Z} (h : ly_z z) : (z.2.1 93).2 = 11780 := by rw [h.1 93 (by decide)]; rfl
theorem ly_i94 {z : ix_Z} (h : ly_z z) {i : Int32} : ix_ix z 20 94 i = (0 ≤ i ∧ i < 1365) := ly_ix h (by decide) rfl (by decide)
theorem ly_a94 {z : ix_Z} (h : ly_z z) : (94 < z.2.2 ∧ 20 ≤ (z.2.1 94).1 ∧ (z.2.1 94).1 < 26) = True := by rw [h.1 94 (by decide)]; exact eq_true ⟨Nat.lt_of_lt_of_le (by decide) h.2.2, by decide, by decide⟩
theorem ly_n94 {z : ix_Z} (h : ly_z z) : nI (z.2.1 94).2 = 1365 := by rw [h.1 94 (by decide)]; rfl
theorem ly_l94 {z : ix_Z} (h : ly_z z) : (z.2.1 94).2 = 1365 := by rw [h.1 94 (by decide)]; rfl
theorem ly_i95 {z : ix_Z} (h : ly_z z) {i : Int32} : ix_ix z 20 95 i = (0 ≤ i ∧ i < 601) := ly_ix h (by decide) rfl (by decide)
theorem ly_a95 {z : ix_Z} (h : ly_z z) : (95 < z.2.2 ∧ 20 ≤ (z.2.1 95).1 ∧ (z.2.1 95).1 < 26) = True := by rw [h.1 95 (by decide)]; exact eq_true ⟨Nat.lt_of_lt_of_le (by decide) h.2.2, by decide, by decide⟩
theorem ly_n95 {z : ix_Z} (h : ly_z z) : nI (z.2.1 95).2 = 601 := by rw [h.1 95 (by decide)]; rfl
theorem ly_l95 {z : ix_Z} (h : ly_z z) : (z.2.1 95).2 = 601 := by rw [h.1 95 (by decide)]; rfl
theorem ly_i96 {z : ix_Z} (h : ly_z z) {i : Int32} : ix_ix z 20 96 i = (0 ≤ i ∧ i < 11780) := ly_ix h (by decide) rfl (by decide)
theorem ly_a96 {z : ix_Z} (h : ly_z z) : (96 < z.2.2 ∧ 20 ≤ (z.2.1 96).1 ∧ (z.2.1 96).1 < 26) = True := by rw [h.1 96 (by decide)]; exact eq_true ⟨Nat.lt_of_lt_of_le (by decide) h.2.2, by decide, by decide⟩
theorem ly_n96 {z : ix_Z} (h : ly_z z) : nI (z.2.1 96).2 = 11780 := by rw [h.1 96 (by decide)]; rfl
theorem ly_l96 {z : ix_Z} (h : ly_z z) : (z.2.1 96).2 = 11780 := by rw [h.1 96 (by decide)]; rfl
theorem ly_i97 {z : ix_Z} (h : ly_z z) {i : Int32} : ix_ix z 20 97 i = (0 ≤ i ∧ i < 11780) := ly_ix h (by decide) rfl (by decide)
theorem ly_a97 {z : ix_Z} (h : ly_z z) : (97 < z.2.2 ∧ 20 ≤ (z.2.1 97).1 ∧ (z.2.1 97).1 < 26) = True := by rw [h.1 97 (by decide)]; exact eq_true ⟨Nat.lt_of_lt_of_le (by decide) h.2.2, by decide, by decide⟩
theorem ly_n97 {z : ix_Z} (h : ly_z z) : nI (z.2.1 97).2 = 11780 := by rw [h.1 97 (by decide)]; rfl
theorem ly_l97 {z : ix_Z} (h : ly_z z) : (z.2.1 97).2 = 11780 := by rw [h.1 97 (by decide)]; rfl
theorem ly_i98 {z : ix_Z} (h : ly_z z) {i : Int32} : ix_ix z 20 98 i = (0 ≤ i ∧ i < 1364) := ly_ix h (by decide) rfl (by decide)
theorem ly_a98 {z : ix_Z} (h : ly_z z) : (98 < z.2.2 ∧ 20 ≤ (z.2.1 98).1 ∧ (z.2.1 98).1 < 26) = True := by rw [h.1 98 (by decide)]; exact eq_true ⟨Nat.lt_of_lt_of_le (by decide) h.2.2, by decide, by decide⟩
theorem ly_n98 {z : ix_Z} (h : ly_z z) : nI (z.2.1 98).2 = 1364 := by rw [h.1 98 (by decide)]; rfl
theorem ly_l98 {z : ix_Z} (h : ly_z z) : (z.2.1 98).2 = 1364 := by rw [h.1 98 (by decide)]; rfl
theorem ly_i99 {z : ix_Z} (h : ly_z z) {i : Int32} : ix_ix z 23 99 i = (0 ≤ i ∧ i < 22) := ly_ix h (by decide) rfl (by decide)
theorem ly_a99 {z : ix_Z} (h : ly_z z) : (99 < z.2.2 ∧ 20 ≤ (z.2.1 99).1 ∧ (z.2.1 99).1 < 26) = True := by rw [h.1 99 (by decide)]; exact eq_true ⟨Nat.lt_of_lt_of_le (by decide) h.2.2, by decide, by decide⟩
theorem ly_n99 {z : ix_Z} (h : ly_z z) : nI (z.2.1 99).2 = 22 := by rw [h.1 99 (by decide)]; rfl
theorem ly_l99 {z : ix_Z} (h : ly_z z) : (z.2.1 99).2 = 22 := by rw [h.1 99 (by decide)]; rfl
theorem ly_i100 {z : ix_Z} (h : ly_z z) {i : Int32} : ix_ix z 23 100 i = (0 ≤ i ∧ i < 22) := ly_ix h (by decide) rfl (by decide)
theorem ly_a100 {z : ix_Z} (h : ly_z z) : (100 < z.2.2 ∧ 20 ≤ (z.2.1 100).1 ∧ (z.2.1 100).1 < 26) = True := by rw [h.1 100 (by decide)]; exact eq_true ⟨Nat.lt_of_lt_of_le (by decide) h.2.2, by decide, by decide⟩
theorem ly_n100 {z : ix_Z} (h : ly_z z) : nI (z.2.1 100).2 = 22 := by rw [h.1 100 (by decide)]; rfl
theorem ly_l100 {z : ix_Z} (h : ly_z z) : (z.2.1 100).2 = 22 := by rw [h.1 100 (by decide)]; rfl
theorem ly_i101 {z : ix_Z} (h : ly_z z) {i : Int32} : ix_ix z 20 101 i = (0 ≤ i ∧ i < 301) := ly_ix h (by decide) rfl (by decide)
theorem ly_a101 {z : ix_Z} (h : ly_z z) : (101 < z.2.2 ∧ 20 ≤ (z.2.1 101).1 ∧ (z.2.1 101).1 < 26) = True := by rw [h.1 101 (by decide)]; exact eq_true ⟨Nat.lt_of_lt_of_le (by decide) h.2.2, by decide, by decide⟩
theorem ly_n101 {z : ix_Z} (h : ly_z z) : nI (z.2.1 101).2 = 301 := by rw [h.1 101 (by decide)]; rfl
theorem ly_l101 {z : ix_Z} (h : ly_z z) : (z.2.1 101).2 = 301 := by rw [h.1 101 (by decide)]; rfl
theorem ly_i102 {z : ix_Z} (h : ly_z z) {i : Int32} : ix_ix z 20 102 i = (0 ≤ i ∧ i < 301) := ly_ix h (by decide) rfl (by decide)
theorem ly_a102 {z : ix_Z} (h : ly_z z) : (102 < z.2.2 ∧ 20 ≤ (z.2.1 102).1 ∧ (z.2.1 102).1 < 26) = True := by rw [h.1 102 (by decide)]; exact eq_true ⟨Nat.lt_of_lt_of_le (by decide) h.2.2, by decide, by decide⟩
theorem ly_n102 {z : ix_Z} (h : ly_z z) : nI (z.2.1 102).2 = 301 := by rw [h.1 102 (by decide)]; rfl
theorem ly_l102 {z : ix_Z} (h : ly_z z) : (z.2.1 102).2 = 301 := by rw [h.1 102 (by decide)]; rfl
theorem ly_i103 {z : ix_Z} (h : ly_z z) {i : Int32} : ix_ix z 20 103 i = (0 ≤ i ∧ i < 301) := ly_ix h (by decide) rfl (by decide)
theorem ly_a103 {z : ix_Z} (h : ly_z z) : (103 < z.2.2 ∧ 20 ≤ (z.2.1 103).1 ∧ (z.2.1 103).1 < 26) = True := by rw [h.1 103 (by decide)]; exact eq_true ⟨Nat.lt_of_lt_of_le (by decide) h.2.2, by decide, by decide⟩
theorem ly_n103 {z : ix_Z} (h : ly_z z) : nI (z.2.1 103).2 = 301 := by rw [h.1 103 (by decide)]; rfl
theorem ly_l103 {z : ix_Z} (h : ly_z z) : (z.2.1 103).2 = 301 := by rw [h.1 103 (by decide)]; rfl
theorem ly_i104 {z : ix_Z} (h : ly_z z) {i : Int32} : ix_ix z 20 104 i = (0 ≤ i ∧ i < 301) := ly_ix h (by decide) rfl (by decide)
theorem ly_a104 {z : ix_Z} (h : ly_z z) : (104 < z.2.2 ∧ 20 ≤ (z.2.1 104).1 ∧ (z.2.1 104).1 < 26) = True := by rw [h.1 104 (by decide)]; exact eq_true ⟨Nat.lt_of_lt_of_le (by decide) h.2.2, by decide, by decide⟩
theorem ly_n104 {z : ix_Z} (h : ly_z z) : nI (z.2.1 104).2 = 301 := by rw [h.1 104 (by decide)]; rfl
theorem ly_l104 {z : ix_Z} (h : ly_z z) : (z.2.1 104).2 = 301 := by rw [h.1 104 (by decide)]; rfl
theorem ly_i105 {z : ix_Z} (h : ly_z z) {i : Int32} : ix_ix z 20 105 i = (0 ≤ i ∧ i < 301) := ly_ix h (by decide) rfl (by decide)
theorem ly_a105 {z : ix_Z} (h : ly_z z) : (105 < z.2.2 ∧ 20 ≤ (z.2.1 105).1 ∧ (z.2.1 105).1 < 26) = True := by rw [h.1 105 (by decide)]; exact eq_true ⟨Nat.lt_of_lt_of_le (by decide) h.2.2, by decide, by decide⟩
theorem ly_n105 {z : ix_Z} (h : ly_z z) : nI (z.2.1 105).2 = 301 := by rw [h.1 105 (by decide)]; rfl
theorem ly_l105 {z : ix_Z} (h : ly_z z) : (z.2.1 105).2 = 301 := by rw [h.1 105 (by decide)]; rfl
theorem ly_o106 {z : ix_Z} (h : ly_z z) : ix_ok z [7] 106 = True := ly_ok h (by decide) rfl
theorem ly_i107 {z : ix_Z} (h : ly_z z) {i : Int32} : ix_ix z 20 107 i = (0 ≤ i ∧ i < 1280) := ly_ix h (by decide) rfl (by decide)
theorem ly_a107 {z : ix_Z} (h : ly_z z) : (107 < z.2.2 ∧ 20 ≤ (z.2.1 107).1 ∧ (z.2.1 107).1 < 26) = True := by rw [h.1 107 (by decide)]; exact eq_true ⟨Nat.lt_of_lt_of_le (by decide) h.2.2, by decide, by decide⟩
theorem ly_n107 {z : ix_Z} (h : ly_z z) : nI (z.2.1 107).2 = 1280 := by rw [h.1 107 (by decide)]; rfl
theorem ly_l107 {z : ix_Z} (h : ly_z z) : (z.2.1 107).2 = 1280 := by rw [h.1 107 (by decide)]; rfl
theorem ly_i108 {z : ix_Z} (h : ly_z z) {i : Int32} : ix_ix z 20 108 i = (0 ≤ i ∧ i < 65) := ly_ix h (by decide) rfl (by decide)
theorem ly_a108 {z : ix_Z} (h : ly_z z) : (108 < z.2.2 ∧ 20 ≤ (z.2.1 108).1 ∧ (z.2.1 108).1 < 26) = True := by rw [h.1 108 (by decide)]; exact eq_true ⟨Nat.lt_of_lt_of_le (by decide) h.2.2, by decide, by decide⟩
theorem ly_n108 {z : ix_Z} (h : ly_z z) : nI (z.2.1 108).2 = 65 := by rw [h.1 108 (by decide)]; rfl
theorem ly_l108 {z : ix_Z} (h : ly_z z) : (z.2.1 108).2 = 65 := by rw [h.1 108 (by decide)]; rfl
theorem ly_i109 {z : ix_Z} (h : ly_z z) {i : Int32} : ix_ix z 23 109 i = (0 ≤ i ∧ i < 301) := ly_ix h (by decide) rfl (by decide)
theorem ly_a109 {z : ix_Z} (h : ly_z z) : (109 < z.2.2 ∧ 20 ≤ (z.2.1 109).1 ∧ (z.2.1 109).1 < 26) = True := by rw [h.1 109 (by decide)]; exact eq_true ⟨Nat.lt_of_lt_of_le (by decide) h.2.2, by decide, by decide⟩
theorem ly_n109 {z : ix_Z} (h : ly_z z) : nI (z.2.1 109).2 = 301 := by rw [h.1 109 (by decide)]; rfl
theorem ly_l109 {z : ix_Z} (h : ly_z z) : (z.2.1 109).2 = 301 := by rw [h.1 109 (by decide)]; rfl
theorem ly_i110 {z : ix_Z} (h : ly_z z) {i : Int32} : ix_ix z 20 110 i = (0 ≤ i ∧ i < 20) := ly_ix h (by decide) rfl (by decide)
theorem ly_a110 {z : ix_Z} (h : ly_z z) : (110 < z.2.2 ∧ 20 ≤ (z.2.1 110).1 ∧ (z.2.1 110).1 < 26) = True := by rw [h.1 110 (by decide)]; exact eq_true ⟨Nat.lt_of_lt_of_le (by decide) h.2.2, by decide, by decide⟩
theorem ly_n110 {z : ix_Z} (h : ly_z z) : nI (z.2.1 110).2 = 20 := by rw [h.1 110 (by decide)]; rfl
theorem ly_l110 {z : ix_Z} (h : ly_z z) : (z.2.1 110).2 = 20 := by rw [h.1 110 (by decide)]; rfl
theorem ly_i111 {z : ix_Z} (h : ly_z z) {i : Int32} : ix_ix z 20 111 i = (0 ≤ i ∧ i < 800) := ly_ix h (by decide) rfl (by decide)
theorem ly_a111 {z : ix_Z} (h : ly_z z) : (111 < z.2.2 ∧ 20 ≤ (z.2.1 111).1 ∧ (z.2.1 111).1 < 26) = True := by rw [h.1 111 (by decide)]; exact eq_true ⟨Nat.lt_of_lt_of_le (by decide) h.2.2, by decide, by decide⟩
theorem ly_n111 {z : ix_Z} (h : ly_z z) : nI (z.2.1 111).2 = 800 := by rw [h.1 111 (by decide)]; rfl
theorem ly_l111 {z : ix_Z} (h : ly_z z) : (z.2.1 111).2 = 800 := by rw [h.1 111 (by decide)]; rfl
theorem ly_i112 {z : ix_Z} (h : ly_z z) {i : Int32} : ix_ix z 23 112 i = (0 ≤ i ∧ i < 6400) := ly_ix h (by decide) rfl (by decide)
theorem ly_a112 {z : ix_Z} (h : ly_z z) : (112 < z.2.2 ∧ 20 ≤ (z.2.1 112).1 ∧ (z.2.1 112).1 < 26) = True := by rw [h.1 112 (by decide)]; exact eq_true ⟨Nat.lt_of_lt_of_le (by decide) h.2.2, by decide, by decide⟩
theorem ly_n112 {z : ix_Z} (h : ly_z z) : nI (z.2.1 112).2 = 6400 := by rw [h.1 112 (by decide)]; rfl
theorem ly_l112 {z : ix_Z} (h : ly_z z) : (z.2.1 112).2 = 6400 := by rw [h.1 112 (by decide)]; rfl
theorem ly_i113 {z : ix_Z} (h : ly_z z) {i : Int32} : ix_ix z 23 113 i = (0 ≤ i ∧ i < 2408) := ly_ix h (by decide) rfl (by decide)
theorem ly_a113 {z : ix_Z} (h : ly_z z) : (113 < z.2.2 ∧ 20 ≤ (z.2.1 113).1 ∧ (z.2.1 113).1 < 26) = True := by rw [h.1 113 (by decide)]; exact eq_true ⟨Nat.lt_of_lt_of_le (by decide) h.2.2, by decide, by decide⟩
theorem ly_n113 {z : ix_Z} (h : ly_z z) : nI (z.2.1 113).2 = 2408 := by rw [h.1 113 (by decide)]; rfl
theorem ly_l113 {z : ix_Z} (h : ly_z z) : (z.2.1 113).2 = 2408 := by rw [h.1 113 (by decide)]; rfl
theorem ly_i114 {z : ix_Z} (h : ly_z z) {i : Int32} : ix_ix z 23 114 i = (0 ≤ i ∧ i < 8) := ly_ix h (by decide) rfl (by decide)
theorem ly_a114 {z : ix_Z} (h : ly_z z) : (114 < z.2.2 ∧ 20 ≤ (z.2.1 114).1 ∧ (z.2.1 114).1 < 26) = True := by rw [h.1 114 (by decide)]; exact eq_true ⟨Nat.lt_of_lt_of_le (by decide) h.2.2, by decide, by decide⟩
theorem ly_n114 {z : ix_Z} (h : ly_z z) : nI (z.2.1 114).2 = 8 := by rw [h.1 114 (by decide)]; rfl
theorem ly_l114 {z : ix_Z} (h : ly_z z) : (z.2.1 114).2 = 8 := by rw [h.1 114 (by decide)]; rfl
theorem ly_i115 {z : ix_Z} (h : ly_z z) {i : Int32} : ix_ix z 20 115 i = (0 ≤ i ∧ i < 10) := ly_ix h (by decide) rfl (by decide)
theorem ly_a115 {z : ix_Z} (h : ly_z z) : (115 < z.2.2 ∧ 20 ≤ (z.2.1 115).1 ∧ (z.2.1 115).1 < 26) = True := by rw [h.1 115 (by decide)]; exact eq_true ⟨Nat.lt_of_lt_of_le (by decide) h.2.2, by decide, by decide⟩
theorem ly_n115 {z : ix_Z} (h : ly_z z) : nI (z.2.1 115).2 = 10 := by rw [h.1 115 (by decide)]; rfl
theorem ly_l115 {z : ix_Z} (h : ly_z z) : (z.2.1 115).2 = 10 := by rw [h.1 115 (by decide)]; rfl
theorem ly_i116 {z : ix_Z} (h : ly_z z) {i : Int32} : ix_ix z 20 116 i = (0 ≤ i ∧ i < 5) := ly_ix h (by decide) rfl (by decide)
theorem ly_a116 {z : ix_Z} (h : ly_z z) : (116 < z.2.2 ∧ 20 ≤ (z.2.1 116).1 ∧ (z.2.1 116).1 < 26) = True := by rw [h.1 116 (by decide)]; exact eq_true ⟨Nat.lt_of_lt_of_le (by decide) h.2.2, by decide, by decide⟩
theorem ly_n116 {z : ix_Z} (h : ly_z z) : nI (z.2.1 116).2 = 5 := by rw [h.1 116 (by decide)]; rfl
theorem ly_l116 {z : ix_Z} (h : ly_z z) : (z.2.1 116).2 = 5 := by rw [h.1 116 (by decide)]; rfl
theorem ly_i117 {z : ix_Z} (h : ly_z z) {i : Int32} : ix_ix z 20 117 i = (0 ≤ i ∧ i < 301) := ly_ix h (by decide) rfl (by decide)
theorem ly_a117 {z : ix_Z} (h : ly_z z) : (117 < z.2.2 ∧ 20 ≤ (z.2.1 117).1 ∧ (z.2.1 117).1 < 26) = True := by rw [h.1 117 (by decide)]; exact eq_true ⟨Nat.lt_of_lt_of_le (by decide) h.2.2, by decide, by decide⟩
theorem ly_n117 {z : ix_Z} (h : ly_z z) : nI (z.2.1 117).2 = 301 := by rw [h.1 117 (by decide)]; rfl
theorem ly_l117 {z : ix_Z} (h : ly_z z) : (z.2.1 117).2 = 301 := by rw [h.1 117 (by decide)]; rfl
theorem ly_i118 {z : ix_Z} (h : ly_z z) {i : Int32} : ix_ix z 20 118 i = (0 ≤ i ∧ i < 301) := ly_ix h (by decide) rfl (by decide)
theorem ly_a118 {z : ix_Z} (h : ly_z z) : (118 < z.2.2 ∧ 20 ≤ (z.2.1 118).1 ∧ (z.2.1 118).1 < 26) = True := by rw [h.1 118 (by decide)]; exact eq_true ⟨Nat.lt_of_lt_of_le (by decide) h.2.2, by decide, by decide⟩
theorem ly_n118 {z : ix_Z} (h : ly_z z) : nI (z.2.1 118).2 = 301 := by rw [h.1 118 (by decide)]; rfl
theorem ly_l118 {z : ix_Z} (h : ly_z z) : (z.2.1 118).2 = 301 := by rw [h.1 118 (by decide)]; rfl
theorem ly_i119 {z : ix_Z} (h : ly_z z) {i : Int32} : ix_ix z 20 119 i = (0 ≤ i ∧ i < 800) := ly_ix h (by decide) rfl (by decide)
theorem ly_a119 {z : ix_Z} (h : ly_z z) : (119 < z.2.2 ∧ 20 ≤ (z.2.1 119).1 ∧ (z.2.1 119).1 < 26) = True := by rw [h.1 119 (by decide)]; exact eq_true ⟨Nat.lt_of_lt_of_le (by decide) h.2.2, by decide, by decide⟩
theorem ly_n119 {z : ix_Z} (h : ly_z z) : nI (z.2.1 119).2 = 800 := by rw [h.1 119 (by decide)]; rfl
theorem ly_l119 {z : ix_Z} (h : ly_z z) : (z.2.1 119).2 = 800 := by rw [h.1 119 (by decide)]; rfl
theorem ly_o120 {z : ix_Z} (h : ly_z z) : ix_ok z [7] 120 = True := ly_ok h (by decide) rfl
theorem ly_i121 {z : ix_Z} (h : ly_z z) {i : Int32} : ix_ix z 20 121 i = (0 ≤ i ∧ i < 8000) := ly_ix h (by decide) rfl (by decide)
theorem ly_a121 {z : ix_Z} (h : ly_z z) : (121 < z.2.2 ∧ 20 ≤ (z.2.1 121).1 ∧ (z.2.1 121).1 < 26) = True := by rw [h.1 121 (by decide)]; exact eq_true ⟨Nat.lt_of_lt_of_le (by decide) h.2.2, by decide, by decide⟩
theorem ly_n121 {z : ix_Z} (h : ly_z z) : nI (z.2.1 121).2 = 8000 := by rw [h.1 121 (by decide)]; rfl
theorem ly_l121 {z : ix_Z} (h : ly_z z) : (z.2.1 121).2 = 8000 := by rw [h.1 121 (by decide)]; rfl
theorem ly_i122 {z : ix_Z} (h : ly_z z) {i : Int32} : ix_ix z 20 122 i = (0 ≤ i ∧ i < 801) := ly_ix h (by decide) rfl (by decide)
theorem ly_a122 {z : ix_Z} (h : ly_z z) : (122 < z.2.2 ∧ 20 ≤ (z.2.1 122).1 ∧ (z.2.1 122).1 < 26) = True := by rw [h.1 122 (by decide)]; exact eq_true ⟨Nat.lt_of_lt_of_le (by decide) h.2.2, by decide, by decide⟩
theorem ly_n122 {z : ix_Z} (h : ly_z z) : nI (z.2.1 122).2 = 801 := by rw [h.1 122 (by decide)]; rfl
theorem ly_l122 {z : ix_Z} (h : ly_z z) : (z.2.1 122).2 = 801 := by rw [h.1 122 (by decide)]; rfl
theorem ly_i123 {z : ix_Z} (h : ly_z z) {i : Int32} : ix_ix z 20 123 i = (0 ≤ i ∧ i < 500) := ly_ix h (by decide) rfl (by decide)
theorem ly_a123 {z : ix_Z} (h : ly_z z) : (123 < z.2.2 ∧ 20 ≤ (z.2.1 123).1 ∧ (z.2.1 123).1 < 26) = True := by rw [h.1 123 (by decide)]; exact eq_true ⟨Nat.lt_of_lt_of_le (by decide) h.2.2, by decide, by decide⟩
theorem ly_n123 {z : ix_Z} (h : ly_z z) : nI (z.2.1 123).2 = 500 := by rw [h.1 123 (by decide)]; rfl
theorem ly_l123 {z : ix_Z} (h : ly_z z) : (z.2.1 123).2 = 500 := by rw [h.1 123 (by decide)]; rfl
theorem ly_i124 {z : ix_Z} (h : ly_z z) {i : Int32} : ix_ix z 20 124 i = (0 ≤ i ∧ i < 20) := ly_ix h (by decide) rfl (by decide)
theorem ly_a124 {z : ix_Z} (h : ly_z z) : (124 < z.2.2 ∧ 20 ≤ (z.2.1 124).1 ∧ (z.2.1 124).1 < 26) = True := by rw [h.1 124 (by decide)]; exact eq_true ⟨Nat.lt_of_lt_of_le (by decide) h.2.2, by decide, by decide⟩
theorem ly_n124 {z : ix_Z} (h : ly_z z) : nI (z.2.1 124).2 = 20 := by rw [h.1 124 (by decide)]; rfl
theorem ly_l124 {z : ix_Z} (h : ly_z z) : (z.2.1 124).2 = 20 := by rw [h.1 124 (by decide)]; rfl
theorem ly_o125 {z : ix_Z} (h : ly_z z) : ix_ok z [11] 125 = True := ly_ok h (by decide) rfl
theorem ly_i126 {z : ix_Z} (h : ly_z z) {i : Int32} : ix_ix z 20 126 i = (0 ≤ i ∧ i < 301) := ly_ix h (by decide) rfl (by decide)
theorem ly_a126 {z : ix_Z} (h : ly_z z) : (126 < z.2.2 ∧ 20 ≤ (z.2.1 126).1 ∧ (z.2.1 126).1 < 26) = True := by rw [h.1 126 (by decide)]; exact eq_true ⟨Nat.lt_of_lt_of_le (by decide) h.2.2, by decide, by decide⟩
theorem ly_n126 {z : ix_Z} (h : ly_z z) : nI (z.2.1 126).2 = 301 := by rw [h.1 126 (by decide)]; rfl
theorem ly_l126 {z : ix_Z} (h : ly_z z) : (z.2.1 126).2 = 301 := by rw [h.1 126 (by decide)]; rfl
theorem ly_i127 {z : ix_Z} (h : ly_z z) {i : Int32} : ix_ix z 22 127 i = (0 ≤ i ∧ i < 301) := ly_ix h (by decide) rfl (by decide)
theorem ly_a127 {z : ix_Z} (h : ly_z z) : (127 < z.2.2 ∧ 20 ≤ (z.2.1 127).1 ∧ (z.2.1 127).1 < 26) = True := by rw [h.1 127 (by decide)]; exact eq_true ⟨Nat.lt_of_lt_of_le (by decide) h.2.2, by decide, by decide⟩
theorem ly_n127 {z : ix_Z} (h : ly_z z) : nI (z.2.1 127).2 = 301 := by rw [h.1 127 (by decide)]; rfl
theorem ly_l127 {z : ix_Z} (h : ly_z z) : (z.2.1 127).2 = 301 := by rw [h.1 127 (by decide)]; rfl
theorem ly_i128 {z : ix_Z} (h : ly_z z) {i : Int32} : ix_ix z 20 128 i = (0 ≤ i ∧ i < 40) := ly_ix h (by decide) rfl (by decide)
theorem ly_a128 {z : ix_Z} (h : ly_z z) : (128 < z.2.2 ∧ 20 ≤ (z.2.1 128).1 ∧ (z.2.1 128).1 < 26) = True := by rw [h.1 128 (by decide)]; exact eq_true ⟨Nat.lt_of_lt_of_le (by decide) h.2.2, by decide, by decide⟩
theorem ly_n128 {z : ix_Z} (h : ly_z z) : nI (z.2.1 128).2 = 40 := by rw [h.1 128 (by decide)]; rfl
theorem ly_l128 {z : ix_Z} (h : ly_z z) : (z.2.1 128).2 = 40 := by rw [h.1 128 (by decide)]; rfl
theorem ly_i129 {z : ix_Z} (h : ly_z z) {i : Int32} : ix_ix z 20 129 i = (0 ≤ i ∧ i < 480) := ly_ix h (by decide) rfl (by decide)
theorem ly_a129 {z : ix_Z} (h : ly_z z) : (129 < z.2.2 ∧ 20 ≤ (z.2.1 129).1 ∧ (z.2.1 129).1 < 26) = True := by rw [h.1 129 (by decide)]; exact eq_true ⟨Nat.lt_of_lt_of_le (by decide) h.2.2, by decide, by decide⟩
theorem ly_n129 {z : ix_Z} (h : ly_z z) : nI (z.2.1 129).2 = 480 := by rw [h.1 129 (by decide)]; rfl
theorem ly_l129 {z : ix_Z} (h : ly_z z) : (z.2.1 129).2 = 480 := by rw [h.1 129 (by decide)]; rfl
theorem ly_i130 {z : ix_Z} (h : ly_z z) {i : Int32} : ix_ix z 20 130 i = (0 ≤ i ∧ i < 60) := ly_ix h (by decide) rfl (by decide)
theorem ly_a130 {z : ix_Z} (h : ly_z z) : (130 < z.2.2 ∧ 20 ≤ (z.2.1 130).1 ∧ (z.2.1 130).1 < 26) = True := by rw [h.1 130 (by decide)]; exact eq_true ⟨Nat.lt_of_lt_of_le (by decide) h.2.2, by decide, by decide⟩
theorem ly_n130 {z : ix_Z} (h : ly_z z) : nI (z.2.1 130).2 = 60 := by rw [h.1 130 (by decide)]; rfl
theorem ly_l130 {z : ix_Z} (h : ly_z z) : (z.2.1 130).2 = 60 := by rw [h.1 130 (by decide)]; rfl
theorem ly_i131 {z : ix_Z} (h : ly_z z) {i : Int32} : ix_ix z 20 131 i = (0 ≤ i ∧ i < 16384) := ly_ix h (by decide) rfl (by decide)
theorem ly_a131 {z : ix_Z} (h : ly_z z) : (131 < z.2.2 ∧ 20 ≤ (z.2.1 131).1 ∧ (z.2.1 131).1 < 26) = True := by rw [h.1 131 (by decide)]; exact eq_true ⟨Nat.lt_of_lt_of_le (by decide) h.2.2, by decide, by decide⟩
theorem ly_n131 {z : ix_Z} (h : ly_z z) : nI (z.2.1 131).2 = 16384 := by rw [h.1 131 (by decide)]; rfl
theorem ly_l131 {z : ix_Z} (h : ly_z z) : (z.2.1 131).2 = 16384 := by rw [h.1 131 (by decide)]; rfl
theorem ly_i132 {z : ix_Z} (h : ly_z z) {i : Int32} : ix_ix z 20 132 i = (0 ≤ i ∧ i < 60) := ly_ix h (by decide) rfl (by decide)
theorem ly_a132 {z : ix_Z} (h : ly_z z) : (132 < z.2.2 ∧ 20 ≤ (z.2.1 132).1 ∧ (z.2.1 132).1 < 26) = True := by rw [h.1 132 (by decide)]; exact eq_true ⟨Nat.lt_of_lt_of_le (by decide) h.2.2, by decide, by decide⟩
theorem ly_n132 {z : ix_Z} (h : ly_z z) : nI (z.2.1 132).2 = 60 := by rw [h.1 132 (by decide)]; rfl
theorem ly_l132 {z : ix_Z} (h : ly_z z) : (z.2.1 132).2 = 60 := by rw [h.1 132 (by decide)]; rfl
theorem ly_i133 {z : ix_Z} (h : ly_z z) {i : Int32} : ix_ix z 20 133 i = (0 ≤ i ∧ i < 60) := ly_ix h (by decide) rfl (by decide)
theorem ly_a133 {z : ix_Z} (h : ly_z z) : (133 < z.2.2 ∧ 20 ≤ (z.2.1 133).1 ∧ (z.2.1 133).1 < 26) = True := by rw [h.1 133 (by decide)]; exact eq_true ⟨Nat.lt_of_lt_of_le (by decide) h.2.2, by decide, by decide⟩
theorem ly_n133 {z : ix_Z} (h : ly_z z) : nI (z.2.1 133).2 = 60 := by rw [h.1 133 (by decide)]; rfl
theorem ly_l133 {z : ix_Z} (h : ly_z z) : (z.2.1 133).2 = 60 := by rw [h.1 133 (by decide)]; rfl
theorem ly_i134 {z : ix_Z} (h : ly_z z) {i : Int32} : ix_ix z 22 134 i = (0 ≤ i ∧ i < 60) := ly_ix h (by decide) rfl (by decide)
theorem ly_a134 {z : ix_Z} (h : ly_z z) : (134 < z.2.2 ∧ 20 ≤ (z.2.1 134).1 ∧ (z.2.1 134).1 < 26) = True := by rw [h.1 134 (by decide)]; exact eq_true ⟨Nat.lt_of_lt_of_le (by decide) h.2.2, by decide, by decide⟩
theorem ly_n134 {z : ix_Z} (h : ly_z z) : nI (z.2.1 134).2 = 60 := by rw [h.1 134 (by decide)]; rfl
theorem ly_l134 {z : ix_Z} (h : ly_z z) : (z.2.1 134).2 = 60 := by rw [h.1 134 (by decide)]; rfl
theorem ly_i135 {z : ix_Z} (h : ly_z z) {i : Int32} : ix_ix z 20 135 i = (0 ≤ i ∧ i < 60) := ly_ix h (by decide) rfl (by decide)
theorem ly_a135 {z : ix_Z} (h : ly_z z) : (135 < z.2.2 ∧ 20 ≤ (z.2.1 135).1 ∧ (z.2.1 135).1 < 26) = True := by rw [h.1 135 (by decide)]; exact eq_true ⟨Nat.lt_of_lt_of_le (by decide) h.2.2, by decide, by decide⟩
theorem ly_n135 {z : ix_Z} (h : ly_z z) : nI (z.2.1 135).2 = 60 := by rw [h.1 135 (by decide)]; rfl
theorem ly_l135 {z : ix_Z} (h : ly_z z) : (z.2.1 135).2 = 60 := by rw [h.1 135 (by decide)]; rfl
theorem ly_i136 {z : ix_Z} (h : ly_z z) {i : Int32} : ix_ix z 20 136 i = (0 ≤ i ∧ i < 1800) := ly_ix h (by decide) rfl (by decide)
theorem ly_a136 {z : ix_Z} (h : ly_z z) : (136 < z.2.2 ∧ 20 ≤ (z.2.1 136).1 ∧ (z.2.1 136).1 < 26) = True := by rw [h.1 136 (by decide)]; exact eq_true ⟨Nat.lt_of_lt_of_le (by decide) h.2.2, by decide, by decide⟩
theorem ly_n136 {z : ix_Z} (h : ly_z z) : nI (z.2.1 136).2 = 1800 := by rw [h.1 136 (by decide)]; rfl
theorem ly_l136 {z : ix_Z} (h : ly_z z) : (z.2.1 136).2 = 1800 := by rw [h.1 136 (by decide)]; rfl
theorem ly_i137 {z : ix_Z} (h : ly_z z) {i : Int32} : ix_ix z 20 137 i = (0 ≤ i ∧ i < 60) := ly_ix h (by decide) rfl (by decide)
theorem ly_a137 {z : ix_Z} (h : ly_z z) : (137 < z.2.2 ∧ 20 ≤ (z.2.1 137).1 ∧ (z.2.1 137).1 < 26) = True := by rw [h.1 137 (by decide)]; exact eq_true ⟨Nat.lt_of_lt_of_le (by decide) h.2.2, by decide, by decide⟩
theorem ly_n137 {z : ix_Z} (h : ly_z z) : nI (z.2.1 137).2 = 60 := by rw [h.1 137 (by decide)]; rfl
theorem ly_l137 {z : ix_Z} (h : ly_z z) : (z.2.1 137).2 = 60 := by rw [h.1 137 (by decide)]; rfl
theorem ly_i138 {z : ix_Z} (h : ly_z z) {i : Int32} : ix_ix z 20 138 i = (0 ≤ i ∧ i < 60) := ly_ix h (by decide) rfl (by decide)
theorem ly_a138 {z : ix_Z} (h : ly_z z) : (138 < z.2.2 ∧ 20 ≤ (z.2.1 138).1 ∧ (z.2.1 138).1 < 26) = True := by rw [h.1 138 (by decide)]; exact eq_true ⟨Nat.lt_of_lt_of_le (by decide) h.2.2, by decide, by decide⟩
theorem ly_n138 {z : ix_Z} (h : ly_z z) : nI (z.2.1 138).2 = 60 := by rw [h.1 138 (by decide)]; rfl
theorem ly_l138 {z : ix_Z} (h : ly_z z) : (z.2.1 138).2 = 60 := by rw [h.1 138 (by decide)]; rfl
theorem ly_i139 {z : ix_Z} (h : ly_z z) {i : Int32} : ix_ix z 20 139 i = (0 ≤ i ∧ i < 3600) := ly_ix h (by decide) rfl (by decide)
theorem ly_a139 {z : ix_Z} (h : ly_z z) : (139 < z.2.2 ∧ 20 ≤ (z.2.1 139).1 ∧ (z.2.1 139).1 < 26) = True := by rw [h.1 139 (by decide)]; exact eq_true ⟨Nat.lt_of_lt_of_le (by decide) h.2.2, by decide, by decide⟩
theorem ly_n139 {z : ix_Z} (h : ly_z z) : nI (z.2.1 139).2 = 3600 := by rw [h.1 139 (by decide)]; rfl
theorem ly_l139 {z : ix_Z} (h : ly_z z) : (z.2.1 139).2 = 3600 := by rw [h.1 139 (by decide)]; rfl
theorem ly_i140 {z : ix_Z} (h : ly_z z) {i : Int32} : ix_ix z 20 140 i = (0 ≤ i ∧ i < 60) := ly_ix h (by decide) rfl (by decide)
theorem ly_a140 {z : ix_Z} (h : ly_z z) : (140 < z.2.2 ∧ 20 ≤ (z.2.1 140).1 ∧ (z.2.1 140).1 < 26) = True := by rw [h.1 140 (by decide)]; exact eq_true ⟨Nat.lt_of_lt_of_le (by decide) h.2.2, by decide, by decide⟩
theorem ly_n140 {z : ix_Z} (h : ly_z z) : nI (z.2.1 140).2 = 60 := by rw [h.1 140 (by decide)]; rfl
theorem ly_l140 {z : ix_Z} (h : ly_z z) : (z.2.1 140).2 = 60 := by rw [h.1 140 (by decide)]; rfl
theorem ly_i141 {z : ix_Z} (h : ly_z z) {i : Int32} : ix_ix z 20 141 i = (0 ≤ i ∧ i < 3600) := ly_ix h (by decide) rfl (by decide)
theorem ly_a141 {z : ix_Z} (h : ly_z z) : (141 < z.2.2 ∧ 20 ≤ (z.2.1 141).1 ∧ (z.2.1 141).1 < 26) = True := by rw [h.1 141 (by decide)]; exact eq_true ⟨Nat.lt_of_lt_of_le (by decide) h.2.2, by decide, by decide⟩
theorem ly_n141 {z : ix_Z} (h : ly_z z) : nI (z.2.1 141).2 = 3600 := by rw [h.1 141 (by decide)]; rfl
theorem ly_l141 {z : ix_Z} (h : ly_z z) : (z.2.1 141).2 = 3600 := by rw [h.1 141 (by decide)]; rfl
theorem ly_i142 {z : ix_Z} (h : ly_z z) {i : Int32} : ix_ix z 20 142 i = (0 ≤ i ∧ i < 60) := ly_ix h (by decide) rfl (by decide)
theorem ly_a142 {z : ix_Z} (h : ly_z z) : (142 < z.2.2 ∧ 20 ≤ (z.2.1 142).1 ∧ (z.2.1 142).1 < 26) = True := by rw [h.1 142 (by decide)]; exact eq_true ⟨Nat.lt_of_lt_of_le (by decide) h.2.2, by decide, by decide⟩
theorem ly_n142 {z : ix_Z} (h : ly_z z) : nI (z.2.1 142).2 = 60 := by rw [h.1 142 (by decide)]; rfl
theorem ly_l142 {z : ix_Z} (h : ly_z z) : (z.2.1 142).2 = 60 := by rw [h.1 142 (by decide)]; rfl
theorem ly_i143 {z : ix_Z} (h : ly_z z) {i : Int32} : ix_ix z 20 143 i = (0 ≤ i ∧ i < 501) := ly_ix h (by decide) rfl (by decide)
theorem ly_a143 {z : ix_Z} (h : ly_z z) : (143 < z.2.2 ∧ 20 ≤ (z.2.1 143).1 ∧ (z.2.1 143).1 < 26) = True := by rw [h.1 143 (by decide)]; exact eq_true ⟨Nat.lt_of_lt_of_le (by decide) h.2.2, by decide, by decide⟩
theorem ly_n143 {z : ix_Z} (h : ly_z z) : nI (z.2.1 143).2 = 501 := by rw [h.1 143 (by decide)]; rfl
theorem ly_l143 {z : ix_Z} (h : ly_z z) : (z.2.1 143).2 = 501 := by rw [h.1 143 (by decide)]; rfl
theorem ly_i144 {z : ix_Z} (h : ly_z z) {i : Int32} : ix_ix z 20 144 i = (0 ≤ i ∧ i < 2600) := ly_ix h (by decide) rfl (by decide)
theorem ly_a144 {z : ix_Z} (h : ly_z z) : (144 < z.2.2 ∧ 20 ≤ (z.2.1 144).1 ∧ (z.2.1 144).1 < 26) = True := by rw [h.1 144 (by decide)]; exact eq_true ⟨Nat.lt_of_lt_of_le (by decide) h.2.2, by decide, by decide⟩
theorem ly_n144 {z : ix_Z} (h : ly_z z) : nI (z.2.1 144).2 = 2600 := by rw [h.1 144 (by decide)]; rfl
theorem ly_l144 {z : ix_Z} (h : ly_z z) : (z.2.1 144).2 = 2600 := by rw [h.1 144 (by decide)]; rfl
theorem ly_i145 {z : ix_Z} (h : ly_z z) {i : Int32} : ix_ix z 20 145 i = (0 ≤ i ∧ i < 100) := ly_ix h (by decide) rfl (by decide)
theorem ly_a145 {z : ix_Z} (h : ly_z z) : (145 < z.2.2 ∧ 20 ≤ (z.2.1 145).1 ∧ (z.2.1 145).1 < 26) = True := by rw [h.1 145 (by decide)]; exact eq_true ⟨Nat.lt_of_lt_of_le (by decide) h.2.2, by decide, by decide⟩
theorem ly_n145 {z : ix_Z} (h : ly_z z) : nI (z.2.1 145).2 = 100 := by rw [h.1 145 (by decide)]; rfl
theorem ly_l145 {z : ix_Z} (h : ly_z z) : (z.2.1 145).2 = 100 := by rw [h.1 145 (by decide)]; rfl
theorem ly_i146 {z : ix_Z} (h : ly_z z) {i : Int32} : ix_ix z 20 146 i = (0 ≤ i ∧ i < 20) := ly_ix h (by decide) rfl (by decide)
theorem ly_a146 {z : ix_Z} (h : ly_z z) : (146 < z.2.2 ∧ 20 ≤ (z.2.1 146).1 ∧ (z.2.1 146).1 < 26) = True := by rw [h.1 146 (by decide)]; exact eq_true ⟨Nat.lt_of_lt_of_le (by decide) h.2.2, by decide, by decide⟩
theorem ly_n146 {z : ix_Z} (h : ly_z z) : nI (z.2.1 146).2 = 20 := by rw [h.1 146 (by decide)]; rfl
theorem ly_l146 {z : ix_Z} (h : ly_z z) : (z.2.1 146).2 = 20 := by rw [h.1 146 (by decide)]; rfl
theorem ly_i147 {z : ix_Z} (h : ly_z z) {i : Int32} : ix_ix z 20 147 i = (0 ≤ i ∧ i < 130) := ly_ix h (by decide) rfl (by decide)
theorem ly_a147 {z : ix_Z} (h : ly_z z) : (147 < z.2.2 ∧ 20 ≤ (z.2.1 147).1 ∧ (z.2.1 147).1 < 26) = True := by rw [h.1 147 (by decide)]; exact eq_true ⟨Nat.lt_of_lt_of_le (by decide) h.2.2, by decide, by decide⟩
theorem ly_n147 {z : ix_Z} (h : ly_z z) : nI (z.2.1 147).2 = 130 := by rw [h.1 147 (by decide)]; rfl
theorem ly_l147 {z : ix_Z} (h : ly_z z) : (z.2.1 147).2 = 130 := by rw [h.1 147 (by decide)]; rfl
theorem ly_i148 {z : ix_Z} (h : ly_z z) {i : Int32} : ix_ix z 20 148 i = (0 ≤ i ∧ i < 2600) := ly_ix h (by decide) rfl (by decide)
theorem ly_a148 {z : ix_Z} (h : ly_z z) : (148 < z.2.2 ∧ 20 ≤ (z.2.1 148).1 ∧ (z.2.1 148).1 < 26) = True := by rw [h.1 148 (by decide)]; exact eq_true ⟨Nat.lt_of_lt_of_le (by decide) h.2.2, by decide, by decide⟩
theorem ly_n148 {z : ix_Z} (h : ly_z z) : nI (z.2.1 148).2 = 2600 := by rw [h.1 148 (by decide)]; rfl
theorem ly_l148 {z : ix_Z} (h : ly_z z) : (z.2.1 148).2 = 2600 := by rw [h.1 148 (by decide)]; rfl
theorem ly_i149 {z : ix_Z} (h : ly_z z) {i : Int32} : ix_ix z 20 149 i = (0 ≤ i ∧ i < 12) := ly_ix h (by decide) rfl (by decide)
theorem ly_a149 {z : ix_Z} (h : ly_z z) : (149 < z.2.2 ∧ 20 ≤ (z.2.1 149).1 ∧ (z.2.1 149).1 < 26) = True := by rw [h.1 149 (by decide)]; exact eq_true ⟨Nat.lt_of_lt_of_le (by decide) h.2.2, by decide, by decide⟩
theorem ly_n149 {z : ix_Z} (h : ly_z z) : nI (z.2.1 149).2 = 12 := by rw [h.1 149 (by decide)]; rfl
theorem ly_l149 {z : ix_Z} (h : ly_z z) : (z.2.1 149).2 = 12 := by rw [h.1 149 (by decide)]; rfl
theorem ly_i150 {z : ix_Z} (h : ly_z z) {i : Int32} : ix_ix z 20 150 i = (0 ≤ i ∧ i < 40) := ly_ix h (by decide) rfl (by decide)
theorem ly_a150 {z : ix_Z} (h : ly_z z) : (150 < z.2.2 ∧ 20 ≤ (z.2.1 150).1 ∧ (z.2.1 150).1 < 26) = True := by rw [h.1 150 (by decide)]; exact eq_true ⟨Nat.lt_of_lt_of_le (by decide) h.2.2, by decide, by decide⟩
theorem ly_n150 {z : ix_Z} (h : ly_z z) : nI (z.2.1 150).2 = 40 := by rw [h.1 150 (by decide)]; rfl
theorem ly_l150 {z : ix_Z} (h : ly_z z) : (z.2.1 150).2 = 40 := by rw [h.1 150 (by decide)]; rfl
theorem ly_i151 {z : ix_Z} (h : ly_z z) {i : Int32} : ix_ix z 20 151 i = (0 ≤ i ∧ i < 40) := ly_ix h (by decide) rfl (by decide)
theorem ly_a151 {z : ix_Z} (h : ly_z z) : (151 < z.2.2 ∧ 20 ≤ (z.2.1 151).1 ∧ (z.2.1 151).1 < 26) = True := by rw [h.1 151 (by decide)]; exact eq_true ⟨Nat.lt_of_lt_of_le (by decide) h.2.2, by decide, by decide⟩
theorem ly_n151 {z : ix_Z} (h : ly_z z) : nI (z.2.1 151).2 = 40 := by rw [h.1 151 (by decide)]; rfl
theorem ly_l151 {z : ix_Z} (h : ly_z z) : (z.2.1 151).2 = 40 := by rw [h.1 151 (by decide)]; rfl
theorem ly_i152 {z : ix_Z} (h : ly_z z) {i : Int32} : ix_ix z 20 152 i = (0 ≤ i ∧ i < 14) := ly_ix h (by decide) rfl (by decide)
theorem ly_a152 {z : ix_Z} (h : ly_z z) : (152 < z.2.2 ∧ 20 ≤ (z.2.1 152).1 ∧ (z.2.1 152).1 < 26) = True := by rw [h.1 152 (by decide)]; exact eq_true ⟨Nat.lt_of_lt_of_le (by decide) h.2.2, by decide, by decide⟩
theorem ly_n152 {z : ix_Z} (h : ly_z z) : nI (z.2.1 152).2 = 14 := by rw [h.1 152 (by decide)]; rfl
theorem ly_l152 {z : ix_Z} (h : ly_z z) : (z.2.1 152).2 = 14 := by rw [h.1 152 (by decide)]; rfl
theorem ly_i153 {z : ix_Z} (h : ly_z z) {i : Int32} : ix_ix z 20 153 i = (0 ≤ i ∧ i < 14) := ly_ix h (by decide) rfl (by decide)
theorem ly_a153 {z : ix_Z} (h : ly_z z) : (153 < z.2.2 ∧ 20 ≤ (z.2.1 153).1 ∧ (z.2.1 153).1 < 26) = True := by rw [h.1 153 (by decide)]; exact eq_true ⟨Nat.lt_of_lt_of_le (by decide) h.2.2, by decide, by decide⟩
theorem ly_n153 {z : ix_Z} (h : ly_z z) : nI (z.2.1 153).2 = 14 := by rw [h.1 153 (by decide)]; rfl
theorem ly_l153 {z : ix_Z} (h : ly_z z) : (z.2.1 153).2 = 14 := by rw [h.1 153 (by decide)]; rfl
theorem ly_i154 {z : ix_Z} (h : ly_z z) {i : Int32} : ix_ix z 20 154 i = (0 ≤ i ∧ i < 60) := ly_ix h (by decide) rfl (by decide)
theorem ly_a154 {z : ix_Z} (h : ly_z z) : (154 < z.2.2 ∧ 20 ≤ (z.2.1 154).1 ∧ (z.2.1 154).1 < 26) = True := by rw [h.1 154 (by decide)]; exact eq_true ⟨Nat.lt_of_lt_of_le (by decide) h.2.2, by decide, by decide⟩
theorem ly_n154 {z : ix_Z} (h : ly_z z) : nI (z.2.1 154).2 = 60 := by rw [h.1 154 (by decide)]; rfl
theorem ly_l154 {z : ix_Z} (h : ly_z z) : (z.2.1 154).2 = 60 := by rw [h.1 154 (by decide)]; rfl
theorem ly_i155 {z : ix_Z} (h : ly_z z) {i : Int32} : ix_ix z 20 155 i = (0 ≤ i ∧ i < 60) := ly_ix h (by decide) rfl (by decide)
theorem ly_a155 {z : ix_Z} (h : ly_z z) : (155 < z.2.2 ∧ 20 ≤ (z.2.1 155).1 ∧ (z.2.1 155).1 < 26) = True := by rw [h.1 155 (by decide)]; exact eq_true ⟨Nat.lt_of_lt_of_le (by decide) h.2.2, by decide, by decide⟩
theorem ly_n155 {z : ix_Z} (h : ly_z z) : nI (z.2.1 155).2 = 60 := by rw [h.1 155 (by decide)]; rfl
theorem ly_l155 {z : ix_Z} (h : ly_z z) : (z.2.1 155).2 = 60 := by rw [h.1 155 (by decide)]; rfl
theorem ly_i156 {z : ix_Z} (h : ly_z z) {i : Int32} : ix_ix z 20 156 i = (0 ≤ i ∧ i < 60) := ly_ix h (by decide) rfl (by decide)
theorem ly_a156 {z : ix_Z} (h : ly_z z) : (156 < z.2.2 ∧ 20 ≤ (z.2.1 156).1 ∧ (z.2.1 156).1 < 26) = True := by rw [h.1 156 (by decide)]; exact eq_true ⟨Nat.lt_of_lt_of_le (by decide) h.2.2, by decide, by decide⟩
theorem ly_n156 {z : ix_Z} (h : ly_z z) : nI (z.2.1 156).2 = 60 := by rw [h.1 156 (by decide)]; rfl
theorem ly_l156 {z : ix_Z} (h : ly_z z) : (z.2.1 156).2 = 60 := by rw [h.1 156 (by decide)]; rfl
theorem ly_i157 {z : ix_Z} (h : ly_z z) {i : Int32} : ix_ix z 20 157 i = (0 ≤ i ∧ i < 60) := ly_ix h (by decide) rfl (by decide)
theorem ly_a157 {z : ix_Z} (h : ly_z z) : (157 < z.2.2 ∧ 20 ≤ (z.2.1 157).1 ∧ (z.2.1 157).1 < 26) = True := by rw [h.1 157 (by decide)]; exact eq_true ⟨Nat.lt_of_lt_of_le (by decide) h.2.2, by decide, by decide⟩
theorem ly_n157 {z : ix_Z} (h : ly_z z) : nI (z.2.1 157).2 = 60 := by rw [h.1 157 (by decide)]; rfl
theorem ly_l157 {z : ix_Z} (h : ly_z z) : (z.2.1 157).2 = 60 := by rw [h.1 157 (by decide)]; rfl
theorem ly_i158 {z : ix_Z} (h : ly_z z) {i : Int32} : ix_ix z 22 158 i = (0 ≤ i ∧ i < 60) := ly_ix h (by decide) rfl (by decide)
theorem ly_a158 {z : ix_Z} (h : ly_z z) : (158 < z.2.2 ∧ 20 ≤ (z.2.1 158).1 ∧ (z.2.1 158).1 < 26) = True := by rw [h.1 158 (by decide)]; exact eq_true ⟨Nat.lt_of_lt_of_le (by decide) h.2.2, by decide, by decide⟩
theorem ly_n158 {z : ix_Z} (h : ly_z z) : nI (z.2.1 158).2 = 60 := by rw [h.1 158 (by decide)]; rfl
theorem ly_l158 {z : ix_Z} (h : ly_z z) : (z.2.1 158).2 = 60 := by rw [h.1 158 (by decide)]; rfl
theorem ly_i159 {z : ix_Z} (h : ly_z z) {i : Int32} : ix_ix z 20 159 i = (0 ≤ i ∧ i < 26) := ly_ix h (by decide) rfl (by decide)
theorem ly_a159 {z : ix_Z} (h : ly_z z) : (159 < z.2.2 ∧ 20 ≤ (z.2.1 159).1 ∧ (z.2.1 159).1 < 26) = True := by rw [h.1 159 (by decide)]; exact eq_true ⟨Nat.lt_of_lt_of_le (by decide) h.2.2, by decide, by decide⟩
theorem ly_n159 {z : ix_Z} (h : ly_z z) : nI (z.2.1 159).2 = 26 := by rw [h.1 159 (by decide)]; rfl
theorem ly_l159 {z : ix_Z} (h : ly_z z) : (z.2.1 159).2 = 26 := by rw [h.1 159 (by decide)]; rfl
theorem ly_i160 {z : ix_Z} (h : ly_z z) {i : Int32} : ix_ix z 20 160 i = (0 ≤ i ∧ i < 301) := ly_ix h (by decide) rfl (by decide)
theorem ly_a160 {z : ix_Z} (h : ly_z z) : (160 < z.2.2 ∧ 20 ≤ (z.2.1 160).1 ∧ (z.2.1 160).1 < 26) = True := by rw [h.1 160 (by decide)]; exact eq_true ⟨Nat.lt_of_lt_of_le (by decide) h.2.2, by decide, by decide⟩
theorem ly_n160 {z : ix_Z} (h : ly_z z) : nI (z.2.1 160).2 = 301 := by rw [h.1 160 (by decide)]; rfl
theorem ly_l160 {z : ix_Z} (h : ly_z z) : (z.2.1 160).2 = 301 := by rw [h.1 160 (by decide)]; rfl
theorem ly_i161 {z : ix_Z} (h : ly_z z) {i : Int32} : ix_ix z 20 161 i = (0 ≤ i ∧ i < 2) := ly_ix h (by decide) rfl (by decide)
theorem ly_a161 {z : ix_Z} (h : ly_z z) : (161 < z.2.2 ∧ 20 ≤ (z.2.1 161).1 ∧ (z.2.1 161).1 < 26) = True := by rw [h.1 161 (by decide)]; exact eq_true ⟨Nat.lt_of_lt_of_le (by decide) h.2.2, by decide, by decide⟩
theorem ly_n161 {z : ix_Z} (h : ly_z z) : nI (z.2.1 161).2 = 2 := by rw [h.1 161 (by decide)]; rfl
theorem ly_l161 {z : ix_Z} (h : ly_z z) : (z.2.1 161).2 = 2 := by rw [h.1 161 (by decide)]; rfl
theorem ly_i162 {z : ix_Z} (h : ly_z z) {i : Int32} : ix_ix z 20 162 i = (0 ≤ i ∧ i < 2) := ly_ix h (by decide) rfl (by decide)
theorem ly_a162 {z : ix_Z} (h : ly_z z) : (162 < z.2.2 ∧ 20 ≤ (z.2.1 162).1 ∧ (z.2.1 162).1 < 26) = True := by rw [h.1 162 (by decide)]; exact eq_true ⟨Nat.lt_of_lt_of_le (by decide) h.2.2, by decide, by decide⟩
theorem ly_n162 {z : ix_Z} (h : ly_z z) : nI (z.2.1 162).2 = 2 := by rw [h.1 162 (by decide)]; rfl
theorem ly_l162 {z : ix_Z} (h : ly_z z) : (z.2.1 162).2 = 2 := by rw [h.1 162 (by decide)]; rfl
theorem ly_i163 {z : ix_Z} (h : ly_z z) {i : Int32} : ix_ix z 22 163 i = (0 ≤ i ∧ i < 1000) := ly_ix h (by decide) rfl (by decide)
theorem ly_a163 {z : ix_Z} (h : ly_z z) : (163 < z.2.2 ∧ 20 ≤ (z.2.1 163).1 ∧ (z.2.1 163).1 < 26) = True := by rw [h.1 163 (by decide)]; exact eq_true ⟨Nat.lt_of_lt_of_le (by decide) h.2.2, by decide, by decide⟩
theorem ly_n163 {z : ix_Z} (h : ly_z z) : nI (z.2.1 163).2 = 1000 := by rw [h.1 163 (by decide)]; rfl
theorem ly_l163 {z : ix_Z} (h : ly_z z) : (z.2.1 163).2 = 1000 := by rw [h.1 163 (by decide)]; rfl
theorem ly_i164 {z : ix_Z} (h : ly_z z) {i : Int32} : ix_ix z 20 164 i = (0 ≤ i ∧ i < 40) := ly_ix h (by decide) rfl (by decide)
theorem ly_a164 {z : ix_Z} (h : ly_z z) : (164 < z.2.2 ∧ 20 ≤ (z.2.1 164).1 ∧ (z.2.1 164).1 < 26) = True := by rw [h.1 164 (by decide)]; exact eq_true ⟨Nat.lt_of_lt_of_le (by decide) h.2.2, by decide, by decide⟩
theorem ly_n164 {z : ix_Z} (h : ly_z z) : nI (z.2.1 164).2 = 40 := by rw [h.1 164 (by decide)]; rfl
theorem ly_l164 {z : ix_Z} (h : ly_z z) : (z.2.1 164).2 = 40 := by rw [h.1 164 (by decide)]; rfl
theorem ly_i165 {z : ix_Z} (h : ly_z z) {i : Int32} : ix_ix z 20 165 i = (0 ≤ i ∧ i < 2) := ly_ix h (by decide) rfl (by decide)
theorem ly_a165 {z : ix_Z} (h : ly_z z) : (165 < z.2.2 ∧ 20 ≤ (z.2.1 165).1 ∧ (z.2.1 165).1 < 26) = True := by rw [h.1 165 (by decide)]; exact eq_true ⟨Nat.lt_of_lt_of_le (by decide) h.2.2, by decide, by decide⟩
theorem ly_n165 {z : ix_Z} (h : ly_z z) : nI (z.2.1 165).2 = 2 := by rw [h.1 165 (by decide)]; rfl
theorem ly_l165 {z : ix_Z} (h : ly_z z) : (z.2.1 165).2 = 2 := by rw [h.1 165 (by decide)]; rfl
theorem ly_i166 {z : ix_Z} (h : ly_z z) {i : Int32} : ix_ix z 20 166 i = (0 ≤ i ∧ i < 2) := ly_ix h (by decide) rfl (by decide)
theorem ly_a166 {z : ix_Z} (h : ly_z z) : (166 < z.2.2 ∧ 20 ≤ (z.2.1 166).1 ∧ (z.2.1 166).1 < 26) = True := by rw [h.1 166 (by decide)]; exact eq_true ⟨Nat.lt_of_lt_of_le (by decide) h.2.2, by decide, by decide⟩
theorem ly_n166 {z : ix_Z} (h : ly_z z) : nI (z.2.1 166).2 = 2 := by rw [h.1 166 (by decide)]; rfl
theorem ly_l166 {z : ix_Z} (h : ly_z z) : (z.2.1 166).2 = 2 := by rw [h.1 166 (by decide)]; rfl
theorem ly_i167 {z : ix_Z} (h : ly_z z) {i : Int32} : ix_ix z 20 167 i = (0 ≤ i ∧ i < 602) := ly_ix h (by decide) rfl (by decide)
theorem ly_a167 {z : ix_Z} (h : ly_z z) : (167 < z.2.2 ∧ 20 ≤ (z.2.1 167).1 ∧ (z.2.1 167).1 < 26) = True := by rw [h.1 167 (by decide)]; exact eq_true ⟨Nat.lt_of_lt_of_le (by decide) h.2.2, by decide, by decide⟩
theorem ly_n167 {z : ix_Z} (h : ly_z z) : nI (z.2.1 167).2 = 602 := by rw [h.1 167 (by decide)]; rfl
theorem ly_l167 {z : ix_Z} (h : ly_z z) : (z.2.1 167).2 = 602 := by rw [h.1 167 (by decide)]; rfl
theorem ly_i168 {z : ix_Z} (h : ly_z z) {i : Int32} : ix_ix z 20 168 i = (0 ≤ i ∧ i < 602) := ly_ix h (by decide) rfl (by decide)
theorem ly_a168 {z : ix_Z} (h : ly_z z) : (168 < z.2.2 ∧ 20 ≤ (z.2.1 168).1 ∧ (z.2.1 168).1 < 26) = True := by rw [h.1 168 (by decide)]; exact eq_true ⟨Nat.lt_of_lt_of_le (by decide) h.2.2, by decide, by decide⟩
theorem ly_n168 {z : ix_Z} (h : ly_z z) : nI (z.2.1 168).2 = 602 := by rw [h.1 168 (by decide)]; rfl
theorem ly_l168 {z : ix_Z} (h : ly_z z) : (z.2.1 168).2 = 602 := by rw [h.1 168 (by decide)]; rfl
theorem ly_i169 {z : ix_Z} (h : ly_z z) {i : Int32} : ix_ix z 20 169 i = (0 ≤ i ∧ i < 602) := ly_ix h (by decide) rfl (by decide)
theorem ly_a169 {z : ix_Z} (h : ly_z z) : (169 < z.2.2 ∧ 20 ≤ (z.2.1 169).1 ∧ (z.2.1 169).1 < 26) = True := by rw [h.1 169 (by decide)]; exact eq_true ⟨Nat.lt_of_lt_of_le (by decide) h.2.2, by decide, by decide⟩
theorem ly_n169 {z : ix_Z} (h : ly_z z) : nI (z.2.1 169).2 = 602 := by rw [h.1 169 (by decide)]; rfl
theorem ly_l169 {z : ix_Z} (h : ly_z z) : (z.2.1 169).2 = 602 := by rw [h.1 169 (by decide)]; rfl
theorem ly_i170 {z : ix_Z} (h : ly_z z) {i : Int32} : ix_ix z 20 170 i = (0 ≤ i ∧ i < 602) := ly_ix h (by decide) rfl (by decide)
theorem ly_a170 {z : ix_Z} (h : ly_z z) : (170 < z.2.2 ∧ 20 ≤ (z.2.1 170).1 ∧ (z.2.1 170).1 < 26) = True := by rw [h.1 170 (by decide)]; exact eq_true ⟨Nat.lt_of_lt_of_le (by decide) h.2.2, by decide, by decide⟩
theorem ly_n170 {z : ix_Z} (h : ly_z z) : nI (z.2.1 170).2 = 602 := by rw [h.1 170 (by decide)]; rfl
theorem ly_l170 {z : ix_Z} (h : ly_z z) : (z.2.1 170).2 = 602 := by rw [h.1 170 (by decide)]; rfl
theorem ly_i171 {z : ix_Z} (h : ly_z z) {i : Int32} : ix_ix z 23 171 i = (0 ≤ i ∧ i < 602) := ly_ix h (by decide) rfl (by decide)
theorem ly_a171 {z : ix_Z} (h : ly_z z) : (171 < z.2.2 ∧ 20 ≤ (z.2.1 171).1 ∧ (z.2.1 171).1 < 26) = True := by rw [h.1 171 (by decide)]; exact eq_true ⟨Nat.lt_of_lt_of_le (by decide) h.2.2, by decide, by decide⟩
theorem ly_n171 {z : ix_Z} (h : ly_z z) : nI (z.2.1 171).2 = 602 := by rw [h.1 171 (by decide)]; rfl
theorem ly_l171 {z : ix_Z} (h : ly_z z) : (z.2.1 171).2 = 602 := by rw [h.1 171 (by decide)]; rfl
theorem ly_i172 {z : ix_Z} (h : ly_z z) {i : Int32} : ix_ix z 23 172 i = (0 ≤ i ∧ i < 2) := ly_ix h (by decide) rfl (by decide)
theorem ly_a172 {z : ix_Z} (h : ly_z z) : (172 < z.2.2 ∧ 20 ≤ (z.2.1 172).1 ∧ (z.2.1 172).1 < 26) = True := by rw [h.1 172 (by decide)]; exact eq_true ⟨Nat.lt_of_lt_of_le (by decide) h.2.2, by decide, by decide⟩
theorem ly_n172 {z : ix_Z} (h : ly_z z) : nI (z.2.1 172).2 = 2 := by rw [h.1 172 (by decide)]; rfl
theorem ly_l172 {z : ix_Z} (h : ly_z z) : (z.2.1 172).2 = 2 := by rw [h.1 172 (by decide)]; rfl
theorem ly_i173 {z : ix_Z} (h : ly_z z) {i : Int32} : ix_ix z 20 173 i = (0 ≤ i ∧ i < 600) := ly_ix h (by decide) rfl (by decide)
theorem ly_a173 {z : ix_Z} (h : ly_z z) : (173 < z.2.2 ∧ 20 ≤ (z.2.1 173).1 ∧ (z.2.1 173).1 < 26) = True := by rw [h.1 173 (by decide)]; exact eq_true ⟨Nat.lt_of_lt_of_le (by decide) h.2.2, by decide, by decide⟩
theorem ly_n173 {z : ix_Z} (h : ly_z z) : nI (z.2.1 173).2 = 600 := by rw [h.1 173 (by decide)]; rfl
theorem ly_l173 {z : ix_Z} (h : ly_z z) : (z.2.1 173).2 = 600 := by rw [h.1 173 (by decide)]; rfl
theorem ly_i174 {z : ix_Z} (h : ly_z z) {i : Int32} : ix_ix z 20 174 i = (0 ≤ i ∧ i < 2) := ly_ix h (by decide) rfl (by decide)
theorem ly_a174 {z : ix_Z} (h : ly_z z) : (174 < z.2.2 ∧ 20 ≤ (z.2.1 174).1 ∧ (z.2.1 174).1 < 26) = True := by rw [h.1 174 (by decide)]; exact eq_true ⟨Nat.lt_of_lt_of_le (by decide) h.2.2, by decide, by decide⟩
theorem ly_n174 {z : ix_Z} (h : ly_z z) : nI (z.2.1 174).2 = 2 := by rw [h.1 174 (by decide)]; rfl
theorem ly_l174 {z : ix_Z} (h : ly_z z) : (z.2.1 174).2 = 2 := by rw [h.1 174 (by decide)]; rfl
theorem ly_i175 {z : ix_Z} (h : ly_z z) {i : Int32} : ix_ix z 20 175 i = (0 ≤ i ∧ i < 2) := ly_ix h (by decide) rfl (by decide)
theorem ly_a175 {z : ix_Z} (h : ly_z z) : (175 < z.2.2 ∧ 20 ≤ (z.2.1 175).1 ∧ (z.2.1 175).1 < 26) = True := by rw [h.1 175 (by decide)]; exact eq_true ⟨Nat.lt_of_lt_of_le (by decide) h.2.2, by decide, by decide⟩
theorem ly_n175 {z : ix_Z} (h : ly_z z) : nI (z.2.1 175).2 = 2 := by rw [h.1 175 (by decide)]; rfl
theorem ly_l175 {z : ix_Z} (h : ly_z z) : (z.2.1 175).2 = 2 := by rw [h.1 175 (by decide)]; rfl
theorem ly_i176 {z : ix_Z} (h : ly_z z) {i : Int32} : ix_ix z 20 176 i = (0 ≤ i ∧ i < 1602) := ly_ix h (by decide) rfl (by decide)
theorem ly_a176 {z : ix_Z} (h : ly_z z) : (176 < z.2.2 ∧ 20 ≤ (z.2.1 176).1 ∧ (z.2.1 176).1 < 26) = True := by rw [h.1 176 (by decide)]; exact eq_true ⟨Nat.lt_of_lt_of_le (by decide) h.2.2, by decide, by decide⟩
theorem ly_n176 {z : ix_Z} (h : ly_z z) : nI (z.2.1 176).2 = 1602 := by rw [h.1 176 (by decide)]; rfl
theorem ly_l176 {z : ix_Z} (h : ly_z z) : (z.2.1 176).2 = 1602 := by rw [h.1 176 (by decide)]; rfl
theorem ly_i177 {z : ix_Z} (h : ly_z z) {i : Int32} : ix_ix z 20 177 i = (0 ≤ i ∧ i < 16100) := ly_ix h (by decide) rfl (by decide)
theorem ly_a177 {z : ix_Z} (h : ly_z z) : (177 < z.2.2 ∧ 20 ≤ (z.2.1 177).1 ∧ (z.2.1 177).1 < 26) = True := by rw [h.1 177 (by decide)]; exact eq_true ⟨Nat.lt_of_lt_of_le (by decide) h.2.2, by decide, by decide⟩
theorem ly_n177 {z : ix_Z} (h : ly_z z) : nI (z.2.1 177).2 = 16100 := by rw [h.1 177 (by decide)]; rfl
theorem ly_l177 {z : ix_Z} (h : ly_z z) : (z.2.1 177).2 = 16100 := by rw [h.1 177 (by decide)]; rfl
theorem ly_i178 {z : ix_Z} (h : ly_z z) {i : Int32} : ix_ix z 20 178 i = (0 ≤ i ∧ i < 2) := ly_ix h (by decide) rfl (by decide)
theorem ly_a178 {z : ix_Z} (h : ly_z z) : (178 < z.2.2 ∧ 20 ≤ (z.2.1 178).1 ∧ (z.2.1 178).1 < 26) = True := by rw [h.1 178 (by decide)]; exact eq_true ⟨Nat.lt_of_lt_of_le (by decide) h.2.2, by decide, by decide⟩
theorem ly_n178 {z : ix_Z} (h : ly_z z) : nI (z.2.1 178).2 = 2 := by rw [h.1 178 (by decide)]; rfl
theorem ly_l178 {z : ix_Z} (h : ly_z z) : (z.2.1 178).2 = 2 := by rw [h.1 178 (by decide)]; rfl
theorem ly_i179 {z : ix_Z} (h : ly_z z) {i : Int32} : ix_ix z 20 179 i = (0 ≤ i ∧ i < 2) := ly_ix h (by decide) rfl (by decide)
theorem ly_a179 {z : ix_Z} (h : ly_z z) : (179 < z.2.2 ∧ 20 ≤ (z.2.1 179).1 ∧ (z.2.1 179).1 < 26) = True := by rw [h.1 179 (by decide)]; exact eq_true ⟨Nat.lt_of_lt_of_le (by decide) h.2.2, by decide, by decide⟩
theorem ly_n179 {z : ix_Z} (h : ly_z z) : nI (z.2.1 179).2 = 2 := by rw [h.1 179 (by decide)]; rfl
theorem ly_l179 {z : ix_Z} (h : ly_z z) : (z.2.1 179).2 = 2 := by rw [h.1 179 (by decide)]; rfl
theorem ly_i180 {z : ix_Z} (h : ly_z z) {i : Int32} : ix_ix z 22 180 i = (0 ≤ i ∧ i < 1600) := ly_ix h (by decide) rfl (by decide)
theorem ly_a180 {z : ix_Z} (h : ly_z z) : (180 < z.2.2 ∧ 20 ≤ (z.2.1 180).1 ∧ (z.2.1 180).1 < 26) = True := by rw [h.1 180 (by decide)]; exact eq_true ⟨Nat.lt_of_lt_of_le (by decide) h.2.2, by decide, by decide⟩
theorem ly_n180 {z : ix_Z} (h : ly_z z) : nI (z.2.1 180).2 = 1600 := by rw [h.1 180 (by decide)]; rfl
theorem ly_l180 {z : ix_Z} (h : ly_z z) : (z.2.1 180).2 = 1600 := by rw [h.1 180 (by decide)]; rfl
theorem ly_i181 {z : ix_Z} (h : ly_z z) {i : Int32} : ix_ix z 20 181 i = (0 ≤ i ∧ i < 1600) := ly_ix h (by decide) rfl (by decide)
theorem ly_a181 {z : ix_Z} (h : ly_z z) : (181 < z.2.2 ∧ 20 ≤ (z.2.1 181).1 ∧ (z.2.1 181).1 < 26) = True := by rw [h.1 181 (by decide)]; exact eq_true ⟨Nat.lt_of_lt_of_le (by decide) h.2.2, by decide, by decide⟩
theorem ly_n181 {z : ix_Z} (h : ly_z z) : nI (z.2.1 181).2 = 1600 := by rw [h.1 181 (by decide)]; rfl
theorem ly_l181 {z : ix_Z} (h : ly_z z) : (z.2.1 181).2 = 1600 := by rw [h.1 181 (by decide)]; rfl
theorem ly_i182 {z : ix_Z} (h : ly_z z) {i : Int32} : ix_ix z 23 182 i = (0 ≤ i ∧ i < 12800) := ly_ix h (by decide) rfl (by decide)
theorem ly_a182 {z : ix_Z} (h : ly_z z) : (182 < z.2.2 ∧ 20 ≤ (z.2.1 182).1 ∧ (z.2.1 182).1 < 26) = True := by rw [h.1 182 (by decide)]; exact eq_true ⟨Nat.lt_of_lt_of_le (by decide) h.2.2, by decide, by decide⟩
theorem ly_n182 {z : ix_Z} (h : ly_z z) : nI (z.2.1 182).2 = 12800 := by rw [h.1 182 (by decide)]; rfl
theorem ly_l182 {z : ix_Z} (h : ly_z z) : (z.2.1 182).2 = 12800 := by rw [h.1 182 (by decide)]; rfl
theorem ly_i183 {z : ix_Z} (h : ly_z z) {i : Int32} : ix_ix z 23 183 i = (0 ≤ i ∧ i < 4816) := ly_ix h (by decide) rfl (by decide)
theorem ly_a183 {z : ix_Z} (h : ly_z z) : (183 < z.2.2 ∧ 20 ≤ (z.2.1 183).1 ∧ (z.2.1 183).1 < 26) = True := by rw [h.1 183 (by decide)]; exact eq_true ⟨Nat.lt_of_lt_of_le (by decide) h.2.2, by decide, by decide⟩
theorem ly_n183 {z : ix_Z} (h : ly_z z) : nI (z.2.1 183).2 = 4816 := by rw [h.1 183 (by decide)]; rfl
theorem ly_l183 {z : ix_Z} (h : ly_z z) : (z.2.1 183).2 = 4816 := by rw [h.1 183 (by decide)]; rfl
theorem ly_i184 {z : ix_Z} (h : ly_z z) {i : Int32} : ix_ix z 23 184 i = (0 ≤ i ∧ i < 8) := ly_ix h (by decide) rfl (by decide)
theorem ly_a184 {z : ix_Z} (h : ly_z z) : (184 < z.2.2 ∧ 20 ≤ (z.2.1 184).1 ∧ (z.2.1 184).1 < 26) = True := by rw [h.1 184 (by decide)]; exact eq_true ⟨Nat.lt_of_lt_of_le (by decide) h.2.2, by decide, by decide⟩
theorem ly_n184 {z : ix_Z} (h : ly_z z) : nI (z.2.1 184).2 = 8 := by rw [h.1 184 (by decide)]; rfl
theorem ly_l184 {z : ix_Z} (h : ly_z z) : (z.2.1 184).2 = 8 := by rw [h.1 184 (by decide)]; rfl
theorem ly_i185 {z : ix_Z} (h : ly_z z) {i : Int32} : ix_ix z 20 185 i = (0 ≤ i ∧ i < 2) := ly_ix h (by decide) rfl (by decide)
theorem ly_a185 {z : ix_Z} (h : ly_z z) : (185 < z.2.2 ∧ 20 ≤ (z.2.1 185).1 ∧ (z.2.1 185).1 < 26) = True := by rw [h.1 185 (by decide)]; exact eq_true ⟨Nat.lt_of_lt_of_le (by decide) h.2.2, by decide, by decide⟩
theorem ly_n185 {z : ix_Z} (h : ly_z z) : nI (z.2.1 185).2 = 2 := by rw [h.1 185 (by decide)]; rfl
theorem ly_l185 {z : ix_Z} (h : ly_z z) : (z.2.1 185).2 = 2 := by rw [h.1 185 (by decide)]; rfl
theorem ly_i186 {z : ix_Z} (h : ly_z z) {i : Int32} : ix_ix z 20 186 i = (0 ≤ i ∧ i < 2) := ly_ix h (by decide) rfl (by decide)
theorem ly_a186 {z : ix_Z} (h : ly_z z) : (186 < z.2.2 ∧ 20 ≤ (z.2.1 186).1 ∧ (z.2.1 186).1 < 26) = True := by rw [h.1 186 (by decide)]; exact eq_true ⟨Nat.lt_of_lt_of_le (by decide) h.2.2, by decide, by decide⟩
theorem ly_n186 {z : ix_Z} (h : ly_z z) : nI (z.2.1 186).2 = 2 := by rw [h.1 186 (by decide)]; rfl
theorem ly_l186 {z : ix_Z} (h : ly_z z) : (z.2.1 186).2 = 2 := by rw [h.1 186 (by decide)]; rfl
theorem ly_i187 {z : ix_Z} (h : ly_z z) {i : Int32} : ix_ix z 20 187 i = (0 ≤ i ∧ i < 20) := ly_ix h (by decide) rfl (by decide)
theorem ly_a187 {z : ix_Z} (h : ly_z z) : (187 < z.2.2 ∧ 20 ≤ (z.2.1 187).1 ∧ (z.2.1 187).1 < 26) = True := by rw [h.1 187 (by decide)]; exact eq_true ⟨Nat.lt_of_lt_of_le (by decide) h.2.2, by decide, by decide⟩
theorem ly_n187 {z : ix_Z} (h : ly_z z) : nI (z.2.1 187).2 = 20 := by rw [h.1 187 (by decide)]; rfl
theorem ly_l187 {z : ix_Z} (h : ly_z z) : (z.2.1 187).2 = 20 := by rw [h.1 187 (by decide)]; rfl
theorem ly_i188 {z : ix_Z} (h : ly_z z) {i : Int32} : ix_ix z 20 188 i = (0 ≤ i ∧ i < 5) := ly_ix h (by decide) rfl (by decide)
theorem ly_a188 {z : ix_Z} (h : ly_z z) : (188 < z.2.2 ∧ 20 ≤ (z.2.1 188).1 ∧ (z.2.1 188).1 < 26) = True := by rw [h.1 188 (by decide)]; exact eq_true ⟨Nat.lt_of_lt_of_le (by decide) h.2.2, by decide, by decide⟩
theorem ly_n188 {z : ix_Z} (h : ly_z z) : nI (z.2.1 188).2 = 5 := by rw [h.1 188 (by decide)]; rfl
theorem ly_l188 {z : ix_Z} (h : ly_z z) : (z.2.1 188).2 = 5 := by rw [h.1 188 (by decide)]; rfl
theorem ly_i189 {z : ix_Z} (h : ly_z z) {i : Int32} : ix_ix z 20 189 i = (0 ≤ i ∧ i < 500) := ly_ix h (by decide) rfl (by decide)
theorem ly_a189 {z : ix_Z} (h : ly_z z) : (189 < z.2.2 ∧ 20 ≤ (z.2.1 189).1 ∧ (z.2.1 189).1 < 26) = True := by rw [h.1 189 (by decide)]; exact eq_true ⟨Nat.lt_of_lt_of_le (by decide) h.2.2, by decide, by decide⟩
theorem ly_n189 {z : ix_Z} (h : ly_z z) : nI (z.2.1 189).2 = 500 := by rw [h.1 189 (by decide)]; rfl
theorem ly_l189 {z : ix_Z} (h : ly_z z) : (z.2.1 189).2 = 500 := by rw [h.1 189 (by decide)]; rfl
theorem ly_i190 {z : ix_Z} (h : ly_z z) {i : Int32} : ix_ix z 20 190 i = (0 ≤ i ∧ i < 20) := ly_ix h (by decide) rfl (by decide)
theorem ly_a190 {z : ix_Z} (h : ly_z z) : (190 < z.2.2 ∧ 20 ≤ (z.2.1 190).1 ∧ (z.2.1 190).1 < 26) = True := by rw [h.1 190 (by decide)]; exact eq_true ⟨Nat.lt_of_lt_of_le (by decide) h.2.2, by decide, by decide⟩
theorem ly_n190 {z : ix_Z} (h : ly_z z) : nI (z.2.1 190).2 = 20 := by rw [h.1 190 (by decide)]; rfl
theorem ly_l190 {z : ix_Z} (h : ly_z z) : (z.2.1 190).2 = 20 := by rw [h.1 190 (by decide)]; rfl
theorem ly_i191 {z : ix_Z} (h : ly_z z) {i : Int32} : ix_ix z 20 191 i = (0 ≤ i ∧ i < 320) := ly_ix h (by decide) rfl (by decide)
theorem ly_a191 {z : ix_Z} (h : ly_z z) : (191 < z.2.2 ∧ 20 ≤ (z.2.1 191).1 ∧ (z.2.1 191).1 < 26) = True := by rw [h.1 191 (by decide)]; exact eq_true ⟨Nat.lt_of_lt_of_le (by decide) h.2.2, by decide, by decide⟩
theorem ly_n191 {z : ix_Z} (h : ly_z z) : nI (z.2.1 191).2 = 320 := by rw [h.1 191 (by decide)]; rfl
theorem ly_l191 {z : ix_Z} (h : ly_z z) : (z.2.1 191).2 = 320 := by rw [h.1 191 (by decide)]; rfl
theorem ly_i192 {z : ix_Z} (h : ly_z z) {i : Int32} : ix_ix z 22 192 i = (0 ≤ i ∧ i < 301) := ly_ix h (by decide) rfl (by decide)
theorem ly_a192 {z : ix_Z} (h : ly_z z) : (192 < z.2.2 ∧ 20 ≤ (z.2.1 192).1 ∧ (z.2.1 192).1 < 26) = True := by rw [h.1 192 (by decide)]; exact eq_true ⟨Nat.lt_of_lt_of_le (by decide) h.2.2, by decide, by decide⟩
theorem ly_n192 {z : ix_Z} (h : ly_z z) : nI (z.2.1 192).2 = 301 := by rw [h.1 192 (by decide)]; rfl
theorem ly_l192 {z : ix_Z} (h : ly_z z) : (z.2.1 192).2 = 301 := by rw [h.1 192 (by decide)]; rfl
theorem ly_i193 {z : ix_Z} (h : ly_z z) {i : Int32} : ix_ix z 22 193 i = (0 ≤ i ∧ i < 301) := ly_ix h (by decide) rfl (by decide)
theorem ly_a193 {z : ix_Z} (h : ly_z z) : (193 < z.2.2 ∧ 20 ≤ (z.2.1 193).1 ∧ (z.2.1 193).1 < 26) = True := by rw [h.1 193 (by decide)]; exact eq_true ⟨Nat.lt_of_lt_of_le (by decide) h.2.2, by decide, by decide⟩
theorem ly_n193 {z : ix_Z} (h : ly_z z) : nI (z.2.1 193).2 = 301 := by rw [h.1 193 (by decide)]; rfl
theorem ly_l193 {z : ix_Z} (h : ly_z z) : (z.2.1 193).2 = 301 := by rw [h.1 193 (by decide)]; rfl
theorem ly_i194 {z : ix_Z} (h : ly_z z) {i : Int32} : ix_ix z 20 194 i = (0 ≤ i ∧ i < 320) := ly_ix h (by decide) rfl (by decide)
theorem ly_a194 {z : ix_Z} (h : ly_z z) : (194 < z.2.2 ∧ 20 ≤ (z.2.1 194).1 ∧ (z.2.1 194).1 < 26) = True := by rw [h.1 194 (by decide)]; exact eq_true ⟨Nat.lt_of_lt_of_le (by decide) h.2.2, by decide, by decide⟩
theorem ly_n194 {z : ix_Z} (h : ly_z z) : nI (z.2.1 194).2 = 320 := by rw [h.1 194 (by decide)]; rfl
theorem ly_l194 {z : ix_Z} (h : ly_z z) : (z.2.1 194).2 = 320 := by rw [h.1 194 (by decide)]; rfl
theorem ly_i195 {z : ix_Z} (h : ly_z z) {i : Int32} : ix_ix z 22 195 i = (0 ≤ i ∧ i < 800) := ly_ix h (by decide) rfl (by decide)
theorem ly_a195 {z : ix_Z} (h : ly_z z) : (195 < z.2.2 ∧ 20 ≤ (z.2.1 195).1 ∧ (z.2.1 195).1 < 26) = True := by rw [h.1 195 (by decide)]; exact eq_true ⟨Nat.lt_of_lt_of_le (by decide) h.2.2, by decide, by decide⟩
theorem ly_n195 {z : ix_Z} (h : ly_z z) : nI (z.2.1 195).2 = 800 := by rw [h.1 195 (by decide)]; rfl
theorem ly_l195 {z : ix_Z} (h : ly_z z) : (z.2.1 195).2 = 800 := by rw [h.1 195 (by decide)]; rfl
theorem ly_i196 {z : ix_Z} (h : ly_z z) {i : Int32} : ix_ix z 20 196 i = (0 ≤ i ∧ i < 801) := ly_ix h (by decide) rfl (by decide)
theorem ly_a196 {z : ix_Z} (h : ly_z z) : (196 < z.2.2 ∧ 20 ≤ (z.2.1 196).1 ∧ (z.2.1 196).1 < 26) = True := by rw [h.1 196 (by decide)]; exact eq_true ⟨Nat.lt_of_lt_of_le (by decide) h.2.2, by decide, by decide⟩
theorem ly_n196 {z : ix_Z} (h : ly_z z) : nI (z.2.1 196).2 = 801 := by rw [h.1 196 (by decide)]; rfl
theorem ly_l196 {z : ix_Z} (h : ly_z z) : (z.2.1 196).2 = 801 := by rw [h.1 196 (by decide)]; rfl
theorem ly_i197 {z : ix_Z} (h : ly_z z) {i : Int32} : ix_ix z 20 197 i = (0 ≤ i ∧ i < 8100) := ly_ix h (by decide) rfl (by decide)
theorem ly_a197 {z : ix_Z} (h : ly_z z) : (197 < z.2.2 ∧ 20 ≤ (z.2.1 197).1 ∧ (z.2.1 197).1 < 26) = True := by rw [h.1 197 (by decide)]; exact eq_true ⟨Nat.lt_of_lt_of_le (by decide) h.2.2, by decide, by decide⟩
theorem ly_n197 {z : ix_Z} (h : ly_z z) : nI (z.2.1 197).2 = 8100 := by rw [h.1 197 (by decide)]; rfl
theorem ly_l197 {z : ix_Z} (h : ly_z z) : (z.2.1 197).2 = 8100 := by rw [h.1 197 (by decide)]; rfl
theorem ly_i198 {z : ix_Z} (h : ly_z z) {i : Int32} : ix_ix z 20 198 i = (0 ≤ i ∧ i < 301) := ly_ix h (by decide) rfl (by decide)
theorem ly_a198 {z : ix_Z} (h : ly_z z) : (198 < z.2.2 ∧ 20 ≤ (z.2.1 198).1 ∧ (z.2.1 198).1 < 26) = True := by rw [h.1 198 (by decide)]; exact eq_true ⟨Nat.lt_of_lt_of_le (by decide) h.2.2, by decide, by decide⟩
theorem ly_n198 {z : ix_Z} (h : ly_z z) : nI (z.2.1 198).2 = 301 := by rw [h.1 198 (by decide)]; rfl
theorem ly_l198 {z : ix_Z} (h : ly_z z) : (z.2.1 198).2 = 301 := by rw [h.1 198 (by decide)]; rfl
theorem ly_r0_0 {z : ix_Z} (h : ly_z z) : z.1 0 0 = some 1 := (h.2.1 0 0 (by decide) (by decide)).trans rfl
theorem ly_r0_1 {z : ix_Z} (h : ly_z z) : z.1 0 1 = some 42 := (h.2.1 0 1 (by decide) (by decide)).trans rfl
theorem ly_r0_2 {z : ix_Z} (h : ly_z z) : z.1 0 2 = some 43 := (h.2.1 0 2 (by decide) (by decide)).trans rfl
theorem ly_r0_3 {z : ix_Z} (h : ly_z z) : z.1 0 3 = some 51 := (h.2.1 0 3 (by decide) (by decide)).trans rfl
theorem ly_r0_4 {z : ix_Z} (h : ly_z z) : z.1 0 4 = some 59 := (h.2.1 0 4 (by decide) (by decide)).trans rfl
theorem ly_r0_6 {z : ix_Z} (h : ly_z z) : z.1 0 6 = some 60 := (h.2.1 0 6 (by decide) (by decide)).trans rfl
theorem ly_r0_7 {z : ix_Z} (h : ly_z z) : z.1 0 7 = some 90 := (h.2.1 0 7 (by decide) (by decide)).trans rfl
theorem ly_r0_8 {z : ix_Z} (h : ly_z z) : z.1 0 8 = some 120 := (h.2.1 0 8 (by decide) (by decide)).trans rfl
theorem ly_r0_9 {z : ix_Z} (h : ly_z z) : z.1 0 9 = some 123 := (h.2.1 0 9 (by decide) (by decide)).trans rfl
theorem ly_r0_11 {z : ix_Z} (h : ly_z z) : z.1 0 11 = some 124 := (h.2.1 0 11 (by decide) (by decide)).trans rfl
theorem ly_r43_0 {z : ix_Z} (h : ly_z z) : z.1 43 0 = some 44 := (h.2.1 43 0 (by decide) (by decide)).trans rfl
theorem ly_r43_2 {z : ix_Z} (h : ly_z z) : z.1 43 2 = some 45 := (h.2.1 43 2 (by decide) (by decide)).trans rfl
theorem ly_r43_4 {z : ix_Z} (h : ly_z z) : z.1 43 4 = some 46 := (h.2.1 43 4 (by decide) (by decide)).trans rfl
theorem ly_r43_6 {z : ix_Z} (h : ly_z z) : z.1 43 6 = some 47 := (h.2.1 43 6 (by decide) (by decide)).trans rfl
theorem ly_r43_8 {z : ix_Z} (h : ly_z z) : z.1 43 8 = some 48 := (h.2.1 43 8 (by decide) (by decide)).trans rfl
theorem ly_r43_9 {z : ix_Z} (h : ly_z z) : z.1 43 9 = some 49 := (h.2.1 43 9 (by decide) (by decide)).trans rfl
theorem ly_r43_10 {z : ix_Z} (h : ly_z z) : z.1 43 10 = some 50 := (h.2.1 43 10 (by decide) (by decide)).trans rfl
theorem ly_r51_0 {z : ix_Z} (h : ly_z z) : z.1 51 0 = some 52 := (h.2.1 51 0 (by decide) (by decide)).trans rfl
theorem ly_r51_1 {z : ix_Z} (h : ly_z z) : z.1 51 1 = some 55 := (h.2.1 51 1 (by decide) (by decide)).trans rfl
theorem ly_r51_2 {z : ix_Z} (h : ly_z z) : z.1 51 2 = some 56 := (h.2.1 51 2 (by decide) (by decide)).trans rfl
theorem ly_r51_3 {z : ix_Z} (h : ly_z z) : z.1 51 3 = some 57 := (h.2.1 51 3 (by decide) (by decide)).trans rfl
theorem ly_r51_4 {z : ix_Z} (h : ly_z z) : z.1 51 4 = some 58 := (h.2.1 51 4 (by decide) (by decide)).trans rfl
theorem ly_r52_0 {z : ix_Z} (h : ly_z z) : z.1 52 0 = some 53 := (h.2.1 52 0 (by decide) (by decide)).trans rfl
theorem ly_r52_1 {z : ix_Z} (h : ly_z z) : z.1 52 1 = some 54 := (h.2.1 52 1 (by decide) (by decide)).trans rfl
theorem ly_r60_0 {z : ix_Z} (h : ly_z z) : z.1 60 0 = some 61 := (h.2.1 60 0 (by decide) (by decide)).trans rfl
theorem ly_r60_1 {z : ix_Z} (h : ly_z z) : z.1 60 1 = some 76 := (h.2.1 60 1 (by decide) (by decide)).trans rfl
theorem ly_r60_2 {z : ix_Z} (h : ly_z z) : z.1 60 2 = some 79 := (h.2.1 60 2 (by decide) (by decide)).trans rfl
theorem ly_r60_4 {z : ix_Z} (h : ly_z z) : z.1 60 4 = some 80 := (h.2.1 60 4 (by decide) (by decide)).trans rfl
theorem ly_r60_6 {z : ix_Z} (h : ly_z z) : z.1 60 6 = some 81 := (h.2.1 60 6 (by decide) (by decide)).trans rfl
theorem ly_r60_7 {z : ix_Z} (h : ly_z z) : z.1 60 7 = some 82 := (h.2.1 60 7 (by decide) (by decide)).trans rfl
theorem ly_r60_8 {z : ix_Z} (h : ly_z z) : z.1 60 8 = some 83 := (h.2.1 60 8 (by decide) (by decide)).trans rfl
theorem ly_r60_9 {z : ix_Z} (h : ly_z z) : z.1 60 9 = some 84 := (h.2.1 60 9 (by decide) (by decide)).trans rfl
theorem ly_r60_10 {z : ix_Z} (h : ly_z z) : z.1 60 10 = some 85 := (h.2.1 60 10 (by decide) (by decide)).trans rfl
theorem ly_r60_11 {z : ix_Z} (h : ly_z z) : z.1 60 11 = some 86 := (h.2.1 60 11 (by decide) (by decide)).trans rfl
theorem ly_r60_12 {z : ix_Z} (h : ly_z z) : z.1 60 12 = some 87 := (h.2.1 60 12 (by decide) (by decide)).trans rfl
theorem ly_r60_13 {z : ix_Z} (h : ly_z z) : z.1 60 13 = some 88 := (h.2.1 60 13 (by decide) (by decide)).trans rfl
theorem ly_r60_15 {z : ix_Z} (h : ly_z z) : z.1 60 15 = some 89 := (h.2.1 60 15 (by decide) (by decide)).trans rfl
theorem ly_r61_0 {z : ix_Z} (h : ly_z z) : z.1 61 0 = some 62 := (h.2.1 61 0 (by decide) (by decide)).trans rfl
theorem ly_r61_1 {z : ix_Z} (h : ly_z z) : z.1 61 1 = some 65 := (h.2.1 61 1 (by decide) (by decide)).trans rfl
theorem ly_r61_2 {z : ix_Z} (h : ly_z z) : z.1 61 2 = some 66 := (h.2.1 61 2 (by decide) (by decide)).trans rfl
theorem ly_r61_3 {z : ix_Z} (h : ly_z z) : z.1 61 3 = some 67 := (h.2.1 61 3 (by decide) (by decide)).trans rfl
theorem ly_r61_4 {z : ix_Z} (h : ly_z z) : z.1 61 4 = some 68 := (h.2.1 61 4 (by decide) (by decide)).trans rfl
theorem ly_r61_5 {z : ix_Z} (h : ly_z z) : z.1 61 5 = some 69 := (h.2.1 61 5 (by decide) (by decide)).trans rfl
theorem ly_r61_6 {z : ix_Z} (h : ly_z z) : z.1 61 6 = some 70 := (h.2.1 61 6 (by decide) (by decide)).trans rfl
theorem ly_r61_7 {z : ix_Z} (h : ly_z z) : z.1 61 7 = some 71 := (h.2.1 61 7 (by decide) (by decide)).trans rfl
theorem ly_r61_8 {z : ix_Z} (h : ly_z z) : z.1 61 8 = some 72 := (h.2.1 61 8 (by decide) (by decide)).trans rfl
theorem ly_r61_9 {z : ix_Z} (h : ly_z z) : z.1 61 9 = some 73 := (h.2.1 61 9 (by decide) (by decide)).trans rfl
theorem ly_r61_10 {z : ix_Z} (h : ly_z z) : z.1 61 10 = some 74 := (h.2.1 61 10 (by decide) (by decide)).trans rfl
theorem ly_r61_11 {z : ix_Z} (h : ly_z z) : z.1 61 11 = some 75 := (h.2.1 61 11 (by decide) (by decide)).trans rfl
theorem ly_r62_0 {z : ix_Z} (h : ly_z z) : z.1 62 0 = some 63 := (h.2.1 62 0 (by decide) (by decide)).trans rfl
theorem ly_r62_1 {z : ix_Z} (h : ly_z z) : z.1 62 1 = some 64 := (h.2.1 62 1 (by decide) (by decide)).trans rfl
theorem ly_r76_0 {z : ix_Z} (h : ly_z z) : z.1 76 0 = some 77 := (h.2.1 76 0 (by decide) (by decide)).trans rfl
theorem ly_r76_1 {z : ix_Z} (h : ly_z z) : z.1 76 1 = some 78 := (h.2.1 76 1 (by decide) (by decide)).trans rfl
theorem ly_r90_0 {z : ix_Z} (h : ly_z z) : z.1 90 0 = some 91 := (h.2.1 90 0 (by decide) (by decide)).trans rfl
theorem ly_r90_1 {z : ix_Z} (h : ly_z z) : z.1 90 1 = some 106 := (h.2.1 90 1 (by decide) (by decide)).trans rfl
theorem ly_r90_2 {z : ix_Z} (h : ly_z z) : z.1 90 2 = some 109 := (h.2.1 90 2 (by decide) (by decide)).trans rfl
theorem ly_r90_4 {z : ix_Z} (h : ly_z z) : z.1 90 4 = some 110 := (h.2.1 90 4 (by decide) (by decide)).trans rfl
theorem ly_r90_6 {z : ix_Z} (h : ly_z z) : z.1 90 6 = some 111 := (h.2.1 90 6 (by decide) (by decide)).trans rfl
theorem ly_r90_7 {z : ix_Z} (h : ly_z z) : z.1 90 7 = some 112 := (h.2.1 90 7 (by decide) (by decide)).trans rfl
theorem ly_r90_8 {z : ix_Z} (h : ly_z z) : z.1 90 8 = some 113 := (h.2.1 90 8 (by decide) (by decide)).trans rfl
theorem ly_r90_9 {z : ix_Z} (h : ly_z z) : z.1 90 9 = some 114 := (h.2.1 90 9 (by decide) (by decide)).trans rfl
theorem ly_r90_10 {z : ix_Z} (h : ly_z z) : z.1 90 10 = some 115 := (h.2.1 90 10 (by decide) (by decide)).trans rfl
theorem ly_r90_11 {z : ix_Z} (h : ly_z z) : z.1 90 11 = some 116 := (h.2.1 90 11 (by decide) (by decide)).trans rfl
theorem ly_r90_12 {z : ix_Z} (h : ly_z z) : z.1 90 12 = some 117 := (h.2.1 90 12 (by decide) (by decide)).trans rfl
theorem ly_r90_13 {z : ix_Z} (h : ly_z z) : z.1 90 13 = some 118 := (h.2.1 90 13 (by decide) (by decide)).trans rfl
theorem ly_r90_15 {z : ix_Z} (h : ly_z z) : z.1 90 15 = some 119 := (h.2.1 90 15 (by decide) (by decide)).trans rfl
theorem ly_r91_0 {z : ix_Z} (h : ly_z z) : z.1 91 0 = some 92 := (h.2.1 91 0 (by decide) (by decide)).trans rfl
theorem ly_r91_1 {z : ix_Z} (h : ly_z z) : z.1 91 1 = some 95 := (h.2.1 91 1 (by decide) (by decide)).trans rfl
theorem ly_r91_2 {z : ix_Z} (h : ly_z z) : z.1 91 2 = some 96 := (h.2.1 91 2 (by decide) (by decide)).trans rfl
theorem ly_r91_3 {z : ix_Z} (h : ly_z z) : z.1 91 3 = some 97 := (h.2.1 91 3 (by decide) (by decide)).trans rfl
theorem ly_r91_4 {z : ix_Z} (h : ly_z z) : z.1 91 4 = some 98 := (h.2.1 91 4 (by decide) (by decide)).trans rfl
theorem ly_r91_5 {z : ix_Z} (h : ly_z z) : z.1 91 5 = some 99 := (h.2.1 91 5 (by decide) (by decide)).trans rfl
theorem ly_r91_6 {z : ix_Z} (h : ly_z z) : z.1 91 6 = some 100 := (h.2.1 91 6 (by decide) (by decide)).trans rfl
theorem ly_r91_7 {z : ix_Z} (h : ly_z z) : z.1 91 7 = some 101 := (h.2.1 91 7 (by decide) (by decide)).trans rfl
theorem ly_r91_8 {z : ix_Z} (h : ly_z z) : z.1 91 8 = some 102 := (h.2.1 91 8 (by decide) (by decide)).trans rfl
theorem ly_r91_9 {z : ix_Z} (h : ly_z z) : z.1 91 9 = some 103 := (h.2.1 91 9 (by decide) (by decide)).trans rfl
theorem ly_r91_10 {z : ix_Z} (h : ly_z z) : z.1 91 10 = some 104 := (h.2.1 91 10 (by decide) (by decide)).trans rfl
theorem ly_r91_11 {z : ix_Z} (h : ly_z z) : z.1 91 11 = some 105 := (h.2.1 91 11 (by decide) (by decide)).trans rfl
theorem ly_r92_0 {z : ix_Z} (h : ly_z z) : z.1 92 0 = some 93 := (h.2.1 92 0 (by decide) (by decide)).trans rfl
theorem ly_r92_1 {z : ix_Z} (h : ly_z z) : z.1 92 1 = some 94 := (h.2.1 92 1 (by decide) (by decide)).trans rfl
theorem ly_r106_0 {z : ix_Z} (h : ly_z z) : z.1 106 0 = some 107 := (h.2.1 106 0 (by decide) (by decide)).trans rfl
theorem ly_r106_1 {z : ix_Z} (h : ly_z z) : z.1 106 1 = some 108 := (h.2.1 106 1 (by decide) (by decide)).trans rfl
theorem ly_r120_0 {z : ix_Z} (h : ly_z z) : z.1 120 0 = some 121 := (h.2.1 120 0 (by decide) (by decide)).trans rfl
theorem ly_r120_1 {z : ix_Z} (h : ly_z z) : z.1 120 1 = some 122 := (h.2.1 120 1 (by decide) (by decide)).trans rfl
theorem ly_r125_2 {z : ix_Z} (h : ly_z z) : z.1 125 2 = some 126 := (h.2.1 125 2 (by decide) (by decide)).trans rfl
theorem ly_r125_3 {z : ix_Z} (h : ly_z z) : z.1 125 3 = some 127 := (h.2.1 125 3 (by decide) (by decide)).trans rfl
theorem ly_r125_5 {z : ix_Z} (h : ly_z z) : z.1 125 5 = some 128 := (h.2.1 125 5 (by decide) (by decide)).trans rfl
theorem ly_r125_6 {z : ix_Z} (h : ly_z z) : z.1 125 6 = some 129 := (h.2.1 125 6 (by decide) (by decide)).trans rfl
theorem ly_r125_7 {z : ix_Z} (h : ly_z z) : z.1 125 7 = some 130 := (h.2.1 125 7 (by decide) (by decide)).trans rfl
theorem ly_r125_9 {z : ix_Z} (h : ly_z z) : z.1 125 9 = some 131 := (h.2.1 125 9 (by decide) (by decide)).trans rfl
theorem ly_r125_12 {z : ix_Z} (h : ly_z z) : z.1 125 12 = some 132 := (h.2.1 125 12 (by decide) (by decide)).trans rfl
theorem ly_r125_13 {z : ix_Z} (h : ly_z z) : z.1 125 13 = some 133 := (h.2.1 125 13 (by decide) (by decide)).trans rfl
theorem ly_r125_14 {z : ix_Z} (h : ly_z z) : z.1 125 14 = some 134 := (h.2.1 125 14 (by decide) (by decide)).trans rfl
theorem ly_r125_15 {z : ix_Z} (h : ly_z z) : z.1 125 15 = some 135 := (h.2.1 125 15 (by decide) (by decide)).trans rfl
theorem ly_r125_16 {z : ix_Z} (h : ly_z z) : z.1 125 16 = some 136 := (h.2.1 125 16 (by decide) (by decide)).trans rfl
theorem ly_r125_17 {z : ix_Z} (h : ly_z z) : z.1 125 17 = some 137 := (h.2.1 125 17 (by decide) (by decide)).trans rfl
theorem ly_r125_18 {z : ix_Z} (h : ly_z z) : z.1 125 18 = some 138 := (h.2.1 125 18 (by decide) (by decide)).trans rfl
theorem ly_r125_19 {z : ix_Z} (h : ly_z z) : z.1 125 19 = some 139 := (h.2.1 125 19 (by decide) (by decide)).trans rfl
theorem ly_r125_20 {z : ix_Z} (h : ly_z z) : z.1 125 20 = some 140 := (h.2.1 125 20 (by decide) (by decide)).trans rfl
theorem ly_r125_21 {z : ix_Z} (h : ly_z z) : z.1 125 21 = some 141 := (h.2.1 125 21 (by decide) (by decide)).trans rfl
theorem ly_r125_22 {z : ix_Z} (h : ly_z z) : z.1 125 22 = some 142 := (h.2.1 125 22 (by decide) (by decide)).trans rfl
theorem ly_r125_24 {z : ix_Z} (h : ly_z z) : z.1 125 24 = some 143 := (h.2.1 125 24 (by decide) (by decide)).trans rfl
theorem ly_r125_25 {z : ix_Z} (h : ly_z z) : z.1 125 25 = some 144 := (h.2.1 125 25 (by decide) (by decide)).trans rfl
theorem ly_r125_26 {z : ix_Z} (h : ly_z z) : z.1 125 26 = some 145 := (h.2.1 125 26 (by decide) (by decide)).trans rfl
theorem ly_r125_28 {z : ix_Z} (h : ly_z z) : z.1 125 28 = some 146 := (h.2.1 125 28 (by decide) (by decide)).trans rfl
theorem ly_r125_33 {z : ix_Z} (h : ly_z z) : z.1 125 33 = some 147 := (h.2.1 125 33 (by decide) (by decide)).trans rfl
theorem ly_r125_34 {z : ix_Z} (h : ly_z z) : z.1 125 34 = some 148 := (h.2.1 125 34 (by decide) (by decide)).trans rfl
theorem ly_r125_35 {z : ix_Z} (h : ly_z z) : z.1 125 35 = some 149 := (h.2.1 125 35 (by decide) (by decide)).trans rfl
theorem ly_r125_39 {z : ix_Z} (h : ly_z z) : z.1 125 39 = some 150 := (h.2.1 125 39 (by decide) (by decide)).trans rfl
theorem ly_r125_41 {z : ix_Z} (h : ly_z z) : z.1 125 41 = some 151 := (h.2.1 125 41 (by decide) (by decide)).trans rfl
theorem ly_r125_43 {z : ix_Z} (h : ly_z z) : z.1 125 43 = some 152 := (h.2.1 125 43 (by decide) (by decide)).trans rfl
theorem ly_r125_44 {z : ix_Z} (h : ly_z z) : z.1 125 44 = some 153 := (h.2.1 125 44 (by decide) (by decide)).trans rfl
theorem ly_r125_45 {z : ix_Z} (h : ly_z z) : z.1 125 45 = some 154 := (h.2.1 125 45 (by decide) (by decide)).trans rfl
theorem ly_r125_47 {z : ix_Z} (h : ly_z z) : z.1 125 47 = some 155 := (h.2.1 125 47 (by decide) (by decide)).trans rfl
theorem ly_r125_48 {z : ix_Z} (h : ly_z z) : z.1 125 48 = some 156 := (h.2.1 125 48 (by decide) (by decide)).trans rfl
theorem ly_r125_53 {z : ix_Z} (h : ly_z z) : z.1 125 53 = some 157 := (h.2.1 125 53 (by decide) (by decide)).trans rfl
theorem ly_r125_55 {z : ix_Z} (h : ly_z z) : z.1 125 55 = some 158 := (h.2.1 125 55 (by decide) (by decide)).trans rfl
theorem ly_r125_56 {z : ix_Z} (h : ly_z z) : z.1 125 56 = some 159 := (h.2.1 125 56 (by decide) (by decide)).trans rfl
theorem ly_r125_60 {z : ix_Z} (h : ly_z z) : z.1 125 60 = some 160 := (h.2.1 125 60 (by decide) (by decide)).trans rfl
theorem ly_r125_61 {z : ix_Z} (h : ly_z z) : z.1 125 61 = some 161 := (h.2.1 125 61 (by decide) (by decide)).trans rfl
theorem ly_r125_62 {z : ix_Z} (h : ly_z z) : z.1 125 62 = some 162 := (h.2.1 125 62 (by decide) (by decide)).trans rfl
theorem ly_r125_63 {z : ix_Z} (h : ly_z z) : z.1 125 63 = some 163 := (h.2.1 125 63 (by decide) (by decide)).trans rfl
theorem ly_r125_64 {z : ix_Z} (h : ly_z z) : z.1 125 64 = some 164 := (h.2.1 125 64 (by decide) (by decide)).trans rfl
theorem ly_r125_65 {z : ix_Z} (h : ly_z z) : z.1 125 65 = some 165 := (h.2.1 125 65 (by decide) (by decide)).trans rfl
theorem ly_r125_68 {z : ix_Z} (h : ly_z z) : z.1 125 68 = some 166 := (h.2.1 125 68 (by decide) (by decide)).trans rfl
theorem ly_r125_69 {z : ix_Z} (h : ly_z z) : z.1 125 69 = some 167 := (h.2.1 125 69 (by decide) (by decide)).trans rfl
theorem ly_r125_70 {z : ix_Z} (h : ly_z z) : z.1 125 70 = some 168 := (h.2.1 125 70 (by decide) (by decide)).trans rfl
theorem ly_r125_71 {z : ix_Z} (h : ly_z z) : z.1 125 71 = some 169 := (h.2.1 125 71 (by decide) (by decide)).trans rfl
theorem ly_r125_72 {z : ix_Z} (h : ly_z z) : z.1 125 72 = some 170 := (h.2.1 125 72 (by decide) (by decide)).trans rfl
theorem ly_r125_73 {z : ix_Z} (h : ly_z z) : z.1 125 73 = some 171 := (h.2.1 125 73 (by decide) (by decide)).trans rfl
theorem ly_r125_74 {z : ix_Z} (h : ly_z z) : z.1 125 74 = some 172 := (h.2.1 125 74 (by decide) (by decide)).trans rfl
theorem ly_r125_75 {z : ix_Z} (h : ly_z z) : z.1 125 75 = some 173 := (h.2.1 125 75 (by decide) (by decide)).trans rfl
theorem ly_r125_76 {z : ix_Z} (h : ly_z z) : z.1 125 76 = some 174 := (h.2.1 125 76 (by decide) (by decide)).trans rfl
theorem ly_r125_77 {z : ix_Z} (h : ly_z z) : z.1 125 77 = some 175 := (h.2.1 125 77 (by decide) (by decide)).trans rfl
theorem ly_r125_78 {z : ix_Z} (h : ly_z z) : z.1 125 78 = some 176 := (h.2.1 125 78 (by decide) (by decide)).trans rfl
theorem ly_r125_79 {z : ix_Z} (h : ly_z z) : z.1 125 79 = some 177 := (h.2.1 125 79 (by decide) (by decide)).trans rfl
theorem ly_r125_80 {z : ix_Z} (h : ly_z z) : z.1 125 80 = some 178 := (h.2.1 125 80 (by decide) (by decide)).trans rfl
theorem ly_r125_81 {z : ix_Z} (h : ly_z z) : z.1 125 81 = some 179 := (h.2.1 125 81 (by decide) (by decide)).trans rfl
theorem ly_r125_82 {z : ix_Z} (h : ly_z z) : z.1 125 82 = some 180 := (h.2.1 125 82 (by decide) (by decide)).trans rfl
theorem ly_r125_83 {z : ix_Z} (h : ly_z z) : z.1 125 83 = some 181 := (h.2.1 125 83 (by decide) (by decide)).trans rfl
theorem ly_r125_84 {z : ix_Z} (h : ly_z z) : z.1 125 84 = some 182 := (h.2.1 125 84 (by decide) (by decide)).trans rfl
theorem ly_r125_85 {z : ix_Z} (h : ly_z z) : z.1 125 85 = some 183 := (h.2.1 125 85 (by decide) (by decide)).trans rfl
theorem ly_r125_86 {z : ix_Z} (h : ly_z z) : z.1 125 86 = some 184 := (h.2.1 125 86 (by decide) (by decide)).trans rfl
theorem ly_r125_87 {z : ix_Z} (h : ly_z z) : z.1 125 87 = some 185 := (h.2.1 125 87 (by decide) (by decide)).trans rfl
theorem ly_r125_88 {z : ix_Z} (h : ly_z z) : z.1 125 88 = some 186 := (h.2.1 125 88 (by decide) (by decide)).trans rfl
theorem ly_r125_90 {z : ix_Z} (h : ly_z z) : z.1 125 90 = some 187 := (h.2.1 125 90 (by decide) (by decide)).trans rfl
theorem ly_r125_92 {z : ix_Z} (h : ly_z z) : z.1 125 92 = some 188 := (h.2.1 125 92 (by decide) (by decide)).trans rfl
theorem ly_r125_93 {z : ix_Z} (h : ly_z z) : z.1 125 93 = some 189 := (h.2.1 125 93 (by decide) (by decide)).trans rfl
theorem ly_r125_95 {z : ix_Z} (h : ly_z z) : z.1 125 95 = some 190 := (h.2.1 125 95 (by decide) (by decide)).trans rfl
theorem ly_r125_101 {z : ix_Z} (h : ly_z z) : z.1 125 101 = some 191 := (h.2.1 125 101 (by decide) (by decide)).trans rfl
theorem ly_r125_102 {z : ix_Z} (h : ly_z z) : z.1 125 102 = some 192 := (h.2.1 125 102 (by decide) (by decide)).trans rfl
theorem ly_r125_103 {z : ix_Z} (h : ly_z z) : z.1 125 103 = some 193 := (h.2.1 125 103 (by decide) (by decide)).trans rfl
theorem ly_r125_105 {z : ix_Z} (h : ly_z z) : z.1 125 105 = some 194 := (h.2.1 125 105 (by decide) (by decide)).trans rfl
theorem ly_r125_107 {z : ix_Z} (h : ly_z z) : z.1 125 107 = some 195 := (h.2.1 125 107 (by decide) (by decide)).trans rfl
theorem ly_r125_109 {z : ix_Z} (h : ly_z z) : z.1 125 109 = some 196 := (h.2.1 125 109 (by decide) (by decide)).trans rfl
theorem ly_r125_110 {z : ix_Z} (h : ly_z z) : z.1 125 110 = some 197 := (h.2.1 125 110 (by decide) (by decide)).trans rfl
theorem ly_r125_112 {z : ix_Z} (h : ly_z z) : z.1 125 112 = some 198 := (h.2.1 125 112 (by decide) (by decide)).trans rfl


/-! CORES: bits, members in their order; the records -/
theorem cm_ee {x y : Int64} (h : lg_cmp x y = 0) : x = y := by
  have a : lg_cmp x y ≤ 0 := by rw [h]; decide
  have b : ¬ lg_cmp x y < 0 := by rw [h]; decide
  rw [cm_le] at a
  rw [cm_lt] at b
  exact Int64.toInt_inj.mp (by omega)
theorem tb_sh {x : Int64} {b : Nat} (hb : b < 64) : tb_ (x >>> ((nI b).toInt64 &&& 63)) 0 = tb_ x b := by
  have h : ∀ b, b < 64 → ((nI b).toInt64 &&& 63).toBitVec.smod 64 = BitVec.ofNat 64 b := by decide +kernel
  unfold tb_
  rw [Int64.toBitVec_shiftRight, h b hb, BitVec.sshiftRight_eq', BitVec.getLsbD_sshiftRight]
  have e : (BitVec.ofNat 64 b).toNat = b := by rw [BitVec.toNat_ofNat]; omega
  rw [e]
  simp [hb]
theorem hs_tb {g : Nat → Int64} {m : Nat} (h : hs_ g m = true) : tb_ (g (m / 64)) (m % 64) = true := by
  have q := cm_ee (of_decide_eq_true h)
  have e := tb_sh (x := g (m / 64)) (b := m % 64) (by omega)
  have a : tb_ (((g (m / 64)) >>> ((nI (m % 64)).toInt64 &&& 63)) &&& 1) 0 = true := by rw [q]; decide
  rw [tb_and, e] at a
  exact (Bool.and_eq_true _ _ ▸ a).1
theorem cb_mo {P : Nat → Bool} {a : Nat} : ∀ {b : Nat}, a ≤ b → cb_ P a ≤ cb_ P b
  | 0, h => by
    have : a = 0 := by omega
    rw [this]; exact Nat.le_refl _
  | b + 1, h => by
    by_cases e : a = b + 1
    · rw [e]; exact Nat.le_refl _
    · have := cb_mo (P := P) (a := a) (b := b) (by omega)
      rw [cb_s]
      omega
theorem cb_tl {P : Nat → Bool} {a : Nat} : ∀ {b : Nat}, a ≤ b → (∀ m, a ≤ m → m < b → P m = false) → cb_ P b = cb_ P a
  | 0, h, _ => by
    have : a = 0 := by omega
    rw [this]
  | b + 1, h, hp => by
    by_cases e : a = b + 1
    · rw [e]
    · rw [cb_s, hp b (by omega) (by omega), cb_tl (P := P) (a := a) (b := b) (by omega) (fun m m1 m2 => hp m m1 (by omega))]
      rfl
theorem cb_ex {P : Nat → Bool} {k : Nat} : ∀ {n : Nat}, k < cb_ P n → ∃ m, m < n ∧ P m = true ∧ cb_ P m = k
  | 0, h => absurd h (by show ¬ k < 0; omega)
  | n + 1, h => by
    by_cases c : k < cb_ P n
    · obtain ⟨m, m1, m2, m3⟩ := cb_ex (P := P) c
      exact ⟨m, by omega, m2, m3⟩
    · rw [cb_s] at h
      by_cases p : P n = true
      · rw [if_pos p] at h
        exact ⟨n, by omega, p, by omega⟩
      · rw [if_neg p] at h
        omega
section COR
variable {n : Nat} {z : ix_Z} {c c' c1 c2 c3 r r' r1 r2 : ix_D2} {rn : Nat → Nat} {v x y w : Int32} {T : Nat}
/-- the cores on both sides -/
def co_ (c r : ix_D2) (T : Nat) : Prop := ∃ C Y : Nat, C ≤ T ∧ Y ≤ 20 ∧ (c.1 0 10).toInt = (C : Int) ∧ (r.1 125 94).toInt = (C : Int) ∧ (∀ k, k < C → c.1 123 k = r.1 189 k ∧ 0 ≤ (r.1 189 k).toInt ∧ (r.1 189 k).toInt < (T : Int)) ∧ (∀ i k, i < k → k < C → (r.1 189 i).toInt < (r.1 189 k).toInt) ∧ (c.1 0 12).toInt = (Y : Int) ∧ (r.1 125 96).toInt = (Y : Int) ∧ ∀ k, k < Y → c.1 124 k = r.1 190 k ∧ (r.1 190 k).toInt ≠ 0 ∧ (ix_n (ix_abs (r.1 190 k)) : Int) ≤ (r.1 161 0).toInt ∧ -300 ≤ (r.1 190 k).toInt ∧ (r.1 190 k).toInt ≤ 300
theorem co_N (hz : ly_z z) (hn : 20000 ≤ n) (h : R_60 c1 r1 rn) (h0 : h0_60 r1) (hnz : nz_60 c1 r1 rn c2 r2) (hT : (T : Int) = (r2.1 162 0).toInt) (hsz : sQ_0 (sz_ T) r2) (e1 : ∀ a k, 60 ≤ a → a ≤ 89 → (a ≠ 85 ∨ k ≠ 0) → c.1 a k = c2.1 a k) (e2 : ∀ a k, 60 ≤ a → a ≤ 89 → c.2 a k = c2.2 a k) (e52 : (c.1 52 2).toInt = (T : Int)) : wp_t (f_X11_keepCore n z 0 c) (fun c' => (∀ a k, a ≠ 123 → a ≠ 124 → (a ≠ 0 ∨ (k ≠ 10 ∧ k ≠ 12)) → c'.1 a k = c.1 a k) ∧ c'.2 = c.2 ∧ co_ c' r2 T) := by
  have hid := id_60 h.2.1 h0 rfl
  have haq := h.2.2.2.2.2.2.2.2.2.1
  have hwg := h.2.2.2.2.2.2.1
  have hT1 := h.1.1.2.1
  have h16 : (c1.1 61 16).toInt ≤ 564 := h.2.2.2.2.2.2.2.2.1.2.2.2.2.2.2.2.2.2.2.2.2.2.2.2.2.2.1
  have y11 := h.2.2.2.2.2.2.2.2.1.2.2.2.2.2.2.2.2.2.2.1
  have y19 := h.2.2.2.2.2.2.2.2.1.2.2.2.2.2.2.2.2.2.2.2.2.2.2.2.2.2.2
  have G5 := h.2.1.2.1.2.2.2.2.1
  obtain ⟨Y, fr, hY, ⟨F, T', A, S, g1, g2, g3, g4, g5, g6, g7, g8, g9, g10, g11, g12, g13, g14, g15, g16, g17, g18, g19, g20⟩, hfr, hco⟩ := hnz
  obtain ⟨q90, q96⟩ := hco rfl
  obtain ⟨q94, q89⟩ := g19 rfl
  have e162 : r2.1 162 0 = r1.1 162 0 := g13 _ _ (by omega) (by omega) (by omega) (by omega) (by omega) (by omega)
  have hT5 : T ≤ 500 := by rw [e162] at hT; omega
  have nF : ix_n (c1.1 61 16) = F := ni_k g1.symm
  rw [nF] at y11 y19
  have y11T := (y11 T' (by omega)).1
  rw [show 801 * 0 + T' = 801 * 0 + T' from rfl] at y11T
  have hSY : S + Y ≤ 11780 := by omega
  have a82 : ∀ w, c.2 82 w = c2.2 82 w := fun w => e2 _ _ (by omega) (by omega)
  obtain ⟨P, hP⟩ : ∃ P, P = hs_ (fun u => r2.2 182 (8 * (800 * 0 + T') + u)) := ⟨_, rfl⟩
  have hPc : ∀ m, m < 512 → hs_ (fun w => c.2 82 (8 * T' + w)) m = P m := fun m hm => by rw [hP]; exact hs_c (fun w hw => by rw [a82]; exact g18 hid w hw) hm
  have hPT : ∀ m, T ≤ m → m < 500 → P m = false := fun m m1 m2 => by
    by_cases q : P m = true
    · rw [hP] at q
      have t := hs_tb q
      have k8 : m / 64 < 8 := by omega
      have s := hsz.2.1 T' (m / 64) (by rw [g15]; omega) k8 (m % 64) (by omega) (by omega)
      rw [s] at t
      cases t
    · exact Bool.eq_false_iff.mpr q
  have c500 : cb_ P 500 = cb_ P T := cb_tl hT5 hPT
  rw [← hP] at q94 q89
  rw [c500] at q94
  refine wp_m (e_kq (c := c) hz hn (T := T) (L := T') (F := F + T') (S := S) (Y := Y) e52 hT5 (by rw [e1 _ _ (by omega) (by omega) (by omega)]; exact g11) g5 (by rw [e1 _ _ (by omega) (by omega) (by omega), g8]) (by omega) (by rw [e1 _ _ (by omega) (by omega) (by omega), g7 _ _ (by omega) (by omega) (by omega) (by omega) (by omega) (by omega) (by omega) (by omega) (by omega)]; exact g4.symm) (by rw [e1 _ _ (by omega) (by omega) (by omega)]; exact g9) hSY hY) (fun c' k => ?_)
  obtain ⟨k1, k2, k3, k4, k5, k6⟩ := k
  have ecb : ∀ m, m ≤ 500 → cb_ (hs_ (fun w => c.2 82 (8 * T' + w))) m = cb_ P m := fun m hm => cb_c (fun i hi => hPc i (by omega))
  rw [ecb T hT5] at k3
  have hlist : ∀ k, k < cb_ P T → ∃ m, m < T ∧ cb_ P m = k ∧ c'.1 123 k = nI m ∧ r2.1 189 k = nI m := fun k hk => by
    obtain ⟨m, m1, m2, m3⟩ := cb_ex hk
    refine ⟨m, m1, m3, ?_, ?_⟩
    · rw [← m3, ← ecb m (by omega)]
      exact k4 m m1 (by rw [hPc m (by omega)]; exact m2)
    · rw [← m3]; exact q89 m (by omega) m2
  refine ⟨k1, k2, cb_ P T, Y, cb_le, hY, k3, q94, fun k hk => ?_, fun i k hik hk => ?_, k5, q96, fun k hk => ?_⟩
  · obtain ⟨m, m1, m2, m3, m4⟩ := hlist k hk
    rw [m3, m4, nI_ti (by omega)]
    exact ⟨rfl, by omega, by omega⟩
  · obtain ⟨m, m1, m2, m3, m4⟩ := hlist k hk
    obtain ⟨m', m1', m2', m3', m4'⟩ := hlist i (by omega)
    rw [m4, m4', nI_ti (by omega), nI_ti (by omega)]
    apply Classical.byContradiction
    intro hlt
    have := cb_mo (P := P) (a := m) (b := m') (by omega)
    omega
  · obtain ⟨j, j1, j2⟩ := hfr k hk
    obtain ⟨t1, t2, t3, t4, t5⟩ := haq.2.2.2 j (by rw [← haq.1]; exact j1)
    have e161 : r2.1 161 0 = r1.1 161 0 := g13 _ _ (by omega) (by omega) (by omega) (by omega) (by omega) (by omega)
    have ng : -(fr k) = c1.1 80 j := by rw [j2]; exact Int32.neg_neg
    rw [k6 k hk, q90 k hk, e1 _ _ (by omega) (by omega) (by omega), g10 k hk, ng, e161, ← hwg.1]
    exact ⟨rfl, t2, t3, t4, t5⟩
end COR

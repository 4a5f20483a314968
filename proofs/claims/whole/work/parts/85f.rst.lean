/-! AT REST: the latest solver on both sides -/
section RST
variable {n : Nat} {z : ix_Z} {c c' c1 c2 c3 r r' r1 r2 : ix_D2} {rn : Nat → Nat} {v x y w : Int32} {T : Nat}
/-- tally, clash, names and weights: class c, reference r -/
def lq_ (c r : ix_D2) : Prop := (0 ≤ (c.1 62 2).toInt ∧ (c.1 64 0).toInt = 0) ∧
  ((∀ k, tt_ k → c.1 85 k = r.1 187 k) ∧ c.1 85 8 = r.1 178 0 ∧ 0 ≤ (r.1 179 0).toInt ∧ (r.1 179 0).toInt ≤ 800 ∧ (c.1 85 7).toInt = sm_ (fun k => if (r.1 180 k).toInt = 0 then 0 else 1) 0 (ix_n (r.1 179 0))) ∧
  cq_60 c r ∧ (c.1 61 14 = r.1 161 0 ∧ 0 ≤ (r.1 161 0).toInt ∧ (r.1 161 0).toInt ≤ 300 ∧ ∀ m : Nat, 1 ≤ m → (m : Int) ≤ (r.1 161 0).toInt → c.2 79 m = r.2 171 m)
theorem lq_R (h : R_60 c r rn) : lq_ c r := by
  obtain ⟨hb, hrr, htk, hrt, ⟨hla, hll, hql⟩, hrs, hwg, hnb, hty, haq, hcq⟩ := h
  obtain ⟨y1, y2, y3, y4, y5, y6⟩ := hty
  obtain ⟨G1, G2, G3, G4, G5, G6, G7, G8, G9, G10, G11, G12, G13, G14, G15⟩ := hrr.2.1
  obtain ⟨F, hF⟩ : ∃ F : Nat, (F : Int) = (c.1 61 16).toInt := ⟨ix_n (c.1 61 16), ni_c (by omega)⟩
  obtain ⟨T, hT⟩ : ∃ T : Nat, (T : Int) = (r.1 179 0).toInt := ⟨ix_n (r.1 179 0), ni_c (by omega)⟩
  have nF : ix_n (c.1 61 16) = F := ni_k hF.symm
  have nT : ix_n (r.1 179 0) = T := ni_k hT.symm
  have nN : ix_n (c.1 62 2) = F + T := ni_k (by omega)
  refine ⟨⟨hb.1.1, hb.1.2.2.1⟩, ⟨fun k hk => by rw [y1 k hk, show 10 * 0 + k = k by omega], y3, by omega, by omega, ?_⟩, hcq, hwg.1, hwg.2.1, hwg.2.2.1, fun m m1 m2 => by rw [(hwg.2.2.2.1 m m1 m2).1, show 301 * 0 + m = m by omega]⟩
  rw [y5, nF, nN, nT, sm_h60 T]
  refine sm_c (fun p p1 p2 => ?_)
  obtain ⟨q1, q2⟩ := G14 (F + p) (by omega) (by omega)
  have e : 800 * 0 + (rn (F + p) - 2000) = p := by omega
  rw [e] at q2
  by_cases cc : (r.1 180 p).toInt = 0
  · rw [if_pos cc, if_neg (by have := q2.mp cc; omega)]
  · rw [if_neg cc, if_pos (by
      have : ¬ 1000000 ≤ (c.1 68 (F + p)).toInt := fun q => cc (q2.mpr q)
      omega)]
theorem lq_g (h : lq_ c r) (e1 : ∀ a k, 60 ≤ a → a ≤ 89 → (a ≠ 85 ∨ k ≠ 0) → c'.1 a k = c.1 a k) (e2 : ∀ a k, 60 ≤ a → a ≤ 89 → c'.2 a k = c.2 a k) (e3 : ∀ a k, 125 ≤ a → a ≤ 198 → a ≠ 160 → (a ≠ 166 ∨ k ≠ 0) → (a ≠ 125 ∨ k = 91) → r'.1 a k = r.1 a k) (e4 : ∀ a k, 125 ≤ a → a ≤ 198 → r'.2 a k = r.2 a k) : lq_ c' r' := by
  obtain ⟨⟨a1, a2⟩, ⟨b1, b2, b3, b4, b5⟩, hcq, d1, d2, d3, d4⟩ := h
  have f187 : r'.1 187 = r.1 187 := funext fun k => e3 _ _ (by omega) (by omega) (by omega) (by omega) (by omega)
  have f178 : r'.1 178 = r.1 178 := funext fun k => e3 _ _ (by omega) (by omega) (by omega) (by omega) (by omega)
  have f179 : r'.1 179 = r.1 179 := funext fun k => e3 _ _ (by omega) (by omega) (by omega) (by omega) (by omega)
  have f180 : r'.1 180 = r.1 180 := funext fun k => e3 _ _ (by omega) (by omega) (by omega) (by omega) (by omega)
  have f161 : r'.1 161 = r.1 161 := funext fun k => e3 _ _ (by omega) (by omega) (by omega) (by omega) (by omega)
  have f188 : r'.1 188 = r.1 188 := funext fun k => e3 _ _ (by omega) (by omega) (by omega) (by omega) (by omega)
  have f91 : r'.1 125 91 = r.1 125 91 := e3 _ _ (by omega) (by omega) (by omega) (by omega) (by omega)
  have m171 : r'.2 171 = r.2 171 := funext fun k => e4 _ _ (by omega) (by omega)
  have f62 : c'.1 62 = c.1 62 := funext fun k => e1 _ _ (by omega) (by omega) (by omega)
  have f64 : c'.1 64 = c.1 64 := funext fun k => e1 _ _ (by omega) (by omega) (by omega)
  have f61 : c'.1 61 = c.1 61 := funext fun k => e1 _ _ (by omega) (by omega) (by omega)
  have f86 : c'.1 86 = c.1 86 := funext fun k => e1 _ _ (by omega) (by omega) (by omega)
  have m79 : c'.2 79 = c.2 79 := funext fun k => e2 _ _ (by omega) (by omega)
  have t85 : ∀ k, k ≠ 0 → c'.1 85 k = c.1 85 k := fun k hk => e1 _ _ (by omega) (by omega) (by omega)
  refine ⟨by rw [f62, f64]; exact ⟨a1, a2⟩, ⟨fun k hk => by rw [t85 k (by unfold tt_ at hk; omega), f187]; exact b1 k hk, by rw [t85 8 (by decide), f178]; exact b2, by rw [f179]; exact b3, by rw [f179]; exact b4, by rw [t85 7 (by decide), f179, f180]; exact b5⟩, ?_, by rw [f61, f161]; exact d1, by rw [f161]; exact d2, by rw [f161]; exact d3, by rw [f161, m79, m171]; exact d4⟩
  unfold cq_60
  rw [f91, f86, f188]
  exact hcq
theorem lq_N (h : R_60 c1 r1 rn) (h0 : h0_60 r1) (hn : nz_60 c1 r1 rn c2 r2) : lq_ c2 r2 := by
  have hid := id_60 h.2.1 h0 rfl
  obtain ⟨⟨a1, a2⟩, ⟨b1, b2, b3, b4, b5⟩, hcq, d1, d2, d3, d4⟩ := lq_R h
  obtain ⟨Y, fr, hY, ⟨F, T, A, S, g1, g2, g3, g4, g5, g6, g7, g8, g9, g10, g11, g12, g13, g14, g15, g16, g17, g18, g19, g20⟩, _⟩ := hn
  have t85 : ∀ k, k ≠ 8 → c2.1 85 k = c1.1 85 k := fun k hk => g7 _ _ (by omega) (by omega) (by omega) (by omega) (by omega) (by omega) (by omega) (by omega) (by omega)
  have rr : ∀ a k, (a = 187 ∨ a = 179 ∨ a = 180 ∨ a = 161) → r2.1 a k = r1.1 a k := fun a k hk => g13 _ _ (by omega) (by omega) (by omega) (by omega) (by omega) (by omega)
  have e179 : r2.1 179 = r1.1 179 := funext fun k => rr _ _ (by omega)
  have e180 : r2.1 180 = r1.1 180 := funext fun k => rr _ _ (by omega)
  have e161 : r2.1 161 = r1.1 161 := funext fun k => rr _ _ (by omega)
  have e61 : c2.1 61 14 = c1.1 61 14 := g7 _ _ (by omega) (by omega) (by omega) (by omega) (by omega) (by omega) (by omega) (by omega) (by omega)
  refine ⟨⟨by omega, ?_⟩, ⟨fun k hk => by rw [t85 k (by unfold tt_ at hk; omega), rr _ _ (by omega)]; exact b1 k hk, Int32.toInt_inj.mp (by rw [g11, g15]), by rw [e179]; exact b3, by rw [e179]; exact b4, by rw [t85 7 (by decide), e179, e180]; exact b5⟩, g20 hid, by rw [e61, e161]; exact d1, by rw [e161]; exact d2, by rw [e161]; exact d3, fun m m1 m2 => ?_⟩
  · rw [g7 _ _ (by omega) (by omega) (by omega) (by omega) (by omega) (by omega) (by omega) (by omega) (by omega)]; exact a2
  · rw [e161] at m2
    rw [g12 _ _ (by omega) (by omega), g17 _ _ (by omega) (by omega)]
    exact d4 m m1 m2
end RST

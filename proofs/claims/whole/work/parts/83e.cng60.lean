/-! the relation looks at the solver's own cells alone (60, 0) -/
section RGG
variable {c c' r r' : ix_D2} {rn : Nat → Nat}
theorem R_gr60 (h : R_60 c r rn) (hrr' : rr_60 c' r' rn) (e1 : ∀ a i, 60 ≤ a → a ≤ 89 → c'.1 a i = c.1 a i) (e2 : ∀ a i, 60 ≤ a → a ≤ 89 → c'.2 a i = c.2 a i) (e3 : ∀ a i, 125 ≤ a → a ≤ 198 → a ≠ 160 → a ≠ 166 → (a ≠ 125 ∨ i = 30 ∨ i = 31 ∨ i = 91) → r'.1 a i = r.1 a i) (e4 : ∀ a i, 125 ≤ a → a ≤ 198 → r'.2 a i = r.2 a i) : R_60 c' r' rn := by
  obtain ⟨hb, hrr, htk, hrt, ⟨hla, hll, hql⟩, hrs, hwg, hnb, hty, haq, hcq⟩ := h
  have f1 : c'.1 61 = c.1 61 := funext fun i => e1 _ _ (by omega) (by omega)
  have f2 : c'.1 62 = c.1 62 := funext fun i => e1 _ _ (by omega) (by omega)
  have f3 : c'.1 63 = c.1 63 := funext fun i => e1 _ _ (by omega) (by omega)
  have f4 : c'.1 64 = c.1 64 := funext fun i => e1 _ _ (by omega) (by omega)
  have f8 : c'.1 68 = c.1 68 := funext fun i => e1 _ _ (by omega) (by omega)
  have f11 : c'.1 71 = c.1 71 := funext fun i => e1 _ _ (by omega) (by omega)
  have f12 : c'.1 72 = c.1 72 := funext fun i => e1 _ _ (by omega) (by omega)
  have f13 : c'.1 73 = c.1 73 := funext fun i => e1 _ _ (by omega) (by omega)
  have f14 : c'.1 74 = c.1 74 := funext fun i => e1 _ _ (by omega) (by omega)
  have f15 : c'.1 75 = c.1 75 := funext fun i => e1 _ _ (by omega) (by omega)
  have f20 : c'.1 80 = c.1 80 := funext fun i => e1 _ _ (by omega) (by omega)
  have f21 : c'.1 81 = c.1 81 := funext fun i => e1 _ _ (by omega) (by omega)
  have f25 : c'.1 85 = c.1 85 := funext fun i => e1 _ _ (by omega) (by omega)
  have f26 : c'.1 86 = c.1 86 := funext fun i => e1 _ _ (by omega) (by omega)
  have p5 : c'.1 60 5 = c.1 60 5 := e1 _ _ (by omega) (by omega)
  have p17 : c'.1 60 17 = c.1 60 17 := e1 _ _ (by omega) (by omega)
  have p18 : c'.1 60 18 = c.1 60 18 := e1 _ _ (by omega) (by omega)
  have p19 : c'.1 60 19 = c.1 60 19 := e1 _ _ (by omega) (by omega)
  have l19 : c'.2 79 = c.2 79 := funext fun i => e2 _ _ (by omega) (by omega)
  have l22 : c'.2 82 = c.2 82 := funext fun i => e2 _ _ (by omega) (by omega)
  have l23 : c'.2 83 = c.2 83 := funext fun i => e2 _ _ (by omega) (by omega)
  have l3 : c'.2 60 3 = c.2 60 3 := e2 _ _ (by omega) (by omega)
  have r161 : r'.1 161 = r.1 161 := funext fun i => e3 _ _ (by omega) (by omega) (by omega) (by omega) (by omega)
  have r164 : r'.1 164 = r.1 164 := funext fun i => e3 _ _ (by omega) (by omega) (by omega) (by omega) (by omega)
  have r165 : r'.1 165 = r.1 165 := funext fun i => e3 _ _ (by omega) (by omega) (by omega) (by omega) (by omega)
  have r168 : r'.1 168 = r.1 168 := funext fun i => e3 _ _ (by omega) (by omega) (by omega) (by omega) (by omega)
  have r169 : r'.1 169 = r.1 169 := funext fun i => e3 _ _ (by omega) (by omega) (by omega) (by omega) (by omega)
  have r170 : r'.1 170 = r.1 170 := funext fun i => e3 _ _ (by omega) (by omega) (by omega) (by omega) (by omega)
  have r173 : r'.1 173 = r.1 173 := funext fun i => e3 _ _ (by omega) (by omega) (by omega) (by omega) (by omega)
  have r174 : r'.1 174 = r.1 174 := funext fun i => e3 _ _ (by omega) (by omega) (by omega) (by omega) (by omega)
  have r175 : r'.1 175 = r.1 175 := funext fun i => e3 _ _ (by omega) (by omega) (by omega) (by omega) (by omega)
  have r176 : r'.1 176 = r.1 176 := funext fun i => e3 _ _ (by omega) (by omega) (by omega) (by omega) (by omega)
  have r178 : r'.1 178 = r.1 178 := funext fun i => e3 _ _ (by omega) (by omega) (by omega) (by omega) (by omega)
  have r179 : r'.1 179 = r.1 179 := funext fun i => e3 _ _ (by omega) (by omega) (by omega) (by omega) (by omega)
  have r181 : r'.1 181 = r.1 181 := funext fun i => e3 _ _ (by omega) (by omega) (by omega) (by omega) (by omega)
  have r185 : r'.1 185 = r.1 185 := funext fun i => e3 _ _ (by omega) (by omega) (by omega) (by omega) (by omega)
  have r186 : r'.1 186 = r.1 186 := funext fun i => e3 _ _ (by omega) (by omega) (by omega) (by omega) (by omega)
  have r187 : r'.1 187 = r.1 187 := funext fun i => e3 _ _ (by omega) (by omega) (by omega) (by omega) (by omega)
  have r188 : r'.1 188 = r.1 188 := funext fun i => e3 _ _ (by omega) (by omega) (by omega) (by omega) (by omega)
  have q30 : r'.1 125 30 = r.1 125 30 := e3 _ _ (by omega) (by omega) (by omega) (by omega) (by omega)
  have q31 : r'.1 125 31 = r.1 125 31 := e3 _ _ (by omega) (by omega) (by omega) (by omega) (by omega)
  have q91 : r'.1 125 91 = r.1 125 91 := e3 _ _ (by omega) (by omega) (by omega) (by omega) (by omega)
  have m171 : r'.2 171 = r.2 171 := funext fun i => e4 _ _ (by omega) (by omega)
  have m172 : r'.2 172 = r.2 172 := funext fun i => e4 _ _ (by omega) (by omega)
  have m182 : r'.2 182 = r.2 182 := funext fun i => e4 _ _ (by omega) (by omega)
  have m183 : r'.2 183 = r.2 183 := funext fun i => e4 _ _ (by omega) (by omega)
  refine ⟨bi_c60 hb (fun a i p => e1 a i (by omega) (by omega)) (fun i => e2 _ _ (by omega) (by omega)) (fun i => e2 _ _ (by omega) (by omega)), hrr', ?_, ?_, ⟨?_, ?_, ?_⟩, ?_, ?_, ?_, ?_, ?_, ?_⟩
  · unfold tk_60 vl_; rw [f1, f11, f15]; exact htk
  · unfold rt_60; rw [f1, f2, f12, f13, f14, f15, r168, r169, r170, r173, r174, r175]; exact hrt
  · unfold la_60 le_60 in_60; rw [f1, f2, f3, f4, f11, f13, f14, f15]; exact hla
  · rw [f1]; exact hll
  · unfold ql_60 in_60 vl_; rw [f1, f2, f3, f4, f8, f11, f13]; exact hql
  · unfold rs_60 rs1_60 rs2_60 le_60; rw [f1, f13, f15, f25, l22, l23, m182, m183]; exact hrs
  · unfold wg_60; rw [f1, l19, l3, r161, m171, m172]; exact hwg
  · unfold nb_60; rw [f1, f2, f3, f4, f15]; exact hnb
  · unfold ty_60; rw [f1, f2, f4, f8, f21, f25, p17, p18, p19, r176, r178, r179, r181, r185, r186, r187, q30, q31]; exact hty
  · unfold aq_60; rw [f1, f20, p5, r164, r165]; exact haq
  · unfold cq_60; rw [f26, q91, r188]; exact hcq
theorem R_g60 (h : R_60 c r rn) (e1 : ∀ a i, 60 ≤ a → a ≤ 89 → c'.1 a i = c.1 a i) (e2 : ∀ a i, 60 ≤ a → a ≤ 89 → c'.2 a i = c.2 a i) (e3 : ∀ a i, 125 ≤ a → a ≤ 198 → a ≠ 160 → a ≠ 166 → (a ≠ 125 ∨ i = 30 ∨ i = 31 ∨ i = 58 ∨ i = 66 ∨ i = 67 ∨ i = 91) → r'.1 a i = r.1 a i) (e4 : ∀ a i, 125 ≤ a → a ≤ 198 → r'.2 a i = r.2 a i) : R_60 c' r' rn :=
  R_gr60 h (rr_c60 (rr_f60 h.2.1 (fun a i hs => e3 a i (by unfold su_rr at hs; omega) (by unfold su_rr at hs; omega) (by unfold su_rr at hs; omega) (by unfold su_rr at hs; omega) (by unfold su_rr at hs; omega))) (fun a i p => e1 a i (by omega) (by omega))) e1 e2 (fun a i a1 a2 a3 a4 a5 => e3 a i a1 a2 a3 a4 (by omega)) e4
end RGG

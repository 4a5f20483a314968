/-! the relation looks at the solver's own cells alone (90, 1) -/
section RGG
variable {c c' r r' : ix_D2} {rn : Nat → Nat}
theorem R_gr90 (h : R_90 c r rn) (hrr' : rr_90 c' r' rn) (e1 : ∀ a i, 90 ≤ a → a ≤ 119 → c'.1 a i = c.1 a i) (e2 : ∀ a i, 90 ≤ a → a ≤ 119 → c'.2 a i = c.2 a i) (e3 : ∀ a i, 125 ≤ a → a ≤ 198 → a ≠ 160 → a ≠ 166 → (a ≠ 125 ∨ i = 30 ∨ i = 31 ∨ i = 91) → r'.1 a i = r.1 a i) (e4 : ∀ a i, 125 ≤ a → a ≤ 198 → r'.2 a i = r.2 a i) : R_90 c' r' rn := by
  obtain ⟨hb, hrr, htk, hrt, ⟨hla, hll, hql⟩, hrs, hwg, hnb, hty, haq, hcq⟩ := h
  have f1 : c'.1 91 = c.1 91 := funext fun i => e1 _ _ (by omega) (by omega)
  have f2 : c'.1 92 = c.1 92 := funext fun i => e1 _ _ (by omega) (by omega)
  have f3 : c'.1 93 = c.1 93 := funext fun i => e1 _ _ (by omega) (by omega)
  have f4 : c'.1 94 = c.1 94 := funext fun i => e1 _ _ (by omega) (by omega)
  have f8 : c'.1 98 = c.1 98 := funext fun i => e1 _ _ (by omega) (by omega)
  have f11 : c'.1 101 = c.1 101 := funext fun i => e1 _ _ (by omega) (by omega)
  have f12 : c'.1 102 = c.1 102 := funext fun i => e1 _ _ (by omega) (by omega)
  have f13 : c'.1 103 = c.1 103 := funext fun i => e1 _ _ (by omega) (by omega)
  have f14 : c'.1 104 = c.1 104 := funext fun i => e1 _ _ (by omega) (by omega)
  have f15 : c'.1 105 = c.1 105 := funext fun i => e1 _ _ (by omega) (by omega)
  have f20 : c'.1 110 = c.1 110 := funext fun i => e1 _ _ (by omega) (by omega)
  have f21 : c'.1 111 = c.1 111 := funext fun i => e1 _ _ (by omega) (by omega)
  have f25 : c'.1 115 = c.1 115 := funext fun i => e1 _ _ (by omega) (by omega)
  have f26 : c'.1 116 = c.1 116 := funext fun i => e1 _ _ (by omega) (by omega)
  have p5 : c'.1 90 5 = c.1 90 5 := e1 _ _ (by omega) (by omega)
  have p17 : c'.1 90 17 = c.1 90 17 := e1 _ _ (by omega) (by omega)
  have p18 : c'.1 90 18 = c.1 90 18 := e1 _ _ (by omega) (by omega)
  have p19 : c'.1 90 19 = c.1 90 19 := e1 _ _ (by omega) (by omega)
  have l19 : c'.2 109 = c.2 109 := funext fun i => e2 _ _ (by omega) (by omega)
  have l22 : c'.2 112 = c.2 112 := funext fun i => e2 _ _ (by omega) (by omega)
  have l23 : c'.2 113 = c.2 113 := funext fun i => e2 _ _ (by omega) (by omega)
  have l3 : c'.2 90 3 = c.2 90 3 := e2 _ _ (by omega) (by omega)
  have r161 : r'.1 161 = r.1 161 := funext fun i => e3 _ _ (by omega) (by omega) (by omega) (by omega) (by omega)
  have r164 : r'.1 164 = r.1 164 := funext fun i => e3 _ _ (by omega) (by omega) (by omega) (by omega) (by omega)
  have r165 : r'.1 165 = r.1 165 := funext fun i => e3 _ _ (by omega) (by omega) (by omega) (by omega) (by omega)
  have r168 : r'.1 168 = r.1 168 := funext fun i => e3 _ _ (by omega) (by omega) (by omega) (by omega) (by omega)
  have r169 : r'.1 169 = r.1 169 := funext fun i => e3 _ _ (by omega) (by omega) (by omega) (by omega) (by omega)
  have r170 : r'.1 170 = r.1 170 := funext fun i => e3 _ _ (by omega) (by omega) (by omega) (by omega) (by omega)
  have r173 : r'.1 173 = r.1 173 := funext fun i => e3 _ _ (by omega) (by omega) (by omega) (by omega) (by omega)
  have r174 : r'.1 174 = r.1 174 := funext fun i => e3 _ _ (by omega) (by omega) (by omega) (by omega) (by omega)
  have r175 : r'.1 175 = r.1 175 := funext fun i => e3 _ _ (by omega) (by omega) (by omega) (by omega) (by omega)
  have r176 : r'.1 176 = r.1 176 := funext fun i => e3 _ _ (by omega) (by omega) (by omega) (by omega) (by omega)
  have r178 : r'.1 178 = r.1 178 := funext fun i => e3 _ _ (by omega) (by omega) (by omega) (by omega) (by omega)
  have r179 : r'.1 179 = r.1 179 := funext fun i => e3 _ _ (by omega) (by omega) (by omega) (by omega) (by omega)
  have r181 : r'.1 181 = r.1 181 := funext fun i => e3 _ _ (by omega) (by omega) (by omega) (by omega) (by omega)
  have r185 : r'.1 185 = r.1 185 := funext fun i => e3 _ _ (by omega) (by omega) (by omega) (by omega) (by omega)
  have r186 : r'.1 186 = r.1 186 := funext fun i => e3 _ _ (by omega) (by omega) (by omega) (by omega) (by omega)
  have r187 : r'.1 187 = r.1 187 := funext fun i => e3 _ _ (by omega) (by omega) (by omega) (by omega) (by omega)
  have r188 : r'.1 188 = r.1 188 := funext fun i => e3 _ _ (by omega) (by omega) (by omega) (by omega) (by omega)
  have q30 : r'.1 125 30 = r.1 125 30 := e3 _ _ (by omega) (by omega) (by omega) (by omega) (by omega)
  have q31 : r'.1 125 31 = r.1 125 31 := e3 _ _ (by omega) (by omega) (by omega) (by omega) (by omega)
  have q91 : r'.1 125 91 = r.1 125 91 := e3 _ _ (by omega) (by omega) (by omega) (by omega) (by omega)
  have m171 : r'.2 171 = r.2 171 := funext fun i => e4 _ _ (by omega) (by omega)
  have m172 : r'.2 172 = r.2 172 := funext fun i => e4 _ _ (by omega) (by omega)
  have m182 : r'.2 182 = r.2 182 := funext fun i => e4 _ _ (by omega) (by omega)
  have m183 : r'.2 183 = r.2 183 := funext fun i => e4 _ _ (by omega) (by omega)
  refine ⟨bi_c90 hb (fun a i p => e1 a i (by omega) (by omega)) (fun i => e2 _ _ (by omega) (by omega)) (fun i => e2 _ _ (by omega) (by omega)), hrr', ?_, ?_, ⟨?_, ?_, ?_⟩, ?_, ?_, ?_, ?_, ?_, ?_⟩
  · unfold tk_90 vl_; rw [f1, f11, f15]; exact htk
  · unfold rt_90; rw [f1, f2, f12, f13, f14, f15, r168, r169, r170, r173, r174, r175]; exact hrt
  · unfold la_90 le_90 in_90; rw [f1, f2, f3, f4, f11, f13, f14, f15]; exact hla
  · rw [f1]; exact hll
  · unfold ql_90 in_90 vl_; rw [f1, f2, f3, f4, f8, f11, f13]; exact hql
  · unfold rs_90 rs1_90 rs2_90 le_90; rw [f1, f13, f15, f25, l22, l23, m182, m183]; exact hrs
  · unfold wg_90; rw [f1, l19, l3, r161, m171, m172]; exact hwg
  · unfold nb_90; rw [f1, f2, f3, f4, f15]; exact hnb
  · unfold ty_90; rw [f1, f2, f4, f8, f21, f25, p17, p18, p19, r176, r178, r179, r181, r185, r186, r187, q30, q31]; exact hty
  · unfold aq_90; rw [f1, f20, p5, r164, r165]; exact haq
  · unfold cq_90; rw [f26, q91, r188]; exact hcq
theorem R_g90 (h : R_90 c r rn) (e1 : ∀ a i, 90 ≤ a → a ≤ 119 → c'.1 a i = c.1 a i) (e2 : ∀ a i, 90 ≤ a → a ≤ 119 → c'.2 a i = c.2 a i) (e3 : ∀ a i, 125 ≤ a → a ≤ 198 → a ≠ 160 → a ≠ 166 → (a ≠ 125 ∨ i = 30 ∨ i = 31 ∨ i = 58 ∨ i = 66 ∨ i = 67 ∨ i = 91) → r'.1 a i = r.1 a i) (e4 : ∀ a i, 125 ≤ a → a ≤ 198 → r'.2 a i = r.2 a i) : R_90 c' r' rn :=
  R_gr90 h (rr_c90 (rr_f90 h.2.1 (fun a i hs => e3 a i (by unfold su_rr at hs; omega) (by unfold su_rr at hs; omega) (by unfold su_rr at hs; omega) (by unfold su_rr at hs; omega) (by unfold su_rr at hs; omega))) (fun a i p => e1 a i (by omega) (by omega))) e1 e2 (fun a i a1 a2 a3 a4 a5 => e3 a i a1 a2 a3 a4 (by omega)) e4
end RGG

/-! solve and goOn -/
def fz_ (S : Nat → Nat → Prop) (d d' : ix_D2) : Prop := ∀ a k, ¬ S a k → d'.1 a k = d.1 a k ∧ d'.2 a k = d.2 a k
def iv_bn (f : Nat → Nat → Int32) : Prop := f 0 13 = f 125 58
def iv_rl (f : Nat → Nat → Int32) : Prop := f 0 5 = f 125 11
def iv_rt (f : Nat → Nat → Int32) : Prop := f 0 15 = f 125 59
def mo_sv (a k : Nat) : Prop := mo_st a k ∨ (a = 0 ∧ (k = 10 ∨ k = 12 ∨ k = 13 ∨ k = 14 ∨ k = 15)) ∨ a = 123 ∨ a = 124 ∨ (60 ≤ a ∧ a ≤ 89 ∧ (a < 76 ∨ 78 < a)) ∨ (a = 125 ∧ (k = 57 ∨ k = 58 ∨ k = 59 ∨ k = 89 ∨ k = 91)) ∨ a = 160 ∨ (a = 166 ∧ k = 0) ∨ pq_0 a k
/-- names and rules of the latest solving -/
def yn_ (d d' : ix_D2) : Prop := (d'.1 161 0 = d.1 161 0 ∧ d'.1 125 59 = d.1 125 59) ∨ (d'.1 161 0 = d.1 125 1 ∧ d'.1 125 59 = d.1 125 11)
section OSV
variable {n : Nat} {z : ix_Z} {d d' : ix_D2} {x : Int32}
theorem sQ_d {P : Nat → Int64 → Prop} (h : sQ_0 P d) (e1 : ∀ a i, (a = 162 ∨ a = 168 ∨ a = 173 ∨ a = 174 ∨ a = 178) → d'.1 a i = d.1 a i) (e2 : ∀ a i, (a = 182 ∨ a = 183) → d'.2 a i = d.2 a i) : sQ_0 P d' := by
  refine ⟨fun m w hm hw => h.1 m w (by rw [← e1 162 _ (by omega)]; exact hm) hw, fun k w hk hw => ?_, fun i w hi h0 hw => ?_⟩
  · rw [e2 _ _ (by omega)]; exact h.2.1 k w (by rw [← e1 178 _ (by omega)]; exact hk) hw
  · rw [e1 173 _ (by omega), e1 168 _ (by omega)] at h0
    rw [e1 174 _ (by omega)] at hi
    rw [e1 173 _ (by omega), e2 _ _ (by omega)]
    exact h.2.2 i w hi h0 hw
theorem R_j60 {c c' r r' : ix_D2} {rn : Nat → Nat} (h : R_60 c r rn) (hrr' : rr_60 c' r' rn) (e1 : ∀ a i, 60 ≤ a → a ≤ 89 → (a < 76 ∨ 78 < a) → c'.1 a i = c.1 a i) (e2 : ∀ a i, 60 ≤ a → a ≤ 89 → (a < 76 ∨ 78 < a) → c'.2 a i = c.2 a i) (e3 : ∀ a i, 125 ≤ a → a ≤ 198 → a ≠ 160 → a ≠ 166 → (a ≠ 125 ∨ i = 30 ∨ i = 31 ∨ i = 91) → r'.1 a i = r.1 a i) (e4 : ∀ a i, 125 ≤ a → a ≤ 198 → r'.2 a i = r.2 a i) : R_60 c' r' rn := by
  obtain ⟨hb, hrr, htk, hrt, ⟨hla, hll, hql⟩, hrs, hwg, hnb, hty, haq, hcq⟩ := h
  have f1 : c'.1 61 = c.1 61 := funext fun i => e1 _ _ (by omega) (by omega) (by omega)
  have f2 : c'.1 62 = c.1 62 := funext fun i => e1 _ _ (by omega) (by omega) (by omega)
  have f3 : c'.1 63 = c.1 63 := funext fun i => e1 _ _ (by omega) (by omega) (by omega)
  have f4 : c'.1 64 = c.1 64 := funext fun i => e1 _ _ (by omega) (by omega) (by omega)
  have f8 : c'.1 68 = c.1 68 := funext fun i => e1 _ _ (by omega) (by omega) (by omega)
  have f11 : c'.1 71 = c.1 71 := funext fun i => e1 _ _ (by omega) (by omega) (by omega)
  have f12 : c'.1 72 = c.1 72 := funext fun i => e1 _ _ (by omega) (by omega) (by omega)
  have f13 : c'.1 73 = c.1 73 := funext fun i => e1 _ _ (by omega) (by omega) (by omega)
  have f14 : c'.1 74 = c.1 74 := funext fun i => e1 _ _ (by omega) (by omega) (by omega)
  have f15 : c'.1 75 = c.1 75 := funext fun i => e1 _ _ (by omega) (by omega) (by omega)
  have f20 : c'.1 80 = c.1 80 := funext fun i => e1 _ _ (by omega) (by omega) (by omega)
  have f21 : c'.1 81 = c.1 81 := funext fun i => e1 _ _ (by omega) (by omega) (by omega)
  have f25 : c'.1 85 = c.1 85 := funext fun i => e1 _ _ (by omega) (by omega) (by omega)
  have f26 : c'.1 86 = c.1 86 := funext fun i => e1 _ _ (by omega) (by omega) (by omega)
  have p5 : c'.1 60 5 = c.1 60 5 := e1 _ _ (by omega) (by omega) (by omega)
  have p17 : c'.1 60 17 = c.1 60 17 := e1 _ _ (by omega) (by omega) (by omega)
  have p18 : c'.1 60 18 = c.1 60 18 := e1 _ _ (by omega) (by omega) (by omega)
  have p19 : c'.1 60 19 = c.1 60 19 := e1 _ _ (by omega) (by omega) (by omega)
  have l19 : c'.2 79 = c.2 79 := funext fun i => e2 _ _ (by omega) (by omega) (by omega)
  have l22 : c'.2 82 = c.2 82 := funext fun i => e2 _ _ (by omega) (by omega) (by omega)
  have l23 : c'.2 83 = c.2 83 := funext fun i => e2 _ _ (by omega) (by omega) (by omega)
  have l3 : c'.2 60 3 = c.2 60 3 := e2 _ _ (by omega) (by omega) (by omega)
  have r161 : r'.1 161 = r.1 161 := funext fun i => e3 _ _ (by omega) (by omega) (by omega) (by omega) (by omega)
  have r164 : r'.1 164 = r.1 164 := funext fun i => e3 _ _ (by omega) (by omega) (by omega) (by omega) (by omega)
  have r165 : r'.1 165 = r.1 165 := funext fun i => e3 _ _ (by omega) (by omega) (by omega) (by omega) (by omega)
  have r168 : r'.1 168 = r.1 168 := funext fun i => e3 _ _ (by omega) (by omega) (by omega) (by omega) (by omega)
  have r169 : r'.1 169 = r.1 169 := funext fun i => e3 _ _ (by omega) (by omega) (by omega) (by omega) (by omega)
  have r170 : r'.1 170 = r.1 170 := funext fun i => e3 _ _ (by omega) (by omega) (by omega) (by omega) (by omega)
  have r173 : r'.1 173 = r.1 173 := funext fun i => e3 _ _ (by omega) (by omega) (by omega) (by omega) (by omega)
  have r174 : r'.1 174 = r.1 174 := funext fun i => e3 _ _ (by omega) (by omega) (by omega) (by omega) (by omega)
  have r175 : r'.1 175 = r.1 175 := funext fun i => e3 _ _ (by omega) (by omega) (by omega) (by omega) (by omega)
  have r176 : r'.1 176 = r.1 176 := funext fun i => e3 _ _ (by omega) (by omega) (by omega) (by omega) (by omega)
  have r178 : r'.1 178 = r.1 178 := funext fun i => e3 _ _ (by omega) (by omega) (by omega) (by omega) (by omega)
  have r179 : r'.1 179 = r.1 179 := funext fun i => e3 _ _ (by omega) (by omega) (by omega) (by omega) (by omega)
  have r181 : r'.1 181 = r.1 181 := funext fun i => e3 _ _ (by omega) (by omega) (by omega) (by omega) (by omega)
  have r185 : r'.1 185 = r.1 185 := funext fun i => e3 _ _ (by omega) (by omega) (by omega) (by omega) (by omega)
  have r186 : r'.1 186 = r.1 186 := funext fun i => e3 _ _ (by omega) (by omega) (by omega) (by omega) (by omega)
  have r187 : r'.1 187 = r.1 187 := funext fun i => e3 _ _ (by omega) (by omega) (by omega) (by omega) (by omega)
  have r188 : r'.1 188 = r.1 188 := funext fun i => e3 _ _ (by omega) (by omega) (by omega) (by omega) (by omega)
  have q30 : r'.1 125 30 = r.1 125 30 := e3 _ _ (by omega) (by omega) (by omega) (by omega) (by omega)
  have q31 : r'.1 125 31 = r.1 125 31 := e3 _ _ (by omega) (by omega) (by omega) (by omega) (by omega)
  have q91 : r'.1 125 91 = r.1 125 91 := e3 _ _ (by omega) (by omega) (by omega) (by omega) (by omega)
  have m171 : r'.2 171 = r.2 171 := funext fun i => e4 _ _ (by omega) (by omega)
  have m172 : r'.2 172 = r.2 172 := funext fun i => e4 _ _ (by omega) (by omega)
  have m182 : r'.2 182 = r.2 182 := funext fun i => e4 _ _ (by omega) (by omega)
  have m183 : r'.2 183 = r.2 183 := funext fun i => e4 _ _ (by omega) (by omega)
  refine ⟨bi_c60 hb (fun a i p => e1 a i (by omega) (by omega) (by omega)) (fun i => e2 _ _ (by omega) (by omega) (by omega)) (fun i => e2 _ _ (by omega) (by omega) (by omega)), hrr', ?_, ?_, ⟨?_, ?_, ?_⟩, ?_, ?_, ?_, ?_, ?_, ?_⟩
  · unfold tk_60 vl_; rw [f1, f11, f15]; exact htk
  · unfold rt_60; rw [f1, f2, f12, f13, f14, f15, r168, r169, r170, r173, r174, r175]; exact hrt
  · unfold la_60 le_60 in_60; rw [f1, f2, f3, f4, f11, f13, f14, f15]; exact hla
  · rw [f1]; exact hll
  · unfold ql_60 in_60 vl_; rw [f1, f2, f3, f4, f8, f11, f13]; exact hql
  · unfold rs_60 rs1_60 rs2_60 le_60; rw [f1, f13, f15, f25, l22, l23, m182, m183]; exact hrs
  · unfold wg_60; rw [f1, l19, l3, r161, m171, m172]; exact hwg
  · unfold nb_60; rw [f1, f2, f3, f4, f15]; exact hnb
  · unfold ty_60; rw [f1, f2, f4, f8, f21, f25, p17, p18, p19, r176, r178, r179, r181, r185, r186, r187, q30, q31]; exact hty
  · unfold aq_60; rw [f1, f20, p5, r164, r165]; exact haq
  · unfold cq_60; rw [f26, q91, r188]; exact hcq
/-- with no barred rows, where the bars stand doesn't matter -/
theorem R_h60 {c c' r r' : ix_D2} {rn : Nat → Nat} (h : R_60 c r rn) (h58 : (r.1 125 58).toInt = 0) (e1 : ∀ a i, 60 ≤ a → a ≤ 89 → (a < 76 ∨ 78 < a) → c'.1 a i = c.1 a i) (e2 : ∀ a i, 60 ≤ a → a ≤ 89 → (a < 76 ∨ 78 < a) → c'.2 a i = c.2 a i) (e3 : ∀ a i, 125 ≤ a → a ≤ 198 → a ≠ 160 → a ≠ 166 → (a ≠ 125 ∨ i = 30 ∨ i = 31 ∨ i = 58 ∨ i = 91) → r'.1 a i = r.1 a i) (e4 : ∀ a i, 125 ≤ a → a ≤ 198 → r'.2 a i = r.2 a i) : R_60 c' r' rn := by
  have G := h.2.1.2.1
  obtain ⟨G1, G2, G3, G4, G5, G6, G7, G8, G9, G10, G11, G12, G13, G14, G15⟩ := G
  have h10 := G10 (by omega)
  have f143 : r'.1 143 = r.1 143 := funext fun k => e3 _ _ (by omega) (by omega) (by omega) (by omega) (by omega)
  have f144 : r'.1 144 = r.1 144 := funext fun k => e3 _ _ (by omega) (by omega) (by omega) (by omega) (by omega)
  have f176 : r'.1 176 = r.1 176 := funext fun k => e3 _ _ (by omega) (by omega) (by omega) (by omega) (by omega)
  have f177 : r'.1 177 = r.1 177 := funext fun k => e3 _ _ (by omega) (by omega) (by omega) (by omega) (by omega)
  have f162 : r'.1 162 = r.1 162 := funext fun k => e3 _ _ (by omega) (by omega) (by omega) (by omega) (by omega)
  have f163 : r'.1 163 = r.1 163 := funext fun k => e3 _ _ (by omega) (by omega) (by omega) (by omega) (by omega)
  have f179 : r'.1 179 = r.1 179 := funext fun k => e3 _ _ (by omega) (by omega) (by omega) (by omega) (by omega)
  have f180 : r'.1 180 = r.1 180 := funext fun k => e3 _ _ (by omega) (by omega) (by omega) (by omega) (by omega)
  have f167 : r'.1 167 = r.1 167 := funext fun k => e3 _ _ (by omega) (by omega) (by omega) (by omega) (by omega)
  have f58 : r'.1 125 58 = r.1 125 58 := e3 _ _ (by omega) (by omega) (by omega) (by omega) (by omega)
  have hrr : rr_60 c r' rn := by
    refine ⟨fun k hk => ?_, ?_, fun m hm => by rw [f167]; exact h.2.1.2.2 m hm⟩
    · obtain ⟨a1, a2, a3⟩ := h.2.1.1 k hk
      have hrow : rn k < 500 ∨ 2000 ≤ rn k := by
        by_cases e : (k : Int) < (c.1 61 15).toInt
        · have := (G6 k e).1; omega
        · have := (G14 k (by omega) hk).1; omega
      have ez : rz_ r'.1 0 (rn k) = rz_ r.1 0 (rn k) := by
        unfold rz_
        rcases hrow with q | q
        · rw [if_pos (by omega), if_pos (by omega), f143]
        · rw [if_neg (by omega), if_neg (by omega), if_neg (by omega), if_neg (by omega), f176]
      refine ⟨?_, by rw [ez]; exact a2, fun j hj => ?_⟩
      · rcases a1 with q | q | q
        · exact Or.inl (by rw [f143]; exact q)
        · exact absurd q.1 (by omega)
        · exact Or.inr (Or.inr (by rw [f176]; exact q))
      · rw [ez] at hj
        have q := a3 j hj
        unfold ri_ at q ⊢
        rcases hrow with w | w
        · rw [if_pos (by omega)] at q ⊢
          rw [f143, f144]; exact q
        · rw [if_neg (by omega), if_neg (by omega)] at q ⊢
          rw [f176, f177]; exact q
    · unfold rb_60
      rw [f162, f163, f179, f180, f58]
      exact ⟨G1, G2, G3, G4, G5, G6, G7, G8, fun q => absurd q (by omega), G10, G11, G12, G13, G14, G15⟩
  exact R_j60 h (rr_c60 hrr (fun a i p => e1 a i (by omega) (by omega) (by omega))) e1 e2 (fun a i a1 a2 a3 a4 a5 => e3 a i a1 a2 a3 a4 (by omega)) e4
/-- what the solver at rest is told by -/
theorem lt_c (h : lt_ d) (e1 : ∀ a k, 60 ≤ a → a ≤ 89 → (a < 76 ∨ 78 < a) → d'.1 a k = d.1 a k ∧ d'.2 a k = d.2 a k) (e2 : ∀ k, k = 10 ∨ k = 12 ∨ k = 13 → d'.1 0 k = d.1 0 k) (e3 : ∀ a k, a = 123 ∨ a = 124 → d'.1 a k = d.1 a k) (e4 : (d.1 52 2).toInt ≤ (d'.1 52 2).toInt) (e5 : ∀ a k, (a = 160 ∨ a = 161 ∨ a = 166 ∨ (176 ≤ a ∧ a ≤ 180) ∨ (187 ≤ a ∧ a ≤ 190) ∨ (a = 125 ∧ (k = 91 ∨ k = 94 ∨ k = 96))) → d'.1 a k = d.1 a k) (e6 : ∀ k, d'.2 171 k = d.2 171 k)
    (e7 : (d'.1 0 14).toInt = 1 → (d.1 0 14).toInt = 1 ∧ d'.1 52 2 = d.1 52 2 ∧ (∀ a k, 125 ≤ a → a ≤ 198 → (a ≠ 125 ∨ k = 30 ∨ k = 31 ∨ k = 58 ∨ k = 91) → d'.1 a k = d.1 a k) ∧ ∀ a k, 125 ≤ a → a ≤ 198 → d'.2 a k = d.2 a k) : lt_ d' := by
  obtain ⟨h1, h2, h3, h4, h5, h6⟩ := h
  have f850 : d'.1 85 0 = d.1 85 0 := (e1 _ _ (by omega) (by omega) (by omega)).1
  have f161 : d'.1 161 = d.1 161 := funext fun k => e5 _ _ (by omega)
  have f160 : d'.1 160 = d.1 160 := funext fun k => e5 _ _ (by omega)
  have f71 : d'.1 71 = d.1 71 := funext fun k => (e1 _ _ (by omega) (by omega) (by omega)).1
  refine ⟨?_, by rw [f850, e5 166 0 (by omega)]; exact h2, by rw [f850, f161, f160, f71]; exact h3, fun hg => ?_, fun hs hb => ?_, rl_g h6 (fun a k a1 a2 => (e1 a k (by omega) (by omega) (by omega)).1) (e1 _ _ (by omega) (by omega) (by omega)).1 (fun a k a1 a2 => e5 a k (by omega))⟩
  · obtain ⟨⟨a1, a2⟩, ⟨b1, b2, b3, b4, b5⟩, hcq, c1, c2, c3, c4⟩ := h1
    have f187 : d'.1 187 = d.1 187 := funext fun k => e5 _ _ (by omega)
    have f178 : d'.1 178 = d.1 178 := funext fun k => e5 _ _ (by omega)
    have f179 : d'.1 179 = d.1 179 := funext fun k => e5 _ _ (by omega)
    have f180 : d'.1 180 = d.1 180 := funext fun k => e5 _ _ (by omega)
    have f188 : d'.1 188 = d.1 188 := funext fun k => e5 _ _ (by omega)
    have f91 : d'.1 125 91 = d.1 125 91 := e5 _ _ (by omega)
    have f85 : d'.1 85 = d.1 85 := funext fun k => (e1 _ _ (by omega) (by omega) (by omega)).1
    have f62 : d'.1 62 = d.1 62 := funext fun k => (e1 _ _ (by omega) (by omega) (by omega)).1
    have f64 : d'.1 64 = d.1 64 := funext fun k => (e1 _ _ (by omega) (by omega) (by omega)).1
    have f61 : d'.1 61 = d.1 61 := funext fun k => (e1 _ _ (by omega) (by omega) (by omega)).1
    have f86 : d'.1 86 = d.1 86 := funext fun k => (e1 _ _ (by omega) (by omega) (by omega)).1
    have m79 : d'.2 79 = d.2 79 := funext fun k => (e1 _ _ (by omega) (by omega) (by omega)).2
    have m171 : d'.2 171 = d.2 171 := funext fun k => e6 k
    refine ⟨by rw [f62, f64]; exact ⟨a1, a2⟩, by rw [f85, f187, f178, f179, f180]; exact ⟨b1, b2, b3, b4, b5⟩, ?_, by rw [f61, f161, m79, m171]; exact ⟨c1, c2, c3, c4⟩⟩
    unfold cq_60
    rw [f91, f86, f188]
    exact hcq
  · obtain ⟨q1, q2, q3, q4⟩ := e7 hg
    obtain ⟨s1, s58, s2, s3, rn, s4⟩ := h4 q1
    have f162 : d'.1 162 = d.1 162 := funext fun k => q3 _ _ (by omega) (by omega) (by omega)
    have f163 : d'.1 163 = d.1 163 := funext fun k => q3 _ _ (by omega) (by omega) (by omega)
    refine ⟨by rw [q2, f162]; exact s1, by rw [q3 125 58 (by omega) (by omega) (by omega)]; exact s58, by unfold h0_60; rw [f162, f163]; exact s2, ?_, rn, R_h60 s4 (by rw [s58]; rfl) (fun a i a1 a2 a3 => (e1 a i a1 a2 a3).1) (fun a i a1 a2 a3 => (e1 a i a1 a2 a3).2) (fun a i a1 a2 _ _ a5 => q3 a i a1 a2 a5) (fun a i a1 a2 => q4 a i a1 a2)⟩
    rw [f162]
    exact sQ_d s3 (fun a i p => q3 a i (by omega) (by omega) (by omega)) (fun a i p => q4 a i (by omega) (by omega))
  · rw [f850] at hs
    rw [e2 13 (by omega)] at hb
    obtain ⟨T, t1, ⟨C, Y, c1, c2, c3, c4, c5, c6, c7, c8, c9⟩, t3⟩ := h5 hs hb
    have f123 : d'.1 123 = d.1 123 := funext fun k => e3 _ _ (by omega)
    have f124 : d'.1 124 = d.1 124 := funext fun k => e3 _ _ (by omega)
    have f189 : d'.1 189 = d.1 189 := funext fun k => e5 _ _ (by omega)
    have f190 : d'.1 190 = d.1 190 := funext fun k => e5 _ _ (by omega)
    refine ⟨T, by omega, ⟨C, Y, c1, c2, by rw [e2 10 (by omega)]; exact c3, by rw [e5 125 94 (by omega)]; exact c4, by rw [f123, f189]; exact c5, by rw [f189]; exact c6, by rw [e2 12 (by omega)]; exact c7, by rw [e5 125 96 (by omega)]; exact c8, by rw [f124, f190, f161]; exact c9⟩, rc_g t3 (fun a k a1 a2 => (e1 a k (by omega) (by omega) (by omega)).1) (fun a k a1 a2 => e5 a k (by omega))⟩
/-- a refused call -/
theorem lt_rf (h : lt_ d) (e : ∀ a k, ¬ mo_st a k → d'.1 a k = d.1 a k) (e2 : d'.2 = d.2) : lt_ d' := by
  have o : ∀ a k, (a ≠ 0 ∨ k ≠ 17) → (a ≠ 125 ∨ k ≠ 0) → d'.1 a k = d.1 a k := fun a k h1 h2 => e a k (by unfold mo_st; omega)
  exact lt_c h (fun a k a1 a2 _ => ⟨o a k (by omega) (by omega), by rw [e2]⟩) (fun k hk => o 0 k (by omega) (by omega)) (fun a k h => o a k (by omega) (by omega)) (by rw [o 52 2 (by omega) (by omega)]; exact Int.le_refl _) (fun a k h => o a k (by omega) (by omega)) (fun k => by rw [e2]) (fun hg => ⟨by rw [o 0 14 (by omega) (by omega)] at hg; exact hg, o 52 2 (by omega) (by omega), fun a k a1 a2 a3 => o a k (by omega) (by omega), fun a k _ _ => by rw [e2]⟩)
set_option maxHeartbeats 4000000 in
theorem op_solve (hz : ly_z z) (hn : 20000 ≤ n) (ist : iv_st d.1) (inm : iv_nm d.1) (ibg : iv_bg d.1) (iwt : iv_wt d.1) (ias : iv_as d.1) (ics : iv_cs d.1) (igo : iv_go d.1) (ibn : iv_bn d.1) (irl : iv_rl d.1) (irt : iv_rt d.1) (hlt : lt_ d) : wp_t (f_X11_solve n z 0 x d) (fun t => wp_t (f_X12_solve n z 125 x t.2) (fun u => t.1 = u.1 ∧ iv_st u.2.1 ∧ iv_go u.2.1 ∧ iv_bn u.2.1 ∧ iv_rt u.2.1 ∧ lt_ u.2 ∧ fz_ mo_sv d u.2 ∧ yn_ d u.2)) := by
  by_cases hx : 1 ≤ x.toInt ∧ x.toInt ≤ 5000
  · obtain ⟨hx1, hx2⟩ := hx
    obtain ⟨g, hg⟩ : ∃ g : Nat, x.toInt = (g : Int) := ⟨ix_n x, (ni_c (by omega)).symm⟩
    have exg : x = nI g := Int32.toInt_inj.mp (by rw [hg, nI_ti (by omega)])
    obtain ⟨n1, n2, n3⟩ := inm
    obtain ⟨N, hN⟩ : ∃ N : Nat, (d.1 51 5).toInt = (N : Int) := ⟨ix_n (d.1 51 5), (ni_c (by rw [n1]; exact n2)).symm⟩
    have hN2 : N ≤ 300 := by rw [n1] at hN; omega
    obtain ⟨T, hT⟩ : ∃ T : Nat, (T : Int) = (d.1 52 2).toInt := ⟨ix_n (d.1 52 2), ni_c ics.1.1⟩
    obtain ⟨A, hA⟩ : ∃ A : Nat, (d.1 51 7).toInt = (A : Int) := ⟨ix_n (d.1 51 7), (ni_c (by rw [ias.1]; exact ias.2.1)).symm⟩
    have hA2 : A ≤ 20 := by have := ias.2.2.1; rw [← ias.1] at this; omega
    refine e_sva hz hn hx1 hx2 hlt.1.1.1 hlt.1.1.2 hN hN2 ics.1 hT hA hA2 (fun c h5 => ?_)
    have fr := h5.2.2.2.2.2.2.2.2.2.2.2.2.2.2.2.2.2.2.2.2
    obtain ⟨f1, f2, f3, f4⟩ := fr
    rw [exg]
    refine wp_m (e_run (d := d) (c := c) (T := T) (g := g) (S := fun a k => pq_0 a k ∨ (a = 125 ∧ (k = 58 ∨ k = 59 ∨ k = 89 ∨ k = 91))) (V := fun m r5 => r5.1 125 58 = 0 ∧ r5.1 125 59 = m.1 125 11 ∧ r5.1 161 0 = m.1 125 1) (REF := fun m => f_X12_solve n z 125 (nI g) m) hz hn (by omega) (fun a k q => by
        rcases q with q | q
        · unfold pq_0 sq_0 at q; omega
        · omega) (by rw [f1 _ _ (by omega) (by omega)]; exact hT.symm) (fun a k h1 h2 => ⟨f1 a k (by omega) (by omega), f2 a k (by omega)⟩) (fun m hm => ?_)) (fun u hu => wp_m hu (fun t ht => wp_m ht (fun D hD => ?_)))
    · obtain ⟨r5, h2, hq⟩ := e_svb (n := n) (x := nI g) (r := m) (A := A) hz hn (by rw [← exg]; exact hx1) (by rw [← exg]; exact hx2) (by rw [(hm _ _ (by omega) (by omega)).1, ← ias.1]; exact hA) hA2
      obtain ⟨R1, R2, R3⟩ := R_sv h5 h2 (fun a k h1 h2 => (hm a k h1 h2).1) hN hN2 hT hA ⟨n1, n2, n3⟩ ibg iwt ias ics
      obtain ⟨b1, b2, b3, b4, b5, b6, b7, b8, b9, b10, b11, b12, b13, b14, b15, b16, b17, b18, b19, b20, b21⟩ := h2
      have e161 : r5.1 161 0 = d.1 125 1 := by rw [b1]; exact (hm _ _ (by omega) (by omega)).1
      refine ⟨r5, _, ⟨b16, b17, b1⟩, b16, R1, R2, R3, by rw [b19, ← exg]; exact hg, by rw [b2, (hm _ _ (by omega) (by omega)).1, ← ics.2.1]; exact hT, by rw [e161]; exact ⟨n2, n3⟩, fun a k hs => ⟨b20 a k (fun q => hs (Or.inl q)) (by
        have : ¬ (a = 125 ∧ (k = 58 ∨ k = 59 ∨ k = 89 ∨ k = 91)) := fun q => hs (Or.inr q)
        omega), b21 a k (fun q => hs (Or.inl q))⟩, hq⟩
    · obtain ⟨q1, q2, q3, q4, q5, q6, q7, q8, m, r5, q9, ⟨q10, q11, q13⟩, q12⟩ := hD
      have ns : ∀ k, k ≠ 89 → (k < 97 ∨ 100 < k) → k ≠ 104 → k ≠ 106 → k ≠ 91 → k ≠ 94 → k ≠ 96 → ¬ sq_0 125 k := fun k _ _ _ _ _ _ _ q => by unfold sq_0 at q; omega
      have D13 : D.2.1 0 13 = 0 := by rw [q5 _ _ (by omega) (by omega) (by omega) (by omega) (by omega)]; exact f3
      have D15 : D.2.1 0 15 = d.1 0 5 := by rw [q5 _ _ (by omega) (by omega) (by omega) (by omega) (by omega)]; exact f4
      have D17 : D.2.1 0 17 = d.1 0 17 := by rw [q5 _ _ (by omega) (by omega) (by omega) (by omega) (by omega)]; exact f1 _ _ (by omega) (by omega)
      have D0 : D.2.1 125 0 = d.1 125 0 := by
        rw [q7 _ _ (by omega) (fun q => Or.elim q (fun q => by unfold pq_0 sq_0 at q; omega) (fun q => by omega)) (ns _ (by omega) (by omega) (by omega) (by omega) (by omega) (by omega) (by omega)) (by omega) (by omega) (by omega)]
        exact f1 _ _ (by omega) (by omega)
      have D58 : D.2.1 125 58 = 0 := by rw [q12 _ _ (ns _ (by omega) (by omega) (by omega) (by omega) (by omega) (by omega) (by omega)) (by omega) (by omega) (by omega)]; exact q10
      have D59 : D.2.1 125 59 = d.1 125 11 := by rw [q12 _ _ (ns _ (by omega) (by omega) (by omega) (by omega) (by omega) (by omega) (by omega)) (by omega) (by omega) (by omega), q11]; exact (q9 _ _ (by omega) (by omega)).1
      have D161 : D.2.1 161 0 = d.1 125 1 := by rw [q12 _ _ (by unfold sq_0; omega) (by omega) (by omega) (by omega), q13]; exact (q9 _ _ (by omega) (by omega)).1
      refine ⟨q1, by unfold iv_st; rw [D17, D0]; exact ist, ⟨q3, q4⟩, by unfold iv_bn; rw [D13, D58], by unfold iv_rt; rw [D15, D59]; exact irl, q2, fun a k hs => ?_, Or.inr ⟨D161, D59⟩⟩
      have hpq : ¬ pq_0 a k := fun q => hs (by unfold mo_sv; exact Or.inr (Or.inr (Or.inr (Or.inr (Or.inr (Or.inr (Or.inr (Or.inr q))))))))
      have hsq : ¬ sq_0 a k := fun q => hpq (Or.inr (Or.inr (Or.inr (Or.inr q))))
      have k1 : ¬ (a = 0 ∧ (k = 10 ∨ k = 12 ∨ k = 13 ∨ k = 14 ∨ k = 15)) := fun q => hs (Or.inr (Or.inl q))
      have k2 : a ≠ 123 := fun q => hs (Or.inr (Or.inr (Or.inl q)))
      have k3 : a ≠ 124 := fun q => hs (Or.inr (Or.inr (Or.inr (Or.inl q))))
      have k4 : ¬ (60 ≤ a ∧ a ≤ 89 ∧ (a < 76 ∨ 78 < a)) := fun q => hs (Or.inr (Or.inr (Or.inr (Or.inr (Or.inl q)))))
      have k5 : ¬ (a = 125 ∧ (k = 57 ∨ k = 58 ∨ k = 59 ∨ k = 89 ∨ k = 91)) := fun q => hs (Or.inr (Or.inr (Or.inr (Or.inr (Or.inr (Or.inl q))))))
      have k6 : a ≠ 160 := fun q => hs (Or.inr (Or.inr (Or.inr (Or.inr (Or.inr (Or.inr (Or.inl q)))))))
      have k7 : ¬ (a = 166 ∧ k = 0) := fun q => hs (Or.inr (Or.inr (Or.inr (Or.inr (Or.inr (Or.inr (Or.inr (Or.inl q))))))))
      have hS : ¬ (pq_0 a k ∨ (a = 125 ∧ (k = 58 ∨ k = 59 ∨ k = 89 ∨ k = 91))) := fun q => by
        rcases q with q | q
        · exact hpq q
        · exact k5 (by omega)
      clear hs
      by_cases ha : a < 125
      · rw [q5 a k (by omega) ha k2 k3 (by omega), q6 a k (by omega) ha]
        exact ⟨f1 a k (by omega) (by omega), f2 a k (by omega)⟩
      · rw [q7 a k (by omega) hS hsq k6 (by omega) (by omega), q8 a k (by omega) hS hsq]
        exact ⟨f1 a k (by omega) (by omega), f2 a k (by omega)⟩
  · have hx' : x.toInt < 1 ∨ 5000 < x.toInt := by omega
    have e1 : f_X11_areSteps n z x d = some (0, d) := by
      rw [← wp_eq]
      rcases hx' with q | q
      · (repeat (first | with_reducible refine wi_t (ly_o0 hz) ?_ | with_reducible refine wi_lt ?_ | (with_reducible refine wi_ifp ?_ ?_; (focus (first | omega | (simp (disch := (first | omega | (simp (disch := first | omega | (simp only [Int32.reduceToInt]; omega)) only [Int32.reduceToInt, ta_add, ta_sub, ta_mul, ta_neg, ta_div]; omega))) only [up_1, cp_1, rng_1, fn_1, dj_1, Nat.reduceEqDiff, false_and, and_false, true_and, and_true, or_true, true_or, or_false, false_or, not_true_eq_false, not_false_eq_true, ↓reduceIte, eq_self, ne_eq, ti_eq, ti_le, ti_lt, ti_ite, Int32.reduceToInt, ta_add, ta_sub, ta_mul, ta_neg, ta_div]; done) | (simp (disch := (first | omega | (simp (disch := first | omega | (simp only [Int32.reduceToInt]; omega)) only [Int32.reduceToInt, ta_add, ta_sub, ta_mul, ta_neg, ta_div]; omega))) only [up_1, cp_1, rng_1, fn_1, dj_1, Nat.reduceEqDiff, false_and, and_false, true_and, and_true, or_true, true_or, or_false, false_or, not_true_eq_false, not_false_eq_true, ↓reduceIte, eq_self, ne_eq, ti_eq, ti_le, ti_lt, ti_ite, Int32.reduceToInt, ta_add, ta_sub, ta_mul, ta_neg, ta_div]; omega)))) | (with_reducible refine wi_ifn ?_ ?_; (focus (first | omega | (simp (disch := (first | omega | (simp (disch := first | omega | (simp only [Int32.reduceToInt]; omega)) only [Int32.reduceToInt, ta_add, ta_sub, ta_mul, ta_neg, ta_div]; omega))) only [up_1, cp_1, rng_1, fn_1, dj_1, Nat.reduceEqDiff, false_and, and_false, true_and, and_true, or_true, true_or, or_false, false_or, not_true_eq_false, not_false_eq_true, ↓reduceIte, eq_self, ne_eq, ti_eq, ti_le, ti_lt, ti_ite, Int32.reduceToInt, ta_add, ta_sub, ta_mul, ta_neg, ta_div]; done) | (simp (disch := (first | omega | (simp (disch := first | omega | (simp only [Int32.reduceToInt]; omega)) only [Int32.reduceToInt, ta_add, ta_sub, ta_mul, ta_neg, ta_div]; omega))) only [up_1, cp_1, rng_1, fn_1, dj_1, Nat.reduceEqDiff, false_and, and_false, true_and, and_true, or_true, true_or, or_false, false_or, not_true_eq_false, not_false_eq_true, ↓reduceIte, eq_self, ne_eq, ti_eq, ti_le, ti_lt, ti_ite, Int32.reduceToInt, ta_add, ta_sub, ta_mul, ta_neg, ta_div]; omega)))) | (with_reducible refine wi_ck ?_ ?_; (focus (first | omega | (simp (disch := (first | omega | (simp (disch := first | omega | (simp only [Int32.reduceToInt]; omega)) only [Int32.reduceToInt, ta_add, ta_sub, ta_mul, ta_neg, ta_div]; omega))) only [up_1, cp_1, rng_1, fn_1, dj_1, Nat.reduceEqDiff, false_and, and_false, true_and, and_true, or_true, true_or, or_false, false_or, not_true_eq_false, not_false_eq_true, ↓reduceIte, eq_self, ne_eq, ti_eq, ti_le, ti_lt, ti_ite, Int32.reduceToInt, ta_add, ta_sub, ta_mul, ta_neg, ta_div]; done) | (simp (disch := (first | omega | (simp (disch := first | omega | (simp only [Int32.reduceToInt]; omega)) only [Int32.reduceToInt, ta_add, ta_sub, ta_mul, ta_neg, ta_div]; omega))) only [up_1, cp_1, rng_1, fn_1, dj_1, Nat.reduceEqDiff, false_and, and_false, true_and, and_true, or_true, true_or, or_false, false_or, not_true_eq_false, not_false_eq_true, ↓reduceIte, eq_self, ne_eq, ti_eq, ti_le, ti_lt, ti_ite, Int32.reduceToInt, ta_add, ta_sub, ta_mul, ta_neg, ta_div]; omega)))) | with_reducible refine wi_bd2 ?_ | with_reducible refine wi_bd1 ?_ | with_reducible refine wi_bd3 ?_ | (with_reducible refine wi_some ?_; try dsimp only) | unfold f_X11_areSteps))
        all_goals rfl
      · (repeat (first | with_reducible refine wi_t (ly_o0 hz) ?_ | with_reducible refine wi_lt ?_ | (with_reducible refine wi_ifp ?_ ?_; (focus (first | omega | (simp (disch := (first | omega | (simp (disch := first | omega | (simp only [Int32.reduceToInt]; omega)) only [Int32.reduceToInt, ta_add, ta_sub, ta_mul, ta_neg, ta_div]; omega))) only [up_1, cp_1, rng_1, fn_1, dj_1, Nat.reduceEqDiff, false_and, and_false, true_and, and_true, or_true, true_or, or_false, false_or, not_true_eq_false, not_false_eq_true, ↓reduceIte, eq_self, ne_eq, ti_eq, ti_le, ti_lt, ti_ite, Int32.reduceToInt, ta_add, ta_sub, ta_mul, ta_neg, ta_div]; done) | (simp (disch := (first | omega | (simp (disch := first | omega | (simp only [Int32.reduceToInt]; omega)) only [Int32.reduceToInt, ta_add, ta_sub, ta_mul, ta_neg, ta_div]; omega))) only [up_1, cp_1, rng_1, fn_1, dj_1, Nat.reduceEqDiff, false_and, and_false, true_and, and_true, or_true, true_or, or_false, false_or, not_true_eq_false, not_false_eq_true, ↓reduceIte, eq_self, ne_eq, ti_eq, ti_le, ti_lt, ti_ite, Int32.reduceToInt, ta_add, ta_sub, ta_mul, ta_neg, ta_div]; omega)))) | (with_reducible refine wi_ifn ?_ ?_; (focus (first | omega | (simp (disch := (first | omega | (simp (disch := first | omega | (simp only [Int32.reduceToInt]; omega)) only [Int32.reduceToInt, ta_add, ta_sub, ta_mul, ta_neg, ta_div]; omega))) only [up_1, cp_1, rng_1, fn_1, dj_1, Nat.reduceEqDiff, false_and, and_false, true_and, and_true, or_true, true_or, or_false, false_or, not_true_eq_false, not_false_eq_true, ↓reduceIte, eq_self, ne_eq, ti_eq, ti_le, ti_lt, ti_ite, Int32.reduceToInt, ta_add, ta_sub, ta_mul, ta_neg, ta_div]; done) | (simp (disch := (first | omega | (simp (disch := first | omega | (simp only [Int32.reduceToInt]; omega)) only [Int32.reduceToInt, ta_add, ta_sub, ta_mul, ta_neg, ta_div]; omega))) only [up_1, cp_1, rng_1, fn_1, dj_1, Nat.reduceEqDiff, false_and, and_false, true_and, and_true, or_true, true_or, or_false, false_or, not_true_eq_false, not_false_eq_true, ↓reduceIte, eq_self, ne_eq, ti_eq, ti_le, ti_lt, ti_ite, Int32.reduceToInt, ta_add, ta_sub, ta_mul, ta_neg, ta_div]; omega)))) | (with_reducible refine wi_ck ?_ ?_; (focus (first | omega | (simp (disch := (first | omega | (simp (disch := first | omega | (simp only [Int32.reduceToInt]; omega)) only [Int32.reduceToInt, ta_add, ta_sub, ta_mul, ta_neg, ta_div]; omega))) only [up_1, cp_1, rng_1, fn_1, dj_1, Nat.reduceEqDiff, false_and, and_false, true_and, and_true, or_true, true_or, or_false, false_or, not_true_eq_false, not_false_eq_true, ↓reduceIte, eq_self, ne_eq, ti_eq, ti_le, ti_lt, ti_ite, Int32.reduceToInt, ta_add, ta_sub, ta_mul, ta_neg, ta_div]; done) | (simp (disch := (first | omega | (simp (disch := first | omega | (simp only [Int32.reduceToInt]; omega)) only [Int32.reduceToInt, ta_add, ta_sub, ta_mul, ta_neg, ta_div]; omega))) only [up_1, cp_1, rng_1, fn_1, dj_1, Nat.reduceEqDiff, false_and, and_false, true_and, and_true, or_true, true_or, or_false, false_or, not_true_eq_false, not_false_eq_true, ↓reduceIte, eq_self, ne_eq, ti_eq, ti_le, ti_lt, ti_ite, Int32.reduceToInt, ta_add, ta_sub, ta_mul, ta_neg, ta_div]; omega)))) | with_reducible refine wi_bd2 ?_ | with_reducible refine wi_bd1 ?_ | with_reducible refine wi_bd3 ?_ | (with_reducible refine wi_some ?_; try dsimp only) | unfold f_X11_areSteps))
        all_goals rfl
    have e2 : ∀ r, f_X12_areSteps n z x r = some (0, r) := fun r => by
      rw [← wp_eq]
      rcases hx' with q | q
      · (repeat (first | with_reducible refine wi_t (ly_o125 hz) ?_ | with_reducible refine wi_lt ?_ | (with_reducible refine wi_ifp ?_ ?_; (focus (first | omega | (simp (disch := (first | omega | (simp (disch := first | omega | (simp only [Int32.reduceToInt]; omega)) only [Int32.reduceToInt, ta_add, ta_sub, ta_mul, ta_neg, ta_div]; omega))) only [up_1, cp_1, rng_1, fn_1, dj_1, Nat.reduceEqDiff, false_and, and_false, true_and, and_true, or_true, true_or, or_false, false_or, not_true_eq_false, not_false_eq_true, ↓reduceIte, eq_self, ne_eq, ti_eq, ti_le, ti_lt, ti_ite, Int32.reduceToInt, ta_add, ta_sub, ta_mul, ta_neg, ta_div]; done) | (simp (disch := (first | omega | (simp (disch := first | omega | (simp only [Int32.reduceToInt]; omega)) only [Int32.reduceToInt, ta_add, ta_sub, ta_mul, ta_neg, ta_div]; omega))) only [up_1, cp_1, rng_1, fn_1, dj_1, Nat.reduceEqDiff, false_and, and_false, true_and, and_true, or_true, true_or, or_false, false_or, not_true_eq_false, not_false_eq_true, ↓reduceIte, eq_self, ne_eq, ti_eq, ti_le, ti_lt, ti_ite, Int32.reduceToInt, ta_add, ta_sub, ta_mul, ta_neg, ta_div]; omega)))) | (with_reducible refine wi_ifn ?_ ?_; (focus (first | omega | (simp (disch := (first | omega | (simp (disch := first | omega | (simp only [Int32.reduceToInt]; omega)) only [Int32.reduceToInt, ta_add, ta_sub, ta_mul, ta_neg, ta_div]; omega))) only [up_1, cp_1, rng_1, fn_1, dj_1, Nat.reduceEqDiff, false_and, and_false, true_and, and_true, or_true, true_or, or_false, false_or, not_true_eq_false, not_false_eq_true, ↓reduceIte, eq_self, ne_eq, ti_eq, ti_le, ti_lt, ti_ite, Int32.reduceToInt, ta_add, ta_sub, ta_mul, ta_neg, ta_div]; done) | (simp (disch := (first | omega | (simp (disch := first | omega | (simp only [Int32.reduceToInt]; omega)) only [Int32.reduceToInt, ta_add, ta_sub, ta_mul, ta_neg, ta_div]; omega))) only [up_1, cp_1, rng_1, fn_1, dj_1, Nat.reduceEqDiff, false_and, and_false, true_and, and_true, or_true, true_or, or_false, false_or, not_true_eq_false, not_false_eq_true, ↓reduceIte, eq_self, ne_eq, ti_eq, ti_le, ti_lt, ti_ite, Int32.reduceToInt, ta_add, ta_sub, ta_mul, ta_neg, ta_div]; omega)))) | (with_reducible refine wi_ck ?_ ?_; (focus (first | omega | (simp (disch := (first | omega | (simp (disch := first | omega | (simp only [Int32.reduceToInt]; omega)) only [Int32.reduceToInt, ta_add, ta_sub, ta_mul, ta_neg, ta_div]; omega))) only [up_1, cp_1, rng_1, fn_1, dj_1, Nat.reduceEqDiff, false_and, and_false, true_and, and_true, or_true, true_or, or_false, false_or, not_true_eq_false, not_false_eq_true, ↓reduceIte, eq_self, ne_eq, ti_eq, ti_le, ti_lt, ti_ite, Int32.reduceToInt, ta_add, ta_sub, ta_mul, ta_neg, ta_div]; done) | (simp (disch := (first | omega | (simp (disch := first | omega | (simp only [Int32.reduceToInt]; omega)) only [Int32.reduceToInt, ta_add, ta_sub, ta_mul, ta_neg, ta_div]; omega))) only [up_1, cp_1, rng_1, fn_1, dj_1, Nat.reduceEqDiff, false_and, and_false, true_and, and_true, or_true, true_or, or_false, false_or, not_true_eq_false, not_false_eq_true, ↓reduceIte, eq_self, ne_eq, ti_eq, ti_le, ti_lt, ti_ite, Int32.reduceToInt, ta_add, ta_sub, ta_mul, ta_neg, ta_div]; omega)))) | with_reducible refine wi_bd2 ?_ | with_reducible refine wi_bd1 ?_ | with_reducible refine wi_bd3 ?_ | (with_reducible refine wi_some ?_; try dsimp only) | unfold f_X12_areSteps | unfold f_X12_in))
        all_goals rfl
      · (repeat (first | with_reducible refine wi_t (ly_o125 hz) ?_ | with_reducible refine wi_lt ?_ | (with_reducible refine wi_ifp ?_ ?_; (focus (first | omega | (simp (disch := (first | omega | (simp (disch := first | omega | (simp only [Int32.reduceToInt]; omega)) only [Int32.reduceToInt, ta_add, ta_sub, ta_mul, ta_neg, ta_div]; omega))) only [up_1, cp_1, rng_1, fn_1, dj_1, Nat.reduceEqDiff, false_and, and_false, true_and, and_true, or_true, true_or, or_false, false_or, not_true_eq_false, not_false_eq_true, ↓reduceIte, eq_self, ne_eq, ti_eq, ti_le, ti_lt, ti_ite, Int32.reduceToInt, ta_add, ta_sub, ta_mul, ta_neg, ta_div]; done) | (simp (disch := (first | omega | (simp (disch := first | omega | (simp only [Int32.reduceToInt]; omega)) only [Int32.reduceToInt, ta_add, ta_sub, ta_mul, ta_neg, ta_div]; omega))) only [up_1, cp_1, rng_1, fn_1, dj_1, Nat.reduceEqDiff, false_and, and_false, true_and, and_true, or_true, true_or, or_false, false_or, not_true_eq_false, not_false_eq_true, ↓reduceIte, eq_self, ne_eq, ti_eq, ti_le, ti_lt, ti_ite, Int32.reduceToInt, ta_add, ta_sub, ta_mul, ta_neg, ta_div]; omega)))) | (with_reducible refine wi_ifn ?_ ?_; (focus (first | omega | (simp (disch := (first | omega | (simp (disch := first | omega | (simp only [Int32.reduceToInt]; omega)) only [Int32.reduceToInt, ta_add, ta_sub, ta_mul, ta_neg, ta_div]; omega))) only [up_1, cp_1, rng_1, fn_1, dj_1, Nat.reduceEqDiff, false_and, and_false, true_and, and_true, or_true, true_or, or_false, false_or, not_true_eq_false, not_false_eq_true, ↓reduceIte, eq_self, ne_eq, ti_eq, ti_le, ti_lt, ti_ite, Int32.reduceToInt, ta_add, ta_sub, ta_mul, ta_neg, ta_div]; done) | (simp (disch := (first | omega | (simp (disch := first | omega | (simp only [Int32.reduceToInt]; omega)) only [Int32.reduceToInt, ta_add, ta_sub, ta_mul, ta_neg, ta_div]; omega))) only [up_1, cp_1, rng_1, fn_1, dj_1, Nat.reduceEqDiff, false_and, and_false, true_and, and_true, or_true, true_or, or_false, false_or, not_true_eq_false, not_false_eq_true, ↓reduceIte, eq_self, ne_eq, ti_eq, ti_le, ti_lt, ti_ite, Int32.reduceToInt, ta_add, ta_sub, ta_mul, ta_neg, ta_div]; omega)))) | (with_reducible refine wi_ck ?_ ?_; (focus (first | omega | (simp (disch := (first | omega | (simp (disch := first | omega | (simp only [Int32.reduceToInt]; omega)) only [Int32.reduceToInt, ta_add, ta_sub, ta_mul, ta_neg, ta_div]; omega))) only [up_1, cp_1, rng_1, fn_1, dj_1, Nat.reduceEqDiff, false_and, and_false, true_and, and_true, or_true, true_or, or_false, false_or, not_true_eq_false, not_false_eq_true, ↓reduceIte, eq_self, ne_eq, ti_eq, ti_le, ti_lt, ti_ite, Int32.reduceToInt, ta_add, ta_sub, ta_mul, ta_neg, ta_div]; done) | (simp (disch := (first | omega | (simp (disch := first | omega | (simp only [Int32.reduceToInt]; omega)) only [Int32.reduceToInt, ta_add, ta_sub, ta_mul, ta_neg, ta_div]; omega))) only [up_1, cp_1, rng_1, fn_1, dj_1, Nat.reduceEqDiff, false_and, and_false, true_and, and_true, or_true, true_or, or_false, false_or, not_true_eq_false, not_false_eq_true, ↓reduceIte, eq_self, ne_eq, ti_eq, ti_le, ti_lt, ti_ite, Int32.reduceToInt, ta_add, ta_sub, ta_mul, ta_neg, ta_div]; omega)))) | with_reducible refine wi_bd2 ?_ | with_reducible refine wi_bd1 ?_ | with_reducible refine wi_bd3 ?_ | (with_reducible refine wi_some ?_; try dsimp only) | unfold f_X12_areSteps | unfold f_X12_in))
        all_goals rfl
    (repeat (first | (with_reducible refine wi_e (e1) ?_; try dsimp only) | with_reducible refine wi_t (ly_o0 hz) ?_ | with_reducible refine wi_lt ?_ | (with_reducible refine wi_ifp ?_ ?_; (focus (first | omega | (simp (disch := (first | omega | (simp (disch := first | omega | (simp only [Int32.reduceToInt]; omega)) only [Int32.reduceToInt, ta_add, ta_sub, ta_mul, ta_neg, ta_div]; omega))) only [up_1, cp_1, rng_1, fn_1, dj_1, Nat.reduceEqDiff, false_and, and_false, true_and, and_true, or_true, true_or, or_false, false_or, not_true_eq_false, not_false_eq_true, ↓reduceIte, eq_self, ne_eq, ti_eq, ti_le, ti_lt, ti_ite, Int32.reduceToInt, ta_add, ta_sub, ta_mul, ta_neg, ta_div]; done) | (simp (disch := (first | omega | (simp (disch := first | omega | (simp only [Int32.reduceToInt]; omega)) only [Int32.reduceToInt, ta_add, ta_sub, ta_mul, ta_neg, ta_div]; omega))) only [up_1, cp_1, rng_1, fn_1, dj_1, Nat.reduceEqDiff, false_and, and_false, true_and, and_true, or_true, true_or, or_false, false_or, not_true_eq_false, not_false_eq_true, ↓reduceIte, eq_self, ne_eq, ti_eq, ti_le, ti_lt, ti_ite, Int32.reduceToInt, ta_add, ta_sub, ta_mul, ta_neg, ta_div]; omega)))) | (with_reducible refine wi_ifn ?_ ?_; (focus (first | omega | (simp (disch := (first | omega | (simp (disch := first | omega | (simp only [Int32.reduceToInt]; omega)) only [Int32.reduceToInt, ta_add, ta_sub, ta_mul, ta_neg, ta_div]; omega))) only [up_1, cp_1, rng_1, fn_1, dj_1, Nat.reduceEqDiff, false_and, and_false, true_and, and_true, or_true, true_or, or_false, false_or, not_true_eq_false, not_false_eq_true, ↓reduceIte, eq_self, ne_eq, ti_eq, ti_le, ti_lt, ti_ite, Int32.reduceToInt, ta_add, ta_sub, ta_mul, ta_neg, ta_div]; done) | (simp (disch := (first | omega | (simp (disch := first | omega | (simp only [Int32.reduceToInt]; omega)) only [Int32.reduceToInt, ta_add, ta_sub, ta_mul, ta_neg, ta_div]; omega))) only [up_1, cp_1, rng_1, fn_1, dj_1, Nat.reduceEqDiff, false_and, and_false, true_and, and_true, or_true, true_or, or_false, false_or, not_true_eq_false, not_false_eq_true, ↓reduceIte, eq_self, ne_eq, ti_eq, ti_le, ti_lt, ti_ite, Int32.reduceToInt, ta_add, ta_sub, ta_mul, ta_neg, ta_div]; omega)))) | (with_reducible refine wi_ck ?_ ?_; (focus (first | omega | (simp (disch := (first | omega | (simp (disch := first | omega | (simp only [Int32.reduceToInt]; omega)) only [Int32.reduceToInt, ta_add, ta_sub, ta_mul, ta_neg, ta_div]; omega))) only [up_1, cp_1, rng_1, fn_1, dj_1, Nat.reduceEqDiff, false_and, and_false, true_and, and_true, or_true, true_or, or_false, false_or, not_true_eq_false, not_false_eq_true, ↓reduceIte, eq_self, ne_eq, ti_eq, ti_le, ti_lt, ti_ite, Int32.reduceToInt, ta_add, ta_sub, ta_mul, ta_neg, ta_div]; done) | (simp (disch := (first | omega | (simp (disch := first | omega | (simp only [Int32.reduceToInt]; omega)) only [Int32.reduceToInt, ta_add, ta_sub, ta_mul, ta_neg, ta_div]; omega))) only [up_1, cp_1, rng_1, fn_1, dj_1, Nat.reduceEqDiff, false_and, and_false, true_and, and_true, or_true, true_or, or_false, false_or, not_true_eq_false, not_false_eq_true, ↓reduceIte, eq_self, ne_eq, ti_eq, ti_le, ti_lt, ti_ite, Int32.reduceToInt, ta_add, ta_sub, ta_mul, ta_neg, ta_div]; omega)))) | with_reducible refine wi_bd2 ?_ | with_reducible refine wi_bd1 ?_ | with_reducible refine wi_bd3 ?_ | (with_reducible refine wi_some ?_; try dsimp only) | unfold f_X11_solve | unfold f_X11_refuse))
    (repeat (first | (with_reducible refine wi_e (e2 _) ?_; try dsimp only) | with_reducible refine wi_t (ly_o125 hz) ?_ | with_reducible refine wi_lt ?_ | (with_reducible refine wi_ifp ?_ ?_; (focus (first | omega | (simp (disch := (first | omega | (simp (disch := first | omega | (simp only [Int32.reduceToInt]; omega)) only [Int32.reduceToInt, ta_add, ta_sub, ta_mul, ta_neg, ta_div]; omega))) only [up_1, cp_1, rng_1, fn_1, dj_1, Nat.reduceEqDiff, false_and, and_false, true_and, and_true, or_true, true_or, or_false, false_or, not_true_eq_false, not_false_eq_true, ↓reduceIte, eq_self, ne_eq, ti_eq, ti_le, ti_lt, ti_ite, Int32.reduceToInt, ta_add, ta_sub, ta_mul, ta_neg, ta_div]; done) | (simp (disch := (first | omega | (simp (disch := first | omega | (simp only [Int32.reduceToInt]; omega)) only [Int32.reduceToInt, ta_add, ta_sub, ta_mul, ta_neg, ta_div]; omega))) only [up_1, cp_1, rng_1, fn_1, dj_1, Nat.reduceEqDiff, false_and, and_false, true_and, and_true, or_true, true_or, or_false, false_or, not_true_eq_false, not_false_eq_true, ↓reduceIte, eq_self, ne_eq, ti_eq, ti_le, ti_lt, ti_ite, Int32.reduceToInt, ta_add, ta_sub, ta_mul, ta_neg, ta_div]; omega)))) | (with_reducible refine wi_ifn ?_ ?_; (focus (first | omega | (simp (disch := (first | omega | (simp (disch := first | omega | (simp only [Int32.reduceToInt]; omega)) only [Int32.reduceToInt, ta_add, ta_sub, ta_mul, ta_neg, ta_div]; omega))) only [up_1, cp_1, rng_1, fn_1, dj_1, Nat.reduceEqDiff, false_and, and_false, true_and, and_true, or_true, true_or, or_false, false_or, not_true_eq_false, not_false_eq_true, ↓reduceIte, eq_self, ne_eq, ti_eq, ti_le, ti_lt, ti_ite, Int32.reduceToInt, ta_add, ta_sub, ta_mul, ta_neg, ta_div]; done) | (simp (disch := (first | omega | (simp (disch := first | omega | (simp only [Int32.reduceToInt]; omega)) only [Int32.reduceToInt, ta_add, ta_sub, ta_mul, ta_neg, ta_div]; omega))) only [up_1, cp_1, rng_1, fn_1, dj_1, Nat.reduceEqDiff, false_and, and_false, true_and, and_true, or_true, true_or, or_false, false_or, not_true_eq_false, not_false_eq_true, ↓reduceIte, eq_self, ne_eq, ti_eq, ti_le, ti_lt, ti_ite, Int32.reduceToInt, ta_add, ta_sub, ta_mul, ta_neg, ta_div]; omega)))) | (with_reducible refine wi_ck ?_ ?_; (focus (first | omega | (simp (disch := (first | omega | (simp (disch := first | omega | (simp only [Int32.reduceToInt]; omega)) only [Int32.reduceToInt, ta_add, ta_sub, ta_mul, ta_neg, ta_div]; omega))) only [up_1, cp_1, rng_1, fn_1, dj_1, Nat.reduceEqDiff, false_and, and_false, true_and, and_true, or_true, true_or, or_false, false_or, not_true_eq_false, not_false_eq_true, ↓reduceIte, eq_self, ne_eq, ti_eq, ti_le, ti_lt, ti_ite, Int32.reduceToInt, ta_add, ta_sub, ta_mul, ta_neg, ta_div]; done) | (simp (disch := (first | omega | (simp (disch := first | omega | (simp only [Int32.reduceToInt]; omega)) only [Int32.reduceToInt, ta_add, ta_sub, ta_mul, ta_neg, ta_div]; omega))) only [up_1, cp_1, rng_1, fn_1, dj_1, Nat.reduceEqDiff, false_and, and_false, true_and, and_true, or_true, true_or, or_false, false_or, not_true_eq_false, not_false_eq_true, ↓reduceIte, eq_self, ne_eq, ti_eq, ti_le, ti_lt, ti_ite, Int32.reduceToInt, ta_add, ta_sub, ta_mul, ta_neg, ta_div]; omega)))) | with_reducible refine wi_bd2 ?_ | with_reducible refine wi_bd1 ?_ | with_reducible refine wi_bd3 ?_ | (with_reducible refine wi_some ?_; try dsimp only) | unfold f_X12_solve | unfold f_X12_fail))
    have o : ∀ a k, ¬ mo_st a k → (ix_di (ix_di d 0 17 (-1001)) 125 0 (-1001)).1 a k = d.1 a k := fun a k hs => by rw [up_1, if_neg (by unfold mo_st at hs; omega), up_1, if_neg (by unfold mo_st at hs; omega)]
    refine ⟨rfl, ?_, ?_, ?_, ?_, lt_rf hlt o rfl, fun a k hs => ⟨o a k (fun q => hs (Or.inl q)), rfl⟩, Or.inl ⟨o _ _ (by unfold mo_st; omega), o _ _ (by unfold mo_st; omega)⟩⟩
    · unfold iv_st
      rw [up_1, if_neg (fun q => absurd q.1 (by decide)), up_1, if_pos ⟨rfl, rfl⟩, up_1, if_pos ⟨rfl, rfl⟩]
    · unfold iv_go
      rw [o 0 14 (by unfold mo_st; omega), o 125 57 (by unfold mo_st; omega)]
      exact igo
    · unfold iv_bn
      rw [o 0 13 (by unfold mo_st; omega), o 125 58 (by unfold mo_st; omega)]
      exact ibn
    · unfold iv_rt
      rw [o 0 15 (by unfold mo_st; omega), o 125 59 (by unfold mo_st; omega)]
      exact irt
end OSV

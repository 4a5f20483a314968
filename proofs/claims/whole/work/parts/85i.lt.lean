/-! AT REST: all of the latest solver -/
section LTR
variable {n : Nat} {z : ix_Z} {c c' r r' r5 D : ix_D2} {u w : Int32 × ix_D2} {T N : Nat}
def lt_ (d : ix_D2) : Prop := lq_ d d ∧ d.1 85 0 = d.1 166 0 ∧
  ((d.1 85 0).toInt = 1 → ∀ m : Nat, 1 ≤ m → (m : Int) ≤ (d.1 161 0).toInt → ((d.1 71 m).toInt = 1 ∧ (d.1 160 m).toInt = 1) ∨ ((d.1 71 m).toInt = -1 ∧ (d.1 160 m).toInt = 0)) ∧
  ((d.1 0 14).toInt = 1 → d.1 52 2 = d.1 162 0 ∧ d.1 125 58 = 0 ∧ h0_60 d ∧ sQ_0 (sz_ (ix_n (d.1 162 0))) d ∧ ∃ rn, R_60 d d rn) ∧
  ((d.1 85 0).toInt = 0 → d.1 0 13 = 0 → ∃ T : Nat, (T : Int) ≤ (d.1 52 2).toInt ∧ co_ d d T ∧ rc_ d d) ∧ rl_ d d
theorem rc_g (h : rc_ c r) (e1 : ∀ a k, 61 ≤ a → a ≤ 64 → c'.1 a k = c.1 a k) (e2 : ∀ a k, 176 ≤ a → a ≤ 178 → r'.1 a k = r.1 a k) : rc_ c' r' := by
  have f61 : c'.1 61 = c.1 61 := funext fun k => e1 _ _ (by omega) (by omega)
  have f62 : c'.1 62 = c.1 62 := funext fun k => e1 _ _ (by omega) (by omega)
  have f63 : c'.1 63 = c.1 63 := funext fun k => e1 _ _ (by omega) (by omega)
  have f64 : c'.1 64 = c.1 64 := funext fun k => e1 _ _ (by omega) (by omega)
  have f176 : r'.1 176 = r.1 176 := funext fun k => e2 _ _ (by omega) (by omega)
  have f177 : r'.1 177 = r.1 177 := funext fun k => e2 _ _ (by omega) (by omega)
  have f178 : r'.1 178 = r.1 178 := funext fun k => e2 _ _ (by omega) (by omega)
  unfold rc_
  rw [f61, f62, f63, f64, f176, f177, f178]
  exact h
theorem rl_g (h : rl_ c r) (e1 : ∀ a k, 61 ≤ a → a ≤ 64 → c'.1 a k = c.1 a k) (e85 : c'.1 85 4 = c.1 85 4) (e2 : ∀ a k, 176 ≤ a → a ≤ 179 → r'.1 a k = r.1 a k) : rl_ c' r' := by
  have f61 : c'.1 61 = c.1 61 := funext fun k => e1 _ _ (by omega) (by omega)
  have f62 : c'.1 62 = c.1 62 := funext fun k => e1 _ _ (by omega) (by omega)
  have f63 : c'.1 63 = c.1 63 := funext fun k => e1 _ _ (by omega) (by omega)
  have f64 : c'.1 64 = c.1 64 := funext fun k => e1 _ _ (by omega) (by omega)
  have f176 : r'.1 176 = r.1 176 := funext fun k => e2 _ _ (by omega) (by omega)
  have f177 : r'.1 177 = r.1 177 := funext fun k => e2 _ _ (by omega) (by omega)
  have f179 : r'.1 179 = r.1 179 := funext fun k => e2 _ _ (by omega) (by omega)
  unfold rl_
  rw [f61, f62, f63, f64, f176, f177, f179, e85]
  exact h
theorem lt_end (hge : ge_60 c r5 u w) (h58 : r5.1 125 58 = 0) (h0 : h0_60 r5) (hsq : sQ_0 (sz_ T) r5) (hT : (T : Int) = (r5.1 162 0).toInt) (dT : (D.1 52 2).toInt = (T : Int))
    (dc : ∀ a k, 60 ≤ a → a ≤ 89 → D.1 a k = u.2.1 a k ∧ D.2 a k = u.2.2 a k)
    (dr : ∀ a k, 125 ≤ a → a ≤ 198 → a ≠ 160 → (a ≠ 166 ∨ k ≠ 0) → (a ≠ 125 ∨ k ≠ 57) → D.1 a k = w.2.1 a k) (dl : ∀ a k, 125 ≤ a → a ≤ 198 → D.2 a k = w.2.2 a k)
    (d166 : D.1 166 0 = w.1) (d14 : D.1 0 14 = if u.1 = -1004 then 1 else 0) (d160 : w.1 = 1 → ∀ m : Nat, 1 ≤ m → (m : Int) ≤ (w.2.1 161 0).toInt → D.1 160 m = w.2.1 167 m) (hco : u.1 = 0 → co_ D D T) : lt_ D := by
  obtain ⟨g1, g2, g3, g4, g5, g6, g7, g8, g9, rn, hor⟩ := hge
  have e162 : D.1 162 0 = r5.1 162 0 := by rw [dr _ _ (by omega) (by omega) (by omega) (by omega) (by omega)]; exact (g3 _ _ (by unfold sq_0; omega)).1
  have e850 : D.1 85 0 = u.1 := by rw [(dc _ _ (by omega) (by omega)).1]; exact g4
  have hsD : sQ_0 (sz_ T) D := by
    have q := g9 _ sz_cl hsq
    refine ⟨fun m w' hm hw => q.1 m w' (by rw [← dr 162 _ (by omega) (by omega) (by omega) (by omega) (by omega)]; exact hm) hw, fun k w' hk hw => ?_, fun i w' hi hl hw => ?_⟩
    · rw [dl _ _ (by omega) (by omega)]
      exact q.2.1 k w' (by rw [← dr 178 _ (by omega) (by omega) (by omega) (by omega) (by omega)]; exact hk) hw
    · rw [dr 173 _ (by omega) (by omega) (by omega) (by omega) (by omega), dr 168 _ (by omega) (by omega) (by omega) (by omega) (by omega)] at hl
      rw [dr 174 _ (by omega) (by omega) (by omega) (by omega) (by omega)] at hi
      rw [dr 173 _ (by omega) (by omega) (by omega) (by omega) (by omega), dl _ _ (by omega) (by omega)]
      exact q.2.2 i w' hi hl hw
  have hlq : ∀ c2, lq_ c2 w.2 → (∀ a k, (a ≠ 85 ∨ k ≠ 0) → u.2.1 a k = c2.1 a k) → u.2.2 = c2.2 → lq_ D D := fun c2 q1 q2 q3 => lq_g q1 (fun a k a1 a2 a3 => by rw [(dc a k a1 a2).1]; exact q2 a k a3) (fun a k a1 a2 => by rw [(dc a k a1 a2).2, q3]) (fun a k a1 a2 a3 a4 a5 => dr a k a1 a2 a3 a4 (by omega)) (fun a k a1 a2 => dl a k a1 a2)
  rcases hor with ⟨hx, hR⟩ | ⟨hx, c1, r1, c2, hR, hh, hnz, hu⟩
  · refine ⟨hlq u.2 (lq_R hR) (fun _ _ _ => rfl) rfl, by rw [e850, d166]; exact g1, fun hs m m1 m2 => ?_, fun hg => ⟨?_, ?_, ?_, ?_, rn, ?_⟩, fun hs => ?_, ?_⟩
    · rw [e850] at hs
      have u1 : u.1 = 1 := Int32.toInt_inj.mp (by rw [hs]; rfl)
      have e161 : D.1 161 0 = w.2.1 161 0 := dr _ _ (by omega) (by omega) (by omega) (by omega) (by omega)
      rw [e161] at m2
      have q1 := d160 (g1.symm.trans u1) m m1 m2
      have hwg := hR.2.2.2.2.2.2.1
      have q2 := g8 u1 m m1 (by rw [hwg.1]; exact m2)
      have m3 : m ≤ 300 := by have := hwg.2.2.1; omega
      have q3 := hR.2.1.2.2 m m3
      rw [show 301 * 0 + m = m by omega] at q3
      have q4 := hR.1.2.2.2.2 m m3
      rw [(dc _ _ (by omega) (by omega)).1, q1, q3]
      rcases q4 with q | q | q
      · exact absurd q q2
      · left; exact ⟨q, by rw [q]; rfl⟩
      · right; exact ⟨q, by rw [q]; rfl⟩
    · exact Int32.toInt_inj.mp (by rw [dT, e162]; exact hT)
    · rw [dr _ _ (by omega) (by omega) (by omega) (by omega) (by omega), (g3 _ _ (by unfold sq_0; omega)).1]; exact h58
    · exact fun q m hm => by
        have q5 := h0 q m (by rw [← e162]; exact hm)
        have e163 : D.1 163 (500 * 0 + m) = r5.1 163 (500 * 0 + m) := by rw [dr _ _ (by omega) (by omega) (by omega) (by omega) (by omega)]; exact (g3 _ _ (by unfold sq_0; omega)).1
        rw [e163]; exact q5
    · have nT : ix_n (D.1 162 0) = T := ni_k (by rw [e162]; exact hT.symm)
      rw [nT]; exact hsD
    · exact R_g60 hR (fun a i a1 a2 => (dc a i a1 a2).1) (fun a i a1 a2 => (dc a i a1 a2).2) (fun a i a1 a2 a3 a4 a5 => dr a i a1 a2 a3 (by omega) (by omega)) (fun a i a1 a2 => dl a i a1 a2)
    · rw [e850] at hs
      rcases hx with q | q | q <;> rw [q] at hs <;> exact absurd hs (by decide)
    · exact rl_g (rl_R hR) (fun a k a1 a2 => (dc a k (by omega) (by omega)).1) (dc _ _ (by omega) (by omega)).1 (fun a k a1 a2 => dr a k (by omega) (by omega) (by omega) (by omega) (by omega))
  · have hcu : ∀ a k, (a ≠ 85 ∨ k ≠ 0) → u.2.1 a k = c2.1 a k := fun a k ha => by rw [hu, up_1, if_neg (by omega)]
    have hlu : u.2.2 = c2.2 := by rw [hu]; rfl
    refine ⟨hlq c2 (lq_N hR hh hnz) hcu hlu, by rw [e850, d166]; exact g1, fun hs => ?_, fun hg => ?_, fun _ _ => ⟨T, by omega, hco hx, ?_⟩, ?_⟩
    · rw [e850, hx] at hs; exact absurd hs (by decide)
    · rw [d14, if_neg (by rw [hx]; decide)] at hg; exact absurd hg (by decide)
    · exact rc_g (rc_N hR hnz) (fun a k a1 a2 => by rw [(dc a k (by omega) (by omega)).1]; exact hcu a k (by omega)) (fun a k a1 a2 => dr a k (by omega) (by omega) (by omega) (by omega) (by omega))
    · exact rl_g (rl_N hR hnz) (fun a k a1 a2 => by rw [(dc a k (by omega) (by omega)).1]; exact hcu a k (by omega)) (by rw [(dc _ _ (by omega) (by omega)).1]; exact hcu _ _ (by omega)) (fun a k a1 a2 => dr a k (by omega) (by omega) (by omega) (by omega) (by omega))
end LTR

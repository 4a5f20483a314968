/-! a run of the latest solver, and its end, on both sides -/
section RUN
variable {n : Nat} {z : ix_Z} {d c r5 : ix_D2} {u w : Int32 × ix_D2} {T g : Nat}
theorem e_hh (hz : ly_z z) (hn : 20000 ≤ n) (hge : ge_60 c r5 u w) (hsq : sQ_0 (sz_ T) r5) (hT : (T : Int) = (r5.1 162 0).toInt) (e52 : (u.2.1 52 2).toInt = (T : Int)) : wp_t (f_X11_heed n z 0 u.1 u.2) (fun t => t.1 = u.1 ∧ t.2.1 0 14 = (if u.1 = -1004 then 1 else 0) ∧ (∀ a k, a ≠ 123 → a ≠ 124 → (a ≠ 0 ∨ (k ≠ 10 ∧ k ≠ 12 ∧ k ≠ 14)) → t.2.1 a k = u.2.1 a k) ∧ t.2.2 = u.2.2 ∧ (u.1 = 0 → co_ t.2 w.2 T)) := by
  obtain ⟨g1, g2, g3, g4, g5, g6, g7, g8, g9, rn, hor⟩ := hge
  rcases hor with ⟨hx, hR⟩ | ⟨hx, c1, r1, c2, hR, hh, hnz, hu⟩
  · have h0 : u.1.toInt ≠ 0 := by rcases hx with q | q | q <;> rw [q] <;> decide
    rw [e_hd1 hz h0]
    refine ⟨_, rfl, rfl, ?_, fun a k h1 h2 h3 => ?_, rfl, fun q => absurd (by rw [q]; rfl) h0⟩
    · show (ix_di u.2 0 14 _).1 0 14 = _
      rw [up_1, if_pos ⟨rfl, rfl⟩]
    · show (ix_di u.2 0 14 _).1 a k = _
      rw [up_1, if_neg (by omega)]
  · have eT : (T : Int) = (w.2.1 162 0).toInt := by rw [(g3 162 0 (by unfold sq_0; omega)).1]; exact hT
    have hs2 := g9 _ sz_cl hsq
    obtain ⟨C, hC⟩ : ∃ C, C = ix_di u.2 0 14 0 := ⟨_, rfl⟩
    have oC : ∀ a k, (a ≠ 0 ∨ k ≠ 14) → C.1 a k = u.2.1 a k := fun a k h => by rw [hC, up_1, if_neg (by omega)]
    have C14 : C.1 0 14 = 0 := by rw [hC, up_1, if_pos ⟨rfl, rfl⟩]
    have hk := co_N (n := n) (c := C) (c2 := c2) hz hn hR hh hnz eT hs2 (fun a k a1 a2 a3 => by rw [oC a k (by omega), hu, up_1, if_neg (by omega)]) (fun a k _ _ => by rw [hC, hu]; rfl) (by rw [oC _ _ (by omega)]; exact e52)
    rw [hx]
    refine e_hd0 hz ?_
    rw [← hC]
    refine wp_m hk (fun c' k => ?_)
    obtain ⟨k1, k2, k3⟩ := k
    refine ⟨rfl, ?_, fun a k h1 h2 h3 => ?_, ?_, fun _ => k3⟩
    · show c'.1 0 14 = _
      rw [k1 _ _ (by omega) (by omega) (by omega), C14, if_neg (by decide)]
    · show c'.1 a k = _
      rw [k1 a k h1 h2 (by omega)]; exact oC a k (by omega)
    · show c'.2 = _
      rw [k2, hC]; rfl
set_option maxHeartbeats 4000000 in
theorem e_run (hz : ly_z z) (hn : 20000 ≤ n) (hg : g ≤ 5000) {S : Nat → Nat → Prop} {V : ix_D2 → ix_D2 → Prop} (hS : ∀ a k, S a k → 125 ≤ a) {REF : ix_D2 → Option (Int32 × ix_D2)} (cT : (c.1 52 2).toInt = (T : Int)) (cd : ∀ a k, 125 ≤ a → a ≤ 198 → c.1 a k = d.1 a k ∧ c.2 a k = d.2 a k)
    (Hst : ∀ m : ix_D2, (∀ a k, 125 ≤ a → a ≤ 198 → m.1 a k = d.1 a k ∧ m.2 a k = d.2 a k) → ∃ (r5 : ix_D2) (rn : Nat → Nat), V m r5 ∧ r5.1 125 58 = 0 ∧ R_60 c r5 rn ∧ h0_60 r5 ∧ sQ_0 (sz_ T) r5 ∧ (r5.1 125 89).toInt = (g : Int) ∧ (T : Int) = (r5.1 162 0).toInt ∧ (0 ≤ (r5.1 161 0).toInt ∧ (r5.1 161 0).toInt ≤ 300) ∧ (∀ a k, ¬ S a k → r5.1 a k = m.1 a k ∧ r5.2 a k = m.2 a k) ∧ ∀ Q : Int32 × ix_D2 → Prop, wp_t (f_X12_solving n z 125 0 r5) (fun t => wp_t (ix_bd2 (f_X12_ended n z 125 t.1 t.2) (fun r d => some (r, d))) Q) → wp_t (REF m) Q) :
    wp_t (f_X9_go n z 60 (nI g) c) (fun u => wp_t (ix_bd2 (f_X11_heed n z 0 u.1 u.2) (fun r d => some (r, d))) (fun t => wp_t (REF t.2) (fun D => t.1 = D.1 ∧ lt_ D.2 ∧ D.2.1 0 14 = D.2.1 125 57 ∧ (D.2.1 0 14 = 0 ∨ D.2.1 0 14 = 1) ∧ (∀ a k, (a < 60 ∨ 89 < a ∨ (76 ≤ a ∧ a ≤ 78)) → a < 125 → a ≠ 123 → a ≠ 124 → (a ≠ 0 ∨ (k ≠ 10 ∧ k ≠ 12 ∧ k ≠ 14)) → D.2.1 a k = c.1 a k) ∧ (∀ a k, (a < 60 ∨ 89 < a ∨ (76 ≤ a ∧ a ≤ 78)) → a < 125 → D.2.2 a k = c.2 a k) ∧ (∀ a k, 125 ≤ a → ¬ S a k → ¬ sq_0 a k → a ≠ 160 → (a ≠ 166 ∨ k ≠ 0) → (a ≠ 125 ∨ k ≠ 57) → D.2.1 a k = c.1 a k) ∧ (∀ a k, 125 ≤ a → ¬ S a k → ¬ sq_0 a k → D.2.2 a k = c.2 a k) ∧ ∃ (m r5 : ix_D2), (∀ a k, 125 ≤ a → a ≤ 198 → m.1 a k = d.1 a k ∧ m.2 a k = d.2 a k) ∧ V m r5 ∧ (∀ a k, ¬ sq_0 a k → a ≠ 160 → (a ≠ 166 ∨ k ≠ 0) → (a ≠ 125 ∨ k ≠ 57) → D.2.1 a k = r5.1 a k)))) := by
  obtain ⟨ra, rna, a0, a58, a1, a2, a3, a4, a5, a6, a7, a8⟩ := Hst c cd
  obtain ⟨u, hu, w1, hw1, hge1⟩ := e_gt60 (n := n) hz hn a1 a2 hg a4
  have fcu : ∀ a k, (a < 60 ∨ 89 < a ∨ (76 ≤ a ∧ a ≤ 78)) → u.2.1 a k = c.1 a k ∧ u.2.2 a k = c.2 a k := fun a k h => hge1.2.1 a k h
  have u52 : (u.2.1 52 2).toInt = (T : Int) := by rw [(fcu _ _ (by omega)).1]; exact cT
  obtain ⟨t, ht, t1, t2, t3, t4, t5⟩ := e_hh (n := n) hz hn hge1 a3 a5 u52
  refine ⟨u, hu, ?_⟩
  refine wi_bd2 ⟨t, ht, wi_some ?_⟩
  have tm : ∀ a k, 125 ≤ a → t.2.1 a k = c.1 a k ∧ t.2.2 a k = c.2 a k := fun a k h1 => by
    rw [t3 a k (by omega) (by omega) (by omega), t4]
    exact fcu a k (by omega)
  have tmd : ∀ a k, 125 ≤ a → a ≤ 198 → t.2.1 a k = d.1 a k ∧ t.2.2 a k = d.2 a k := fun a k h1 h2 => by
    rw [(tm a k h1).1, (tm a k h1).2]
    exact cd a k h1 h2
  obtain ⟨r5, rn, b0, b58, b1, b2, b3, b4, b5, b6, b7, b8⟩ := Hst t.2 tmd
  obtain ⟨u', hu', w, hw, hge⟩ := e_gt60 (n := n) hz hn b1 b2 hg b4
  have eu : u' = u := Option.some.inj (hu'.symm.trans hu)
  subst eu
  obtain ⟨t', ht', s1, s2, s3, s4, s5⟩ := e_hh (n := n) hz hn hge b3 b5 u52
  have et : t' = t := Option.some.inj (ht'.symm.trans ht)
  subst et
  have fqw : ∀ a k, ¬ sq_0 a k → w.2.1 a k = r5.1 a k ∧ w.2.2 a k = r5.2 a k := fun a k h => hge.2.2.1 a k h
  have e161 : w.2.1 161 0 = r5.1 161 0 := (fqw _ _ (by unfold sq_0; omega)).1
  obtain ⟨N, hN⟩ : ∃ N : Nat, (w.2.1 161 0).toInt = (N : Int) := ⟨ix_n (w.2.1 161 0), (ni_c (by rw [e161]; exact b6.1)).symm⟩
  refine b8 _ ⟨w, hw, ?_⟩
  obtain ⟨D, hD, d1, d2, d3, d4, d5, d6⟩ := e_ed (n := n) (x := w.1) (r := w.2) hz hn hN (by have := b6.2; rw [← e161] at this; omega)
  refine wi_bd2 ⟨D, hD, wi_some ?_⟩
  have e11 : u'.1 = w.1 := hge.1
  have nsq : ∀ a k, a < 125 → ¬ sq_0 a k := fun a k h q => by unfold sq_0 at q; omega
  have nS : ∀ a k, a < 125 → ¬ S a k := fun a k h q => by have := hS a k q; omega
  have Dc : ∀ a k, a < 125 → D.2.1 a k = t'.2.1 a k ∧ D.2.2 a k = t'.2.2 a k := fun a k h => by
    rw [d3 a k (by omega) (by omega) (by omega), d2, (fqw a k (nsq a k h)).1, (fqw a k (nsq a k h)).2]
    exact b7 a k (nS a k h)
  have D14 : D.2.1 0 14 = (if u'.1 = -1004 then 1 else 0) := by rw [(Dc _ _ (by omega)).1]; exact s2
  have D57 : D.2.1 125 57 = (if u'.1 = -1004 then 1 else 0) := by rw [d5, e11]
  refine ⟨by show t'.1 = D.1; rw [s1, d1]; exact e11, lt_end hge b58 b2 b3 b5 (by rw [(Dc _ _ (by omega)).1, s3 _ _ (by omega) (by omega) (by omega)]; exact u52) (fun a k h1 h2 => by
      rw [(Dc a k (by omega)).1, (Dc a k (by omega)).2, s3 a k (by omega) (by omega) (by omega), s4]
      exact ⟨rfl, rfl⟩) (fun a k h1 h2 h3 h4 h5 => d3 a k h3 h4 h5) (fun a k h1 h2 => by rw [d2]) d4 D14 (fun q m m1 m2 => d6 q m m1 (by omega)) (fun q => ?_), by show D.2.1 0 14 = D.2.1 125 57; rw [D14, D57], ?_, fun a k h1 h2 h3 h4 h5 => ?_, fun a k h1 h2 => ?_, fun a k h1 h2 h3 h4 h5 h6 => ?_, fun a k h1 h2 h3 => ?_, t'.2, r5, tmd, b0, fun a k h1 h2 h3 h4 => ?_⟩
  · obtain ⟨C, Y, c1, c2, c3, c4, c5, c6, c7, c8, c9⟩ := s5 q
    have E1 : ∀ a k, (a = 0 ∨ a = 123 ∨ a = 124) → D.2.1 a k = t'.2.1 a k := fun a k h => (Dc a k (by omega)).1
    have E2 : ∀ a k, (a = 189 ∨ a = 190 ∨ a = 161 ∨ (a = 125 ∧ (k = 94 ∨ k = 96))) → D.2.1 a k = w.2.1 a k := fun a k h => d3 a k (by omega) (by omega) (by omega)
    have f123 : D.2.1 123 = t'.2.1 123 := funext fun k => E1 _ _ (by omega)
    have f124 : D.2.1 124 = t'.2.1 124 := funext fun k => E1 _ _ (by omega)
    have f0 : D.2.1 0 = t'.2.1 0 := funext fun k => E1 _ _ (by omega)
    have f189 : D.2.1 189 = w.2.1 189 := funext fun k => E2 _ _ (by omega)
    have f190 : D.2.1 190 = w.2.1 190 := funext fun k => E2 _ _ (by omega)
    have f161 : D.2.1 161 = w.2.1 161 := funext fun k => E2 _ _ (by omega)
    refine ⟨C, Y, c1, c2, ?_, ?_, ?_, ?_, ?_, ?_, ?_⟩
    · rw [f0]; exact c3
    · rw [E2 125 94 (by omega)]; exact c4
    · rw [f123, f189]; exact c5
    · rw [f189]; exact c6
    · rw [f0]; exact c7
    · rw [E2 125 96 (by omega)]; exact c8
    · rw [f124, f190, f161]; exact c9
  · show D.2.1 0 14 = 0 ∨ D.2.1 0 14 = 1
    rw [D14]
    split
    · exact Or.inr rfl
    · exact Or.inl rfl
  · show D.2.1 a k = _
    rw [(Dc a k h2).1, s3 a k h3 h4 h5]
    exact (fcu a k h1).1
  · show D.2.2 a k = _
    rw [(Dc a k h2).2, s4]
    exact (fcu a k h1).2
  · show D.2.1 a k = _
    rw [d3 a k h4 h5 h6, (fqw a k h3).1, (b7 a k h2).1]
    exact (tm a k h1).1
  · show D.2.2 a k = _
    rw [d2, (fqw a k h3).2, (b7 a k h2).2]
    exact (tm a k h1).2
  · show D.2.1 a k = _
    rw [d3 a k h2 h3 h4]
    exact (fqw a k h1).1
end RUN

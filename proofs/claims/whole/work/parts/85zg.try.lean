/-! one try: both sides -/
section TRE
variable {n : Nat} {z : ix_Z} {d c c1 r r0 : ix_D2} {x y x1 x2 x3 : Int32} {P Pi : Nat → Bool} {N T C Y g : Nat}
/-- shrinking under way -/
def sk_ (d r0 c r : ix_D2) (T C Y g : Nat) : Prop := (∀ a k, (a < 90 ∨ 119 < a ∨ (106 ≤ a ∧ a ≤ 108)) → (a ≠ 0 ∨ (k ≠ 10 ∧ k ≠ 12)) → a ≠ 123 → a ≠ 124 → c.1 a k = d.1 a k) ∧ (∀ a k, (a < 90 ∨ 119 < a ∨ (106 ≤ a ∧ a ≤ 108)) → c.2 a k = d.2 a k) ∧ 0 ≤ (c.1 92 2).toInt ∧ (c.1 94 0).toInt = 0 ∧ (∀ a k, ¬ pq_q1 a k → a ≠ 189 → a ≠ 190 → (a ≠ 125 ∨ (k ≠ 94 ∧ k ≠ 96)) → r.1 a k = r0.1 a k) ∧ (∀ a k, ¬ pq_q1 a k → r.2 a k = r0.2 a k) ∧ r.1 125 66 = 0 ∧ C ≤ T ∧ Y ≤ 20 ∧ (c.1 0 10).toInt = (C : Int) ∧ (r.1 125 94).toInt = (C : Int) ∧ (∀ k, k < C → c.1 123 k = r.1 189 k ∧ 0 ≤ (r.1 189 k).toInt ∧ (r.1 189 k).toInt < (T : Int)) ∧ (∀ i k, i < k → k < C → (r.1 189 i).toInt < (r.1 189 k).toInt) ∧ (c.1 0 12).toInt = (Y : Int) ∧ (r.1 125 96).toInt = (Y : Int) ∧ (∀ k, k < Y → c.1 124 k = r.1 190 k ∧ (r.1 190 k).toInt ≠ 0 ∧ (ix_n (ix_abs (r.1 190 k)) : Int) ≤ (d.1 161 0).toInt ∧ -300 ≤ (r.1 190 k).toInt ∧ (r.1 190 k).toInt ≤ 300) ∧ (r.1 125 89).toInt = (g : Int)
set_option maxHeartbeats 4000000 in
theorem e_at (hz : ly_z z) (hn : 20000 ≤ n) (inm : iv_nm d.1) (ibg : iv_bg d.1) (iwt : iv_wt d.1) (ics : iv_cs d.1) (itn : (d.1 161 0).toInt ≤ (d.1 125 1).toInt) (hN : (d.1 51 5).toInt = N) (hT : (T : Int) ≤ (d.1 52 2).toInt) (hr0 : ∀ a k, 125 ≤ a → a ≤ 198 → (a ≠ 125 ∨ k ≠ 89) → r0.1 a k = d.1 a k) (hg : g ≤ 5000) (hs : sk_ d r0 c r T C Y g) (h1 : tr_ P Pi c c1 N C Y) (hP : ∀ m, m < C → (P m = true ↔ ¬ nI m = x1 ∧ (x3.toInt < 0 ∨ (x3 >>> (nI m &&& 31)) &&& 1 = 1))) (hPi : ∀ m, m < Y → (Pi m = true ↔ ¬ nI m = x2)) : wp_t (f_X12_tried n z 125 x1 x2 x3 r) (fun w => ∃ u, f_X9_go n z 90 (nI g) c1 = some u ∧ u.1 = w.1 ∧ (u.1 = 1 ∨ u.1 = 0 ∨ u.1.toInt < 0) ∧ ∃ g', g' ≤ 5000 ∧ nI g - u.2.1 115 1 = nI g' ∧ sk_ d r0 u.2 w.2 T C Y g') := by
  obtain ⟨k1, k2, k3, k4, k5, k6, k7, k8, k9, k10, k11, k12, k13, k14, k15, k16, k17⟩ := hs
  obtain ⟨n1, n2, n3⟩ := inm
  obtain ⟨i1, i2, i3, i4⟩ := ics
  have hN2 : N ≤ 300 := by rw [n1] at hN; omega
  have hT5 := i1.2.1
  obtain ⟨TT, hTT⟩ : ∃ TT : Nat, (TT : Int) = (d.1 52 2).toInt := ⟨ix_n (d.1 52 2), ni_c i1.1⟩
  have E : ∀ a, (a < 90 ∧ a ≠ 0) → c.1 a = d.1 a := fun a h => funext fun i => k1 a i (by omega) (by omega) (by omega) (by omega)
  have rd : ∀ a i, 125 ≤ a → a ≤ 160 → (a ≠ 125 ∨ (i ≠ 66 ∧ i ≠ 67 ∧ i ≠ 89 ∧ i ≠ 94 ∧ i ≠ 96 ∧ (i < 97 ∨ 106 < i))) → r.1 a i = d.1 a i := fun a i q1 q2 q3 => by rw [k5 a i (fun q => by unfold pq_q1 sq_q1 at q; omega) (by omega) (by omega) (by omega)]; exact hr0 a i q1 (by omega) (by omega)
  have r126 : r.1 126 = d.1 126 := funext fun i => rd _ _ (by omega) (by omega) (by omega)
  have r143 : r.1 143 = d.1 143 := funext fun i => rd _ _ (by omega) (by omega) (by omega)
  have r144 : r.1 144 = d.1 144 := funext fun i => rd _ _ (by omega) (by omega) (by omega)
  have r1' : r.1 125 1 = d.1 125 1 := rd _ _ (by omega) (by omega) (by omega)
  have r23 : r.1 125 23 = d.1 125 23 := rd _ _ (by omega) (by omega) (by omega)
  have r30 : r.1 125 30 = d.1 125 30 := rd _ _ (by omega) (by omega) (by omega)
  have r31 : r.1 125 31 = d.1 125 31 := rd _ _ (by omega) (by omega) (by omega)
  have ccw : cw_ c.1 := by unfold cw_ rw_ok; rw [E 52 (by omega), E 53 (by omega), E 54 (by omega)]; exact i1
  refine e_tr (C := C) (Y := Y) (P := P) (Pi := Pi) hz hn k11 (by omega) (fun k hk => ⟨(k12 k hk).2.1, by have := (k12 k hk).2.2; omega⟩) k13 k15 k9 hP hPi (fun r1 r' hp v89 hq => ?_)
  have fcc : fc_90 c c1 := h1.2.2.2.2.2.2.2.2.2.2.2.2.2.2.2.2.2.2.2.2
  have c115 : c1.1 115 1 = 0 := h1.2.2.2.2.2.2.2.2.2.2.2.2.2.2.2.2.1 1 (by omega)
  have p16 := hp.2.2.2.2.2.2.2.2.2.2.2.2.2.2.2
  have p5 := hp.2.2.2.2.1
  have b4 := hq.2.2.2.1
  have b5 := hq.2.2.2.2
  obtain ⟨R1, R2⟩ := R_tr90 (T := TT) h1 hp hq (by rw [E 51 (by omega)]; exact hN) hN2 (by rw [E 52 (by omega)]; exact hTT) (by rw [E 51 (by omega), r1']; exact n1) (by rw [E 51 (by omega), r30, r31]; exact ibg) (by rw [E 55 (by omega), r126]; exact iwt) ccw (by rw [E 52 (by omega), r23]; exact i2) (by rw [r23, r143, E 54 (by omega)]; exact i3) (by rw [E 54 (by omega), E 52 (by omega), r144, E 53 (by omega), r1']; exact i4) (by omega) k9 (fun k hk => ⟨(k12 k hk).1, (k12 k hk).2.1, by have := (k12 k hk).2.2; omega⟩) k13 (fun k hk => ⟨(k16 k hk).1, (k16 k hk).2.1, by rw [r1']; have := (k16 k hk).2.2.1; omega, (k16 k hk).2.2.2⟩)
  have h89 : (r'.1 125 89).toInt = (g : Int) := by rw [b4 _ _ (by omega) (by omega) (by omega), v89]; exact k17
  obtain ⟨u, hu, w, hw, hge⟩ := e_gt90 (n := n) hz hn R1 R2 (g := g) hg h89
  obtain ⟨s1, s2, s3, s4⟩ := bs_90 hge
  obtain ⟨q1, q2, q3, q4, q5, q6, q7, _⟩ := hge
  have r5g : r'.1 125 89 = nI g := Int32.toInt_inj.mp (by rw [h89, nI_ti (by omega)])
  rw [r5g, c115] at q5
  obtain ⟨g', hg'⟩ : ∃ g' : Nat, (w.2.1 125 89).toInt = (g' : Int) := ⟨ix_n (w.2.1 125 89), (ni_c q6).symm⟩
  have hgg : g' ≤ 5000 := by rw [h89] at q7; omega
  have hsub : nI g - u.2.1 115 1 = nI g' := (i3_s q5).trans (Int32.toInt_inj.mp (by rw [hg', nI_ti (by omega)]))
  have wr : ∀ a i, ¬ pq_q1 a i → w.2.1 a i = r.1 a i ∧ w.2.2 a i = r.2 a i := fun a i q => by
    have qs : ¬ sq_q1 a i := fun h => q (Or.inr (Or.inr (Or.inr (Or.inr h))))
    rw [(q3 a i qs).1, (q3 a i qs).2, b5, b4 a i (by unfold pq_q1 at q; omega) (by unfold pq_q1 at q; omega) (by unfold pq_q1 at q; omega)]
    exact p16 a i q
  have cu : ∀ a i, (a < 90 ∨ 119 < a ∨ (106 ≤ a ∧ a ≤ 108)) → u.2.1 a i = c.1 a i ∧ u.2.2 a i = c.2 a i := fun a i q => by rw [(q2 a i q).1, (q2 a i q).2]; exact fcc a i q
  have w189 : ∀ i, w.2.1 189 i = r.1 189 i := fun i => (wr _ _ (fun q => by unfold pq_q1 sq_q1 at q; omega)).1
  have w190 : ∀ i, w.2.1 190 i = r.1 190 i := fun i => (wr _ _ (fun q => by unfold pq_q1 sq_q1 at q; omega)).1
  refine ⟨w, hw, u, hu, q1, s4, g', hgg, hsub, fun a i x1 x2 x3 x4 => by rw [(cu a i x1).1]; exact k1 a i x1 x2 x3 x4, fun a i x1 => by rw [(cu a i x1).2]; exact k2 a i x1, s1, s2, fun a i x1 x2 x3 x4 => by rw [(wr a i x1).1]; exact k5 a i x1 x2 x3 x4, fun a i x1 => by rw [(wr a i x1).2]; exact k6 a i x1, ?_, k8, k9, by rw [(cu _ _ (by omega)).1]; exact k10, by rw [(wr _ _ (fun q => by unfold pq_q1 sq_q1 at q; omega)).1]; exact k11, fun k hk => by rw [(cu _ _ (by omega)).1, w189]; exact k12 k hk, fun i k x1 x2 => by rw [w189, w189]; exact k13 i k x1 x2, by rw [(cu _ _ (by omega)).1]; exact k14, by rw [(wr _ _ (fun q => by unfold pq_q1 sq_q1 at q; omega)).1]; exact k15, fun k hk => by rw [(cu _ _ (by omega)).1, w190]; exact k16 k hk, hg'⟩
  rw [(q3 _ _ (fun q => by unfold sq_q1 at q; omega)).1, b4 _ _ (by omega) (by omega) (by omega)]
  exact (p5 rfl).1
end TRE

/-! A RULE CALLED: the invariant again -/
section JRU
variable {j : Nat} {z : ix_Z} {d : ix_D2} {t : Int32 × ix_Z × ix_D2} {u : Int32 × ix_D2}
theorem RF_L (h : RF_ z d t u) : RL_ z d t u := by
  obtain ⟨h1, h2, h3, h4, h5, h6, h7, h8, h9, h10, ⟨r1, r2, r3, r4, r5, r6⟩, h12⟩ := h
  exact ⟨h1, h2, h3, h4, h5, h6, h7, h8, h9, fz_m h10 (fun a k q => Or.inl q), ⟨r1, r2, r3, r4, r5, fun i hi hi2 => ⟨Or.inl trivial, (r6 i hi hi2).2⟩⟩, h12⟩
/-- what a told rule, or another, leaves alone -/
theorem tl_n {Z a k : Nat} (hZ : 199 ≤ Z) (h1 : a ≠ 53 ∧ a ≠ 54) (h3 : a ≠ 58) (h4 : ¬ (a = 52 ∧ k = 2)) (h5 : ¬ (a = 51 ∧ (k = 5 ∨ k = 10 ∨ k = 11))) (h6 : a < 199) (h7 : ¬ (a = 0 ∧ (k = 5 ∨ k = 14 ∨ k = 17))) (h8 : ¬ (132 ≤ a ∧ a ≤ 144)) (h9 : ¬ (150 ≤ a ∧ a ≤ 157)) (h10 : ¬ (47 ≤ a ∧ a ≤ 50)) (h11 : ¬ (a = 43 ∧ (k = 1 ∨ k = 7 ∨ (11 ≤ k ∧ k ≤ 16)))) (h12 : ¬ (a = 125 ∧ (k = 0 ∨ k = 1 ∨ k = 8 ∨ k = 11 ∨ k = 23 ∨ k = 36 ∨ k = 37 ∨ k = 38 ∨ k = 40 ∨ k = 42 ∨ k = 46 ∨ (49 ≤ k ∧ k ≤ 52)))) (h13 : ¬ (a = 125 ∧ (k = 54 ∨ k = 57))) : ¬ mo_tl Z a k := fun w => by
  rcases w with ((w | w | w) | w | w | w | w | w) | w | w | w | w | w | w
  · unfold fL_C at w; omega
  · omega
  · omega
  · omega
  · omega
  · omega
  · omega
  · omega
  · unfold fT_C at w; omega
  · omega
  · unfold fT_R at w; omega
  · omega
  · omega
  · omega
theorem lt_rn (hz : ly_z z) (h : lt_ d) (ics : iv_cs d.1) (hl : RL_ z d t u) : lt_ u.2 := by
  have hz3 := hz.2.2
  obtain ⟨-, -, -, -, -, -, -, -, -, fz, -, hle, hrn⟩ := hl
  have o : ∀ a k, su_lz a k → u.2.1 a k = d.1 a k ∧ u.2.2 a k = d.2 a k := fun a k q => fz a k (fun w => by
    unfold su_lz at q
    rcases w with ((w | w | w) | w | w | w | w | w) | w | w | w | w | w | w
    · unfold fL_C at w; omega
    · omega
    · omega
    · omega
    · omega
    · omega
    · omega
    · omega
    · unfold fT_C at w; omega
    · omega
    · unfold fT_R at w; omega
    · omega
    · omega
    · omega)
  rcases hrn with h14 | ⟨e14, e52, e143, e144⟩
  · exact lt_z h h14 hle o
  · have q0 : ∀ a k, (q0i a k ∧ a ≠ 143 ∧ a ≠ 144) ∨ q0l a k → u.2.1 a k = d.1 a k ∧ u.2.2 a k = d.2 a k := fun a k q => fz a k (fun w => by
      unfold q0i q0l at q
      rcases w with ((w | w | w) | w | w | w | w | w) | w | w | w | w | w | w
      · unfold fL_C at w; omega
      · omega
      · omega
      · omega
      · omega
      · omega
      · omega
      · omega
      · unfold fT_C at w; omega
      · omega
      · unfold fT_R at w; omega
      · omega
      · omega
      · omega)
    have oi : ∀ a k, su_lz a k → u.2.1 a k = d.1 a k := fun a k q => (o a k q).1
    refine lt_k2 h (fun a k a1 a2 a3 => o a k (by unfold su_lz; omega)) (fun hg => ?_) (fun a i q w => ?_) (fun i hi => (o 171 i (by unfold su_lz; omega)).2) (fun i => oi _ _ (by unfold su_lz; omega)) (oi _ _ (by unfold su_lz; omega)) (fun h0 h13 => ?_)
    · rw [e14] at hg
      have t1 := (h.2.2.2.1 hg).1
      have nT : ix_n (d.1 162 0) = ix_n (d.1 52 2) := by rw [t1]
      have hT := rw_t ics.1
      have e54 : ∀ k : Nat, (k : Int) ≤ (d.1 52 2).toInt → d.1 143 k = d.1 54 k := fun k hk => ics.2.2.1 k (by rw [← ics.2.1]; exact hk)
      refine ⟨hg, e52, fun a i q q1 q2 => (q0 a i (Or.inl ⟨q, q1, q2⟩)).1, fun a i q => (q0 a i (Or.inr q)).2, fun k hk => e143 k (by rw [t1]; exact hk), fun p hp => e144 p ?_, fun k hk => ?_⟩
      · rw [nT, e54 _ (by omega)] at hp; exact hp
      · rw [← t1] at hk
        rw [nT, e54 _ (by omega), e54 _ (by omega)]
        exact rw_m ics.1 (k := k + 1) (l := ix_n (d.1 52 2)) (by omega) (by omega)
    · exact oi a i (by unfold q0i at q; unfold su_lz; omega)
    · refine ⟨by rw [← oi 0 13 (by unfold su_lz; omega)]; exact h13, fun ⟨T, hT, hc⟩ => ⟨T, by omega, ?_⟩⟩
      have f123 : u.2.1 123 = d.1 123 := funext fun k => oi _ _ (by unfold su_lz; omega)
      have f124 : u.2.1 124 = d.1 124 := funext fun k => oi _ _ (by unfold su_lz; omega)
      have f189 : u.2.1 189 = d.1 189 := funext fun k => oi _ _ (by unfold su_lz; omega)
      have f190 : u.2.1 190 = d.1 190 := funext fun k => oi _ _ (by unfold su_lz; omega)
      unfold co_
      rw [f123, f124, f189, f190, oi 0 10 (by unfold su_lz; omega), oi 0 12 (by unfold su_lz; omega), oi 125 94 (by unfold su_lz; omega), oi 125 96 (by unfold su_lz; omega), oi 161 0 (by unfold su_lz; omega)]
      exact hc
theorem J_r (h : J_ j z d) (hl : RL_ z d t u) (tp : iv_tp u.2.1) (tt : iv_tt t.2.1 u.2.1) (td : iv_td t.2.1 u.2.1) : J_ (j + 1) t.2.1 u.2 := by
  obtain ⟨hz, ist, inm, igo, ibg, iwt, ias, ict, ics, ibn, iru, irt, ibr, ipf, ibs, itn, hlt, ipap, itp, itb, iou, ick, int, idr, iwd, itt, itd, isp, iyn⟩ := h
  have hl' := lt_rn hz hlt ics hl
  obtain ⟨-, l2, l3, l4, l5, l6, l7, l8, mo, fz, ro, -⟩ := hl
  have hz3 := hz.2.2
  have o : ∀ a k, ¬ (mo_tl z.2.2 a k) → u.2.1 a k = d.1 a k := fun a k q => (fz a k q).1
  refine ⟨l2, l3, l4, l5, ?_, ?_, ?_, ?_, l6, ?_, l7, ?_, ?_, ?_, ?_, ?_, hl', ?_, tp, ?_, ?_, ?_, ?_, l8, ?_, tt, td, sp_ru iru isp ro, ?_⟩
  · rw [iv_bg_c (f := d.1) (fun a k q => by unfold su_bg at q; exact o a k (tl_n hz3 (by omega) (by omega) (by omega) (by omega) (by omega) (by omega) (by omega) (by omega) (by omega) (by omega) (by omega) (by omega)))]; exact ibg
  · rw [iv_wt_c (f := d.1) (fun a k q => by unfold su_wt at q; exact o a k (tl_n hz3 (by omega) (by omega) (by omega) (by omega) (by omega) (by omega) (by omega) (by omega) (by omega) (by omega) (by omega) (by omega)))]; exact iwt
  · exact k_as ias (fun a k q => by unfold su_as2 at q; exact o a k (tl_n hz3 (by omega) (by omega) (by omega) (by omega) (by omega) (by omega) (by omega) (by omega) (by omega) (by omega) (by omega) (by omega))) mo
  · rw [iv_ct_c (f := d.1) (fun a k q => by unfold su_ct at q; exact o a k (tl_n hz3 (by omega) (by omega) (by omega) (by omega) (by omega) (by omega) (by omega) (by omega) (by omega) (by omega) (by omega) (by omega)))]; exact ict
  · exact k_bn ibn (fun a k q => by unfold su_bn at q; exact o a k (tl_n hz3 (by omega) (by omega) (by omega) (by omega) (by omega) (by omega) (by omega) (by omega) (by omega) (by omega) (by omega) (by omega)))
  · exact k_rt irt (fun a k q => by unfold su_rt at q; exact o a k (tl_n hz3 (by omega) (by omega) (by omega) (by omega) (by omega) (by omega) (by omega) (by omega) (by omega) (by omega) (by omega) (by omega)))
  · exact k_br ibr (fun a k q => by unfold su_br at q; exact o a k (tl_n hz3 (by omega) (by omega) (by omega) (by omega) (by omega) (by omega) (by omega) (by omega) (by omega) (by omega) (by omega) (by omega))) (by rw [o _ _ (tl_n hz3 (by omega) (by omega) (by omega) (by omega) (by omega) (by omega) (by omega) (by omega) (by omega) (by omega) (by omega) (by omega))]; exact ibr.2.2.2.1) mo
  · exact k_pf ipf (fun a k q => by unfold su_pf at q; exact o a k (tl_n hz3 (by omega) (by omega) (by omega) (by omega) (by omega) (by omega) (by omega) (by omega) (by omega) (by omega) (by omega) (by omega)))
  · exact k_bs ibs (fun a k q => by unfold su_bs at q; exact o a k (tl_n hz3 (by omega) (by omega) (by omega) (by omega) (by omega) (by omega) (by omega) (by omega) (by omega) (by omega) (by omega) (by omega)))
  · rw [o 161 0 (tl_n hz3 (by omega) (by omega) (by omega) (by omega) (by omega) (by omega) (by omega) (by omega) (by omega) (by omega) (by omega) (by omega))]; omega
  · exact k_pap ipap (fun a k q => by unfold su_pap at q; exact o a k (tl_n hz3 (by omega) (by omega) (by omega) (by omega) (by omega) (by omega) (by omega) (by omega) (by omega) (by omega) (by omega) (by omega)))
  · exact k_tb itb (fun k => o _ _ (tl_n hz3 (by omega) (by omega) (by omega) (by omega) (by omega) (by omega) (by omega) (by omega) (by omega) (by omega) (by omega) (by omega)))
  · rw [iv_out_c (f := d.1) (fun a k q => by unfold su_out at q; exact o a k (tl_n hz3 (by omega) (by omega) (by omega) (by omega) (by omega) (by omega) (by omega) (by omega) (by omega) (by omega) (by omega) (by omega)))]; exact iou
  · rw [iv_ck_c (f := d.1) (fun a k q => by unfold su_ck at q; exact o a k (tl_n hz3 (by omega) (by omega) (by omega) (by omega) (by omega) (by omega) (by omega) (by omega) (by omega) (by omega) (by omega) (by omega)))]; exact ick
  · exact k_nt int (fun a k q => by unfold su_nt at q; exact o a k (tl_n hz3 (by omega) (by omega) (by omega) (by omega) (by omega) (by omega) (by omega) (by omega) (by omega) (by omega) (by omega) (by omega)))
  · exact k_wd iwd (fun k => o _ _ (tl_n hz3 (by omega) (by omega) (by omega) (by omega) (by omega) (by omega) (by omega) (by omega) (by omega) (by omega) (by omega) (by omega)))
  · obtain ⟨y1, y2⟩ := iyn
    obtain ⟨r1, r2, r3, r4, r5, r6⟩ := ro
    have e59 : u.2.1 125 59 = d.1 125 59 := o _ _ (tl_n hz3 (by omega) (by omega) (by omega) (by omega) (by omega) (by omega) (by omega) (by omega) (by omega) (by omega) (by omega) (by omega))
    have e161 : u.2.1 161 0 = d.1 161 0 := o _ _ (tl_n hz3 (by omega) (by omega) (by omega) (by omega) (by omega) (by omega) (by omega) (by omega) (by omega) (by omega) (by omega) (by omega))
    refine ⟨by rw [e59]; omega, fun i hi jj hj => ?_⟩
    rw [e59] at hi
    obtain ⟨p1, p2, p3, p4⟩ := r5 i (by omega)
    rw [p3] at hj
    obtain ⟨c, N, hg⟩ := iru.2.2.2 i (by omega)
    have hN := hg.2.2.2.2.2.1
    have hN3 := hg.2.2.2.2.2.2.1
    rw [p4 jj (by omega), e161]
    exact y2 i hi jj hj
end JRU

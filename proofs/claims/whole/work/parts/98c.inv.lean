/-! THE INVARIANT of a run of calls -/
def su_pap (a _ : Nat) : Prop := (2 ≤ a ∧ a ≤ 42) ∨ a = 128 ∨ a = 129
def su_as2 (a k : Nat) : Prop := (a = 51 ∧ k = 7) ∨ (a = 125 ∧ k = 29) ∨ a = 57 ∨ a = 146
def su_cs (a k : Nat) : Prop := (a = 52 ∧ k = 2) ∨ a = 53 ∨ a = 54 ∨ (a = 125 ∧ k = 23) ∨ a = 143 ∨ a = 144
def su_bn (a k : Nat) : Prop := (a = 0 ∧ k = 13) ∨ (a = 125 ∧ k = 58)
def su_rt (a k : Nat) : Prop := (a = 0 ∧ k = 15) ∨ (a = 125 ∧ k = 59)
def su_br (a k : Nat) : Prop := (76 ≤ a ∧ a ≤ 78) ∨ (a = 147 ∧ k < 64) ∨ (a = 148 ∧ k < 1280) ∨ (a = 125 ∧ k = 32)
def su_pf (a k : Nat) : Prop := a = 120 ∨ a = 121 ∨ a = 122 ∨ a = 196 ∨ a = 197 ∨ (a = 125 ∧ k = 108)
def su_bs (a k : Nat) : Prop := (a = 92 ∧ k = 2) ∨ (a = 94 ∧ k = 0) ∨ (a = 106 ∧ k = 2) ∨ (a = 108 ∧ k = 0)
def su_lt (a k : Nat) : Prop := (60 ≤ a ∧ a ≤ 89 ∧ (a < 76 ∨ 78 < a)) ∨ (a = 0 ∧ (k = 10 ∨ k = 12 ∨ k = 13 ∨ k = 14)) ∨ (a = 52 ∧ k = 2) ∨ a = 123 ∨ a = 124 ∨ a = 189 ∨ a = 190 ∨ (a = 125 ∧ (k = 94 ∨ k = 96)) ∨ q0i a k ∨ q0l a k ∨ a = 160 ∨ (a = 166 ∧ k = 0)
def su_ru (a k : Nat) : Prop := (a = 0 ∧ k = 5) ∨ (a = 125 ∧ k = 11) ∨ (132 ≤ a ∧ a ≤ 142) ∨ 199 ≤ a
def su_yn (a k : Nat) : Prop := (a = 125 ∧ (k = 59 ∨ k = 11)) ∨ a = 135 ∨ a = 136 ∨ (a = 161 ∧ k = 0)
def J_ (j : Nat) (z : ix_Z) (d : ix_D2) : Prop := ly_z z ∧ iv_st d.1 ∧ iv_nm d.1 ∧ iv_go d.1 ∧ iv_bg d.1 ∧ iv_wt d.1 ∧ iv_as d.1 ∧ iv_ct d.1 ∧ iv_cs d.1 ∧ iv_bn d.1 ∧ iv_ru z d.1 ∧ iv_rt d.1 ∧ iv_br d.1 ∧ iv_pf d.1 ∧ iv_bs d.1 ∧ (d.1 161 0).toInt ≤ (d.1 125 1).toInt ∧ lt_ d ∧ iv_pap d.1 ∧ iv_tp d.1 ∧ iv_tb d.1 ∧ iv_out d.1 ∧ iv_ck d.1 ∧ iv_nt j d.1 ∧ iv_dr d.1 ∧ iv_wd d.1 ∧ iv_tt z d.1 ∧ iv_td z d.1 ∧ iv_sp z d.1 ∧ iv_yn d.1
section INV
variable {j : Nat} {z z' : ix_Z} {d u : ix_D2} {f g : Nat → Nat → Int32} {S : Nat → Nat → Prop}
theorem k_pap (h : iv_pap f) (e : ∀ a k, su_pap a k → g a k = f a k) : iv_pap g := fun r hr => by
  have q := h r hr
  rw [e 128 r (by unfold su_pap; omega), e 42 r (by unfold su_pap; omega)]
  rcases q with q | ⟨q1, q2, q3, q4⟩
  · exact Or.inl q
  · exact Or.inr ⟨q1, q2, q3, fun i hi => by rw [e _ _ (by unfold su_pap; omega), e _ _ (by unfold su_pap; omega)]; exact q4 i hi⟩
theorem k_as (h : iv_as f) (e : ∀ a k, su_as2 a k → g a k = f a k) (hm : (f 125 1).toInt ≤ (g 125 1).toInt) : iv_as g := by
  obtain ⟨h1, h2, h3, h4⟩ := h
  have e29 : g 125 29 = f 125 29 := e _ _ (by unfold su_as2; omega)
  refine ⟨by rw [e _ _ (by unfold su_as2; omega), e29]; exact h1, by rw [e29]; exact h2, by rw [e29]; exact h3, fun i hi => ?_⟩
  rw [e29] at hi
  obtain ⟨q1, q2, q3, q4⟩ := h4 i hi
  rw [e 57 _ (by unfold su_as2; omega), e 146 _ (by unfold su_as2; omega)]
  exact ⟨q1, q2, by omega, by omega⟩
theorem k_cs (h : iv_cs f) (e : ∀ a k, su_cs a k → g a k = f a k) (hm : (f 125 1).toInt ≤ (g 125 1).toInt) : iv_cs g := by
  obtain ⟨h1, h2, h3, h4⟩ := h
  have f53 : g 53 = f 53 := funext fun k => e _ _ (by unfold su_cs; omega)
  have f54 : g 54 = f 54 := funext fun k => e _ _ (by unfold su_cs; omega)
  have f143 : g 143 = f 143 := funext fun k => e _ _ (by unfold su_cs; omega)
  have f144 : g 144 = f 144 := funext fun k => e _ _ (by unfold su_cs; omega)
  have e52 : g 52 2 = f 52 2 := e _ _ (by unfold su_cs; omega)
  have e23 : g 125 23 = f 125 23 := e _ _ (by unfold su_cs; omega)
  refine ⟨rw_cg h1 e52 f54 f53, by rw [e52, e23]; exact h2, by rw [e23, f143, f54]; exact h3, fun p hp => ?_⟩
  rw [f54, e52] at hp
  have q := h4 p hp
  rw [f144, f53]
  exact ⟨q.1, by omega⟩
theorem k_bn (h : iv_bn f) (e : ∀ a k, su_bn a k → g a k = f a k) : iv_bn g := by
  unfold iv_bn; rw [e _ _ (by unfold su_bn; omega), e _ _ (by unfold su_bn; omega)]; exact h
theorem k_rt (h : iv_rt f) (e : ∀ a k, su_rt a k → g a k = f a k) : iv_rt g := by
  unfold iv_rt; rw [e _ _ (by unfold su_rt; omega), e _ _ (by unfold su_rt; omega)]; exact h
theorem k_br (h : iv_br f) (e : ∀ a k, su_br a k → g a k = f a k) (h66 : g 125 66 = 0) (hm : (f 125 1).toInt ≤ (g 125 1).toInt) : iv_br g := by
  obtain ⟨h1, h2, h3, h4, h5⟩ := h
  have f76 : g 76 = f 76 := funext fun k => e _ _ (by unfold su_br; omega)
  have f77 : g 77 = f 77 := funext fun k => e _ _ (by unfold su_br; omega)
  have f78 : g 78 = f 78 := funext fun k => e _ _ (by unfold su_br; omega)
  have hB := h1.2.1
  have hB0 := h1.1
  have nB := ni_c hB0
  refine ⟨by unfold bw_60 rw_ok; rw [f76, f77, f78]; exact h1, by rw [f76, e _ _ (by unfold su_br; omega)]; exact h2, ?_, h66, fun p hp => ?_⟩
  · rw [f76]
    intro j hj
    obtain ⟨q1, q2⟩ := h3 j hj
    have b := h1.2.2.2.2.1 j (by omega)
    have e147 : g 147 (64 * 0 + j) = f 147 (64 * 0 + j) := e _ _ (by unfold su_br; omega)
    rw [e147, f78, f77]
    refine ⟨q1, fun i hi => ?_⟩
    rw [e 148 _ (by unfold su_br; omega)]
    exact q2 i hi
  · rw [f76, f78] at hp
    rw [f77]
    exact Int.le_trans (h5 p hp) hm
theorem k_pf (h : iv_pf f) (e : ∀ a k, su_pf a k → g a k = f a k) : iv_pf g := by
  have f121 : g 121 = f 121 := funext fun k => e _ _ (by unfold su_pf; omega)
  have f122 : g 122 = f 122 := funext fun k => e _ _ (by unfold su_pf; omega)
  have f196 : g 196 = f 196 := funext fun k => e _ _ (by unfold su_pf; omega)
  have f197 : g 197 = f 197 := funext fun k => e _ _ (by unfold su_pf; omega)
  have e2 : g 120 2 = f 120 2 := e _ _ (by unfold su_pf; omega)
  refine ⟨rw_cg h.1 e2 f122 f121, by rw [e2, e _ _ (by unfold su_pf; omega)]; exact h.2.1, by rw [e2, f196, f122]; exact h.2.2.1, by rw [e2, f197, f121, f122]; exact h.2.2.2⟩
theorem k_bs (h : iv_bs f) (e : ∀ a k, su_bs a k → g a k = f a k) : iv_bs g := by
  unfold iv_bs
  rw [e _ _ (by unfold su_bs; omega), e _ _ (by unfold su_bs; omega), e _ _ (by unfold su_bs; omega), e _ _ (by unfold su_bs; omega)]; exact h
theorem k_lt (h : lt_ d) (e : ∀ a k, su_lt a k → u.1 a k = d.1 a k ∧ u.2 a k = d.2 a k) : lt_ u :=
  lt_q h (fun a k a1 a2 a3 => e a k (Or.inl ⟨a1, a2, a3⟩)) (fun k hk => (e 0 k (by unfold su_lt; omega)).1) (e _ _ (by unfold su_lt; omega)).1 (fun a k q => (e a k (by unfold su_lt; omega)).1) (e _ _ (by unfold su_lt; omega)).1 (e _ _ (by unfold su_lt; omega)).1 (fun a k q => (e a k (Or.inr (Or.inr (Or.inr (Or.inr (Or.inr (Or.inr (Or.inr (Or.inr (Or.inl q)))))))))).1) (fun a k q => (e a k (Or.inr (Or.inr (Or.inr (Or.inr (Or.inr (Or.inr (Or.inr (Or.inr (Or.inr (Or.inl q))))))))))).2) (fun k => (e _ _ (by unfold su_lt; omega)).1) (e _ _ (by unfold su_lt; omega)).1
theorem k_tb (h : iv_tb f) (e : ∀ k, g 44 k = f 44 k) : iv_tb g := fun i hi => by rw [e]; exact h i hi
theorem k_wd (h : iv_wd f) (e : ∀ k, g 159 k = f 159 k) : iv_wd g := fun i hi => by rw [e]; exact h i hi
theorem k_ru (h : iv_ru z f) (e : ∀ a k, su_ru a k → g a k = f a k) (hm : (f 125 1).toInt ≤ (g 125 1).toInt) : iv_ru z g := by
  have e11 : g 125 11 = f 125 11 := e _ _ (by unfold su_ru; omega)
  refine ⟨by rw [e11, e _ _ (by unfold su_ru; omega)]; exact h.1, by rw [e11]; exact h.2.1, by rw [e11]; exact h.2.2.1, fun i hi => ?_⟩
  rw [e11] at hi
  obtain ⟨c, N, hg⟩ := h.2.2.2 i hi
  exact ⟨c, N, RG_x hg (Nat.le_refl _) rfl (fun _ _ => rfl) (fun _ _ _ _ => rfl) (fun a k l1 l2 => e a k (by unfold su_ru; omega)) (fun a ha => e _ _ (by unfold su_ru; omega)) (fun j hj => e _ _ (by unfold su_ru; omega)) hm⟩
theorem k_tt (iru : iv_ru z f) (h : iv_tt z f) (e : ∀ a k, su_ru a k → g a k = f a k) : iv_tt z g := fun i c hi h59 h4 => by
  rw [e _ _ (by unfold su_ru; omega)] at hi h4
  obtain ⟨c1, c2⟩ := ru_4 iru hi h59 h4
  exact TT_x (h i c hi h59 h4) c1 c2 (fun _ _ => rfl) (fun _ _ _ _ => rfl) (fun a k l1 l2 => e a k (by unfold su_ru; omega)) (e _ _ (by unfold su_ru; omega)) (fun j hj => e _ _ (by unfold su_ru; omega))
theorem k_td (iru : iv_ru z f) (h : iv_td z f) (e : ∀ a k, su_ru a k → g a k = f a k) : iv_td z g := fun i c hi h59 h4 => by
  rw [e _ _ (by unfold su_ru; omega)] at hi h4
  obtain ⟨c1, c2⟩ := ru_4 iru hi h59 h4
  exact TD_x (h i c hi h59 h4) c1 c2 (fun _ _ => rfl) (fun _ _ _ _ => rfl) (fun a k l1 l2 => e a k (by unfold su_ru; omega)) (e _ _ (by unfold su_ru; omega)) (e _ _ (by unfold su_ru; omega)) (fun j hj => e _ _ (by unfold su_ru; omega)) (fun j hj => e _ _ (by unfold su_ru; omega))
theorem k_sp (h : iv_sp z f) (e11 : g 125 11 = f 125 11) (e132 : ∀ i, g 132 i = f 132 i) : iv_sp z g := fun i j c e hij hj hc he => by
  rw [e11] at hj
  rw [e132]
  exact h i j c e hij hj hc he
theorem k_yn (h : iv_yn f) (e : ∀ a k, su_yn a k → g a k = f a k) : iv_yn g := by
  obtain ⟨h1, h2⟩ := h
  refine ⟨by rw [e _ _ (by unfold su_yn; omega), e _ _ (by unfold su_yn; omega)]; exact h1, fun i hi j hj => ?_⟩
  rw [e _ _ (by unfold su_yn; omega)] at hi hj
  rw [e _ _ (by unfold su_yn; omega), e _ _ (by unfold su_yn; omega)]
  exact h2 i hi j hj
theorem k_nt (h : iv_nt j f) (e : ∀ a k, su_nt a k → g a k = f a k) : iv_nt (j + 1) g := by
  obtain ⟨n1, n2, n3, n4⟩ := h
  refine ⟨by rw [e _ _ (by unfold su_nt; omega), e _ _ (by unfold su_nt; omega)]; exact n1, by rw [e _ _ (by unfold su_nt; omega)]; exact n2, by rw [e _ _ (by unfold su_nt; omega)]; omega, fun i hi => by rw [e _ _ (by unfold su_nt; omega), e _ _ (by unfold su_nt; omega)]; exact n4 i hi⟩
/-- the latest solving's names and rules -/
theorem k_ys (h : iv_yn d.1) (iru : iv_ru z d.1) (hy : yn_ d u) (e : ∀ a k, (a = 125 ∧ k = 11) ∨ a = 135 ∨ a = 136 → u.1 a k = d.1 a k) : iv_yn u.1 := by
  obtain ⟨h1, h2⟩ := h
  rcases hy with ⟨y1, y2⟩ | ⟨y1, y2⟩
  · refine ⟨by rw [y2, e _ _ (by omega)]; exact h1, fun i hi j hj => ?_⟩
    rw [y2] at hi
    rw [e _ _ (by omega)] at hj
    rw [y1, e _ _ (by omega)]
    exact h2 i hi j hj
  · refine ⟨by rw [y2, e _ _ (by omega)]; exact Int.le_refl _, fun i hi j hj => ?_⟩
    rw [y2] at hi
    rw [e _ _ (by omega)] at hj
    rw [y1, e _ _ (by omega)]
    obtain ⟨c, N, hg⟩ := iru.2.2.2 i hi
    have q := hg.2.2.2.2.2.2.2.1 j (by rw [hg.2.2.2.2.2.1] at hj; omega)
    rw [← q.1]
    exact q.2.2
/-- one call, with the same cells -/
theorem J_u (h : J_ j z d) (o : fz_ S d u) (hmo : (d.1 125 1).toInt ≤ (u.1 125 1).toInt ∨ ¬ S 125 1)
    (st : iv_st u.1 ∨ ∀ a k, su_st a k → ¬ S a k) (nm : iv_nm u.1 ∨ ∀ a k, su_nm a k → ¬ S a k) (go : iv_go u.1 ∨ ∀ a k, su_go a k → ¬ S a k) (bg : iv_bg u.1 ∨ ∀ a k, su_bg a k → ¬ S a k) (wt : iv_wt u.1 ∨ ∀ a k, su_wt a k → ¬ S a k) (as : iv_as u.1 ∨ ∀ a k, su_as2 a k → ¬ S a k) (ct : iv_ct u.1 ∨ ∀ a k, su_ct a k → ¬ S a k) (cs : iv_cs u.1 ∨ ∀ a k, su_cs a k → ¬ S a k) (bn : iv_bn u.1 ∨ ∀ a k, su_bn a k → ¬ S a k) (rt : iv_rt u.1 ∨ ∀ a k, su_rt a k → ¬ S a k) (br : iv_br u.1 ∨ ((∀ a k, su_br a k → ¬ S a k) ∧ (u.1 125 66 = 0 ∨ ¬ S 125 66))) (pf : iv_pf u.1 ∨ ∀ a k, su_pf a k → ¬ S a k) (bs : iv_bs u.1 ∨ ∀ a k, su_bs a k → ¬ S a k) (tn : yn_ d u ∨ ¬ S 161 0) (lt : lt_ u ∨ ∀ a k, su_lt a k → ¬ S a k) (pap : iv_pap u.1 ∨ ∀ a k, su_pap a k → ¬ S a k) (tp : iv_tp u.1 ∨ ∀ a k, su_tp a k → ¬ S a k) (tb : iv_tb u.1 ∨ ∀ k, ¬ S 44 k) (ou : iv_out u.1 ∨ ∀ a k, su_out a k → ¬ S a k) (ck : iv_ck u.1 ∨ ∀ a k, su_ck a k → ¬ S a k) (nt : iv_nt (j + 1) u.1 ∨ ∀ a k, su_nt a k → ¬ S a k) (dr : iv_dr u.1 ∨ ∀ a k, su_dr a k → ¬ S a k) (wd : ∀ k, ¬ S 159 k) (ru : (iv_ru z u.1 ∧ iv_tt z u.1 ∧ iv_td z u.1) ∨ ∀ a k, su_ru a k → ¬ S a k) (sp : ∀ a k, (a = 125 ∧ k = 11) ∨ a = 132 → ¬ S a k) (yn : yn_ d u ∨ ∀ a k, su_yn a k → ¬ S a k) (yn2 : ∀ a k, (a = 125 ∧ k = 11) ∨ a = 135 ∨ a = 136 → ¬ S a k) : J_ (j + 1) z u := by
  obtain ⟨hz, ist, inm, igo, ibg, iwt, ias, ict, ics, ibn, iru, irt, ibr, ipf, ibs, itn, hlt, ipap, itp, itb, iou, ick, int, idr, iwd, itt, itd, isp, iyn⟩ := h
  have o1 : ∀ {P : Nat → Nat → Prop}, (∀ a k, P a k → ¬ S a k) → ∀ a k, P a k → u.1 a k = d.1 a k := fun q a k p => (o a k (q a k p)).1
  have mo : (d.1 125 1).toInt ≤ (u.1 125 1).toInt := by
    rcases hmo with q | q
    · exact q
    · rw [(o _ _ q).1]; exact Int.le_refl _
  refine ⟨hz, ?_, ?_, ?_, ?_, ?_, ?_, ?_, ?_, ?_, ?_, ?_, ?_, ?_, ?_, ?_, ?_, ?_, ?_, ?_, ?_, ?_, ?_, ?_, ?_, ?_, ?_, ?_, ?_⟩
  · rcases st with q | q; exact q; rw [iv_st_c (o1 q)]; exact ist
  · rcases nm with q | q; exact q; rw [iv_nm_c (o1 q)]; exact inm
  · rcases go with q | q; exact q; rw [iv_go_c (o1 q)]; exact igo
  · rcases bg with q | q; exact q; rw [iv_bg_c (o1 q)]; exact ibg
  · rcases wt with q | q; exact q; rw [iv_wt_c (o1 q)]; exact iwt
  · rcases as with q | q; exact q; exact k_as ias (o1 q) mo
  · rcases ct with q | q; exact q; rw [iv_ct_c (o1 q)]; exact ict
  · rcases cs with q | q; exact q; exact k_cs ics (o1 q) mo
  · rcases bn with q | q; exact q; exact k_bn ibn (o1 q)
  · rcases ru with q | q; exact q.1; exact k_ru iru (o1 q) mo
  · rcases rt with q | q; exact q; exact k_rt irt (o1 q)
  · rcases br with q | ⟨q, w⟩
    · exact q
    · refine k_br ibr (o1 q) ?_ mo
      rcases w with w | w
      · exact w
      · rw [(o _ _ w).1]; exact ibr.2.2.2.1
  · rcases pf with q | q; exact q; exact k_pf ipf (o1 q)
  · rcases bs with q | q; exact q; exact k_bs ibs (o1 q)
  · rcases tn with (⟨q, _⟩ | ⟨q, _⟩) | q
    · rw [q]; omega
    · rw [q]; exact mo
    · rw [(o _ _ q).1]; omega
  · rcases lt with q | q; exact q; exact k_lt hlt (fun a k p => o a k (q a k p))
  · rcases pap with q | q; exact q; exact k_pap ipap (o1 q)
  · rcases tp with q | q; exact q; rw [iv_tp_c (o1 q)]; exact itp
  · rcases tb with q | q; exact q; exact k_tb itb (fun k => (o _ _ (q k)).1)
  · rcases ou with q | q; exact q; rw [iv_out_c (o1 q)]; exact iou
  · rcases ck with q | q; exact q; rw [iv_ck_c (o1 q)]; exact ick
  · rcases nt with q | q; exact q; exact k_nt int (o1 q)
  · rcases dr with q | q; exact q; rw [iv_dr_c (o1 q)]; exact idr
  · exact k_wd iwd (fun k => (o _ _ (wd k)).1)
  · rcases ru with q | q; exact q.2.1; exact k_tt iru itt (o1 q)
  · rcases ru with q | q; exact q.2.2; exact k_td iru itd (o1 q)
  · exact k_sp isp (o1 sp _ _ (by omega)) (fun i => o1 sp _ _ (by omega))
  · rcases yn with q | q
    · exact k_ys iyn iru q (o1 yn2)
    · exact k_yn iyn (o1 q)
end INV

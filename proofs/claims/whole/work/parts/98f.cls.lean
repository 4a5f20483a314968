/-! THE CALLS, each with the invariant -/
section CLS
variable {n j : Nat} {z : ix_Z} {d : ix_D2} {x y v w u : Int32} {l : Int64}
theorem jc_names (hn : 100000 ≤ n) (hj : j ≤ 600) (h : J_ j z d) : wp_t (f_X11_names n z 0 x d) (fun t => wp_t (f_X12_names n z 125 x t.2) (fun u => t.1 = u.1 ∧ J_ (j + 1) z u.2)) := by
  have hh := h
  obtain ⟨hz, ist, inm, igo, ibg, iwt, ias, ict, ics, ibn, iru, irt, ibr, ipf, ibs, itn, hlt, ipap, itp, itb, iou, ick, int, idr, iwd, itt, itd, isp, iyn⟩ := hh
  exact wp_m (wp_2 (op_names hz inm ist igo) (gz_names hz inm)) fun t ht => wp_m ht fun u ⟨⟨q1, q2, q3, q4, q5⟩, q6, q7⟩ => ⟨q1, J_nm h q5 q3 q2 q4 q6 q7⟩
theorem jc_row (hn : 100000 ≤ n) (hj : j ≤ 600) (h : J_ j z d) : wp_t (f_X11_row n z 0 x y d) (fun t => wp_t (f_X12_row n z 125 x y t.2) (fun u => t.1 = u.1 ∧ J_ (j + 1) z u.2)) := by
  have hh := h
  obtain ⟨hz, ist, inm, igo, ibg, iwt, ias, ict, ics, ibn, iru, irt, ibr, ipf, ibs, itn, hlt, ipap, itp, itb, iou, ick, int, idr, iwd, itt, itd, isp, iyn⟩ := hh
  exact wp_m (op_row hz hn ipap ist) fun t ht => wp_m ht fun u ⟨q1, q2, q3, q4⟩ => ⟨q1, J_pap h q4 q3 q2⟩
theorem jc_drop (hn : 100000 ≤ n) (hj : j ≤ 600) (h : J_ j z d) : wp_t (f_X11_drop n z 0 x d) (fun t => wp_t (f_X12_drop n z 125 x t.2) (fun u => t.1 = u.1 ∧ J_ (j + 1) z u.2)) := by
  have hh := h
  obtain ⟨hz, ist, inm, igo, ibg, iwt, ias, ict, ics, ibn, iru, irt, ibr, ipf, ibs, itn, hlt, ipap, itp, itb, iou, ick, int, idr, iwd, itt, itd, isp, iyn⟩ := hh
  exact wp_m (op_drop hz ipap ist) fun t ht => wp_m ht fun u ⟨q1, q2, q3, q4⟩ => ⟨q1, J_pap h q4 q3 q2⟩
theorem jc_put (hn : 100000 ≤ n) (hj : j ≤ 600) (h : J_ j z d) : wp_t (f_X11_put n z 0 x y v d) (fun t => wp_t (f_X12_put n z 125 x y v t.2) (fun u => t.1 = u.1 ∧ J_ (j + 1) z u.2)) := by
  have hh := h
  obtain ⟨hz, ist, inm, igo, ibg, iwt, ias, ict, ics, ibn, iru, irt, ibr, ipf, ibs, itn, hlt, ipap, itp, itb, iou, ick, int, idr, iwd, itt, itd, isp, iyn⟩ := hh
  exact wp_m (op_put hz ipap ist) fun t ht => wp_m ht fun u ⟨q1, q2, q3, q4⟩ => ⟨q1, J_pap h q4 q3 q2⟩
theorem jc_get (hn : 100000 ≤ n) (hj : j ≤ 600) (h : J_ j z d) : wp_t (f_X11_get n z 0 x y d) (fun t => wp_t (f_X12_get n z 125 x y t.2) (fun u => t.1 = u.1 ∧ J_ (j + 1) z u.2)) := by
  have hh := h
  obtain ⟨hz, ist, inm, igo, ibg, iwt, ias, ict, ics, ibn, iru, irt, ibr, ipf, ibs, itn, hlt, ipap, itp, itb, iou, ick, int, idr, iwd, itt, itd, isp, iyn⟩ := hh
  exact wp_m (op_get hz ipap ist) fun t ht => wp_m ht fun u ⟨q1, q2, q3, q4⟩ => ⟨q1, J_st h q4 q3⟩
theorem jc_copy (hn : 100000 ≤ n) (hj : j ≤ 600) (h : J_ j z d) : wp_t (f_X11_copy n z 0 x y w v u d) (fun t => wp_t (f_X12_copy n z 125 x y w v u t.2) (fun u => t.1 = u.1 ∧ J_ (j + 1) z u.2)) := by
  have hh := h
  obtain ⟨hz, ist, inm, igo, ibg, iwt, ias, ict, ics, ibn, iru, irt, ibr, ipf, ibs, itn, hlt, ipap, itp, itb, iou, ick, int, idr, iwd, itt, itd, isp, iyn⟩ := hh
  exact wp_m (op_copy hz (by omega) ipap ist) fun t ht => wp_m ht fun u ⟨q1, q2, q3, q4⟩ => ⟨q1, J_pap h q4 q3 q2⟩
theorem jc_cut (hn : 100000 ≤ n) (hj : j ≤ 600) (h : J_ j z d) : wp_t (f_X11_cut n z 0 x y d) (fun t => wp_t (f_X12_cut n z 125 x y t.2) (fun u => t.1 = u.1 ∧ J_ (j + 1) z u.2)) := by
  have hh := h
  obtain ⟨hz, ist, inm, igo, ibg, iwt, ias, ict, ics, ibn, iru, irt, ibr, ipf, ibs, itn, hlt, ipap, itp, itb, iou, ick, int, idr, iwd, itt, itd, isp, iyn⟩ := hh
  exact wp_m (op_cut hz ipap ist) fun t ht => wp_m ht fun u ⟨q1, q2, q3, q4⟩ => ⟨q1, J_pap h q4 q3 q2⟩
theorem jc_feed (hn : 100000 ≤ n) (hj : j ≤ 600) (h : J_ j z d) : wp_t (f_X11_feed n z 0 l x d) (fun t => wp_t (f_X12_feed n z 125 l x t.2) (fun u => t.1 = u.1 ∧ J_ (j + 1) z u.2)) := by
  have hh := h
  obtain ⟨hz, ist, inm, igo, ibg, iwt, ias, ict, ics, ibn, iru, irt, ibr, ipf, ibs, itn, hlt, ipap, itp, itb, iou, ick, int, idr, iwd, itt, itd, isp, iyn⟩ := hh
  exact wp_m (op_feedb hz (by omega) itp ist itb) fun t ht => wp_m ht fun u ⟨q1, q2, q3, q4, q5⟩ => ⟨q1, J_tp h q5 q3 q2 q4⟩
theorem jc_wipe (hn : 100000 ≤ n) (hj : j ≤ 600) (h : J_ j z d) : wp_t (f_X11_wipe n z 0 d) (fun t => wp_t (f_X12_wipe n z 125 t.2) (fun u => t.1 = u.1 ∧ J_ (j + 1) z u.2)) := by
  have hh := h
  obtain ⟨hz, ist, inm, igo, ibg, iwt, ias, ict, ics, ibn, iru, irt, ibr, ipf, ibs, itn, hlt, ipap, itp, itb, iou, ick, int, idr, iwd, itt, itd, isp, iyn⟩ := hh
  exact wp_m (wp_2 (op_wipeb hz itp itb) (fx_wipe hz)) fun t ht => wp_m ht fun u ⟨⟨q1, q2, q3, q4⟩, q5⟩ => ⟨q1, J_wi h q5 q2⟩
theorem jc_kind (hn : 100000 ≤ n) (hj : j ≤ 600) (h : J_ j z d) : wp_t (f_X11_kind n z 0 x d) (fun t => wp_t (f_X12_kind n z 125 x t.2) (fun u => t.1 = u.1 ∧ J_ (j + 1) z u.2)) := by
  have hh := h
  obtain ⟨hz, ist, inm, igo, ibg, iwt, ias, ict, ics, ibn, iru, irt, ibr, ipf, ibs, itn, hlt, ipap, itp, itb, iou, ick, int, idr, iwd, itt, itd, isp, iyn⟩ := hh
  exact wp_m (op_kind hz iru ist) fun t ht => wp_m ht fun u ⟨q1, q2, q3⟩ => ⟨q1, J_st h q3 q2⟩
theorem jc_as (hn : 100000 ≤ n) (hj : j ≤ 600) (h : J_ j z d) : wp_t (f_X11_as n z 0 x y d) (fun t => wp_t (f_X12_as n z 125 x y t.2) (fun u => t.1 = u.1 ∧ J_ (j + 1) z u.2)) := by
  have hh := h
  obtain ⟨hz, ist, inm, igo, ibg, iwt, ias, ict, ics, ibn, iru, irt, ibr, ipf, ibs, itn, hlt, ipap, itp, itb, iou, ick, int, idr, iwd, itt, itd, isp, iyn⟩ := hh
  exact wp_m (op_as hz iru ist) fun t ht => wp_m ht fun u ⟨q1, q2, q3⟩ => ⟨q1, J_st h q3 q2⟩
theorem jc_item (hn : 100000 ≤ n) (hj : j ≤ 600) (h : J_ j z d) : wp_t (f_X11_item n z 0 x y d) (fun t => wp_t (f_X12_item n z 125 x y t.2) (fun u => t.1 = u.1 ∧ J_ (j + 1) z u.2)) := by
  have hh := h
  obtain ⟨hz, ist, inm, igo, ibg, iwt, ias, ict, ics, ibn, iru, irt, ibr, ipf, ibs, itn, hlt, ipap, itp, itb, iou, ick, int, idr, iwd, itt, itd, isp, iyn⟩ := hh
  exact wp_m (op_item hz iru ist) fun t ht => wp_m ht fun u ⟨q1, q2, q3⟩ => ⟨q1, J_st h q3 q2⟩
theorem jc_rows (hn : 100000 ≤ n) (hj : j ≤ 600) (h : J_ j z d) : wp_t (f_X11_rows n z 0 x y d) (fun t => wp_t (f_X12_rows n z 125 x y t.2) (fun u => t.1 = u.1 ∧ J_ (j + 1) z u.2)) := by
  have hh := h
  obtain ⟨hz, ist, inm, igo, ibg, iwt, ias, ict, ics, ibn, iru, irt, ibr, ipf, ibs, itn, hlt, ipap, itp, itb, iou, ick, int, idr, iwd, itt, itd, isp, iyn⟩ := hh
  exact wp_m (op_rows hz iru ist) fun t ht => wp_m ht fun u ⟨q1, q2, q3⟩ => ⟨q1, J_st h q3 q2⟩
theorem jc_line (hn : 100000 ≤ n) (hj : j ≤ 600) (h : J_ j z d) : wp_t (f_X11_line n z 0 x y d) (fun t => wp_t (f_X12_line n z 125 x y t.2) (fun u => t.1 = u.1 ∧ J_ (j + 1) z u.2)) := by
  have hh := h
  obtain ⟨hz, ist, inm, igo, ibg, iwt, ias, ict, ics, ibn, iru, irt, ibr, ipf, ibs, itn, hlt, ipap, itp, itb, iou, ick, int, idr, iwd, itt, itd, isp, iyn⟩ := hh
  exact wp_m (op_line hz ics ibr hlt) fun t ht => wp_m ht fun u ⟨q1, q2⟩ => ⟨q1, J_no h q2⟩
theorem jc_ask (hn : 100000 ≤ n) (hj : j ≤ 600) (h : J_ j z d) : wp_t (f_X11_ask n z 0 x y d) (fun t => wp_t (f_X12_ask n z 125 x y t.2) (fun u => t.1 = u.1 ∧ J_ (j + 1) z u.2)) := by
  have hh := h
  obtain ⟨hz, ist, inm, igo, ibg, iwt, ias, ict, ics, ibn, iru, irt, ibr, ipf, ibs, itn, hlt, ipap, itp, itb, iou, ick, int, idr, iwd, itt, itd, isp, iyn⟩ := hh
  exact wp_m (op_ask hz (by omega) (by omega) ist iru itt itd isp int irt iyn hlt) fun t ht => wp_m ht fun u ⟨q1, q2, q3, q4, q5, q6, q7⟩ => ⟨q1, J_ak h q7 q2 q3 q4 q5 q6⟩
theorem jc_print (hn : 100000 ≤ n) (hj : j ≤ 600) (h : J_ j z d) : wp_t (f_X11_print n z 0 x d) (fun t => wp_t (f_X12_print n z 125 x t.2) (fun u => t.1 = u.1 ∧ J_ (j + 1) z u.2)) := by
  have hh := h
  obtain ⟨hz, ist, inm, igo, ibg, iwt, ias, ict, ics, ibn, iru, irt, ibr, ipf, ibs, itn, hlt, ipap, itp, itb, iou, ick, int, idr, iwd, itt, itd, isp, iyn⟩ := hh
  exact wp_m (op_print hz (by omega) (by omega) iwd iru itt ist iou int) fun t ht => wp_m ht fun u ⟨q1, q2, q3, q4, q5⟩ => ⟨q1, J_pr h q5 q2 q3 q4⟩
theorem jc_export (hn : 100000 ≤ n) (hj : j ≤ 600) (h : J_ j z d) : wp_t (f_X11_export n z 0 d) (fun t => wp_t (f_X12_export n z 125 t.2) (fun u => t.1 = u.1 ∧ J_ (j + 1) z u.2)) := by
  have hh := h
  obtain ⟨hz, ist, inm, igo, ibg, iwt, ias, ict, ics, ibn, iru, irt, ibr, ipf, ibs, itn, hlt, ipap, itp, itb, iou, ick, int, idr, iwd, itt, itd, isp, iyn⟩ := hh
  exact wp_m (op_export hz (by omega) ics) fun t ht => wp_m ht fun u ⟨q1, q2, q3⟩ => ⟨q1, J_ou h q3 q2⟩
theorem jc_out (hn : 100000 ≤ n) (hj : j ≤ 600) (h : J_ j z d) : wp_t (f_X11_out n z 0 x d) (fun t => wp_t (f_X12_out n z 125 x t.2) (fun u => t.1 = u.1 ∧ J_ (j + 1) z u.2)) := by
  have hh := h
  obtain ⟨hz, ist, inm, igo, ibg, iwt, ias, ict, ics, ibn, iru, irt, ibr, ipf, ibs, itn, hlt, ipap, itp, itb, iou, ick, int, idr, iwd, itt, itd, isp, iyn⟩ := hh
  exact wp_m (op_out hz iou) fun t ht => wp_m ht fun u ⟨q1, q2⟩ => ⟨q1, J_no h q2⟩
theorem jc_assume (hn : 100000 ≤ n) (hj : j ≤ 600) (h : J_ j z d) : wp_t (f_X11_assume n z 0 x d) (fun t => wp_t (f_X12_assume n z 125 x t.2) (fun u => t.1 = u.1 ∧ J_ (j + 1) z u.2)) := by
  have hh := h
  obtain ⟨hz, ist, inm, igo, ibg, iwt, ias, ict, ics, ibn, iru, irt, ibr, ipf, ibs, itn, hlt, ipap, itp, itb, iou, ick, int, idr, iwd, itt, itd, isp, iyn⟩ := hh
  exact wp_m (wp_2 (op_assume hz (by omega) ist inm ias igo) (gz_assume hz (by omega) ist inm ias igo)) fun t ht => wp_m ht fun u ⟨⟨q1, q2, q3, q4, q5⟩, q6⟩ => ⟨q1, J_as h q5 q2 q3 q4 q6⟩
theorem jc_free (hn : 100000 ≤ n) (hj : j ≤ 600) (h : J_ j z d) : wp_t (f_X11_free n z 0 d) (fun t => wp_t (f_X12_free n z 125 t.2) (fun u => t.1 = u.1 ∧ J_ (j + 1) z u.2)) := by
  have hh := h
  obtain ⟨hz, ist, inm, igo, ibg, iwt, ias, ict, ics, ibn, iru, irt, ibr, ipf, ibs, itn, hlt, ipap, itp, itb, iou, ick, int, idr, iwd, itt, itd, isp, iyn⟩ := hh
  exact wp_m (wp_2 (op_free hz ias igo) (wp_2 (gz_free hz) (fx_free hz))) fun t ht => wp_m ht fun u ⟨⟨q1, q2, q3, q4⟩, q5, q6⟩ => ⟨q1, J_fr h q6 q2 q3 q5⟩
theorem jc_weight (hn : 100000 ≤ n) (hj : j ≤ 600) (h : J_ j z d) : wp_t (f_X11_weight n z 0 x y d) (fun t => wp_t (f_X12_weight n z 125 x y t.2) (fun u => t.1 = u.1 ∧ J_ (j + 1) z u.2)) := by
  have hh := h
  obtain ⟨hz, ist, inm, igo, ibg, iwt, ias, ict, ics, ibn, iru, irt, ibr, ipf, ibs, itn, hlt, ipap, itp, itb, iou, ick, int, idr, iwd, itt, itd, isp, iyn⟩ := hh
  exact wp_m (wp_2 (op_weight hz iwt ist igo inm) (gz_weight hz iwt inm)) fun t ht => wp_m ht fun u ⟨⟨q1, q2, q3, q4, q5⟩, q6⟩ => ⟨q1, J_wt h q5 q3 q2 q4 q6⟩
theorem jc_weighs (hn : 100000 ≤ n) (hj : j ≤ 600) (h : J_ j z d) : wp_t (f_X11_weighs n z 0 x d) (fun t => wp_t (f_X12_weighs n z 125 x t.2) (fun u => t.1 = u.1 ∧ J_ (j + 1) z u.2)) := by
  have hh := h
  obtain ⟨hz, ist, inm, igo, ibg, iwt, ias, ict, ics, ibn, iru, irt, ibr, ipf, ibs, itn, hlt, ipap, itp, itb, iou, ick, int, idr, iwd, itt, itd, isp, iyn⟩ := hh
  exact wp_m (op_weighs hz ist inm hlt) fun t ht => wp_m ht fun u ⟨q1, q2, q3⟩ => ⟨q1, J_st h q3 q2⟩
theorem jc_begin (hn : 100000 ≤ n) (hj : j ≤ 600) (h : J_ j z d) : wp_t (f_X11_begin n z 0 x d) (fun t => wp_t (f_X12_begin n z 125 x t.2) (fun u => t.1 = u.1 ∧ J_ (j + 1) z u.2)) := by
  have hh := h
  obtain ⟨hz, ist, inm, igo, ibg, iwt, ias, ict, ics, ibn, iru, irt, ibr, ipf, ibs, itn, hlt, ipap, itp, itb, iou, ick, int, idr, iwd, itt, itd, isp, iyn⟩ := hh
  exact wp_m (wp_2 (op_begin hz ibg ist igo) (wp_2 (gz_begin hz ibg) (fx_begin hz ibg))) fun t ht => wp_m ht fun u ⟨⟨q1, q2, q3, q4, q5⟩, q6, q7⟩ => ⟨q1, J_bg h q7 q3 q2 q4 q6⟩
theorem jc_forget (hn : 100000 ≤ n) (hj : j ≤ 600) (h : J_ j z d) : wp_t (f_X11_forget n z 0 x d) (fun t => wp_t (f_X12_forget n z 125 x t.2) (fun u => t.1 = u.1 ∧ J_ (j + 1) z u.2)) := by
  have hh := h
  obtain ⟨hz, ist, inm, igo, ibg, iwt, ias, ict, ics, ibn, iru, irt, ibr, ipf, ibs, itn, hlt, ipap, itp, itb, iou, ick, int, idr, iwd, itt, itd, isp, iyn⟩ := hh
  exact wp_m (wp_2 (op_forget hz ibg ist igo) (wp_2 (gz_forget hz ibg) (fx_forget hz ibg))) fun t ht => wp_m ht fun u ⟨⟨q1, q2, q3, q4, q5⟩, q6, q7⟩ => ⟨q1, J_bg h q7 q3 q2 q4 q6⟩
theorem jc_solve (hn : 100000 ≤ n) (hj : j ≤ 600) (h : J_ j z d) : wp_t (f_X11_solve n z 0 x d) (fun t => wp_t (f_X12_solve n z 125 x t.2) (fun u => t.1 = u.1 ∧ J_ (j + 1) z u.2)) := by
  have hh := h
  obtain ⟨hz, ist, inm, igo, ibg, iwt, ias, ict, ics, ibn, iru, irt, ibr, ipf, ibs, itn, hlt, ipap, itp, itb, iou, ick, int, idr, iwd, itt, itd, isp, iyn⟩ := hh
  exact wp_m (op_solve hz (by omega) ist inm ibg iwt ias ics igo ibn iru.1 irt hlt) fun t ht => wp_m ht fun u ⟨q1, q2, q3, q4, q5, q6, q7, q8⟩ => ⟨q1, J_sv h q7 q2 q3 q4 q5 q6 q8⟩
theorem jc_goOn (hn : 100000 ≤ n) (hj : j ≤ 600) (h : J_ j z d) : wp_t (f_X11_goOn n z 0 x d) (fun t => wp_t (f_X12_goOn n z 125 x t.2) (fun u => t.1 = u.1 ∧ J_ (j + 1) z u.2)) := by
  have hh := h
  obtain ⟨hz, ist, inm, igo, ibg, iwt, ias, ict, ics, ibn, iru, irt, ibr, ipf, ibs, itn, hlt, ipap, itp, itb, iou, ick, int, idr, iwd, itt, itd, isp, iyn⟩ := hh
  exact wp_m (op_goOn hz (by omega) ist igo ibn irt hlt) fun t ht => wp_m ht fun u ⟨q1, q2, q3, q4, q5, q6, q7, q8⟩ => ⟨q1, J_sv h q7 q2 q3 q4 q5 q6 q8⟩
theorem jc_truth (hn : 100000 ≤ n) (hj : j ≤ 600) (h : J_ j z d) : wp_t (f_X11_truth n z 0 x d) (fun t => wp_t (f_X12_truth n z 125 x t.2) (fun u => t.1 = u.1 ∧ J_ (j + 1) z u.2)) := by
  have hh := h
  obtain ⟨hz, ist, inm, igo, ibg, iwt, ias, ict, ics, ibn, iru, irt, ibr, ipf, ibs, itn, hlt, ipap, itp, itb, iou, ick, int, idr, iwd, itt, itd, isp, iyn⟩ := hh
  exact wp_m (op_truth hz ist inm hlt) fun t ht => wp_m ht fun u ⟨q1, q2, q3⟩ => ⟨q1, J_st h q3 q2⟩
theorem jc_solved (hn : 100000 ≤ n) (hj : j ≤ 600) (h : J_ j z d) : wp_t (f_X11_solved n z 0 x d) (fun t => wp_t (f_X12_solved n z 125 x t.2) (fun u => t.1 = u.1 ∧ J_ (j + 1) z u.2)) := by
  have hh := h
  obtain ⟨hz, ist, inm, igo, ibg, iwt, ias, ict, ics, ibn, iru, irt, ibr, ipf, ibs, itn, hlt, ipap, itp, itb, iou, ick, int, idr, iwd, itt, itd, isp, iyn⟩ := hh
  exact wp_m (op_solved hz (by omega) ist hlt) fun t ht => wp_m ht fun u ⟨q1, q2, q3⟩ => ⟨q1, J_st h q3 q2⟩
theorem jc_quarrel (hn : 100000 ≤ n) (hj : j ≤ 600) (h : J_ j z d) : wp_t (f_X11_quarrel n z 0 x d) (fun t => wp_t (f_X12_quarrel n z 125 x t.2) (fun u => t.1 = u.1 ∧ J_ (j + 1) z u.2)) := by
  have hh := h
  obtain ⟨hz, ist, inm, igo, ibg, iwt, ias, ict, ics, ibn, iru, irt, ibr, ipf, ibs, itn, hlt, ipap, itp, itb, iou, ick, int, idr, iwd, itt, itd, isp, iyn⟩ := hh
  exact wp_m (op_quarrel hz ist hlt) fun t ht => wp_m ht fun u ⟨q1, q2, q3⟩ => ⟨q1, J_st h q3 q2⟩
theorem jc_core (hn : 100000 ≤ n) (hj : j ≤ 600) (h : J_ j z d) : wp_t (f_X11_core n z 0 x d) (fun t => wp_t (f_X12_core n z 125 x t.2) (fun u => t.1 = u.1 ∧ J_ (j + 1) z u.2)) := by
  have hh := h
  obtain ⟨hz, ist, inm, igo, ibg, iwt, ias, ict, ics, ibn, iru, irt, ibr, ipf, ibs, itn, hlt, ipap, itp, itb, iou, ick, int, idr, iwd, itt, itd, isp, iyn⟩ := hh
  exact wp_m (op_core hz ist ibn hlt) fun t ht => wp_m ht fun u ⟨q1, q2, q3⟩ => ⟨q1, J_st h q3 q2⟩
theorem jc_coreAt (hn : 100000 ≤ n) (hj : j ≤ 600) (h : J_ j z d) : wp_t (f_X11_coreAt n z 0 x y d) (fun t => wp_t (f_X12_coreAt n z 125 x y t.2) (fun u => t.1 = u.1 ∧ J_ (j + 1) z u.2)) := by
  have hh := h
  obtain ⟨hz, ist, inm, igo, ibg, iwt, ias, ict, ics, ibn, iru, irt, ibr, ipf, ibs, itn, hlt, ipap, itp, itb, iou, ick, int, idr, iwd, itt, itd, isp, iyn⟩ := hh
  exact wp_m (op_coreAt hz ist ics ibn hlt) fun t ht => wp_m ht fun u ⟨q1, q2, q3⟩ => ⟨q1, J_st h q3 q2⟩
theorem jc_shrink (hn : 100000 ≤ n) (hj : j ≤ 600) (h : J_ j z d) : wp_t (f_X11_shrink n z 0 x d) (fun t => wp_t (f_X12_shrink n z 125 x t.2) (fun u => t.1 = u.1 ∧ J_ (j + 1) z u.2)) := by
  have hh := h
  obtain ⟨hz, ist, inm, igo, ibg, iwt, ias, ict, ics, ibn, iru, irt, ibr, ipf, ibs, itn, hlt, ipap, itp, itb, iou, ick, int, idr, iwd, itt, itd, isp, iyn⟩ := hh
  exact wp_m (op_shrink hz (by omega) ist inm ibg iwt ics itn ibn ibr.2.2.2.1 ibs hlt) fun t ht => wp_m ht fun u ⟨q1, q2, q3, q4, q5, q6⟩ => ⟨q1, J_sh h q6 q2 q3 q4 q5⟩
theorem jc_least (hn : 100000 ≤ n) (hj : j ≤ 600) (h : J_ j z d) : wp_t (f_X11_least n z 0 x d) (fun t => wp_t (f_X12_least n z 125 x t.2) (fun u => t.1 = u.1 ∧ J_ (j + 1) z u.2)) := by
  have hh := h
  obtain ⟨hz, ist, inm, igo, ibg, iwt, ias, ict, ics, ibn, iru, irt, ibr, ipf, ibs, itn, hlt, ipap, itp, itb, iou, ick, int, idr, iwd, itt, itd, isp, iyn⟩ := hh
  exact wp_m (op_least hz (by omega) ist inm ibg iwt ics itn ibn ibr.2.2.2.1 ibs hlt) fun t ht => wp_m ht fun u ⟨q1, q2, q3, q4, q5, q6⟩ => ⟨q1, J_sh h q6 q2 q3 q4 q5⟩
theorem jc_take (hn : 100000 ≤ n) (hj : j ≤ 600) (h : J_ j z d) : wp_t (f_X11_take n z 0 d) (fun t => wp_t (f_X12_take n z 125 t.2) (fun u => t.1 = u.1 ∧ J_ (j + 1) z u.2)) := by
  have hh := h
  obtain ⟨hz, ist, inm, igo, ibg, iwt, ias, ict, ics, ibn, iru, irt, ibr, ipf, ibs, itn, hlt, ipap, itp, itb, iou, ick, int, idr, iwd, itt, itd, isp, iyn⟩ := hh
  exact wp_m (op_take hz (by omega) ist ibn ipf hlt) fun t ht => wp_m ht fun u ⟨q1, q2, q3, q4⟩ => ⟨q1, J_pf h q4 q2 q3⟩
theorem jc_claim (hn : 100000 ≤ n) (hj : j ≤ 600) (h : J_ j z d) : wp_t (f_X11_claim n z 0 x d) (fun t => wp_t (f_X12_claim n z 125 x t.2) (fun u => t.1 = u.1 ∧ J_ (j + 1) z u.2)) := by
  have hh := h
  obtain ⟨hz, ist, inm, igo, ibg, iwt, ias, ict, ics, ibn, iru, irt, ibr, ipf, ibs, itn, hlt, ipap, itp, itb, iou, ick, int, idr, iwd, itt, itd, isp, iyn⟩ := hh
  exact wp_m (op_claim hz (by omega) ipap ist inm idr ipf) fun t ht => wp_m ht fun u ⟨q1, q2, q3, q4, q5, q6⟩ => ⟨q1, J_cl h q6 q2 q3 q4 q5⟩
theorem jc_strike (hn : 100000 ≤ n) (hj : j ≤ 600) (h : J_ j z d) : wp_t (f_X11_strike n z 0 x d) (fun t => wp_t (f_X12_strike n z 125 x t.2) (fun u => t.1 = u.1 ∧ J_ (j + 1) z u.2)) := by
  have hh := h
  obtain ⟨hz, ist, inm, igo, ibg, iwt, ias, ict, ics, ibn, iru, irt, ibr, ipf, ibs, itn, hlt, ipap, itp, itb, iou, ick, int, idr, iwd, itt, itd, isp, iyn⟩ := hh
  exact wp_m (op_strike hz (by omega) ipf) fun t ht => wp_m ht fun u ⟨q1, q2, q3⟩ => ⟨q1, J_pg h q3 q2⟩
theorem jc_proof (hn : 100000 ≤ n) (hj : j ≤ 600) (h : J_ j z d) : wp_t (f_X11_proof n z 0 x y d) (fun t => wp_t (f_X12_proof n z 125 x y t.2) (fun u => t.1 = u.1 ∧ J_ (j + 1) z u.2)) := by
  have hh := h
  obtain ⟨hz, ist, inm, igo, ibg, iwt, ias, ict, ics, ibn, iru, irt, ibr, ipf, ibs, itn, hlt, ipap, itp, itb, iou, ick, int, idr, iwd, itt, itd, isp, iyn⟩ := hh
  exact wp_m (op_proof hz ipf) fun t ht => wp_m ht fun u ⟨q1, q2⟩ => ⟨q1, J_no h q2⟩
theorem jc_check (hn : 100000 ≤ n) (hj : j ≤ 600) (h : J_ j z d) : wp_t (f_X11_check n z 0 d) (fun t => wp_t (f_X12_check n z 125 t.2) (fun u => t.1 = u.1 ∧ J_ (j + 1) z u.2)) := by
  have hh := h
  obtain ⟨hz, ist, inm, igo, ibg, iwt, ias, ict, ics, ibn, iru, irt, ibr, ipf, ibs, itn, hlt, ipap, itp, itb, iou, ick, int, idr, iwd, itt, itd, isp, iyn⟩ := hh
  exact wp_m (op_check hz (by omega) ics ipf ias ibs) fun t ht => wp_m ht fun u ⟨q1, q2, q3, q4⟩ => ⟨q1, J_ck h q4 q2 q3⟩
theorem jc_refusedAt (hn : 100000 ≤ n) (hj : j ≤ 600) (h : J_ j z d) : wp_t (f_X11_refusedAt n z 0 d) (fun t => wp_t (f_X12_refusedAt n z 125 t.2) (fun u => t.1 = u.1 ∧ J_ (j + 1) z u.2)) := by
  have hh := h
  obtain ⟨hz, ist, inm, igo, ibg, iwt, ias, ict, ics, ibn, iru, irt, ibr, ipf, ibs, itn, hlt, ipap, itp, itb, iou, ick, int, idr, iwd, itt, itd, isp, iyn⟩ := hh
  exact wp_m (op_refusedAt hz ick) fun t ht => wp_m ht fun u ⟨q1, q2⟩ => ⟨q1, J_no h q2⟩
theorem jc_counted (hn : 100000 ≤ n) (hj : j ≤ 600) (h : J_ j z d) (hy : y = 0 ∨ y = 1) : wp_t (f_X11_counted n z 0 x y d) (fun t => wp_t (f_X12_counted n z 125 x y t.2) (fun u => t.1 = u.1 ∧ J_ (j + 1) z u.2)) := by
  have hh := h
  obtain ⟨hz, ist, inm, igo, ibg, iwt, ias, ict, ics, ibn, iru, irt, ibr, ipf, ibs, itn, hlt, ipap, itp, itb, iou, ick, int, idr, iwd, itt, itd, isp, iyn⟩ := hh
  exact wp_m (op_counted hz ist inm ict hy) fun t ht => wp_m ht fun u ⟨q1, q2, q3, q4⟩ => ⟨q1, J_ct h q4 q2 q3⟩
theorem jc_next (hn : 100000 ≤ n) (hj : j ≤ 600) (h : J_ j z d) : wp_t (f_X11_next n z 0 x d) (fun t => wp_t (f_X12_next n z 125 x t.2) (fun u => t.1 = u.1 ∧ J_ (j + 1) z u.2)) := by
  have hh := h
  obtain ⟨hz, ist, inm, igo, ibg, iwt, ias, ict, ics, ibn, iru, irt, ibr, ipf, ibs, itn, hlt, ipap, itp, itb, iou, ick, int, idr, iwd, itt, itd, isp, iyn⟩ := hh
  exact wp_m (op_next hz (by omega) ist inm ibg iwt ict ics igo ibn iru.1 irt ibr hlt) fun t ht => wp_m ht fun u ⟨q1, q2, q3, q4, q5, q6, q7, q8, q9⟩ => ⟨q1, J_nx h q8 q2 q3 q4 q5 q6 q7 q9⟩
theorem jc_unbar (hn : 100000 ≤ n) (hj : j ≤ 600) (h : J_ j z d) : wp_t (f_X11_unbar n z 0 d) (fun t => wp_t (f_X12_unbar n z 125 t.2) (fun u => t.1 = u.1 ∧ J_ (j + 1) z u.2)) := by
  have hh := h
  obtain ⟨hz, ist, inm, igo, ibg, iwt, ias, ict, ics, ibn, iru, irt, ibr, ipf, ibs, itn, hlt, ipap, itp, itb, iou, ick, int, idr, iwd, itt, itd, isp, iyn⟩ := hh
  exact wp_m (op_unbar hz ibr) fun t ht => wp_m ht fun u ⟨q1, q2, q3⟩ => ⟨q1, J_ub h q3 q2⟩
theorem jc_count (hn : 100000 ≤ n) (hj : j ≤ 600) (h : J_ j z d) : wp_t (f_X11_count n z 0 x y d) (fun t => wp_t (f_X12_count n z 125 x y t.2) (fun u => t.1 = u.1 ∧ J_ (j + 1) z u.2)) := by
  have hh := h
  obtain ⟨hz, ist, inm, igo, ibg, iwt, ias, ict, ics, ibn, iru, irt, ibr, ipf, ibs, itn, hlt, ipap, itp, itb, iou, ick, int, idr, iwd, itt, itd, isp, iyn⟩ := hh
  exact wp_m (op_count hz (by omega) ist inm ibg iwt ict ics ibr.2.2.2.1 ibs) fun t ht => wp_m ht fun u ⟨q1, q2, q3, q4, q5⟩ => ⟨q1, J_cn h q5 q2 q3 q4⟩
theorem jc_forced (hn : 100000 ≤ n) (hj : j ≤ 600) (h : J_ j z d) : wp_t (f_X11_forced n z 0 d) (fun t => wp_t (f_X12_forced n z 125 t.2) (fun u => t.1 = u.1 ∧ J_ (j + 1) z u.2)) := by
  have hh := h
  obtain ⟨hz, ist, inm, igo, ibg, iwt, ias, ict, ics, ibn, iru, irt, ibr, ipf, ibs, itn, hlt, ipap, itp, itb, iou, ick, int, idr, iwd, itt, itd, isp, iyn⟩ := hh
  exact wp_m (op_forced hz (by omega) ics ibs ist) fun t ht => wp_m ht fun u ⟨q1, q2, q3, q4, q5⟩ => ⟨q1, J_cn h q5 q2 q3 q4⟩
theorem jc_forcedAt (hn : 100000 ≤ n) (hj : j ≤ 600) (h : J_ j z d) : wp_t (f_X11_forcedAt n z 0 x d) (fun t => wp_t (f_X12_forcedAt n z 125 x t.2) (fun u => t.1 = u.1 ∧ J_ (j + 1) z u.2)) := by
  have hh := h
  obtain ⟨hz, ist, inm, igo, ibg, iwt, ias, ict, ics, ibn, iru, irt, ibr, ipf, ibs, itn, hlt, ipap, itp, itb, iou, ick, int, idr, iwd, itt, itd, isp, iyn⟩ := hh
  exact wp_m (op_forcedAt hz (by omega) ics ibs ist) fun t ht => wp_m ht fun u ⟨q1, q2, q3, q4, q5⟩ => ⟨q1, J_cn h q5 q2 q3 q4⟩
theorem jc_why (hn : 100000 ≤ n) (hj : j ≤ 600) (h : J_ j z d) : wp_t (f_X11_why n z 0 x d) (fun t => wp_t (f_X12_why n z 125 x t.2) (fun u => t.1 = u.1 ∧ J_ (j + 1) z u.2)) := by
  have hh := h
  obtain ⟨hz, ist, inm, igo, ibg, iwt, ias, ict, ics, ibn, iru, irt, ibr, ipf, ibs, itn, hlt, ipap, itp, itb, iou, ick, int, idr, iwd, itt, itd, isp, iyn⟩ := hh
  exact wp_m (op_why hz (by omega) ics ibs ist inm ibr.2.2.2.1) fun t ht => wp_m ht fun u ⟨q1, q2, q3, q4, q5⟩ => ⟨q1, J_cn h q5 q2 q3 q4⟩
theorem jc_trace (hn : 100000 ≤ n) (hj : j ≤ 600) (h : J_ j z d) : wp_t (f_X11_trace n z 0 x d) (fun t => wp_t (f_X12_trace n z 125 x t.2) (fun u => t.1 = u.1 ∧ J_ (j + 1) z u.2)) := by
  have hh := h
  obtain ⟨hz, ist, inm, igo, ibg, iwt, ias, ict, ics, ibn, iru, irt, ibr, ipf, ibs, itn, hlt, ipap, itp, itb, iou, ick, int, idr, iwd, itt, itd, isp, iyn⟩ := hh
  exact wp_m (op_trace hz int hj) fun t ht => wp_m ht fun u ⟨q1, q2⟩ => ⟨q1, J_no h q2⟩
theorem jc_digest (hn : 100000 ≤ n) (hj : j ≤ 600) (h : J_ j z d) : wp_t (f_X11_digest n z 0 d) (fun t => wp_t (f_X12_digest n z 125 t.2) (fun u => t.1 = u.1 ∧ J_ (j + 1) z u.2)) := by
  have hh := h
  obtain ⟨hz, ist, inm, igo, ibg, iwt, ias, ict, ics, ibn, iru, irt, ibr, ipf, ibs, itn, hlt, ipap, itp, itb, iou, ick, int, idr, iwd, itt, itd, isp, iyn⟩ := hh
  exact wp_m (op_digest hz (by omega) inm iwt ics ias ipap ibg ict ibr) fun t ht => wp_m ht fun u ⟨q1, q2, q3⟩ => ⟨q1, J_dg h (fun a k w => ⟨by rw [q2], q3 a k (by omega)⟩)⟩
theorem jc_status (hn : 100000 ≤ n) (hj : j ≤ 600) (h : J_ j z d) : wp_t (f_X11_status n z 0 d) (fun t => wp_t (f_X12_status n z 125 t.2) (fun u => t.1 = u.1 ∧ J_ (j + 1) z u.2)) := by
  have hh := h
  obtain ⟨hz, ist, inm, igo, ibg, iwt, ias, ict, ics, ibn, iru, irt, ibr, ipf, ibs, itn, hlt, ipap, itp, itb, iou, ick, int, idr, iwd, itt, itd, isp, iyn⟩ := hh
  exact wp_m (op_status hz ist) fun t ht => wp_m ht fun u ⟨q1, q2⟩ => ⟨q1, J_no h q2⟩
theorem jc_about (hn : 100000 ≤ n) (hj : j ≤ 600) (h : J_ j z d) : wp_t (f_X11_about n z 0 x d) (fun t => wp_t (f_X12_about n z 125 x t.2) (fun u => t.1 = u.1 ∧ J_ (j + 1) z u.2)) := by
  have hh := h
  obtain ⟨hz, ist, inm, igo, ibg, iwt, ias, ict, ics, ibn, iru, irt, ibr, ipf, ibs, itn, hlt, ipap, itp, itb, iou, ick, int, idr, iwd, itt, itd, isp, iyn⟩ := hh
  exact wp_m (op_about hz inm iru.1 ics ias ibr ipf ict itp iou ist) fun t ht => wp_m ht fun u ⟨q1, q2, q3⟩ => ⟨q1, J_st h q3 q2⟩
theorem J_rf {t : Int32 × ix_Z × ix_D2} {u : Int32 × ix_D2} (h : J_ j z d) (q : RF_ z d t u) : J_ (j + 1) t.2.1 u.2 := by
  have hh := h
  obtain ⟨hz, ist, inm, igo, ibg, iwt, ias, ict, ics, ibn, iru, irt, ibr, ipf, ibs, itn, hlt, ipap, itp, itb, iou, ick, int, idr, iwd, itt, itd, isp, iyn⟩ := hh
  obtain ⟨k1, k2⟩ := td_ru q hz iru itt itd
  refine J_r h (RF_L q) ?_ k1 k2
  have hz3 := hz.2.2
  have fz := q.2.2.2.2.2.2.2.2.2.1
  rw [iv_tp_c (f := d.1) (fun a k w => (fz a k (fun w2 => by unfold su_tp at w; unfold mo_ru fN_ fL_C at w2; omega)).1)]
  exact itp
theorem jc_clause (hn : 100000 ≤ n) (h : J_ j z d) : wp_t (f_X11_clause n z 0 x d) (fun t => wp_t (f_X12_clause n t.2.1 125 x t.2.2) (fun u => t.1 = u.1 ∧ ly_z t.2.1 ∧ J_ (j + 1) t.2.1 u.2)) := by
  have hh := h
  obtain ⟨hz, ist, inm, igo, ibg, iwt, ias, ict, ics, ibn, iru, irt, ibr, ipf, ibs, itn, hlt, ipap, itp, itb, iou, ick, int, idr, iwd, itt, itd, isp, iyn⟩ := hh
  exact wp_m (op_clause (by omega) ⟨hz, ipap, ist, inm, igo, ics, iru, idr⟩) fun t ht => wp_m ht fun u q => ⟨q.1, q.2.1, J_rf h q⟩
theorem jc_atMost (hn : 100000 ≤ n) (h : J_ j z d) : wp_t (f_X11_atMost n z 0 x y d) (fun t => wp_t (f_X12_atMost n t.2.1 125 x y t.2.2) (fun u => t.1 = u.1 ∧ ly_z t.2.1 ∧ J_ (j + 1) t.2.1 u.2)) := by
  have hh := h
  obtain ⟨hz, ist, inm, igo, ibg, iwt, ias, ict, ics, ibn, iru, irt, ibr, ipf, ibs, itn, hlt, ipap, itp, itb, iou, ick, int, idr, iwd, itt, itd, isp, iyn⟩ := hh
  exact wp_m (op_atMost (by omega) ⟨hz, ipap, ist, inm, igo, ics, iru, idr⟩) fun t ht => wp_m ht fun u q => ⟨q.1, q.2.1, J_rf h q⟩
theorem jc_group (hn : 100000 ≤ n) (h : J_ j z d) : wp_t (f_X11_group n z 0 x y d) (fun t => wp_t (f_X12_group n t.2.1 125 x y t.2.2) (fun u => t.1 = u.1 ∧ ly_z t.2.1 ∧ J_ (j + 1) t.2.1 u.2)) := by
  have hh := h
  obtain ⟨hz, ist, inm, igo, ibg, iwt, ias, ict, ics, ibn, iru, irt, ibr, ipf, ibs, itn, hlt, ipap, itp, itb, iou, ick, int, idr, iwd, itt, itd, isp, iyn⟩ := hh
  exact wp_m (op_group (by omega) ⟨hz, ipap, ist, inm, igo, ics, iru, idr⟩) fun t ht => wp_m ht fun u q => ⟨q.1, q.2.1, J_rf h q⟩
theorem jc_parity (hn : 100000 ≤ n) (h : J_ j z d) (hy : y = 0 ∨ y = 1) : wp_t (f_X11_parity n z 0 x y d) (fun t => wp_t (f_X12_parity n t.2.1 125 x y t.2.2) (fun u => t.1 = u.1 ∧ ly_z t.2.1 ∧ J_ (j + 1) t.2.1 u.2)) := by
  have hh := h
  obtain ⟨hz, ist, inm, igo, ibg, iwt, ias, ict, ics, ibn, iru, irt, ibr, ipf, ibs, itn, hlt, ipap, itp, itb, iou, ick, int, idr, iwd, itt, itd, isp, iyn⟩ := hh
  exact wp_m (op_parity (by omega) ⟨hz, ipap, ist, inm, igo, ics, iru, idr⟩ hy) fun t ht => wp_m ht fun u q => ⟨q.1, q.2.1, J_rf h q⟩
theorem jc_told (hn : 100000 ≤ n) (h : J_ j z d) : wp_t (f_X11_told n z 0 d) (fun t => wp_t (f_X12_told n t.2.1 125 t.2.2) (fun u => t.1 = u.1 ∧ ly_z t.2.1 ∧ J_ (j + 1) t.2.1 u.2)) := by
  have hh := h
  obtain ⟨hz, ist, inm, igo, ibg, iwt, ias, ict, ics, ibn, iru, irt, ibr, ipf, ibs, itn, hlt, ipap, itp, itb, iou, ick, int, idr, iwd, itt, itd, isp, iyn⟩ := hh
  exact wp_m (op_told (by omega) ⟨hz, ipap, ist, inm, igo, ics, iru, idr⟩ itp itb itt itd) fun t ht => wp_m ht fun u q => ⟨q.1.1, q.1.2.1, J_r h q.1 q.2.1 q.2.2.1 q.2.2.2⟩
end CLS

theorem fp_RX12_235 : ix_fpb 1564 0 false RX12 235 "ClauseCourtModel" [11] 0 "I" false = true := by decide +kernel
theorem mf_X12_fail : ix_mf yX12_fail cX12_fail 2 (some .int) 1 := ⟨ix_wm (i := 1923) (by decide +kernel), ix_wm (i := 8) (by decide +kernel), ⟨by decide +kernel, by decide +kernel⟩, by decide +kernel, by decide +kernel⟩
theorem mi_X12_fail : Cond.instanceMethod yX12_fail ∈ lw_tbl := ix_wm (i := 1922) (by decide +kernel)
theorem ms_X12_fail : Cond.selects yX12_fail.cls yX12_fail yX12_fail ∈ lw_tbl := List.mem_append_left _ (List.mem_of_getElem? (i := 58) (by decide +kernel))
theorem mf_X12_in : ix_mf yX12_in cX12_in 3 (some .boolean) 3 := ⟨ix_wm (i := 1919) (by decide +kernel), ix_wm (i := 8) (by decide +kernel), ⟨by decide +kernel, by decide +kernel⟩, by decide +kernel, by decide +kernel⟩
theorem st_X12_in : Cond.static yX12_in ∈ lw_tbl := ix_wm (i := 1918) (by decide +kernel)
theorem mf_X12_nameOf : ix_mf yX12_nameOf cX12_nameOf 1 (some .int) 1 := ⟨ix_wm (i := 1975) (by decide +kernel), ix_wm (i := 8) (by decide +kernel), ⟨by decide +kernel, by decide +kernel⟩, by decide +kernel, by decide +kernel⟩
theorem st_X12_nameOf : Cond.static yX12_nameOf ∈ lw_tbl := ix_wm (i := 1974) (by decide +kernel)
theorem ml_RX12_238 : tables_1[1917]? = some (Cond.methodLink RX12 238 yX12_in) := by decide +kernel
theorem fl_RX12_246 : ix_flb 1565 0 false RX12 246 "ClauseCourtModel" [11] 1 0 = true := by decide +kernel
theorem fp_RX12_246 : ix_fpb 1565 0 false RX12 246 "ClauseCourtModel" [11] 1 "I" false = true := by decide +kernel
theorem fp_RX12_249 : ix_fpb 1621 0 false RX12 249 "ClauseCourtModel" [11] 57 "Z" false = true := by decide +kernel
theorem ml_RX12_242 : tables_1[1920]? = some (Cond.methodLink RX12 242 yX12_fail) := by decide +kernel
theorem mf_X12_names : ix_mf yX12_names cX12_names 2 (some .int) 1 := ⟨ix_wm (i := 1916) (by decide +kernel), ix_wm (i := 8) (by decide +kernel), ⟨by decide +kernel, by decide +kernel⟩, by decide +kernel, by decide +kernel⟩
theorem mi_X12_names : Cond.instanceMethod yX12_names ∈ lw_tbl := ix_wm (i := 1914) (by decide +kernel)
theorem ms_X12_names : Cond.selects yX12_names.cls yX12_names yX12_names ∈ lw_tbl := ix_wm (i := 1915) (by decide +kernel)
theorem mf_X12_isRow : ix_mf yX12_isRow cX12_isRow 1 (some .boolean) 1 := ⟨ix_wm (i := 1930) (by decide +kernel), ix_wm (i := 8) (by decide +kernel), ⟨by decide +kernel, by decide +kernel⟩, by decide +kernel, by decide +kernel⟩
theorem st_X12_isRow : Cond.static yX12_isRow ∈ lw_tbl := ix_wm (i := 1929) (by decide +kernel)
theorem ml_RX12_253 : tables_1[1928]? = some (Cond.methodLink RX12 253 yX12_isRow) := by decide +kernel
theorem fl_RX12_17 : ix_flb 1569 0 false RX12 17 "ClauseCourtModel" [11] 5 2 = true := by decide +kernel
theorem fl_RX12_20 : ix_flb 1570 0 false RX12 20 "ClauseCourtModel" [11] 6 2 = true := by decide +kernel
theorem oi_1 : Int32.ofInt 1 = 1 := by decide
theorem mf_X12_row : ix_mf yX12_row cX12_row 4 (some .int) 2 := ⟨ix_wm (i := 1927) (by decide +kernel), ix_wm (i := 8) (by decide +kernel), ⟨by decide +kernel, by decide +kernel⟩, by decide +kernel, by decide +kernel⟩
theorem mi_X12_row : Cond.instanceMethod yX12_row ∈ lw_tbl := ix_wm (i := 1925) (by decide +kernel)
theorem ms_X12_row : Cond.selects yX12_row.cls yX12_row yX12_row ∈ lw_tbl := ix_wm (i := 1926) (by decide +kernel)
theorem mf_X12_drop : ix_mf yX12_drop cX12_drop 2 (some .int) 1 := ⟨ix_wm (i := 1934) (by decide +kernel), ix_wm (i := 8) (by decide +kernel), ⟨by decide +kernel, by decide +kernel⟩, by decide +kernel, by decide +kernel⟩
theorem mi_X12_drop : Cond.instanceMethod yX12_drop ∈ lw_tbl := ix_wm (i := 1932) (by decide +kernel)
theorem ms_X12_drop : Cond.selects yX12_drop.cls yX12_drop yX12_drop ∈ lw_tbl := ix_wm (i := 1933) (by decide +kernel)
theorem mf_X12_put : ix_mf yX12_put cX12_put 4 (some .int) 3 := ⟨ix_wm (i := 1938) (by decide +kernel), ix_wm (i := 8) (by decide +kernel), ⟨by decide +kernel, by decide +kernel⟩, by decide +kernel, by decide +kernel⟩
theorem mi_X12_put : Cond.instanceMethod yX12_put ∈ lw_tbl := ix_wm (i := 1936) (by decide +kernel)
theorem ms_X12_put : Cond.selects yX12_put.cls yX12_put yX12_put ∈ lw_tbl := ix_wm (i := 1937) (by decide +kernel)
theorem mf_X12_get : ix_mf yX12_get cX12_get 4 (some .long) 2 := ⟨ix_wm (i := 1942) (by decide +kernel), ix_wm (i := 8) (by decide +kernel), ⟨by decide +kernel, by decide +kernel⟩, by decide +kernel, by decide +kernel⟩
theorem mi_X12_get : Cond.instanceMethod yX12_get ∈ lw_tbl := ix_wm (i := 1940) (by decide +kernel)
theorem ms_X12_get : Cond.selects yX12_get.cls yX12_get yX12_get ∈ lw_tbl := ix_wm (i := 1941) (by decide +kernel)
theorem fl_RX12_80 : ix_flb 1599 0 false RX12 80 "ClauseCourtModel" [11] 35 2 = true := by decide +kernel
theorem mf_X12_copy : ix_mf yX12_copy cX12_copy 7 (some .int) 5 := ⟨ix_wm (i := 1947) (by decide +kernel), ix_wm (i := 8) (by decide +kernel), ⟨by decide +kernel, by decide +kernel⟩, by decide +kernel, by decide +kernel⟩
theorem mi_X12_copy : Cond.instanceMethod yX12_copy ∈ lw_tbl := ix_wm (i := 1945) (by decide +kernel)
theorem ms_X12_copy : Cond.selects yX12_copy.cls yX12_copy yX12_copy ∈ lw_tbl := ix_wm (i := 1946) (by decide +kernel)
theorem mf_X12_cut : ix_mf yX12_cut cX12_cut 3 (some .int) 2 := ⟨ix_wm (i := 1951) (by decide +kernel), ix_wm (i := 8) (by decide +kernel), ⟨by decide +kernel, by decide +kernel⟩, by decide +kernel, by decide +kernel⟩
theorem mi_X12_cut : Cond.instanceMethod yX12_cut ∈ lw_tbl := ix_wm (i := 1949) (by decide +kernel)
theorem ms_X12_cut : Cond.selects yX12_cut.cls yX12_cut yX12_cut ∈ lw_tbl := ix_wm (i := 1950) (by decide +kernel)
def tab_X12_fail : List (Nat × Instr × Nat) := [(0, .aload_n 0, 1), (1, .iload_n 1, 1), (2, .putfield 235, 3), (5, .iload_n 1, 1), (6, .ireturn, 1)]
theorem tb_X12_fail : ix_tab cX12_fail tab_X12_fail := by
  unfold ix_tab
  decide +kernel
noncomputable def f_X12_fail (n : Nat) (z : ix_Z) (a0 : Nat) (x1 : Int32) (d : ix_D2) : Option (Int32 × ix_D2) :=
  ix_ck (ix_ok z [11] a0) (ix_lt (ix_di d a0 0 x1) (fun d_2 => some (x1, d_2)))
set_option maxRecDepth 20000 in
theorem c_X12_fail {l : Launch} {K : ix_Cx} (hKp : ix_Kp K) {n : Nat} {z : ix_Z} {a0 : Nat} {x1 : Int32} {d : ix_D2} {r : Int32} {d1 : ix_D2} (h : f_X12_fail n z a0 x1 d = some (r, d1)) : ix_M l K yX12_fail cX12_fail 2 (some .int) 0 0 0 0 [.ref (K.2.2.1 + a0), .int x1] (ix_w z d) (some (.int r)) (ix_w z d1) := by
  refine ix_met mf_X12_fail hKp (Nat.le_of_ble_eq_true rfl) ?_
  intro p e s m args below meth c hr hlk hnm X
  have X : ix_X p s m args c K cX12_fail RX12 2 := X
  show ix_G p l e (ix_rm 0 0 0 0) s m args below meth c (MQ below (ix_Post K (some (.int r)) (ix_w z d1)) args s 0 0 (ix_A K)) K 2 0 0 0 [(0, .ref (K.2.2.1 + a0)), (1, .int x1)] [] (ix_w z d)
  unfold f_X12_fail at h
  refine ix_aload_n (i := 0) (j := 0) X (ix_tb_at tb_X12_fail 0 rfl) rfl rfl (pc1 := 1) rfl ?_
  refine ix_iload_n (i := 1) (j := 1) X (ix_tb_at tb_X12_fail 1 rfl) rfl rfl (pc1 := 2) rfl ?_
  obtain ⟨k_1, h⟩ := ix_ck_some h
  obtain ⟨d_2, e_3, h⟩ := ix_lt_ex h
  refine iz_putI X fp_RX12_235 k_1 (ix_tb_at tb_X12_fail 2 rfl) e_3 (pc1 := 5) rfl ?_
  refine ix_iload_n (i := 1) (j := 1) X (ix_tb_at tb_X12_fail 3 rfl) rfl rfl (pc1 := 6) rfl ?_
  exact ix_iret X hr hlk (ix_r2 (f := fun r => some (.int r)) (g := ix_w z) h) (ix_tb_at tb_X12_fail 4 rfl)
def tab_X12_in : List (Nat × Instr × Nat) := [(0, .iload_n 0, 1), (1, .iload_n 1, 1), (2, .if_icmp .lt 12, 3), (5, .iload_n 0, 1), (6, .iload_n 2, 1), (7, .if_icmp .gt 7, 3), (10, .iconst 1, 1), (11, .goto 4, 3), (14, .iconst 0, 1), (15, .ireturn, 1)]
theorem tb_X12_in : ix_tab cX12_in tab_X12_in := by
  unfold ix_tab
  decide +kernel
noncomputable def f_X12_in (n : Nat) (z : ix_Z) (x0 : Int32) (x1 : Int32) (x2 : Int32) (d : ix_D2) : Option (Int32 × ix_D2) :=
  ix_if (x0 < x1) (some (0, d)) (ix_if (x2 < x0) (some (0, d)) (some (1, d)))
set_option maxRecDepth 20000 in
theorem c_X12_in {l : Launch} {K : ix_Cx} (hKp : ix_Kp K) {n : Nat} {z : ix_Z} {x0 : Int32} {x1 : Int32} {x2 : Int32} {d : ix_D2} {r : Int32} {d1 : ix_D2} (h : f_X12_in n z x0 x1 x2 d = some (r, d1)) : ix_M l K yX12_in cX12_in 3 (some .boolean) 0 0 0 0 [.int x0, .int x1, .int x2] (ix_w z d) (some (.int r)) (ix_w z d1) := by
  refine ix_met mf_X12_in hKp (Nat.le_of_ble_eq_true rfl) ?_
  intro p e s m args below meth c hr hlk hnm X
  have X : ix_X p s m args c K cX12_in RX12 3 := X
  show ix_G p l e (ix_rm 0 0 0 0) s m args below meth c (MQ below (ix_Post K (some (.int r)) (ix_w z d1)) args s 0 0 (ix_A K)) K 3 0 0 0 [(0, .int x0), (1, .int x1), (2, .int x2)] [] (ix_w z d)
  unfold f_X12_in at h
  refine ix_iload_n (i := 0) (j := 0) X (ix_tb_at tb_X12_in 0 rfl) rfl rfl (pc1 := 1) rfl ?_
  refine ix_iload_n (i := 1) (j := 1) X (ix_tb_at tb_X12_in 1 rfl) rfl rfl (pc1 := 2) rfl ?_
  refine ix_icmp_lt (tgt := 14) X (ix_tb_at tb_X12_in 2 rfl) (by decide) (pc1 := 5) rfl (fun q_1 => ?_) (fun q_1 => ?_)
  · have h := ix_ift q_1 h
    refine ix_iconst (v := 0) X (ix_tb_at tb_X12_in 8 rfl) (by decide) (pc1 := 15) rfl ?_
    exact ix_zret X hr hlk (by decide) (ix_r2 (f := fun r => some (.int r)) (g := ix_w z) h) (ix_tb_at tb_X12_in 9 rfl)
  · have h := ix_iff q_1 h
    refine ix_iload_n (i := 0) (j := 0) X (ix_tb_at tb_X12_in 3 rfl) rfl rfl (pc1 := 6) rfl ?_
    refine ix_iload_n (i := 2) (j := 2) X (ix_tb_at tb_X12_in 4 rfl) rfl rfl (pc1 := 7) rfl ?_
    refine ix_icmp_gt (tgt := 14) X (ix_tb_at tb_X12_in 5 rfl) (by decide) (pc1 := 10) rfl (fun q_2 => ?_) (fun q_2 => ?_)
    · have h := ix_ift q_2 h
      refine ix_iconst (v := 0) X (ix_tb_at tb_X12_in 8 rfl) (by decide) (pc1 := 15) rfl ?_
      exact ix_zret X hr hlk (by decide) (ix_r2 (f := fun r => some (.int r)) (g := ix_w z) h) (ix_tb_at tb_X12_in 9 rfl)
    · have h := ix_iff q_2 h
      refine ix_iconst (v := 1) X (ix_tb_at tb_X12_in 6 rfl) (by decide) (pc1 := 11) rfl ?_
      refine ix_goto (tgt := 15) X (ix_tb_at tb_X12_in 7 rfl) (by decide) ?_
      exact ix_zret X hr hlk (by decide) (ix_r2 (f := fun r => some (.int r)) (g := ix_w z) h) (ix_tb_at tb_X12_in 9 rfl)
def tab_X12_nameOf : List (Nat × Instr × Nat) := [(0, .iload_n 0, 1), (1, .ifCond .ge 8, 3), (4, .iload_n 0, 1), (5, .ineg, 1), (6, .goto 4, 3), (9, .iload_n 0, 1), (10, .ireturn, 1)]
theorem tb_X12_nameOf : ix_tab cX12_nameOf tab_X12_nameOf := by
  unfold ix_tab
  decide +kernel
noncomputable def f_X12_nameOf (n : Nat) (z : ix_Z) (x0 : Int32) (d : ix_D2) : Option (Int32 × ix_D2) :=
  ix_if (0 ≤ x0) (some (x0, d)) (some (-x0, d))
set_option maxRecDepth 20000 in
theorem c_X12_nameOf {l : Launch} {K : ix_Cx} (hKp : ix_Kp K) {n : Nat} {z : ix_Z} {x0 : Int32} {d : ix_D2} {r : Int32} {d1 : ix_D2} (h : f_X12_nameOf n z x0 d = some (r, d1)) : ix_M l K yX12_nameOf cX12_nameOf 1 (some .int) 0 0 0 0 [.int x0] (ix_w z d) (some (.int r)) (ix_w z d1) := by
  refine ix_met mf_X12_nameOf hKp (Nat.le_of_ble_eq_true rfl) ?_
  intro p e s m args below meth c hr hlk hnm X
  have X : ix_X p s m args c K cX12_nameOf RX12 1 := X
  show ix_G p l e (ix_rm 0 0 0 0) s m args below meth c (MQ below (ix_Post K (some (.int r)) (ix_w z d1)) args s 0 0 (ix_A K)) K 1 0 0 0 [(0, .int x0)] [] (ix_w z d)
  unfold f_X12_nameOf at h
  refine ix_iload_n (i := 0) (j := 0) X (ix_tb_at tb_X12_nameOf 0 rfl) rfl rfl (pc1 := 1) rfl ?_
  refine ix_if_ge (tgt := 9) X (ix_tb_at tb_X12_nameOf 1 rfl) (by decide) (pc1 := 4) rfl (fun q_1 => ?_) (fun q_1 => ?_)
  · have h := ix_ift q_1 h
    refine ix_iload_n (i := 0) (j := 0) X (ix_tb_at tb_X12_nameOf 5 rfl) rfl rfl (pc1 := 10) rfl ?_
    exact ix_iret X hr hlk (ix_r2 (f := fun r => some (.int r)) (g := ix_w z) h) (ix_tb_at tb_X12_nameOf 6 rfl)
  · have h := ix_iff q_1 h
    refine ix_iload_n (i := 0) (j := 0) X (ix_tb_at tb_X12_nameOf 2 rfl) rfl rfl (pc1 := 5) rfl ?_
    refine ix_ineg X (ix_tb_at tb_X12_nameOf 3 rfl) (pc1 := 6) rfl ?_
    refine ix_goto (tgt := 10) X (ix_tb_at tb_X12_nameOf 4 rfl) (by decide) ?_
    exact ix_iret X hr hlk (ix_r2 (f := fun r => some (.int r)) (g := ix_w z) h) (ix_tb_at tb_X12_nameOf 6 rfl)
def tab_X12_names : List (Nat × Instr × Nat) := [(0, .iload_n 1, 1), (1, .iconst 0, 1), (2, .sipush 300, 3), (5, .invokestatic 238, 3), (8, .ifCond .ne 11, 3), (11, .aload_n 0, 1), (12, .sipush (-1001), 3), (15, .invokevirtual 242, 3), (18, .ireturn, 1), (19, .aload_n 0, 1), (20, .getfield 246, 3), (23, .iload_n 1, 1), (24, .iadd, 1), (25, .sipush 300, 3), (28, .if_icmp .le 11, 3), (31, .aload_n 0, 1), (32, .sipush (-1003), 3), (35, .invokevirtual 242, 3), (38, .ireturn, 1), (39, .aload_n 0, 1), (40, .dup, 1), (41, .getfield 246, 3), (44, .iload_n 1, 1), (45, .iadd, 1), (46, .putfield 246, 3), (49, .aload_n 0, 1), (50, .iconst 0, 1), (51, .putfield 249, 3), (54, .aload_n 0, 1), (55, .getfield 246, 3), (58, .ireturn, 1)]
theorem tb_X12_names : ix_tab cX12_names tab_X12_names := by
  unfold ix_tab
  decide +kernel
noncomputable def f_X12_names (n : Nat) (z : ix_Z) (a0 : Nat) (x1 : Int32) (d : ix_D2) : Option (Int32 × ix_D2) :=
  ix_bd2 (f_X12_in n z x1 0 300 d) (fun r_3 d_1 => ix_if (r_3 = 0) (ix_ck (ix_ok z [11] a0) (ix_bd2 (f_X12_fail n z a0 ((-1001)) d_1) (fun r_17 d_14 => some (r_17, d_14)))) (ix_ck (ix_ok z [11] a0) (ix_if ((d_1.1 a0 1) + x1 ≤ 300) (ix_lt (ix_di d_1 a0 1 ((d_1.1 a0 1) + x1)) (fun d_7 => ix_lt (ix_di d_7 a0 57 0) (fun d_9 => some (d_9.1 a0 1, d_9)))) (ix_bd2 (f_X12_fail n z a0 ((-1003)) d_1) (fun r_13 d_11 => some (r_13, d_11))))))
set_option maxRecDepth 20000 in
theorem c_X12_names {l : Launch} {K : ix_Cx} (hKp : ix_Kp K) {n : Nat} {z : ix_Z} {a0 : Nat} {x1 : Int32} {d : ix_D2} {r : Int32} {d1 : ix_D2} (h : f_X12_names n z a0 x1 d = some (r, d1)) : ix_M l K yX12_names cX12_names 2 (some .int) 1 22 0 0 [.ref (K.2.2.1 + a0), .int x1] (ix_w z d) (some (.int r)) (ix_w z d1) := by
  refine ix_met mf_X12_names hKp (Nat.le_of_ble_eq_true rfl) ?_
  intro p e s m args below meth c hr hlk hnm X
  have X : ix_X p s m args c K cX12_names RX12 2 := X
  show ix_G p l e (ix_rm 1 22 0 0) s m args below meth c (MQ below (ix_Post K (some (.int r)) (ix_w z d1)) args s 0 0 (ix_A K)) K 2 0 0 0 [(0, .ref (K.2.2.1 + a0)), (1, .int x1)] [] (ix_w z d)
  unfold f_X12_names at h
  refine ix_iload_n (i := 1) (j := 1) X (ix_tb_at tb_X12_names 0 rfl) rfl rfl (pc1 := 1) rfl ?_
  refine ix_iconst (v := 0) X (ix_tb_at tb_X12_names 1 rfl) (by decide) (pc1 := 2) rfl ?_
  refine ix_sipush (v := 300) X (ix_tb_at tb_X12_names 2 rfl) (by decide) (pc1 := 5) rfl ?_
  obtain ⟨r_3, d_1, h_2, h⟩ := ix_bd2_ex h
  refine ix_callS (As := [.int x1, .int 0, .int 300]) (rest := []) X mf_X12_in st_X12_in ml_RX12_238 ⟨Nat.le_of_ble_eq_true rfl, Nat.le_of_ble_eq_true rfl⟩ ⟨Nat.le_of_ble_eq_true rfl, Nat.le_of_ble_eq_true rfl⟩ rfl (Nat.le_of_ble_eq_true rfl) (ix_tb_at tb_X12_names 3 rfl) (c_X12_in hKp h_2) rfl (pc1 := 8) rfl ?_
  refine ix_if_ne (tgt := 19) X (ix_tb_at tb_X12_names 4 rfl) (by decide) (pc1 := 11) rfl (fun q_4 => ?_) (fun q_4 => ?_)
  · have h := ix_iff q_4 h
    refine ix_aload_n (i := 0) (j := 0) X (ix_tb_at tb_X12_names 9 rfl) rfl rfl (pc1 := 20) rfl ?_
    obtain ⟨k_5, h⟩ := ix_ck_some h
    refine iz_getI X fl_RX12_246 k_5 (ix_tb_at tb_X12_names 10 rfl) (pc1 := 23) rfl ?_
    refine ix_iload_n (i := 1) (j := 1) X (ix_tb_at tb_X12_names 11 rfl) rfl rfl (pc1 := 24) rfl ?_
    refine ix_iadd X (ix_tb_at tb_X12_names 12 rfl) (pc1 := 25) rfl ?_
    refine ix_sipush (v := 300) X (ix_tb_at tb_X12_names 13 rfl) (by decide) (pc1 := 28) rfl ?_
    refine ix_icmp_le (tgt := 39) X (ix_tb_at tb_X12_names 14 rfl) (by decide) (pc1 := 31) rfl (fun q_6 => ?_) (fun q_6 => ?_)
    · have h := ix_ift q_6 h
      refine ix_aload_n (i := 0) (j := 0) X (ix_tb_at tb_X12_names 19 rfl) rfl rfl (pc1 := 40) rfl ?_
      refine ix_dup X (ix_tb_at tb_X12_names 20 rfl) rfl (pc1 := 41) rfl ?_
      refine iz_getI X fl_RX12_246 k_5 (ix_tb_at tb_X12_names 21 rfl) (pc1 := 44) rfl ?_
      refine ix_iload_n (i := 1) (j := 1) X (ix_tb_at tb_X12_names 22 rfl) rfl rfl (pc1 := 45) rfl ?_
      refine ix_iadd X (ix_tb_at tb_X12_names 23 rfl) (pc1 := 46) rfl ?_
      obtain ⟨d_7, e_8, h⟩ := ix_lt_ex h
      refine iz_putI X fp_RX12_246 k_5 (ix_tb_at tb_X12_names 24 rfl) e_8 (pc1 := 49) rfl ?_
      refine ix_aload_n (i := 0) (j := 0) X (ix_tb_at tb_X12_names 25 rfl) rfl rfl (pc1 := 50) rfl ?_
      refine ix_iconst (v := 0) X (ix_tb_at tb_X12_names 26 rfl) (by decide) (pc1 := 51) rfl ?_
      obtain ⟨d_9, e_10, h⟩ := ix_lt_ex h
      refine iz_putZ X fp_RX12_249 k_5 (ix_tb_at tb_X12_names 27 rfl) (by decide) e_10 (pc1 := 54) rfl ?_
      refine ix_aload_n (i := 0) (j := 0) X (ix_tb_at tb_X12_names 28 rfl) rfl rfl (pc1 := 55) rfl ?_
      refine iz_getI X fl_RX12_246 k_5 (ix_tb_at tb_X12_names 29 rfl) (pc1 := 58) rfl ?_
      exact ix_iret X hr hlk (ix_r2 (f := fun r => some (.int r)) (g := ix_w z) h) (ix_tb_at tb_X12_names 30 rfl)
    · have h := ix_iff q_6 h
      refine ix_aload_n (i := 0) (j := 0) X (ix_tb_at tb_X12_names 15 rfl) rfl rfl (pc1 := 32) rfl ?_
      refine ix_sipush (v := (-1003)) X (ix_tb_at tb_X12_names 16 rfl) (by decide) (pc1 := 35) rfl ?_
      obtain ⟨r_13, d_11, h_12, h⟩ := ix_bd2_ex h
      refine ix_callV (As := [.int ((-1003))]) (rest := []) (ci := 11) (T := TX12) (nf := 116) X mf_X12_fail mi_X12_fail ms_X12_fail rfl (Nat.le_of_ble_eq_true rfl) ml_RX12_242 ⟨Nat.le_of_ble_eq_true rfl, Nat.le_of_ble_eq_true rfl⟩ ⟨Nat.le_of_ble_eq_true rfl, Nat.le_of_ble_eq_true rfl⟩ rfl (Nat.le_of_ble_eq_true rfl) (ix_tb_at tb_X12_names 17 rfl) ⟨k_5.1, List.mem_singleton.mp k_5.2⟩ (c_X12_fail hKp h_12) rfl (pc1 := 38) rfl ?_
      exact ix_iret X hr hlk (ix_r2 (f := fun r => some (.int r)) (g := ix_w z) h) (ix_tb_at tb_X12_names 18 rfl)
  · have h := ix_ift q_4 h
    refine ix_aload_n (i := 0) (j := 0) X (ix_tb_at tb_X12_names 5 rfl) rfl rfl (pc1 := 12) rfl ?_
    refine ix_sipush (v := (-1001)) X (ix_tb_at tb_X12_names 6 rfl) (by decide) (pc1 := 15) rfl ?_
    obtain ⟨k_16, h⟩ := ix_ck_some h
    obtain ⟨r_17, d_14, h_15, h⟩ := ix_bd2_ex h
    refine ix_callV (As := [.int ((-1001))]) (rest := []) (ci := 11) (T := TX12) (nf := 116) X mf_X12_fail mi_X12_fail ms_X12_fail rfl (Nat.le_of_ble_eq_true rfl) ml_RX12_242 ⟨Nat.le_of_ble_eq_true rfl, Nat.le_of_ble_eq_true rfl⟩ ⟨Nat.le_of_ble_eq_true rfl, Nat.le_of_ble_eq_true rfl⟩ rfl (Nat.le_of_ble_eq_true rfl) (ix_tb_at tb_X12_names 7 rfl) ⟨k_16.1, List.mem_singleton.mp k_16.2⟩ (c_X12_fail hKp h_15) rfl (pc1 := 18) rfl ?_
    exact ix_iret X hr hlk (ix_r2 (f := fun r => some (.int r)) (g := ix_w z) h) (ix_tb_at tb_X12_names 8 rfl)
def tab_X12_isRow : List (Nat × Instr × Nat) := [(0, .iload_n 0, 1), (1, .iconst 0, 1), (2, .bipush 39, 2), (4, .invokestatic 238, 3), (7, .ireturn, 1)]
theorem tb_X12_isRow : ix_tab cX12_isRow tab_X12_isRow := by
  unfold ix_tab
  decide +kernel
noncomputable def f_X12_isRow (n : Nat) (z : ix_Z) (x0 : Int32) (d : ix_D2) : Option (Int32 × ix_D2) :=
  ix_bd2 (f_X12_in n z x0 0 39 d) (fun r_3 d_1 => ix_ck (r_3 = 0 ∨ r_3 = 1) (some (r_3, d_1)))
set_option maxRecDepth 20000 in
theorem c_X12_isRow {l : Launch} {K : ix_Cx} (hKp : ix_Kp K) {n : Nat} {z : ix_Z} {x0 : Int32} {d : ix_D2} {r : Int32} {d1 : ix_D2} (h : f_X12_isRow n z x0 d = some (r, d1)) : ix_M l K yX12_isRow cX12_isRow 1 (some .boolean) 1 22 0 0 [.int x0] (ix_w z d) (some (.int r)) (ix_w z d1) := by
  refine ix_met mf_X12_isRow hKp (Nat.le_of_ble_eq_true rfl) ?_
  intro p e s m args below meth c hr hlk hnm X
  have X : ix_X p s m args c K cX12_isRow RX12 1 := X
  show ix_G p l e (ix_rm 1 22 0 0) s m args below meth c (MQ below (ix_Post K (some (.int r)) (ix_w z d1)) args s 0 0 (ix_A K)) K 1 0 0 0 [(0, .int x0)] [] (ix_w z d)
  unfold f_X12_isRow at h
  refine ix_iload_n (i := 0) (j := 0) X (ix_tb_at tb_X12_isRow 0 rfl) rfl rfl (pc1 := 1) rfl ?_
  refine ix_iconst (v := 0) X (ix_tb_at tb_X12_isRow 1 rfl) (by decide) (pc1 := 2) rfl ?_
  refine ix_bipush (v := 39) X (ix_tb_at tb_X12_isRow 2 rfl) (by decide) (pc1 := 4) rfl ?_
  obtain ⟨r_3, d_1, h_2, h⟩ := ix_bd2_ex h
  refine ix_callS (As := [.int x0, .int 0, .int 39]) (rest := []) X mf_X12_in st_X12_in ml_RX12_238 ⟨Nat.le_of_ble_eq_true rfl, Nat.le_of_ble_eq_true rfl⟩ ⟨Nat.le_of_ble_eq_true rfl, Nat.le_of_ble_eq_true rfl⟩ rfl (Nat.le_of_ble_eq_true rfl) (ix_tb_at tb_X12_isRow 3 rfl) (c_X12_in hKp h_2) rfl (pc1 := 7) rfl ?_
  obtain ⟨k_4, h⟩ := ix_ck_some h
  exact ix_zret X hr hlk k_4 (ix_r2 (f := fun r => some (.int r)) (g := ix_w z) h) (ix_tb_at tb_X12_isRow 4 rfl)
def tab_X12_row : List (Nat × Instr × Nat) := [(0, .iload_n 1, 1), (1, .invokestatic 253, 3), (4, .ifCond .eq 9, 3), (7, .iload_n 2, 1), (8, .bipush 12, 2), (10, .if_icmp .le 11, 3), (13, .aload_n 0, 1), (14, .sipush (-1001), 3), (17, .invokevirtual 242, 3), (20, .ireturn, 1), (21, .iload_n 2, 1), (22, .ifCond .ge 11, 3), (25, .aload_n 0, 1), (26, .sipush (-1014), 3), (29, .invokevirtual 242, 3), (32, .ireturn, 1), (33, .iconst 0, 1), (34, .istore_n 3, 1), (35, .iload_n 3, 1), (36, .iload_n 2, 1), (37, .if_icmp .ge 21, 3), (40, .aload_n 0, 1), (41, .getfield 20, 3), (44, .bipush 12, 2), (46, .iload_n 1, 1), (47, .imul, 1), (48, .iload_n 3, 1), (49, .iadd, 1), (50, .iconst 0, 1), (51, .iastore, 1), (52, .iinc 3 1, 3), (55, .goto (-20), 3), (58, .aload_n 0, 1), (59, .getfield 17, 3), (62, .iload_n 1, 1), (63, .iload_n 2, 1), (64, .iastore, 1), (65, .iload_n 2, 1), (66, .ireturn, 1)]
theorem tb_X12_row : ix_tab cX12_row tab_X12_row := by
  unfold ix_tab
  decide +kernel
noncomputable def f_X12_row_13 (n : Nat) (z : ix_Z)  (a0 : Nat) (d : ix_D2) : Option (Int32 × ix_D2) :=
  ix_ck (ix_ok z [11] a0) (ix_bd2 (f_X12_fail n z a0 ((-1001)) d) (fun r_8 d_5 => some (r_8, d_5)))
noncomputable def b_X12_row_35 (n : Nat) (z : ix_Z)  (a0 : Nat) (x1 : Int32) (x2 : Int32) (rec35 : Int32 → ix_D2 → Option (Int32 × ix_D2)) (x3 : Int32) (d : ix_D2) : Option (Int32 × ix_D2) :=
  ix_if (x2 ≤ x3) (ix_ck (ix_ok z [11] a0) (ix_bd1 (z.1 a0 5) (fun b_13 => ix_ck (ix_ix z 20 b_13 x1) (ix_lt (ix_di d b_13 (ix_n x1) x2) (fun d_16 => some (x2, d_16)))))) (ix_ck (ix_ok z [11] a0) (ix_bd1 (z.1 a0 6) (fun b_19 => ix_ck (ix_ix z 20 b_19 ((12 * x1) + x3)) (ix_lt (ix_di d b_19 (ix_n ((12 * x1) + x3)) 0) (fun d_22 => ix_lt (x3 + 1) (fun x3_24 => rec35 x3_24 d_22))))))
noncomputable def f_X12_row_35 (n : Nat) (z : ix_Z)  (a0 : Nat) (x1 : Int32) (x2 : Int32) (x3 : Int32) (d : ix_D2) : Option (Int32 × ix_D2) := ix_fix (b_X12_row_35 n z  a0 x1 x2) (fun _ _ => none) n x3 d
noncomputable def f_X12_row (n : Nat) (z : ix_Z) (a0 : Nat) (x1 : Int32) (x2 : Int32) (d : ix_D2) : Option (Int32 × ix_D2) :=
  ix_bd2 (f_X12_isRow n z x1 d) (fun r_3 d_1 => ix_if (r_3 = 0) (f_X12_row_13 n z  a0 d_1) (ix_if (x2 ≤ 12) (ix_if (0 ≤ x2) (f_X12_row_35 n z  a0 x1 x2 0 d_1) (ix_ck (ix_ok z [11] a0) (ix_bd2 (f_X12_fail n z a0 ((-1014)) d_1) (fun r_29 d_26 => some (r_29, d_26))))) (f_X12_row_13 n z  a0 d_1)))
set_option maxRecDepth 20000 in
theorem t_X12_row_13 {l : Launch} {p : Program} {e : Env} {s : State} {m : MethodId} {args : Array Value} {below : List Frame} {meth : Method} {c : Code} {K : ix_Cx} (hKp : ix_Kp K) (X : ix_X p s m args c K cX12_row RX12 4) (hr : meth.sig.returnType = (some .int)) (hlk : meth.locks = false) {n : Nat} {z : ix_Z}  {a0 : Nat} {r : Int32} {d1 : ix_D2}  {d : ix_D2} (h : f_X12_row_13 n z  a0 d = some (r, d1)) : ix_G p l e (ix_rm 2 42 0 0) s m args below meth c (MQ below (ix_Post K (some (.int r)) (ix_w z d1)) args s 0 0 (ix_A K)) K 4 0 0 13 [(0, .ref (K.2.2.1 + a0))] [] (ix_w z d) := by
  unfold f_X12_row_13 at h
  refine ix_aload_n (i := 0) (j := 0) X (ix_tb_at tb_X12_row 6 rfl) rfl rfl (pc1 := 14) rfl ?_
  refine ix_sipush (v := (-1001)) X (ix_tb_at tb_X12_row 7 rfl) (by decide) (pc1 := 17) rfl ?_
  obtain ⟨k_7, h⟩ := ix_ck_some h
  obtain ⟨r_8, d_5, h_6, h⟩ := ix_bd2_ex h
  refine ix_callV (As := [.int ((-1001))]) (rest := []) (ci := 11) (T := TX12) (nf := 116) X mf_X12_fail mi_X12_fail ms_X12_fail rfl (Nat.le_of_ble_eq_true rfl) ml_RX12_242 ⟨Nat.le_of_ble_eq_true rfl, Nat.le_of_ble_eq_true rfl⟩ ⟨Nat.le_of_ble_eq_true rfl, Nat.le_of_ble_eq_true rfl⟩ rfl (Nat.le_of_ble_eq_true rfl) (ix_tb_at tb_X12_row 8 rfl) ⟨k_7.1, List.mem_singleton.mp k_7.2⟩ (c_X12_fail hKp h_6) rfl (pc1 := 20) rfl ?_
  exact ix_iret X hr hlk (ix_r2 (f := fun r => some (.int r)) (g := ix_w z) h) (ix_tb_at tb_X12_row 9 rfl)
set_option maxRecDepth 20000 in
theorem tb_X12_row_35 {l : Launch} {p : Program} {e : Env} {s : State} {m : MethodId} {args : Array Value} {below : List Frame} {meth : Method} {c : Code} {K : ix_Cx} (hKp : ix_Kp K) (X : ix_X p s m args c K cX12_row RX12 4) (hr : meth.sig.returnType = (some .int)) (hlk : meth.locks = false) {n : Nat} {z : ix_Z}  {a0 : Nat} {x1 : Int32} {x2 : Int32} {rec35 : Int32 → ix_D2 → Option (Int32 × ix_D2)} {r : Int32} {d1 : ix_D2} (hrec35 : ∀ (x3 : Int32) (d : ix_D2), rec35 x3 d = some (r, d1) → ix_G p l e (ix_rm 2 42 0 0) s m args below meth c (MQ below (ix_Post K (some (.int r)) (ix_w z d1)) args s 0 0 (ix_A K)) K 4 0 0 35 [(0, .ref (K.2.2.1 + a0)), (1, .int x1), (2, .int x2), (3, .int x3)] [] (ix_w z d)) {x3 : Int32} {d : ix_D2} (h : b_X12_row_35 n z  a0 x1 x2 rec35 x3 d = some (r, d1)) : ix_G p l e (ix_rm 2 42 0 0) s m args below meth c (MQ below (ix_Post K (some (.int r)) (ix_w z d1)) args s 0 0 (ix_A K)) K 4 0 0 35 [(0, .ref (K.2.2.1 + a0)), (1, .int x1), (2, .int x2), (3, .int x3)] [] (ix_w z d) := by
  unfold b_X12_row_35 at h
  refine ix_iload_n (i := 3) (j := 3) X (ix_tb_at tb_X12_row 18 rfl) rfl rfl (pc1 := 36) rfl ?_
  refine ix_iload_n (i := 2) (j := 2) X (ix_tb_at tb_X12_row 19 rfl) rfl rfl (pc1 := 37) rfl ?_
  refine ix_icmp_ge (tgt := 58) X (ix_tb_at tb_X12_row 20 rfl) (by decide) (pc1 := 40) rfl (fun q_11 => ?_) (fun q_11 => ?_)
  · have h := ix_ift q_11 h
    refine ix_aload_n (i := 0) (j := 0) X (ix_tb_at tb_X12_row 32 rfl) rfl rfl (pc1 := 59) rfl ?_
    obtain ⟨k_12, h⟩ := ix_ck_some h
    obtain ⟨b_13, q_14, h⟩ := ix_bd1_ex h
    refine iz_getR X fl_RX12_17 k_12 q_14 (ix_tb_at tb_X12_row 33 rfl) (pc1 := 62) rfl ?_
    refine ix_iload_n (i := 1) (j := 1) X (ix_tb_at tb_X12_row 34 rfl) rfl rfl (pc1 := 63) rfl ?_
    refine ix_iload_n (i := 2) (j := 2) X (ix_tb_at tb_X12_row 35 rfl) rfl rfl (pc1 := 64) rfl ?_
    obtain ⟨k_15, h⟩ := ix_ck_some h
    obtain ⟨d_16, e_17, h⟩ := ix_lt_ex h
    refine iz_iast X k_15 (ix_tb_at tb_X12_row 36 rfl) e_17 (pc1 := 65) rfl ?_
    refine ix_iload_n (i := 2) (j := 2) X (ix_tb_at tb_X12_row 37 rfl) rfl rfl (pc1 := 66) rfl ?_
    exact ix_iret X hr hlk (ix_r2 (f := fun r => some (.int r)) (g := ix_w z) h) (ix_tb_at tb_X12_row 38 rfl)
  · have h := ix_iff q_11 h
    refine ix_aload_n (i := 0) (j := 0) X (ix_tb_at tb_X12_row 21 rfl) rfl rfl (pc1 := 41) rfl ?_
    obtain ⟨k_18, h⟩ := ix_ck_some h
    obtain ⟨b_19, q_20, h⟩ := ix_bd1_ex h
    refine iz_getR X fl_RX12_20 k_18 q_20 (ix_tb_at tb_X12_row 22 rfl) (pc1 := 44) rfl ?_
    refine ix_bipush (v := 12) X (ix_tb_at tb_X12_row 23 rfl) (by decide) (pc1 := 46) rfl ?_
    refine ix_iload_n (i := 1) (j := 1) X (ix_tb_at tb_X12_row 24 rfl) rfl rfl (pc1 := 47) rfl ?_
    refine ix_imul X (ix_tb_at tb_X12_row 25 rfl) (pc1 := 48) rfl ?_
    refine ix_iload_n (i := 3) (j := 3) X (ix_tb_at tb_X12_row 26 rfl) rfl rfl (pc1 := 49) rfl ?_
    refine ix_iadd X (ix_tb_at tb_X12_row 27 rfl) (pc1 := 50) rfl ?_
    refine ix_iconst (v := 0) X (ix_tb_at tb_X12_row 28 rfl) (by decide) (pc1 := 51) rfl ?_
    obtain ⟨k_21, h⟩ := ix_ck_some h
    obtain ⟨d_22, e_23, h⟩ := ix_lt_ex h
    refine iz_iast X k_21 (ix_tb_at tb_X12_row 29 rfl) e_23 (pc1 := 52) rfl ?_
    obtain ⟨x3_24, e_25, h⟩ := ix_lt_ex h
    refine ix_iinc (i := 3) (j := 3) (v := x3_24) (L1 := [(3, .int x3_24), (0, .ref (K.2.2.1 + a0)), (1, .int x1), (2, .int x2)]) X (ix_tb_at tb_X12_row 30 rfl) rfl (by rw [oi_1]; exact e_25.symm) (Nat.le_of_ble_eq_true rfl) rfl (pc1 := 55) rfl ?_
    refine ix_goto (tgt := 35) X (ix_tb_at tb_X12_row 31 rfl) (by decide) ?_
    refine ix_sub (L1 := [(0, .ref (K.2.2.1 + a0)), (1, .int x1), (2, .int x2), (3, .int x3_24)]) [1, 2, 3, 0] rfl ?_
    exact hrec35 x3_24 d_22 h
theorem t_X12_row_35 {l : Launch} {p : Program} {e : Env} {s : State} {m : MethodId} {args : Array Value} {below : List Frame} {meth : Method} {c : Code} {K : ix_Cx} (hKp : ix_Kp K) (X : ix_X p s m args c K cX12_row RX12 4) (hr : meth.sig.returnType = (some .int)) (hlk : meth.locks = false) {n : Nat} {z : ix_Z}  {a0 : Nat} {x1 : Int32} {x2 : Int32} {r : Int32} {d1 : ix_D2}  {x3 : Int32} {d : ix_D2} (h : f_X12_row_35 n z  a0 x1 x2 x3 d = some (r, d1)) : ix_G p l e (ix_rm 2 42 0 0) s m args below meth c (MQ below (ix_Post K (some (.int r)) (ix_w z d1)) args s 0 0 (ix_A K)) K 4 0 0 35 [(0, .ref (K.2.2.1 + a0)), (1, .int x1), (2, .int x2), (3, .int x3)] [] (ix_w z d) := by
  have key : ∀ (f : Nat) (x3 : Int32) (d : ix_D2), ix_fix (b_X12_row_35 n z  a0 x1 x2) (fun _ _ => none) f x3 d = some (r, d1) → ix_G p l e (ix_rm 2 42 0 0) s m args below meth c (MQ below (ix_Post K (some (.int r)) (ix_w z d1)) args s 0 0 (ix_A K)) K 4 0 0 35 [(0, .ref (K.2.2.1 + a0)), (1, .int x1), (2, .int x2), (3, .int x3)] [] (ix_w z d) := by
    intro f
    induction f with
    | zero =>
      intro x3 d h
      have h : (none : Option (Int32 × ix_D2)) = some (r, d1) := h
      cases h
    | succ f ih =>
      intro x3 d h
      exact tb_X12_row_35 hKp X hr hlk (rec35 := ix_fix (b_X12_row_35 n z  a0 x1 x2) (fun _ _ => none) f)  ih h
  exact key n x3 d h
set_option maxRecDepth 20000 in
theorem c_X12_row {l : Launch} {K : ix_Cx} (hKp : ix_Kp K) {n : Nat} {z : ix_Z} {a0 : Nat} {x1 : Int32} {x2 : Int32} {d : ix_D2} {r : Int32} {d1 : ix_D2} (h : f_X12_row n z a0 x1 x2 d = some (r, d1)) : ix_M l K yX12_row cX12_row 4 (some .int) 2 42 0 0 [.ref (K.2.2.1 + a0), .int x1, .int x2] (ix_w z d) (some (.int r)) (ix_w z d1) := by
  refine ix_met mf_X12_row hKp (Nat.le_of_ble_eq_true rfl) ?_
  intro p e s m args below meth c hr hlk hnm X
  have X : ix_X p s m args c K cX12_row RX12 4 := X
  show ix_G p l e (ix_rm 2 42 0 0) s m args below meth c (MQ below (ix_Post K (some (.int r)) (ix_w z d1)) args s 0 0 (ix_A K)) K 4 0 0 0 [(0, .ref (K.2.2.1 + a0)), (1, .int x1), (2, .int x2)] [] (ix_w z d)
  unfold f_X12_row at h
  refine ix_iload_n (i := 1) (j := 1) X (ix_tb_at tb_X12_row 0 rfl) rfl rfl (pc1 := 1) rfl ?_
  obtain ⟨r_3, d_1, h_2, h⟩ := ix_bd2_ex h
  refine ix_callS (As := [.int x1]) (rest := []) X mf_X12_isRow st_X12_isRow ml_RX12_253 ⟨Nat.le_of_ble_eq_true rfl, Nat.le_of_ble_eq_true rfl⟩ ⟨Nat.le_of_ble_eq_true rfl, Nat.le_of_ble_eq_true rfl⟩ rfl (Nat.le_of_ble_eq_true rfl) (ix_tb_at tb_X12_row 1 rfl) (c_X12_isRow hKp h_2) rfl (pc1 := 4) rfl ?_
  refine ix_if_eq (tgt := 13) X (ix_tb_at tb_X12_row 2 rfl) (by decide) (pc1 := 7) rfl (fun q_4 => ?_) (fun q_4 => ?_)
  · have h := ix_ift q_4 h
    refine ix_sub (L1 := [(0, .ref (K.2.2.1 + a0))]) [0] rfl ?_
    exact t_X12_row_13 hKp X hr hlk  h
  · have h := ix_iff q_4 h
    refine ix_iload_n (i := 2) (j := 2) X (ix_tb_at tb_X12_row 3 rfl) rfl rfl (pc1 := 8) rfl ?_
    refine ix_bipush (v := 12) X (ix_tb_at tb_X12_row 4 rfl) (by decide) (pc1 := 10) rfl ?_
    refine ix_icmp_le (tgt := 21) X (ix_tb_at tb_X12_row 5 rfl) (by decide) (pc1 := 13) rfl (fun q_9 => ?_) (fun q_9 => ?_)
    · have h := ix_ift q_9 h
      refine ix_iload_n (i := 2) (j := 2) X (ix_tb_at tb_X12_row 10 rfl) rfl rfl (pc1 := 22) rfl ?_
      refine ix_if_ge (tgt := 33) X (ix_tb_at tb_X12_row 11 rfl) (by decide) (pc1 := 25) rfl (fun q_10 => ?_) (fun q_10 => ?_)
      · have h := ix_ift q_10 h
        refine ix_iconst (v := 0) X (ix_tb_at tb_X12_row 16 rfl) (by decide) (pc1 := 34) rfl ?_
        refine ix_istore_n (i := 3) (L1 := [(3, .int 0), (0, .ref (K.2.2.1 + a0)), (1, .int x1), (2, .int x2)]) X (ix_tb_at tb_X12_row 17 rfl) rfl (Nat.le_of_ble_eq_true rfl) rfl (pc1 := 35) rfl ?_
        refine ix_sub (L1 := [(0, .ref (K.2.2.1 + a0)), (1, .int x1), (2, .int x2), (3, .int 0)]) [1, 2, 3, 0] rfl ?_
        exact t_X12_row_35 hKp X hr hlk  h
      · have h := ix_iff q_10 h
        refine ix_aload_n (i := 0) (j := 0) X (ix_tb_at tb_X12_row 12 rfl) rfl rfl (pc1 := 26) rfl ?_
        refine ix_sipush (v := (-1014)) X (ix_tb_at tb_X12_row 13 rfl) (by decide) (pc1 := 29) rfl ?_
        obtain ⟨k_28, h⟩ := ix_ck_some h
        obtain ⟨r_29, d_26, h_27, h⟩ := ix_bd2_ex h
        refine ix_callV (As := [.int ((-1014))]) (rest := []) (ci := 11) (T := TX12) (nf := 116) X mf_X12_fail mi_X12_fail ms_X12_fail rfl (Nat.le_of_ble_eq_true rfl) ml_RX12_242 ⟨Nat.le_of_ble_eq_true rfl, Nat.le_of_ble_eq_true rfl⟩ ⟨Nat.le_of_ble_eq_true rfl, Nat.le_of_ble_eq_true rfl⟩ rfl (Nat.le_of_ble_eq_true rfl) (ix_tb_at tb_X12_row 14 rfl) ⟨k_28.1, List.mem_singleton.mp k_28.2⟩ (c_X12_fail hKp h_27) rfl (pc1 := 32) rfl ?_
        exact ix_iret X hr hlk (ix_r2 (f := fun r => some (.int r)) (g := ix_w z) h) (ix_tb_at tb_X12_row 15 rfl)
    · have h := ix_iff q_9 h
      refine ix_sub (L1 := [(0, .ref (K.2.2.1 + a0))]) [0] rfl ?_
      exact t_X12_row_13 hKp X hr hlk  h
def tab_X12_drop : List (Nat × Instr × Nat) := [(0, .iload_n 1, 1), (1, .invokestatic 253, 3), (4, .ifCond .ne 11, 3), (7, .aload_n 0, 1), (8, .sipush (-1001), 3), (11, .invokevirtual 242, 3), (14, .ireturn, 1), (15, .aload_n 0, 1), (16, .getfield 17, 3), (19, .iload_n 1, 1), (20, .sipush (-1005), 3), (23, .iastore, 1), (24, .iconst 1, 1), (25, .ireturn, 1)]
theorem tb_X12_drop : ix_tab cX12_drop tab_X12_drop := by
  unfold ix_tab
  decide +kernel
noncomputable def f_X12_drop (n : Nat) (z : ix_Z) (a0 : Nat) (x1 : Int32) (d : ix_D2) : Option (Int32 × ix_D2) :=
  ix_bd2 (f_X12_isRow n z x1 d) (fun r_3 d_1 => ix_if (r_3 = 0) (ix_ck (ix_ok z [11] a0) (ix_bd2 (f_X12_fail n z a0 ((-1001)) d_1) (fun r_14 d_11 => some (r_14, d_11)))) (ix_ck (ix_ok z [11] a0) (ix_bd1 (z.1 a0 5) (fun b_6 => ix_ck (ix_ix z 20 b_6 x1) (ix_lt (ix_di d_1 b_6 (ix_n x1) ((-1005))) (fun d_9 => some (1, d_9)))))))
set_option maxRecDepth 20000 in
theorem c_X12_drop {l : Launch} {K : ix_Cx} (hKp : ix_Kp K) {n : Nat} {z : ix_Z} {a0 : Nat} {x1 : Int32} {d : ix_D2} {r : Int32} {d1 : ix_D2} (h : f_X12_drop n z a0 x1 d = some (r, d1)) : ix_M l K yX12_drop cX12_drop 2 (some .int) 2 42 0 0 [.ref (K.2.2.1 + a0), .int x1] (ix_w z d) (some (.int r)) (ix_w z d1) := by
  refine ix_met mf_X12_drop hKp (Nat.le_of_ble_eq_true rfl) ?_
  intro p e s m args below meth c hr hlk hnm X
  have X : ix_X p s m args c K cX12_drop RX12 2 := X
  show ix_G p l e (ix_rm 2 42 0 0) s m args below meth c (MQ below (ix_Post K (some (.int r)) (ix_w z d1)) args s 0 0 (ix_A K)) K 2 0 0 0 [(0, .ref (K.2.2.1 + a0)), (1, .int x1)] [] (ix_w z d)
  unfold f_X12_drop at h
  refine ix_iload_n (i := 1) (j := 1) X (ix_tb_at tb_X12_drop 0 rfl) rfl rfl (pc1 := 1) rfl ?_
  obtain ⟨r_3, d_1, h_2, h⟩ := ix_bd2_ex h
  refine ix_callS (As := [.int x1]) (rest := []) X mf_X12_isRow st_X12_isRow ml_RX12_253 ⟨Nat.le_of_ble_eq_true rfl, Nat.le_of_ble_eq_true rfl⟩ ⟨Nat.le_of_ble_eq_true rfl, Nat.le_of_ble_eq_true rfl⟩ rfl (Nat.le_of_ble_eq_true rfl) (ix_tb_at tb_X12_drop 1 rfl) (c_X12_isRow hKp h_2) rfl (pc1 := 4) rfl ?_
  refine ix_if_ne (tgt := 15) X (ix_tb_at tb_X12_drop 2 rfl) (by decide) (pc1 := 7) rfl (fun q_4 => ?_) (fun q_4 => ?_)
  · have h := ix_iff q_4 h
    refine ix_aload_n (i := 0) (j := 0) X (ix_tb_at tb_X12_drop 7 rfl) rfl rfl (pc1 := 16) rfl ?_
    obtain ⟨k_5, h⟩ := ix_ck_some h
    obtain ⟨b_6, q_7, h⟩ := ix_bd1_ex h
    refine iz_getR X fl_RX12_17 k_5 q_7 (ix_tb_at tb_X12_drop 8 rfl) (pc1 := 19) rfl ?_
    refine ix_iload_n (i := 1) (j := 1) X (ix_tb_at tb_X12_drop 9 rfl) rfl rfl (pc1 := 20) rfl ?_
    refine ix_sipush (v := (-1005)) X (ix_tb_at tb_X12_drop 10 rfl) (by decide) (pc1 := 23) rfl ?_
    obtain ⟨k_8, h⟩ := ix_ck_some h
    obtain ⟨d_9, e_10, h⟩ := ix_lt_ex h
    refine iz_iast X k_8 (ix_tb_at tb_X12_drop 11 rfl) e_10 (pc1 := 24) rfl ?_
    refine ix_iconst (v := 1) X (ix_tb_at tb_X12_drop 12 rfl) (by decide) (pc1 := 25) rfl ?_
    exact ix_iret X hr hlk (ix_r2 (f := fun r => some (.int r)) (g := ix_w z) h) (ix_tb_at tb_X12_drop 13 rfl)
  · have h := ix_ift q_4 h
    refine ix_aload_n (i := 0) (j := 0) X (ix_tb_at tb_X12_drop 3 rfl) rfl rfl (pc1 := 8) rfl ?_
    refine ix_sipush (v := (-1001)) X (ix_tb_at tb_X12_drop 4 rfl) (by decide) (pc1 := 11) rfl ?_
    obtain ⟨k_13, h⟩ := ix_ck_some h
    obtain ⟨r_14, d_11, h_12, h⟩ := ix_bd2_ex h
    refine ix_callV (As := [.int ((-1001))]) (rest := []) (ci := 11) (T := TX12) (nf := 116) X mf_X12_fail mi_X12_fail ms_X12_fail rfl (Nat.le_of_ble_eq_true rfl) ml_RX12_242 ⟨Nat.le_of_ble_eq_true rfl, Nat.le_of_ble_eq_true rfl⟩ ⟨Nat.le_of_ble_eq_true rfl, Nat.le_of_ble_eq_true rfl⟩ rfl (Nat.le_of_ble_eq_true rfl) (ix_tb_at tb_X12_drop 5 rfl) ⟨k_13.1, List.mem_singleton.mp k_13.2⟩ (c_X12_fail hKp h_12) rfl (pc1 := 14) rfl ?_
    exact ix_iret X hr hlk (ix_r2 (f := fun r => some (.int r)) (g := ix_w z) h) (ix_tb_at tb_X12_drop 6 rfl)
def tab_X12_put : List (Nat × Instr × Nat) := [(0, .iload_n 1, 1), (1, .invokestatic 253, 3), (4, .ifCond .ne 11, 3), (7, .aload_n 0, 1), (8, .sipush (-1001), 3), (11, .invokevirtual 242, 3), (14, .ireturn, 1), (15, .aload_n 0, 1), (16, .getfield 17, 3), (19, .iload_n 1, 1), (20, .iaload, 1), (21, .ifCond .ge 11, 3), (24, .aload_n 0, 1), (25, .sipush (-1011), 3), (28, .invokevirtual 242, 3), (31, .ireturn, 1), (32, .iload_n 2, 1), (33, .iconst 0, 1), (34, .aload_n 0, 1), (35, .getfield 17, 3), (38, .iload_n 1, 1), (39, .iaload, 1), (40, .iconst 1, 1), (41, .isub, 1), (42, .invokestatic 238, 3), (45, .ifCond .ne 11, 3), (48, .aload_n 0, 1), (49, .sipush (-1012), 3), (52, .invokevirtual 242, 3), (55, .ireturn, 1), (56, .aload_n 0, 1), (57, .getfield 20, 3), (60, .bipush 12, 2), (62, .iload_n 1, 1), (63, .imul, 1), (64, .iload_n 2, 1), (65, .iadd, 1), (66, .iload_n 3, 1), (67, .iastore, 1), (68, .iconst 1, 1), (69, .ireturn, 1)]
theorem tb_X12_put : ix_tab cX12_put tab_X12_put := by
  unfold ix_tab
  decide +kernel
noncomputable def f_X12_put (n : Nat) (z : ix_Z) (a0 : Nat) (x1 : Int32) (x2 : Int32) (x3 : Int32) (d : ix_D2) : Option (Int32 × ix_D2) :=
  ix_bd2 (f_X12_isRow n z x1 d) (fun r_3 d_1 => ix_if (r_3 = 0) (ix_ck (ix_ok z [11] a0) (ix_bd2 (f_X12_fail n z a0 ((-1001)) d_1) (fun r_28 d_25 => some (r_28, d_25)))) (ix_ck (ix_ok z [11] a0) (ix_bd1 (z.1 a0 5) (fun b_6 => ix_ck (ix_ix z 20 b_6 x1) (ix_if (0 ≤ d_1.1 b_6 (ix_n x1)) (ix_bd2 (f_X12_in n z x2 0 ((d_1.1 b_6 (ix_n x1)) - 1) d_1) (fun r_12 d_10 => ix_if (r_12 = 0) (ix_bd2 (f_X12_fail n z a0 ((-1012)) d_10) (fun r_21 d_19 => some (r_21, d_19))) (ix_bd1 (z.1 a0 6) (fun b_14 => ix_ck (ix_ix z 20 b_14 ((12 * x1) + x2)) (ix_lt (ix_di d_10 b_14 (ix_n ((12 * x1) + x2)) x3) (fun d_17 => some (1, d_17))))))) (ix_bd2 (f_X12_fail n z a0 ((-1011)) d_1) (fun r_24 d_22 => some (r_24, d_22))))))))
set_option maxRecDepth 20000 in
theorem c_X12_put {l : Launch} {K : ix_Cx} (hKp : ix_Kp K) {n : Nat} {z : ix_Z} {a0 : Nat} {x1 : Int32} {x2 : Int32} {x3 : Int32} {d : ix_D2} {r : Int32} {d1 : ix_D2} (h : f_X12_put n z a0 x1 x2 x3 d = some (r, d1)) : ix_M l K yX12_put cX12_put 4 (some .int) 2 42 0 0 [.ref (K.2.2.1 + a0), .int x1, .int x2, .int x3] (ix_w z d) (some (.int r)) (ix_w z d1) := by
  refine ix_met mf_X12_put hKp (Nat.le_of_ble_eq_true rfl) ?_
  intro p e s m args below meth c hr hlk hnm X
  have X : ix_X p s m args c K cX12_put RX12 4 := X
  show ix_G p l e (ix_rm 2 42 0 0) s m args below meth c (MQ below (ix_Post K (some (.int r)) (ix_w z d1)) args s 0 0 (ix_A K)) K 4 0 0 0 [(0, .ref (K.2.2.1 + a0)), (1, .int x1), (2, .int x2), (3, .int x3)] [] (ix_w z d)
  unfold f_X12_put at h
  refine ix_iload_n (i := 1) (j := 1) X (ix_tb_at tb_X12_put 0 rfl) rfl rfl (pc1 := 1) rfl ?_
  obtain ⟨r_3, d_1, h_2, h⟩ := ix_bd2_ex h
  refine ix_callS (As := [.int x1]) (rest := []) X mf_X12_isRow st_X12_isRow ml_RX12_253 ⟨Nat.le_of_ble_eq_true rfl, Nat.le_of_ble_eq_true rfl⟩ ⟨Nat.le_of_ble_eq_true rfl, Nat.le_of_ble_eq_true rfl⟩ rfl (Nat.le_of_ble_eq_true rfl) (ix_tb_at tb_X12_put 1 rfl) (c_X12_isRow hKp h_2) rfl (pc1 := 4) rfl ?_
  refine ix_if_ne (tgt := 15) X (ix_tb_at tb_X12_put 2 rfl) (by decide) (pc1 := 7) rfl (fun q_4 => ?_) (fun q_4 => ?_)
  · have h := ix_iff q_4 h
    refine ix_aload_n (i := 0) (j := 0) X (ix_tb_at tb_X12_put 7 rfl) rfl rfl (pc1 := 16) rfl ?_
    obtain ⟨k_5, h⟩ := ix_ck_some h
    obtain ⟨b_6, q_7, h⟩ := ix_bd1_ex h
    refine iz_getR X fl_RX12_17 k_5 q_7 (ix_tb_at tb_X12_put 8 rfl) (pc1 := 19) rfl ?_
    refine ix_iload_n (i := 1) (j := 1) X (ix_tb_at tb_X12_put 9 rfl) rfl rfl (pc1 := 20) rfl ?_
    obtain ⟨k_8, h⟩ := ix_ck_some h
    refine iz_iald X k_8 (ix_tb_at tb_X12_put 10 rfl) (pc1 := 21) rfl ?_
    refine ix_if_ge (tgt := 32) X (ix_tb_at tb_X12_put 11 rfl) (by decide) (pc1 := 24) rfl (fun q_9 => ?_) (fun q_9 => ?_)
    · have h := ix_ift q_9 h
      refine ix_iload_n (i := 2) (j := 2) X (ix_tb_at tb_X12_put 16 rfl) rfl rfl (pc1 := 33) rfl ?_
      refine ix_iconst (v := 0) X (ix_tb_at tb_X12_put 17 rfl) (by decide) (pc1 := 34) rfl ?_
      refine ix_aload_n (i := 0) (j := 0) X (ix_tb_at tb_X12_put 18 rfl) rfl rfl (pc1 := 35) rfl ?_
      refine iz_getR X fl_RX12_17 k_5 q_7 (ix_tb_at tb_X12_put 19 rfl) (pc1 := 38) rfl ?_
      refine ix_iload_n (i := 1) (j := 1) X (ix_tb_at tb_X12_put 20 rfl) rfl rfl (pc1 := 39) rfl ?_
      refine iz_iald X k_8 (ix_tb_at tb_X12_put 21 rfl) (pc1 := 40) rfl ?_
      refine ix_iconst (v := 1) X (ix_tb_at tb_X12_put 22 rfl) (by decide) (pc1 := 41) rfl ?_
      refine ix_isub X (ix_tb_at tb_X12_put 23 rfl) (pc1 := 42) rfl ?_
      obtain ⟨r_12, d_10, h_11, h⟩ := ix_bd2_ex h
      refine ix_callS (As := [.int x2, .int 0, .int ((d_1.1 b_6 (ix_n x1)) - 1)]) (rest := []) X mf_X12_in st_X12_in ml_RX12_238 ⟨Nat.le_of_ble_eq_true rfl, Nat.le_of_ble_eq_true rfl⟩ ⟨Nat.le_of_ble_eq_true rfl, Nat.le_of_ble_eq_true rfl⟩ rfl (Nat.le_of_ble_eq_true rfl) (ix_tb_at tb_X12_put 24 rfl) (c_X12_in hKp h_11) rfl (pc1 := 45) rfl ?_
      refine ix_if_ne (tgt := 56) X (ix_tb_at tb_X12_put 25 rfl) (by decide) (pc1 := 48) rfl (fun q_13 => ?_) (fun q_13 => ?_)
      · have h := ix_iff q_13 h
        refine ix_aload_n (i := 0) (j := 0) X (ix_tb_at tb_X12_put 30 rfl) rfl rfl (pc1 := 57) rfl ?_
        obtain ⟨b_14, q_15, h⟩ := ix_bd1_ex h
        refine iz_getR X fl_RX12_20 k_5 q_15 (ix_tb_at tb_X12_put 31 rfl) (pc1 := 60) rfl ?_
        refine ix_bipush (v := 12) X (ix_tb_at tb_X12_put 32 rfl) (by decide) (pc1 := 62) rfl ?_
        refine ix_iload_n (i := 1) (j := 1) X (ix_tb_at tb_X12_put 33 rfl) rfl rfl (pc1 := 63) rfl ?_
        refine ix_imul X (ix_tb_at tb_X12_put 34 rfl) (pc1 := 64) rfl ?_
        refine ix_iload_n (i := 2) (j := 2) X (ix_tb_at tb_X12_put 35 rfl) rfl rfl (pc1 := 65) rfl ?_
        refine ix_iadd X (ix_tb_at tb_X12_put 36 rfl) (pc1 := 66) rfl ?_
        refine ix_iload_n (i := 3) (j := 3) X (ix_tb_at tb_X12_put 37 rfl) rfl rfl (pc1 := 67) rfl ?_
        obtain ⟨k_16, h⟩ := ix_ck_some h
        obtain ⟨d_17, e_18, h⟩ := ix_lt_ex h
        refine iz_iast X k_16 (ix_tb_at tb_X12_put 38 rfl) e_18 (pc1 := 68) rfl ?_
        refine ix_iconst (v := 1) X (ix_tb_at tb_X12_put 39 rfl) (by decide) (pc1 := 69) rfl ?_
        exact ix_iret X hr hlk (ix_r2 (f := fun r => some (.int r)) (g := ix_w z) h) (ix_tb_at tb_X12_put 40 rfl)
      · have h := ix_ift q_13 h
        refine ix_aload_n (i := 0) (j := 0) X (ix_tb_at tb_X12_put 26 rfl) rfl rfl (pc1 := 49) rfl ?_
        refine ix_sipush (v := (-1012)) X (ix_tb_at tb_X12_put 27 rfl) (by decide) (pc1 := 52) rfl ?_
        obtain ⟨r_21, d_19, h_20, h⟩ := ix_bd2_ex h
        refine ix_callV (As := [.int ((-1012))]) (rest := []) (ci := 11) (T := TX12) (nf := 116) X mf_X12_fail mi_X12_fail ms_X12_fail rfl (Nat.le_of_ble_eq_true rfl) ml_RX12_242 ⟨Nat.le_of_ble_eq_true rfl, Nat.le_of_ble_eq_true rfl⟩ ⟨Nat.le_of_ble_eq_true rfl, Nat.le_of_ble_eq_true rfl⟩ rfl (Nat.le_of_ble_eq_true rfl) (ix_tb_at tb_X12_put 28 rfl) ⟨k_5.1, List.mem_singleton.mp k_5.2⟩ (c_X12_fail hKp h_20) rfl (pc1 := 55) rfl ?_
        exact ix_iret X hr hlk (ix_r2 (f := fun r => some (.int r)) (g := ix_w z) h) (ix_tb_at tb_X12_put 29 rfl)
    · have h := ix_iff q_9 h
      refine ix_aload_n (i := 0) (j := 0) X (ix_tb_at tb_X12_put 12 rfl) rfl rfl (pc1 := 25) rfl ?_
      refine ix_sipush (v := (-1011)) X (ix_tb_at tb_X12_put 13 rfl) (by decide) (pc1 := 28) rfl ?_
      obtain ⟨r_24, d_22, h_23, h⟩ := ix_bd2_ex h
      refine ix_callV (As := [.int ((-1011))]) (rest := []) (ci := 11) (T := TX12) (nf := 116) X mf_X12_fail mi_X12_fail ms_X12_fail rfl (Nat.le_of_ble_eq_true rfl) ml_RX12_242 ⟨Nat.le_of_ble_eq_true rfl, Nat.le_of_ble_eq_true rfl⟩ ⟨Nat.le_of_ble_eq_true rfl, Nat.le_of_ble_eq_true rfl⟩ rfl (Nat.le_of_ble_eq_true rfl) (ix_tb_at tb_X12_put 14 rfl) ⟨k_5.1, List.mem_singleton.mp k_5.2⟩ (c_X12_fail hKp h_23) rfl (pc1 := 31) rfl ?_
      exact ix_iret X hr hlk (ix_r2 (f := fun r => some (.int r)) (g := ix_w z) h) (ix_tb_at tb_X12_put 15 rfl)
  · have h := ix_ift q_4 h
    refine ix_aload_n (i := 0) (j := 0) X (ix_tb_at tb_X12_put 3 rfl) rfl rfl (pc1 := 8) rfl ?_
    refine ix_sipush (v := (-1001)) X (ix_tb_at tb_X12_put 4 rfl) (by decide) (pc1 := 11) rfl ?_
    obtain ⟨k_27, h⟩ := ix_ck_some h
    obtain ⟨r_28, d_25, h_26, h⟩ := ix_bd2_ex h
    refine ix_callV (As := [.int ((-1001))]) (rest := []) (ci := 11) (T := TX12) (nf := 116) X mf_X12_fail mi_X12_fail ms_X12_fail rfl (Nat.le_of_ble_eq_true rfl) ml_RX12_242 ⟨Nat.le_of_ble_eq_true rfl, Nat.le_of_ble_eq_true rfl⟩ ⟨Nat.le_of_ble_eq_true rfl, Nat.le_of_ble_eq_true rfl⟩ rfl (Nat.le_of_ble_eq_true rfl) (ix_tb_at tb_X12_put 5 rfl) ⟨k_27.1, List.mem_singleton.mp k_27.2⟩ (c_X12_fail hKp h_26) rfl (pc1 := 14) rfl ?_
    exact ix_iret X hr hlk (ix_r2 (f := fun r => some (.int r)) (g := ix_w z) h) (ix_tb_at tb_X12_put 6 rfl)
def tab_X12_get : List (Nat × Instr × Nat) := [(0, .iload_n 1, 1), (1, .invokestatic 253, 3), (4, .ifCond .ne 9, 3), (7, .sipush (-1001), 3), (10, .goto 41, 3), (13, .aload_n 0, 1), (14, .getfield 17, 3), (17, .iload_n 1, 1), (18, .iaload, 1), (19, .ifCond .ge 9, 3), (22, .sipush (-1011), 3), (25, .goto 26, 3), (28, .iload_n 2, 1), (29, .iconst (-1), 1), (30, .aload_n 0, 1), (31, .getfield 17, 3), (34, .iload_n 1, 1), (35, .iaload, 1), (36, .iconst 1, 1), (37, .isub, 1), (38, .invokestatic 238, 3), (41, .ifCond .eq 7, 3), (44, .iconst 0, 1), (45, .goto 6, 3), (48, .sipush (-1012), 3), (51, .istore_n 3, 1), (52, .iload_n 3, 1), (53, .ifCond .ge 15, 3), (56, .aload_n 0, 1), (57, .iload_n 3, 1), (58, .putfield 235, 3), (61, .ldc2_w 257, 3), (64, .iload_n 3, 1), (65, .i2l, 1), (66, .lmul, 1), (67, .lreturn, 1), (68, .iload_n 2, 1), (69, .ifCond .ge 13, 3), (72, .aload_n 0, 1), (73, .getfield 17, 3), (76, .iload_n 1, 1), (77, .iaload, 1), (78, .i2l, 1), (79, .goto 15, 3), (82, .aload_n 0, 1), (83, .getfield 20, 3), (86, .bipush 12, 2), (88, .iload_n 1, 1), (89, .imul, 1), (90, .iload_n 2, 1), (91, .iadd, 1), (92, .iaload, 1), (93, .i2l, 1), (94, .lreturn, 1)]
theorem tb_X12_get : ix_tab cX12_get tab_X12_get := by
  unfold ix_tab
  decide +kernel
noncomputable def f_X12_get_51 (n : Nat) (z : ix_Z)  (a0 : Nat) (x1 : Int32) (x2 : Int32) (s0 : Int32) (d : ix_D2) : Option (Int64 × ix_D2) :=
  ix_if (0 ≤ s0) (ix_if (0 ≤ x2) (ix_ck (ix_ok z [11] a0) (ix_bd1 (z.1 a0 6) (fun b_17 => ix_ck (ix_ix z 20 b_17 ((12 * x1) + x2)) (some ((d.1 b_17 (ix_n ((12 * x1) + x2))).toInt64, d))))) (ix_ck (ix_ok z [11] a0) (ix_bd1 (z.1 a0 5) (fun b_21 => ix_ck (ix_ix z 20 b_21 x1) (some ((d.1 b_21 (ix_n x1)).toInt64, d)))))) (ix_ck (ix_ok z [11] a0) (ix_lt (ix_di d a0 0 s0) (fun d_25 => some (10000000000 * s0.toInt64, d_25))))
noncomputable def f_X12_get (n : Nat) (z : ix_Z) (a0 : Nat) (x1 : Int32) (x2 : Int32) (d : ix_D2) : Option (Int64 × ix_D2) :=
  ix_bd2 (f_X12_isRow n z x1 d) (fun r_3 d_1 => ix_if (r_3 = 0) (f_X12_get_51 n z  a0 x1 x2 ((-1001)) d_1) (ix_ck (ix_ok z [11] a0) (ix_bd1 (z.1 a0 5) (fun b_6 => ix_ck (ix_ix z 20 b_6 x1) (ix_if (0 ≤ d_1.1 b_6 (ix_n x1)) (ix_bd2 (f_X12_in n z x2 ((-1)) ((d_1.1 b_6 (ix_n x1)) - 1) d_1) (fun r_12 d_10 => ix_if (r_12 = 0) (f_X12_get_51 n z  a0 x1 x2 ((-1012)) d_10) (f_X12_get_51 n z  a0 x1 x2 0 d_10))) (f_X12_get_51 n z  a0 x1 x2 ((-1011)) d_1))))))
set_option maxRecDepth 20000 in
theorem t_X12_get_51 {l : Launch} {p : Program} {e : Env} {s : State} {m : MethodId} {args : Array Value} {below : List Frame} {meth : Method} {c : Code} {K : ix_Cx} (hKp : ix_Kp K) (X : ix_X p s m args c K cX12_get RX12 4) (hr : meth.sig.returnType = (some .long)) (hlk : meth.locks = false) {n : Nat} {z : ix_Z}  {a0 : Nat} {x1 : Int32} {x2 : Int32} {s0 : Int32} {r : Int64} {d1 : ix_D2}  {d : ix_D2} (h : f_X12_get_51 n z  a0 x1 x2 s0 d = some (r, d1)) : ix_G p l e (ix_rm 2 42 0 0) s m args below meth c (MQ below (ix_Post K (some (.long r)) (ix_w z d1)) args s 0 0 (ix_A K)) K 4 0 0 51 [(0, .ref (K.2.2.1 + a0)), (1, .int x1), (2, .int x2)] [.int s0] (ix_w z d) := by
  unfold f_X12_get_51 at h
  refine ix_istore_n (i := 3) (L1 := [(3, .int s0), (0, .ref (K.2.2.1 + a0)), (1, .int x1), (2, .int x2)]) X (ix_tb_at tb_X12_get 25 rfl) rfl (Nat.le_of_ble_eq_true rfl) rfl (pc1 := 52) rfl ?_
  refine ix_iload_n (i := 3) (j := 0) X (ix_tb_at tb_X12_get 26 rfl) rfl rfl (pc1 := 53) rfl ?_
  refine ix_if_ge (tgt := 68) X (ix_tb_at tb_X12_get 27 rfl) (by decide) (pc1 := 56) rfl (fun q_14 => ?_) (fun q_14 => ?_)
  · have h := ix_ift q_14 h
    refine ix_iload_n (i := 2) (j := 3) X (ix_tb_at tb_X12_get 36 rfl) rfl rfl (pc1 := 69) rfl ?_
    refine ix_if_ge (tgt := 82) X (ix_tb_at tb_X12_get 37 rfl) (by decide) (pc1 := 72) rfl (fun q_15 => ?_) (fun q_15 => ?_)
    · have h := ix_ift q_15 h
      refine ix_aload_n (i := 0) (j := 1) X (ix_tb_at tb_X12_get 44 rfl) rfl rfl (pc1 := 83) rfl ?_
      obtain ⟨k_16, h⟩ := ix_ck_some h
      obtain ⟨b_17, q_18, h⟩ := ix_bd1_ex h
      refine iz_getR X fl_RX12_20 k_16 q_18 (ix_tb_at tb_X12_get 45 rfl) (pc1 := 86) rfl ?_
      refine ix_bipush (v := 12) X (ix_tb_at tb_X12_get 46 rfl) (by decide) (pc1 := 88) rfl ?_
      refine ix_iload_n (i := 1) (j := 2) X (ix_tb_at tb_X12_get 47 rfl) rfl rfl (pc1 := 89) rfl ?_
      refine ix_imul X (ix_tb_at tb_X12_get 48 rfl) (pc1 := 90) rfl ?_
      refine ix_iload_n (i := 2) (j := 3) X (ix_tb_at tb_X12_get 49 rfl) rfl rfl (pc1 := 91) rfl ?_
      refine ix_iadd X (ix_tb_at tb_X12_get 50 rfl) (pc1 := 92) rfl ?_
      obtain ⟨k_19, h⟩ := ix_ck_some h
      refine iz_iald X k_19 (ix_tb_at tb_X12_get 51 rfl) (pc1 := 93) rfl ?_
      refine ix_i2l X (ix_tb_at tb_X12_get 52 rfl) (pc1 := 94) rfl ?_
      exact ix_lret X hr hlk (ix_r2 (f := fun r => some (.long r)) (g := ix_w z) h) (ix_tb_at tb_X12_get 53 rfl)
    · have h := ix_iff q_15 h
      refine ix_aload_n (i := 0) (j := 1) X (ix_tb_at tb_X12_get 38 rfl) rfl rfl (pc1 := 73) rfl ?_
      obtain ⟨k_20, h⟩ := ix_ck_some h
      obtain ⟨b_21, q_22, h⟩ := ix_bd1_ex h
      refine iz_getR X fl_RX12_17 k_20 q_22 (ix_tb_at tb_X12_get 39 rfl) (pc1 := 76) rfl ?_
      refine ix_iload_n (i := 1) (j := 2) X (ix_tb_at tb_X12_get 40 rfl) rfl rfl (pc1 := 77) rfl ?_
      obtain ⟨k_23, h⟩ := ix_ck_some h
      refine iz_iald X k_23 (ix_tb_at tb_X12_get 41 rfl) (pc1 := 78) rfl ?_
      refine ix_i2l X (ix_tb_at tb_X12_get 42 rfl) (pc1 := 79) rfl ?_
      refine ix_goto (tgt := 94) X (ix_tb_at tb_X12_get 43 rfl) (by decide) ?_
      exact ix_lret X hr hlk (ix_r2 (f := fun r => some (.long r)) (g := ix_w z) h) (ix_tb_at tb_X12_get 53 rfl)
  · have h := ix_iff q_14 h
    refine ix_aload_n (i := 0) (j := 1) X (ix_tb_at tb_X12_get 28 rfl) rfl rfl (pc1 := 57) rfl ?_
    refine ix_iload_n (i := 3) (j := 0) X (ix_tb_at tb_X12_get 29 rfl) rfl rfl (pc1 := 58) rfl ?_
    obtain ⟨k_24, h⟩ := ix_ck_some h
    obtain ⟨d_25, e_26, h⟩ := ix_lt_ex h
    refine iz_putI X fp_RX12_235 k_24 (ix_tb_at tb_X12_get 30 rfl) e_26 (pc1 := 61) rfl ?_
    refine ix_ldc2 (pl := 1943) (v := 10000000000) X (ix_tb_at tb_X12_get 31 rfl) (by decide +kernel) (pc1 := 64) rfl ?_
    refine ix_iload_n (i := 3) (j := 0) X (ix_tb_at tb_X12_get 32 rfl) rfl rfl (pc1 := 65) rfl ?_
    refine ix_i2l X (ix_tb_at tb_X12_get 33 rfl) (pc1 := 66) rfl ?_
    refine ix_lmul X (ix_tb_at tb_X12_get 34 rfl) (pc1 := 67) rfl ?_
    exact ix_lret X hr hlk (ix_r2 (f := fun r => some (.long r)) (g := ix_w z) h) (ix_tb_at tb_X12_get 35 rfl)
set_option maxRecDepth 20000 in
theorem c_X12_get {l : Launch} {K : ix_Cx} (hKp : ix_Kp K) {n : Nat} {z : ix_Z} {a0 : Nat} {x1 : Int32} {x2 : Int32} {d : ix_D2} {r : Int64} {d1 : ix_D2} (h : f_X12_get n z a0 x1 x2 d = some (r, d1)) : ix_M l K yX12_get cX12_get 4 (some .long) 2 42 0 0 [.ref (K.2.2.1 + a0), .int x1, .int x2] (ix_w z d) (some (.long r)) (ix_w z d1) := by
  refine ix_met mf_X12_get hKp (Nat.le_of_ble_eq_true rfl) ?_
  intro p e s m args below meth c hr hlk hnm X
  have X : ix_X p s m args c K cX12_get RX12 4 := X
  show ix_G p l e (ix_rm 2 42 0 0) s m args below meth c (MQ below (ix_Post K (some (.long r)) (ix_w z d1)) args s 0 0 (ix_A K)) K 4 0 0 0 [(0, .ref (K.2.2.1 + a0)), (1, .int x1), (2, .int x2)] [] (ix_w z d)
  unfold f_X12_get at h
  refine ix_iload_n (i := 1) (j := 1) X (ix_tb_at tb_X12_get 0 rfl) rfl rfl (pc1 := 1) rfl ?_
  obtain ⟨r_3, d_1, h_2, h⟩ := ix_bd2_ex h
  refine ix_callS (As := [.int x1]) (rest := []) X mf_X12_isRow st_X12_isRow ml_RX12_253 ⟨Nat.le_of_ble_eq_true rfl, Nat.le_of_ble_eq_true rfl⟩ ⟨Nat.le_of_ble_eq_true rfl, Nat.le_of_ble_eq_true rfl⟩ rfl (Nat.le_of_ble_eq_true rfl) (ix_tb_at tb_X12_get 1 rfl) (c_X12_isRow hKp h_2) rfl (pc1 := 4) rfl ?_
  refine ix_if_ne (tgt := 13) X (ix_tb_at tb_X12_get 2 rfl) (by decide) (pc1 := 7) rfl (fun q_4 => ?_) (fun q_4 => ?_)
  · have h := ix_iff q_4 h
    refine ix_aload_n (i := 0) (j := 0) X (ix_tb_at tb_X12_get 5 rfl) rfl rfl (pc1 := 14) rfl ?_
    obtain ⟨k_5, h⟩ := ix_ck_some h
    obtain ⟨b_6, q_7, h⟩ := ix_bd1_ex h
    refine iz_getR X fl_RX12_17 k_5 q_7 (ix_tb_at tb_X12_get 6 rfl) (pc1 := 17) rfl ?_
    refine ix_iload_n (i := 1) (j := 1) X (ix_tb_at tb_X12_get 7 rfl) rfl rfl (pc1 := 18) rfl ?_
    obtain ⟨k_8, h⟩ := ix_ck_some h
    refine iz_iald X k_8 (ix_tb_at tb_X12_get 8 rfl) (pc1 := 19) rfl ?_
    refine ix_if_ge (tgt := 28) X (ix_tb_at tb_X12_get 9 rfl) (by decide) (pc1 := 22) rfl (fun q_9 => ?_) (fun q_9 => ?_)
    · have h := ix_ift q_9 h
      refine ix_iload_n (i := 2) (j := 2) X (ix_tb_at tb_X12_get 12 rfl) rfl rfl (pc1 := 29) rfl ?_
      refine ix_iconst (v := (-1)) X (ix_tb_at tb_X12_get 13 rfl) (by decide) (pc1 := 30) rfl ?_
      refine ix_aload_n (i := 0) (j := 0) X (ix_tb_at tb_X12_get 14 rfl) rfl rfl (pc1 := 31) rfl ?_
      refine iz_getR X fl_RX12_17 k_5 q_7 (ix_tb_at tb_X12_get 15 rfl) (pc1 := 34) rfl ?_
      refine ix_iload_n (i := 1) (j := 1) X (ix_tb_at tb_X12_get 16 rfl) rfl rfl (pc1 := 35) rfl ?_
      refine iz_iald X k_8 (ix_tb_at tb_X12_get 17 rfl) (pc1 := 36) rfl ?_
      refine ix_iconst (v := 1) X (ix_tb_at tb_X12_get 18 rfl) (by decide) (pc1 := 37) rfl ?_
      refine ix_isub X (ix_tb_at tb_X12_get 19 rfl) (pc1 := 38) rfl ?_
      obtain ⟨r_12, d_10, h_11, h⟩ := ix_bd2_ex h
      refine ix_callS (As := [.int x2, .int ((-1)), .int ((d_1.1 b_6 (ix_n x1)) - 1)]) (rest := []) X mf_X12_in st_X12_in ml_RX12_238 ⟨Nat.le_of_ble_eq_true rfl, Nat.le_of_ble_eq_true rfl⟩ ⟨Nat.le_of_ble_eq_true rfl, Nat.le_of_ble_eq_true rfl⟩ rfl (Nat.le_of_ble_eq_true rfl) (ix_tb_at tb_X12_get 20 rfl) (c_X12_in hKp h_11) rfl (pc1 := 41) rfl ?_
      refine ix_if_eq (tgt := 48) X (ix_tb_at tb_X12_get 21 rfl) (by decide) (pc1 := 44) rfl (fun q_13 => ?_) (fun q_13 => ?_)
      · have h := ix_ift q_13 h
        refine ix_sipush (v := (-1012)) X (ix_tb_at tb_X12_get 24 rfl) (by decide) (pc1 := 51) rfl ?_
        refine ix_sub (L1 := [(0, .ref (K.2.2.1 + a0)), (1, .int x1), (2, .int x2)]) [0, 1, 2] rfl ?_
        exact t_X12_get_51 hKp X hr hlk  h
      · have h := ix_iff q_13 h
        refine ix_iconst (v := 0) X (ix_tb_at tb_X12_get 22 rfl) (by decide) (pc1 := 45) rfl ?_
        refine ix_goto (tgt := 51) X (ix_tb_at tb_X12_get 23 rfl) (by decide) ?_
        refine ix_sub (L1 := [(0, .ref (K.2.2.1 + a0)), (1, .int x1), (2, .int x2)]) [0, 1, 2] rfl ?_
        exact t_X12_get_51 hKp X hr hlk  h
    · have h := ix_iff q_9 h
      refine ix_sipush (v := (-1011)) X (ix_tb_at tb_X12_get 10 rfl) (by decide) (pc1 := 25) rfl ?_
      refine ix_goto (tgt := 51) X (ix_tb_at tb_X12_get 11 rfl) (by decide) ?_
      refine ix_sub (L1 := [(0, .ref (K.2.2.1 + a0)), (1, .int x1), (2, .int x2)]) [0, 1, 2] rfl ?_
      exact t_X12_get_51 hKp X hr hlk  h
  · have h := ix_ift q_4 h
    refine ix_sipush (v := (-1001)) X (ix_tb_at tb_X12_get 3 rfl) (by decide) (pc1 := 10) rfl ?_
    refine ix_goto (tgt := 51) X (ix_tb_at tb_X12_get 4 rfl) (by decide) ?_
    refine ix_sub (L1 := [(0, .ref (K.2.2.1 + a0)), (1, .int x1), (2, .int x2)]) [0, 1, 2] rfl ?_
    exact t_X12_get_51 hKp X hr hlk  h
def tab_X12_copy : List (Nat × Instr × Nat) := [(0, .iload_n 1, 1), (1, .invokestatic 253, 3), (4, .ifCond .eq 10, 3), (7, .iload_n 3, 1), (8, .invokestatic 253, 3), (11, .ifCond .ne 11, 3), (14, .aload_n 0, 1), (15, .sipush (-1001), 3), (18, .invokevirtual 242, 3), (21, .ireturn, 1), (22, .aload_n 0, 1), (23, .getfield 17, 3), (26, .iload_n 1, 1), (27, .iaload, 1), (28, .ifCond .lt 12, 3), (31, .aload_n 0, 1), (32, .getfield 17, 3), (35, .iload_n 3, 1), (36, .iaload, 1), (37, .ifCond .ge 11, 3), (40, .aload_n 0, 1), (41, .sipush (-1011), 3), (44, .invokevirtual 242, 3), (47, .ireturn, 1), (48, .iload_n 2, 1), (49, .iconst 0, 1), (50, .aload_n 0, 1), (51, .getfield 17, 3), (54, .iload_n 1, 1), (55, .iaload, 1), (56, .invokestatic 238, 3), (59, .ifCond .eq 50, 3), (62, .iload 4, 2), (64, .iconst 0, 1), (65, .aload_n 0, 1), (66, .getfield 17, 3), (69, .iload_n 3, 1), (70, .iaload, 1), (71, .invokestatic 238, 3), (74, .ifCond .eq 35, 3), (77, .iload 5, 2), (79, .ifCond .lt 30, 3), (82, .iload 5, 2), (84, .aload_n 0, 1), (85, .getfield 17, 3), (88, .iload_n 1, 1), (89, .iaload, 1), (90, .iload_n 2, 1), (91, .isub, 1), (92, .if_icmp .gt 17, 3), (95, .iload 5, 2), (97, .aload_n 0, 1), (98, .getfield 17, 3), (101, .iload_n 3, 1), (102, .iaload, 1), (103, .iload 4, 2), (105, .isub, 1), (106, .if_icmp .le 11, 3), (109, .aload_n 0, 1), (110, .sipush (-1012), 3), (113, .invokevirtual 242, 3), (116, .ireturn, 1), (117, .iconst 0, 1), (118, .istore 6, 2), (120, .iload 6, 2), (122, .iload 5, 2), (124, .if_icmp .ge 30, 3), (127, .aload_n 0, 1), (128, .getfield 80, 3), (131, .iload 6, 2), (133, .aload_n 0, 1), (134, .getfield 20, 3), (137, .bipush 12, 2), (139, .iload_n 1, 1), (140, .imul, 1), (141, .iload_n 2, 1), (142, .iadd, 1), (143, .iload 6, 2), (145, .iadd, 1), (146, .iaload, 1), (147, .iastore, 1), (148, .iinc 6 1, 3), (151, .goto (-31), 3), (154, .iconst 0, 1), (155, .istore 6, 2), (157, .iload 6, 2), (159, .iload 5, 2), (161, .if_icmp .ge 31, 3), (164, .aload_n 0, 1), (165, .getfield 20, 3), (168, .bipush 12, 2), (170, .iload_n 3, 1), (171, .imul, 1), (172, .iload 4, 2), (174, .iadd, 1), (175, .iload 6, 2), (177, .iadd, 1), (178, .aload_n 0, 1), (179, .getfield 80, 3), (182, .iload 6, 2), (184, .iaload, 1), (185, .iastore, 1), (186, .iinc 6 1, 3), (189, .goto (-32), 3), (192, .iload 5, 2), (194, .ireturn, 1)]
theorem tb_X12_copy : ix_tab cX12_copy tab_X12_copy := by
  unfold ix_tab
  decide +kernel
noncomputable def f_X12_copy_14 (n : Nat) (z : ix_Z)  (a0 : Nat) (d : ix_D2) : Option (Int32 × ix_D2) :=
  ix_ck (ix_ok z [11] a0) (ix_bd2 (f_X12_fail n z a0 ((-1001)) d) (fun r_8 d_5 => some (r_8, d_5)))
noncomputable def f_X12_copy_40 (n : Nat) (z : ix_Z)  (a0 : Nat) (d : ix_D2) : Option (Int32 × ix_D2) :=
  ix_ck (ix_ok z [11] a0) (ix_bd2 (f_X12_fail n z a0 ((-1011)) d) (fun r_21 d_18 => some (r_21, d_18)))
noncomputable def f_X12_copy_109 (n : Nat) (z : ix_Z)  (a0 : Nat) (d : ix_D2) : Option (Int32 × ix_D2) :=
  ix_ck (ix_ok z [11] a0) (ix_bd2 (f_X12_fail n z a0 ((-1012)) d) (fun r_31 d_28 => some (r_31, d_28)))
noncomputable def b_X12_copy_157 (n : Nat) (z : ix_Z)  (a0 : Nat) (x3 : Int32) (x4 : Int32) (x5 : Int32) (rec157 : Int32 → ix_D2 → Option (Int32 × ix_D2)) (x6 : Int32) (d : ix_D2) : Option (Int32 × ix_D2) :=
  ix_if (x5 ≤ x6) (some (x5, d)) (ix_ck (ix_ok z [11] a0) (ix_bd1 (z.1 a0 6) (fun b_42 => ix_bd1 (z.1 a0 35) (fun b_44 => ix_ck (ix_ix z 20 b_44 x6) (ix_ck (ix_ix z 20 b_42 (((12 * x3) + x4) + x6)) (ix_lt (ix_di d b_42 (ix_n (((12 * x3) + x4) + x6)) (d.1 b_44 (ix_n x6))) (fun d_48 => ix_lt (x6 + 1) (fun x6_50 => rec157 x6_50 d_48))))))))
noncomputable def f_X12_copy_157 (n : Nat) (z : ix_Z)  (a0 : Nat) (x3 : Int32) (x4 : Int32) (x5 : Int32) (x6 : Int32) (d : ix_D2) : Option (Int32 × ix_D2) := ix_fix (b_X12_copy_157 n z  a0 x3 x4 x5) (fun _ _ => none) n x6 d
noncomputable def b_X12_copy_120 (n : Nat) (z : ix_Z)  (a0 : Nat) (x1 : Int32) (x2 : Int32) (x3 : Int32) (x4 : Int32) (x5 : Int32) (rec120 : Int32 → ix_D2 → Option (Int32 × ix_D2)) (x6 : Int32) (d : ix_D2) : Option (Int32 × ix_D2) :=
  ix_if (x5 ≤ x6) (f_X12_copy_157 n z  a0 x3 x4 x5 0 d) (ix_ck (ix_ok z [11] a0) (ix_bd1 (z.1 a0 35) (fun b_53 => ix_bd1 (z.1 a0 6) (fun b_55 => ix_ck (ix_ix z 20 b_55 (((12 * x1) + x2) + x6)) (ix_ck (ix_ix z 20 b_53 x6) (ix_lt (ix_di d b_53 (ix_n x6) (d.1 b_55 (ix_n (((12 * x1) + x2) + x6)))) (fun d_59 => ix_lt (x6 + 1) (fun x6_61 => rec120 x6_61 d_59))))))))
noncomputable def f_X12_copy_120 (n : Nat) (z : ix_Z)  (a0 : Nat) (x1 : Int32) (x2 : Int32) (x3 : Int32) (x4 : Int32) (x5 : Int32) (x6 : Int32) (d : ix_D2) : Option (Int32 × ix_D2) := ix_fix (b_X12_copy_120 n z  a0 x1 x2 x3 x4 x5) (fun _ _ => none) n x6 d
noncomputable def f_X12_copy (n : Nat) (z : ix_Z) (a0 : Nat) (x1 : Int32) (x2 : Int32) (x3 : Int32) (x4 : Int32) (x5 : Int32) (d : ix_D2) : Option (Int32 × ix_D2) :=
  ix_bd2 (f_X12_isRow n z x1 d) (fun r_3 d_1 => ix_if (r_3 = 0) (f_X12_copy_14 n z  a0 d_1) (ix_bd2 (f_X12_isRow n z x3 d_1) (fun r_11 d_9 => ix_if (r_11 = 0) (f_X12_copy_14 n z  a0 d_9) (ix_ck (ix_ok z [11] a0) (ix_bd1 (z.1 a0 5) (fun b_14 => ix_ck (ix_ix z 20 b_14 x1) (ix_if (d_9.1 b_14 (ix_n x1) < 0) (f_X12_copy_40 n z  a0 d_9) (ix_ck (ix_ix z 20 b_14 x3) (ix_if (0 ≤ d_9.1 b_14 (ix_n x3)) (ix_bd2 (f_X12_in n z x2 0 (d_9.1 b_14 (ix_n x1)) d_9) (fun r_26 d_24 => ix_if (r_26 = 0) (f_X12_copy_109 n z  a0 d_24) (ix_bd2 (f_X12_in n z x4 0 (d_24.1 b_14 (ix_n x3)) d_24) (fun r_34 d_32 => ix_if (r_34 = 0) (f_X12_copy_109 n z  a0 d_32) (ix_if (x5 < 0) (f_X12_copy_109 n z  a0 d_32) (ix_if ((d_32.1 b_14 (ix_n x1)) - x2 < x5) (f_X12_copy_109 n z  a0 d_32) (ix_if (x5 ≤ (d_32.1 b_14 (ix_n x3)) - x4) (f_X12_copy_120 n z  a0 x1 x2 x3 x4 x5 0 d_32) (f_X12_copy_109 n z  a0 d_32)))))))) (f_X12_copy_40 n z  a0 d_9))))))))))
set_option maxRecDepth 20000 in
theorem t_X12_copy_14 {l : Launch} {p : Program} {e : Env} {s : State} {m : MethodId} {args : Array Value} {below : List Frame} {meth : Method} {c : Code} {K : ix_Cx} (hKp : ix_Kp K) (X : ix_X p s m args c K cX12_copy RX12 7) (hr : meth.sig.returnType = (some .int)) (hlk : meth.locks = false) {n : Nat} {z : ix_Z}  {a0 : Nat} {r : Int32} {d1 : ix_D2}  {d : ix_D2} (h : f_X12_copy_14 n z  a0 d = some (r, d1)) : ix_G p l e (ix_rm 2 42 0 0) s m args below meth c (MQ below (ix_Post K (some (.int r)) (ix_w z d1)) args s 0 0 (ix_A K)) K 7 0 0 14 [(0, .ref (K.2.2.1 + a0))] [] (ix_w z d) := by
  unfold f_X12_copy_14 at h
  refine ix_aload_n (i := 0) (j := 0) X (ix_tb_at tb_X12_copy 6 rfl) rfl rfl (pc1 := 15) rfl ?_
  refine ix_sipush (v := (-1001)) X (ix_tb_at tb_X12_copy 7 rfl) (by decide) (pc1 := 18) rfl ?_
  obtain ⟨k_7, h⟩ := ix_ck_some h
  obtain ⟨r_8, d_5, h_6, h⟩ := ix_bd2_ex h
  refine ix_callV (As := [.int ((-1001))]) (rest := []) (ci := 11) (T := TX12) (nf := 116) X mf_X12_fail mi_X12_fail ms_X12_fail rfl (Nat.le_of_ble_eq_true rfl) ml_RX12_242 ⟨Nat.le_of_ble_eq_true rfl, Nat.le_of_ble_eq_true rfl⟩ ⟨Nat.le_of_ble_eq_true rfl, Nat.le_of_ble_eq_true rfl⟩ rfl (Nat.le_of_ble_eq_true rfl) (ix_tb_at tb_X12_copy 8 rfl) ⟨k_7.1, List.mem_singleton.mp k_7.2⟩ (c_X12_fail hKp h_6) rfl (pc1 := 21) rfl ?_
  exact ix_iret X hr hlk (ix_r2 (f := fun r => some (.int r)) (g := ix_w z) h) (ix_tb_at tb_X12_copy 9 rfl)
set_option maxRecDepth 20000 in
theorem t_X12_copy_40 {l : Launch} {p : Program} {e : Env} {s : State} {m : MethodId} {args : Array Value} {below : List Frame} {meth : Method} {c : Code} {K : ix_Cx} (hKp : ix_Kp K) (X : ix_X p s m args c K cX12_copy RX12 7) (hr : meth.sig.returnType = (some .int)) (hlk : meth.locks = false) {n : Nat} {z : ix_Z}  {a0 : Nat} {r : Int32} {d1 : ix_D2}  {d : ix_D2} (h : f_X12_copy_40 n z  a0 d = some (r, d1)) : ix_G p l e (ix_rm 2 42 0 0) s m args below meth c (MQ below (ix_Post K (some (.int r)) (ix_w z d1)) args s 0 0 (ix_A K)) K 7 0 0 40 [(0, .ref (K.2.2.1 + a0))] [] (ix_w z d) := by
  unfold f_X12_copy_40 at h
  refine ix_aload_n (i := 0) (j := 0) X (ix_tb_at tb_X12_copy 20 rfl) rfl rfl (pc1 := 41) rfl ?_
  refine ix_sipush (v := (-1011)) X (ix_tb_at tb_X12_copy 21 rfl) (by decide) (pc1 := 44) rfl ?_
  obtain ⟨k_20, h⟩ := ix_ck_some h
  obtain ⟨r_21, d_18, h_19, h⟩ := ix_bd2_ex h
  refine ix_callV (As := [.int ((-1011))]) (rest := []) (ci := 11) (T := TX12) (nf := 116) X mf_X12_fail mi_X12_fail ms_X12_fail rfl (Nat.le_of_ble_eq_true rfl) ml_RX12_242 ⟨Nat.le_of_ble_eq_true rfl, Nat.le_of_ble_eq_true rfl⟩ ⟨Nat.le_of_ble_eq_true rfl, Nat.le_of_ble_eq_true rfl⟩ rfl (Nat.le_of_ble_eq_true rfl) (ix_tb_at tb_X12_copy 22 rfl) ⟨k_20.1, List.mem_singleton.mp k_20.2⟩ (c_X12_fail hKp h_19) rfl (pc1 := 47) rfl ?_
  exact ix_iret X hr hlk (ix_r2 (f := fun r => some (.int r)) (g := ix_w z) h) (ix_tb_at tb_X12_copy 23 rfl)
set_option maxRecDepth 20000 in
theorem t_X12_copy_109 {l : Launch} {p : Program} {e : Env} {s : State} {m : MethodId} {args : Array Value} {below : List Frame} {meth : Method} {c : Code} {K : ix_Cx} (hKp : ix_Kp K) (X : ix_X p s m args c K cX12_copy RX12 7) (hr : meth.sig.returnType = (some .int)) (hlk : meth.locks = false) {n : Nat} {z : ix_Z}  {a0 : Nat} {r : Int32} {d1 : ix_D2}  {d : ix_D2} (h : f_X12_copy_109 n z  a0 d = some (r, d1)) : ix_G p l e (ix_rm 2 42 0 0) s m args below meth c (MQ below (ix_Post K (some (.int r)) (ix_w z d1)) args s 0 0 (ix_A K)) K 7 0 0 109 [(0, .ref (K.2.2.1 + a0))] [] (ix_w z d) := by
  unfold f_X12_copy_109 at h
  refine ix_aload_n (i := 0) (j := 0) X (ix_tb_at tb_X12_copy 58 rfl) rfl rfl (pc1 := 110) rfl ?_
  refine ix_sipush (v := (-1012)) X (ix_tb_at tb_X12_copy 59 rfl) (by decide) (pc1 := 113) rfl ?_
  obtain ⟨k_30, h⟩ := ix_ck_some h
  obtain ⟨r_31, d_28, h_29, h⟩ := ix_bd2_ex h
  refine ix_callV (As := [.int ((-1012))]) (rest := []) (ci := 11) (T := TX12) (nf := 116) X mf_X12_fail mi_X12_fail ms_X12_fail rfl (Nat.le_of_ble_eq_true rfl) ml_RX12_242 ⟨Nat.le_of_ble_eq_true rfl, Nat.le_of_ble_eq_true rfl⟩ ⟨Nat.le_of_ble_eq_true rfl, Nat.le_of_ble_eq_true rfl⟩ rfl (Nat.le_of_ble_eq_true rfl) (ix_tb_at tb_X12_copy 60 rfl) ⟨k_30.1, List.mem_singleton.mp k_30.2⟩ (c_X12_fail hKp h_29) rfl (pc1 := 116) rfl ?_
  exact ix_iret X hr hlk (ix_r2 (f := fun r => some (.int r)) (g := ix_w z) h) (ix_tb_at tb_X12_copy 61 rfl)
set_option maxRecDepth 20000 in
theorem tb_X12_copy_157 {l : Launch} {p : Program} {e : Env} {s : State} {m : MethodId} {args : Array Value} {below : List Frame} {meth : Method} {c : Code} {K : ix_Cx} (hKp : ix_Kp K) (X : ix_X p s m args c K cX12_copy RX12 7) (hr : meth.sig.returnType = (some .int)) (hlk : meth.locks = false) {n : Nat} {z : ix_Z}  {a0 : Nat} {x3 : Int32} {x4 : Int32} {x5 : Int32} {rec157 : Int32 → ix_D2 → Option (Int32 × ix_D2)} {r : Int32} {d1 : ix_D2} (hrec157 : ∀ (x6 : Int32) (d : ix_D2), rec157 x6 d = some (r, d1) → ix_G p l e (ix_rm 2 42 0 0) s m args below meth c (MQ below (ix_Post K (some (.int r)) (ix_w z d1)) args s 0 0 (ix_A K)) K 7 0 0 157 [(0, .ref (K.2.2.1 + a0)), (3, .int x3), (4, .int x4), (5, .int x5), (6, .int x6)] [] (ix_w z d)) {x6 : Int32} {d : ix_D2} (h : b_X12_copy_157 n z  a0 x3 x4 x5 rec157 x6 d = some (r, d1)) : ix_G p l e (ix_rm 2 42 0 0) s m args below meth c (MQ below (ix_Post K (some (.int r)) (ix_w z d1)) args s 0 0 (ix_A K)) K 7 0 0 157 [(0, .ref (K.2.2.1 + a0)), (3, .int x3), (4, .int x4), (5, .int x5), (6, .int x6)] [] (ix_w z d) := by
  unfold b_X12_copy_157 at h
  refine ix_iload (i := 6) (j := 4) X (ix_tb_at tb_X12_copy 85 rfl) rfl (pc1 := 159) rfl ?_
  refine ix_iload (i := 5) (j := 3) X (ix_tb_at tb_X12_copy 86 rfl) rfl (pc1 := 161) rfl ?_
  refine ix_icmp_ge (tgt := 192) X (ix_tb_at tb_X12_copy 87 rfl) (by decide) (pc1 := 164) rfl (fun q_40 => ?_) (fun q_40 => ?_)
  · have h := ix_ift q_40 h
    refine ix_iload (i := 5) (j := 3) X (ix_tb_at tb_X12_copy 104 rfl) rfl (pc1 := 194) rfl ?_
    exact ix_iret X hr hlk (ix_r2 (f := fun r => some (.int r)) (g := ix_w z) h) (ix_tb_at tb_X12_copy 105 rfl)
  · have h := ix_iff q_40 h
    refine ix_aload_n (i := 0) (j := 0) X (ix_tb_at tb_X12_copy 88 rfl) rfl rfl (pc1 := 165) rfl ?_
    obtain ⟨k_41, h⟩ := ix_ck_some h
    obtain ⟨b_42, q_43, h⟩ := ix_bd1_ex h
    refine iz_getR X fl_RX12_20 k_41 q_43 (ix_tb_at tb_X12_copy 89 rfl) (pc1 := 168) rfl ?_
    refine ix_bipush (v := 12) X (ix_tb_at tb_X12_copy 90 rfl) (by decide) (pc1 := 170) rfl ?_
    refine ix_iload_n (i := 3) (j := 1) X (ix_tb_at tb_X12_copy 91 rfl) rfl rfl (pc1 := 171) rfl ?_
    refine ix_imul X (ix_tb_at tb_X12_copy 92 rfl) (pc1 := 172) rfl ?_
    refine ix_iload (i := 4) (j := 2) X (ix_tb_at tb_X12_copy 93 rfl) rfl (pc1 := 174) rfl ?_
    refine ix_iadd X (ix_tb_at tb_X12_copy 94 rfl) (pc1 := 175) rfl ?_
    refine ix_iload (i := 6) (j := 4) X (ix_tb_at tb_X12_copy 95 rfl) rfl (pc1 := 177) rfl ?_
    refine ix_iadd X (ix_tb_at tb_X12_copy 96 rfl) (pc1 := 178) rfl ?_
    refine ix_aload_n (i := 0) (j := 0) X (ix_tb_at tb_X12_copy 97 rfl) rfl rfl (pc1 := 179) rfl ?_
    obtain ⟨b_44, q_45, h⟩ := ix_bd1_ex h
    refine iz_getR X fl_RX12_80 k_41 q_45 (ix_tb_at tb_X12_copy 98 rfl) (pc1 := 182) rfl ?_
    refine ix_iload (i := 6) (j := 4) X (ix_tb_at tb_X12_copy 99 rfl) rfl (pc1 := 184) rfl ?_
    obtain ⟨k_46, h⟩ := ix_ck_some h
    refine iz_iald X k_46 (ix_tb_at tb_X12_copy 100 rfl) (pc1 := 185) rfl ?_
    obtain ⟨k_47, h⟩ := ix_ck_some h
    obtain ⟨d_48, e_49, h⟩ := ix_lt_ex h
    refine iz_iast X k_47 (ix_tb_at tb_X12_copy 101 rfl) e_49 (pc1 := 186) rfl ?_
    obtain ⟨x6_50, e_51, h⟩ := ix_lt_ex h
    refine ix_iinc (i := 6) (j := 4) (v := x6_50) (L1 := [(6, .int x6_50), (0, .ref (K.2.2.1 + a0)), (3, .int x3), (4, .int x4), (5, .int x5)]) X (ix_tb_at tb_X12_copy 102 rfl) rfl (by rw [oi_1]; exact e_51.symm) (Nat.le_of_ble_eq_true rfl) rfl (pc1 := 189) rfl ?_
    refine ix_goto (tgt := 157) X (ix_tb_at tb_X12_copy 103 rfl) (by decide) ?_
    refine ix_sub (L1 := [(0, .ref (K.2.2.1 + a0)), (3, .int x3), (4, .int x4), (5, .int x5), (6, .int x6_50)]) [1, 2, 3, 4, 0] rfl ?_
    exact hrec157 x6_50 d_48 h
theorem t_X12_copy_157 {l : Launch} {p : Program} {e : Env} {s : State} {m : MethodId} {args : Array Value} {below : List Frame} {meth : Method} {c : Code} {K : ix_Cx} (hKp : ix_Kp K) (X : ix_X p s m args c K cX12_copy RX12 7) (hr : meth.sig.returnType = (some .int)) (hlk : meth.locks = false) {n : Nat} {z : ix_Z}  {a0 : Nat} {x3 : Int32} {x4 : Int32} {x5 : Int32} {r : Int32} {d1 : ix_D2}  {x6 : Int32} {d : ix_D2} (h : f_X12_copy_157 n z  a0 x3 x4 x5 x6 d = some (r, d1)) : ix_G p l e (ix_rm 2 42 0 0) s m args below meth c (MQ below (ix_Post K (some (.int r)) (ix_w z d1)) args s 0 0 (ix_A K)) K 7 0 0 157 [(0, .ref (K.2.2.1 + a0)), (3, .int x3), (4, .int x4), (5, .int x5), (6, .int x6)] [] (ix_w z d) := by
  have key : ∀ (f : Nat) (x6 : Int32) (d : ix_D2), ix_fix (b_X12_copy_157 n z  a0 x3 x4 x5) (fun _ _ => none) f x6 d = some (r, d1) → ix_G p l e (ix_rm 2 42 0 0) s m args below meth c (MQ below (ix_Post K (some (.int r)) (ix_w z d1)) args s 0 0 (ix_A K)) K 7 0 0 157 [(0, .ref (K.2.2.1 + a0)), (3, .int x3), (4, .int x4), (5, .int x5), (6, .int x6)] [] (ix_w z d) := by
    intro f
    induction f with
    | zero =>
      intro x6 d h
      have h : (none : Option (Int32 × ix_D2)) = some (r, d1) := h
      cases h
    | succ f ih =>
      intro x6 d h
      exact tb_X12_copy_157 hKp X hr hlk (rec157 := ix_fix (b_X12_copy_157 n z  a0 x3 x4 x5) (fun _ _ => none) f)  ih h
  exact key n x6 d h
set_option maxRecDepth 20000 in
theorem tb_X12_copy_120 {l : Launch} {p : Program} {e : Env} {s : State} {m : MethodId} {args : Array Value} {below : List Frame} {meth : Method} {c : Code} {K : ix_Cx} (hKp : ix_Kp K) (X : ix_X p s m args c K cX12_copy RX12 7) (hr : meth.sig.returnType = (some .int)) (hlk : meth.locks = false) {n : Nat} {z : ix_Z}  {a0 : Nat} {x1 : Int32} {x2 : Int32} {x3 : Int32} {x4 : Int32} {x5 : Int32} {rec120 : Int32 → ix_D2 → Option (Int32 × ix_D2)} {r : Int32} {d1 : ix_D2} (hrec120 : ∀ (x6 : Int32) (d : ix_D2), rec120 x6 d = some (r, d1) → ix_G p l e (ix_rm 2 42 0 0) s m args below meth c (MQ below (ix_Post K (some (.int r)) (ix_w z d1)) args s 0 0 (ix_A K)) K 7 0 0 120 [(0, .ref (K.2.2.1 + a0)), (1, .int x1), (2, .int x2), (3, .int x3), (4, .int x4), (5, .int x5), (6, .int x6)] [] (ix_w z d)) {x6 : Int32} {d : ix_D2} (h : b_X12_copy_120 n z  a0 x1 x2 x3 x4 x5 rec120 x6 d = some (r, d1)) : ix_G p l e (ix_rm 2 42 0 0) s m args below meth c (MQ below (ix_Post K (some (.int r)) (ix_w z d1)) args s 0 0 (ix_A K)) K 7 0 0 120 [(0, .ref (K.2.2.1 + a0)), (1, .int x1), (2, .int x2), (3, .int x3), (4, .int x4), (5, .int x5), (6, .int x6)] [] (ix_w z d) := by
  unfold b_X12_copy_120 at h
  refine ix_iload (i := 6) (j := 6) X (ix_tb_at tb_X12_copy 64 rfl) rfl (pc1 := 122) rfl ?_
  refine ix_iload (i := 5) (j := 5) X (ix_tb_at tb_X12_copy 65 rfl) rfl (pc1 := 124) rfl ?_
  refine ix_icmp_ge (tgt := 154) X (ix_tb_at tb_X12_copy 66 rfl) (by decide) (pc1 := 127) rfl (fun q_39 => ?_) (fun q_39 => ?_)
  · have h := ix_ift q_39 h
    refine ix_iconst (v := 0) X (ix_tb_at tb_X12_copy 83 rfl) (by decide) (pc1 := 155) rfl ?_
    refine ix_istore (i := 6) (L1 := [(6, .int 0), (0, .ref (K.2.2.1 + a0)), (1, .int x1), (2, .int x2), (3, .int x3), (4, .int x4), (5, .int x5)]) X (ix_tb_at tb_X12_copy 84 rfl) (Nat.le_of_ble_eq_true rfl) rfl (pc1 := 157) rfl ?_
    refine ix_sub (L1 := [(0, .ref (K.2.2.1 + a0)), (3, .int x3), (4, .int x4), (5, .int x5), (6, .int 0)]) [1, 4, 5, 6, 0] rfl ?_
    exact t_X12_copy_157 hKp X hr hlk  h
  · have h := ix_iff q_39 h
    refine ix_aload_n (i := 0) (j := 0) X (ix_tb_at tb_X12_copy 67 rfl) rfl rfl (pc1 := 128) rfl ?_
    obtain ⟨k_52, h⟩ := ix_ck_some h
    obtain ⟨b_53, q_54, h⟩ := ix_bd1_ex h
    refine iz_getR X fl_RX12_80 k_52 q_54 (ix_tb_at tb_X12_copy 68 rfl) (pc1 := 131) rfl ?_
    refine ix_iload (i := 6) (j := 6) X (ix_tb_at tb_X12_copy 69 rfl) rfl (pc1 := 133) rfl ?_
    refine ix_aload_n (i := 0) (j := 0) X (ix_tb_at tb_X12_copy 70 rfl) rfl rfl (pc1 := 134) rfl ?_
    obtain ⟨b_55, q_56, h⟩ := ix_bd1_ex h
    refine iz_getR X fl_RX12_20 k_52 q_56 (ix_tb_at tb_X12_copy 71 rfl) (pc1 := 137) rfl ?_
    refine ix_bipush (v := 12) X (ix_tb_at tb_X12_copy 72 rfl) (by decide) (pc1 := 139) rfl ?_
    refine ix_iload_n (i := 1) (j := 1) X (ix_tb_at tb_X12_copy 73 rfl) rfl rfl (pc1 := 140) rfl ?_
    refine ix_imul X (ix_tb_at tb_X12_copy 74 rfl) (pc1 := 141) rfl ?_
    refine ix_iload_n (i := 2) (j := 2) X (ix_tb_at tb_X12_copy 75 rfl) rfl rfl (pc1 := 142) rfl ?_
    refine ix_iadd X (ix_tb_at tb_X12_copy 76 rfl) (pc1 := 143) rfl ?_
    refine ix_iload (i := 6) (j := 6) X (ix_tb_at tb_X12_copy 77 rfl) rfl (pc1 := 145) rfl ?_
    refine ix_iadd X (ix_tb_at tb_X12_copy 78 rfl) (pc1 := 146) rfl ?_
    obtain ⟨k_57, h⟩ := ix_ck_some h
    refine iz_iald X k_57 (ix_tb_at tb_X12_copy 79 rfl) (pc1 := 147) rfl ?_
    obtain ⟨k_58, h⟩ := ix_ck_some h
    obtain ⟨d_59, e_60, h⟩ := ix_lt_ex h
    refine iz_iast X k_58 (ix_tb_at tb_X12_copy 80 rfl) e_60 (pc1 := 148) rfl ?_
    obtain ⟨x6_61, e_62, h⟩ := ix_lt_ex h
    refine ix_iinc (i := 6) (j := 6) (v := x6_61) (L1 := [(6, .int x6_61), (0, .ref (K.2.2.1 + a0)), (1, .int x1), (2, .int x2), (3, .int x3), (4, .int x4), (5, .int x5)]) X (ix_tb_at tb_X12_copy 81 rfl) rfl (by rw [oi_1]; exact e_62.symm) (Nat.le_of_ble_eq_true rfl) rfl (pc1 := 151) rfl ?_
    refine ix_goto (tgt := 120) X (ix_tb_at tb_X12_copy 82 rfl) (by decide) ?_
    refine ix_sub (L1 := [(0, .ref (K.2.2.1 + a0)), (1, .int x1), (2, .int x2), (3, .int x3), (4, .int x4), (5, .int x5), (6, .int x6_61)]) [1, 2, 3, 4, 5, 6, 0] rfl ?_
    exact hrec120 x6_61 d_59 h
theorem t_X12_copy_120 {l : Launch} {p : Program} {e : Env} {s : State} {m : MethodId} {args : Array Value} {below : List Frame} {meth : Method} {c : Code} {K : ix_Cx} (hKp : ix_Kp K) (X : ix_X p s m args c K cX12_copy RX12 7) (hr : meth.sig.returnType = (some .int)) (hlk : meth.locks = false) {n : Nat} {z : ix_Z}  {a0 : Nat} {x1 : Int32} {x2 : Int32} {x3 : Int32} {x4 : Int32} {x5 : Int32} {r : Int32} {d1 : ix_D2}  {x6 : Int32} {d : ix_D2} (h : f_X12_copy_120 n z  a0 x1 x2 x3 x4 x5 x6 d = some (r, d1)) : ix_G p l e (ix_rm 2 42 0 0) s m args below meth c (MQ below (ix_Post K (some (.int r)) (ix_w z d1)) args s 0 0 (ix_A K)) K 7 0 0 120 [(0, .ref (K.2.2.1 + a0)), (1, .int x1), (2, .int x2), (3, .int x3), (4, .int x4), (5, .int x5), (6, .int x6)] [] (ix_w z d) := by
  have key : ∀ (f : Nat) (x6 : Int32) (d : ix_D2), ix_fix (b_X12_copy_120 n z  a0 x1 x2 x3 x4 x5) (fun _ _ => none) f x6 d = some (r, d1) → ix_G p l e (ix_rm 2 42 0 0) s m args below meth c (MQ below (ix_Post K (some (.int r)) (ix_w z d1)) args s 0 0 (ix_A K)) K 7 0 0 120 [(0, .ref (K.2.2.1 + a0)), (1, .int x1), (2, .int x2), (3, .int x3), (4, .int x4), (5, .int x5), (6, .int x6)] [] (ix_w z d) := by
    intro f
    induction f with
    | zero =>
      intro x6 d h
      have h : (none : Option (Int32 × ix_D2)) = some (r, d1) := h
      cases h
    | succ f ih =>
      intro x6 d h
      exact tb_X12_copy_120 hKp X hr hlk (rec120 := ix_fix (b_X12_copy_120 n z  a0 x1 x2 x3 x4 x5) (fun _ _ => none) f)  ih h
  exact key n x6 d h
set_option maxRecDepth 20000 in
theorem c_X12_copy {l : Launch} {K : ix_Cx} (hKp : ix_Kp K) {n : Nat} {z : ix_Z} {a0 : Nat} {x1 : Int32} {x2 : Int32} {x3 : Int32} {x4 : Int32} {x5 : Int32} {d : ix_D2} {r : Int32} {d1 : ix_D2} (h : f_X12_copy n z a0 x1 x2 x3 x4 x5 d = some (r, d1)) : ix_M l K yX12_copy cX12_copy 7 (some .int) 2 42 0 0 [.ref (K.2.2.1 + a0), .int x1, .int x2, .int x3, .int x4, .int x5] (ix_w z d) (some (.int r)) (ix_w z d1) := by
  refine ix_met mf_X12_copy hKp (Nat.le_of_ble_eq_true rfl) ?_
  intro p e s m args below meth c hr hlk hnm X
  have X : ix_X p s m args c K cX12_copy RX12 7 := X
  show ix_G p l e (ix_rm 2 42 0 0) s m args below meth c (MQ below (ix_Post K (some (.int r)) (ix_w z d1)) args s 0 0 (ix_A K)) K 7 0 0 0 [(0, .ref (K.2.2.1 + a0)), (1, .int x1), (2, .int x2), (3, .int x3), (4, .int x4), (5, .int x5)] [] (ix_w z d)
  unfold f_X12_copy at h
  refine ix_iload_n (i := 1) (j := 1) X (ix_tb_at tb_X12_copy 0 rfl) rfl rfl (pc1 := 1) rfl ?_
  obtain ⟨r_3, d_1, h_2, h⟩ := ix_bd2_ex h
  refine ix_callS (As := [.int x1]) (rest := []) X mf_X12_isRow st_X12_isRow ml_RX12_253 ⟨Nat.le_of_ble_eq_true rfl, Nat.le_of_ble_eq_true rfl⟩ ⟨Nat.le_of_ble_eq_true rfl, Nat.le_of_ble_eq_true rfl⟩ rfl (Nat.le_of_ble_eq_true rfl) (ix_tb_at tb_X12_copy 1 rfl) (c_X12_isRow hKp h_2) rfl (pc1 := 4) rfl ?_
  refine ix_if_eq (tgt := 14) X (ix_tb_at tb_X12_copy 2 rfl) (by decide) (pc1 := 7) rfl (fun q_4 => ?_) (fun q_4 => ?_)
  · have h := ix_ift q_4 h
    refine ix_sub (L1 := [(0, .ref (K.2.2.1 + a0))]) [0] rfl ?_
    exact t_X12_copy_14 hKp X hr hlk  h
  · have h := ix_iff q_4 h
    refine ix_iload_n (i := 3) (j := 3) X (ix_tb_at tb_X12_copy 3 rfl) rfl rfl (pc1 := 8) rfl ?_
    obtain ⟨r_11, d_9, h_10, h⟩ := ix_bd2_ex h
    refine ix_callS (As := [.int x3]) (rest := []) X mf_X12_isRow st_X12_isRow ml_RX12_253 ⟨Nat.le_of_ble_eq_true rfl, Nat.le_of_ble_eq_true rfl⟩ ⟨Nat.le_of_ble_eq_true rfl, Nat.le_of_ble_eq_true rfl⟩ rfl (Nat.le_of_ble_eq_true rfl) (ix_tb_at tb_X12_copy 4 rfl) (c_X12_isRow hKp h_10) rfl (pc1 := 11) rfl ?_
    refine ix_if_ne (tgt := 22) X (ix_tb_at tb_X12_copy 5 rfl) (by decide) (pc1 := 14) rfl (fun q_12 => ?_) (fun q_12 => ?_)
    · have h := ix_iff q_12 h
      refine ix_aload_n (i := 0) (j := 0) X (ix_tb_at tb_X12_copy 10 rfl) rfl rfl (pc1 := 23) rfl ?_
      obtain ⟨k_13, h⟩ := ix_ck_some h
      obtain ⟨b_14, q_15, h⟩ := ix_bd1_ex h
      refine iz_getR X fl_RX12_17 k_13 q_15 (ix_tb_at tb_X12_copy 11 rfl) (pc1 := 26) rfl ?_
      refine ix_iload_n (i := 1) (j := 1) X (ix_tb_at tb_X12_copy 12 rfl) rfl rfl (pc1 := 27) rfl ?_
      obtain ⟨k_16, h⟩ := ix_ck_some h
      refine iz_iald X k_16 (ix_tb_at tb_X12_copy 13 rfl) (pc1 := 28) rfl ?_
      refine ix_if_lt (tgt := 40) X (ix_tb_at tb_X12_copy 14 rfl) (by decide) (pc1 := 31) rfl (fun q_17 => ?_) (fun q_17 => ?_)
      · have h := ix_ift q_17 h
        refine ix_sub (L1 := [(0, .ref (K.2.2.1 + a0))]) [0] rfl ?_
        exact t_X12_copy_40 hKp X hr hlk  h
      · have h := ix_iff q_17 h
        refine ix_aload_n (i := 0) (j := 0) X (ix_tb_at tb_X12_copy 15 rfl) rfl rfl (pc1 := 32) rfl ?_
        refine iz_getR X fl_RX12_17 k_13 q_15 (ix_tb_at tb_X12_copy 16 rfl) (pc1 := 35) rfl ?_
        refine ix_iload_n (i := 3) (j := 3) X (ix_tb_at tb_X12_copy 17 rfl) rfl rfl (pc1 := 36) rfl ?_
        obtain ⟨k_22, h⟩ := ix_ck_some h
        refine iz_iald X k_22 (ix_tb_at tb_X12_copy 18 rfl) (pc1 := 37) rfl ?_
        refine ix_if_ge (tgt := 48) X (ix_tb_at tb_X12_copy 19 rfl) (by decide) (pc1 := 40) rfl (fun q_23 => ?_) (fun q_23 => ?_)
        · have h := ix_ift q_23 h
          refine ix_iload_n (i := 2) (j := 2) X (ix_tb_at tb_X12_copy 24 rfl) rfl rfl (pc1 := 49) rfl ?_
          refine ix_iconst (v := 0) X (ix_tb_at tb_X12_copy 25 rfl) (by decide) (pc1 := 50) rfl ?_
          refine ix_aload_n (i := 0) (j := 0) X (ix_tb_at tb_X12_copy 26 rfl) rfl rfl (pc1 := 51) rfl ?_
          refine iz_getR X fl_RX12_17 k_13 q_15 (ix_tb_at tb_X12_copy 27 rfl) (pc1 := 54) rfl ?_
          refine ix_iload_n (i := 1) (j := 1) X (ix_tb_at tb_X12_copy 28 rfl) rfl rfl (pc1 := 55) rfl ?_
          refine iz_iald X k_16 (ix_tb_at tb_X12_copy 29 rfl) (pc1 := 56) rfl ?_
          obtain ⟨r_26, d_24, h_25, h⟩ := ix_bd2_ex h
          refine ix_callS (As := [.int x2, .int 0, .int (d_9.1 b_14 (ix_n x1))]) (rest := []) X mf_X12_in st_X12_in ml_RX12_238 ⟨Nat.le_of_ble_eq_true rfl, Nat.le_of_ble_eq_true rfl⟩ ⟨Nat.le_of_ble_eq_true rfl, Nat.le_of_ble_eq_true rfl⟩ rfl (Nat.le_of_ble_eq_true rfl) (ix_tb_at tb_X12_copy 30 rfl) (c_X12_in hKp h_25) rfl (pc1 := 59) rfl ?_
          refine ix_if_eq (tgt := 109) X (ix_tb_at tb_X12_copy 31 rfl) (by decide) (pc1 := 62) rfl (fun q_27 => ?_) (fun q_27 => ?_)
          · have h := ix_ift q_27 h
            refine ix_sub (L1 := [(0, .ref (K.2.2.1 + a0))]) [0] rfl ?_
            exact t_X12_copy_109 hKp X hr hlk  h
          · have h := ix_iff q_27 h
            refine ix_iload (i := 4) (j := 4) X (ix_tb_at tb_X12_copy 32 rfl) rfl (pc1 := 64) rfl ?_
            refine ix_iconst (v := 0) X (ix_tb_at tb_X12_copy 33 rfl) (by decide) (pc1 := 65) rfl ?_
            refine ix_aload_n (i := 0) (j := 0) X (ix_tb_at tb_X12_copy 34 rfl) rfl rfl (pc1 := 66) rfl ?_
            refine iz_getR X fl_RX12_17 k_13 q_15 (ix_tb_at tb_X12_copy 35 rfl) (pc1 := 69) rfl ?_
            refine ix_iload_n (i := 3) (j := 3) X (ix_tb_at tb_X12_copy 36 rfl) rfl rfl (pc1 := 70) rfl ?_
            refine iz_iald X k_22 (ix_tb_at tb_X12_copy 37 rfl) (pc1 := 71) rfl ?_
            obtain ⟨r_34, d_32, h_33, h⟩ := ix_bd2_ex h
            refine ix_callS (As := [.int x4, .int 0, .int (d_24.1 b_14 (ix_n x3))]) (rest := []) X mf_X12_in st_X12_in ml_RX12_238 ⟨Nat.le_of_ble_eq_true rfl, Nat.le_of_ble_eq_true rfl⟩ ⟨Nat.le_of_ble_eq_true rfl, Nat.le_of_ble_eq_true rfl⟩ rfl (Nat.le_of_ble_eq_true rfl) (ix_tb_at tb_X12_copy 38 rfl) (c_X12_in hKp h_33) rfl (pc1 := 74) rfl ?_
            refine ix_if_eq (tgt := 109) X (ix_tb_at tb_X12_copy 39 rfl) (by decide) (pc1 := 77) rfl (fun q_35 => ?_) (fun q_35 => ?_)
            · have h := ix_ift q_35 h
              refine ix_sub (L1 := [(0, .ref (K.2.2.1 + a0))]) [0] rfl ?_
              exact t_X12_copy_109 hKp X hr hlk  h
            · have h := ix_iff q_35 h
              refine ix_iload (i := 5) (j := 5) X (ix_tb_at tb_X12_copy 40 rfl) rfl (pc1 := 79) rfl ?_
              refine ix_if_lt (tgt := 109) X (ix_tb_at tb_X12_copy 41 rfl) (by decide) (pc1 := 82) rfl (fun q_36 => ?_) (fun q_36 => ?_)
              · have h := ix_ift q_36 h
                refine ix_sub (L1 := [(0, .ref (K.2.2.1 + a0))]) [0] rfl ?_
                exact t_X12_copy_109 hKp X hr hlk  h
              · have h := ix_iff q_36 h
                refine ix_iload (i := 5) (j := 5) X (ix_tb_at tb_X12_copy 42 rfl) rfl (pc1 := 84) rfl ?_
                refine ix_aload_n (i := 0) (j := 0) X (ix_tb_at tb_X12_copy 43 rfl) rfl rfl (pc1 := 85) rfl ?_
                refine iz_getR X fl_RX12_17 k_13 q_15 (ix_tb_at tb_X12_copy 44 rfl) (pc1 := 88) rfl ?_
                refine ix_iload_n (i := 1) (j := 1) X (ix_tb_at tb_X12_copy 45 rfl) rfl rfl (pc1 := 89) rfl ?_
                refine iz_iald X k_16 (ix_tb_at tb_X12_copy 46 rfl) (pc1 := 90) rfl ?_
                refine ix_iload_n (i := 2) (j := 2) X (ix_tb_at tb_X12_copy 47 rfl) rfl rfl (pc1 := 91) rfl ?_
                refine ix_isub X (ix_tb_at tb_X12_copy 48 rfl) (pc1 := 92) rfl ?_
                refine ix_icmp_gt (tgt := 109) X (ix_tb_at tb_X12_copy 49 rfl) (by decide) (pc1 := 95) rfl (fun q_37 => ?_) (fun q_37 => ?_)
                · have h := ix_ift q_37 h
                  refine ix_sub (L1 := [(0, .ref (K.2.2.1 + a0))]) [0] rfl ?_
                  exact t_X12_copy_109 hKp X hr hlk  h
                · have h := ix_iff q_37 h
                  refine ix_iload (i := 5) (j := 5) X (ix_tb_at tb_X12_copy 50 rfl) rfl (pc1 := 97) rfl ?_
                  refine ix_aload_n (i := 0) (j := 0) X (ix_tb_at tb_X12_copy 51 rfl) rfl rfl (pc1 := 98) rfl ?_
                  refine iz_getR X fl_RX12_17 k_13 q_15 (ix_tb_at tb_X12_copy 52 rfl) (pc1 := 101) rfl ?_
                  refine ix_iload_n (i := 3) (j := 3) X (ix_tb_at tb_X12_copy 53 rfl) rfl rfl (pc1 := 102) rfl ?_
                  refine iz_iald X k_22 (ix_tb_at tb_X12_copy 54 rfl) (pc1 := 103) rfl ?_
                  refine ix_iload (i := 4) (j := 4) X (ix_tb_at tb_X12_copy 55 rfl) rfl (pc1 := 105) rfl ?_
                  refine ix_isub X (ix_tb_at tb_X12_copy 56 rfl) (pc1 := 106) rfl ?_
                  refine ix_icmp_le (tgt := 117) X (ix_tb_at tb_X12_copy 57 rfl) (by decide) (pc1 := 109) rfl (fun q_38 => ?_) (fun q_38 => ?_)
                  · have h := ix_ift q_38 h
                    refine ix_iconst (v := 0) X (ix_tb_at tb_X12_copy 62 rfl) (by decide) (pc1 := 118) rfl ?_
                    refine ix_istore (i := 6) (L1 := [(6, .int 0), (0, .ref (K.2.2.1 + a0)), (1, .int x1), (2, .int x2), (3, .int x3), (4, .int x4), (5, .int x5)]) X (ix_tb_at tb_X12_copy 63 rfl) (Nat.le_of_ble_eq_true rfl) rfl (pc1 := 120) rfl ?_
                    refine ix_sub (L1 := [(0, .ref (K.2.2.1 + a0)), (1, .int x1), (2, .int x2), (3, .int x3), (4, .int x4), (5, .int x5), (6, .int 0)]) [1, 2, 3, 4, 5, 6, 0] rfl ?_
                    exact t_X12_copy_120 hKp X hr hlk  h
                  · have h := ix_iff q_38 h
                    refine ix_sub (L1 := [(0, .ref (K.2.2.1 + a0))]) [0] rfl ?_
                    exact t_X12_copy_109 hKp X hr hlk  h
        · have h := ix_iff q_23 h
          refine ix_sub (L1 := [(0, .ref (K.2.2.1 + a0))]) [0] rfl ?_
          exact t_X12_copy_40 hKp X hr hlk  h
    · have h := ix_ift q_12 h
      refine ix_sub (L1 := [(0, .ref (K.2.2.1 + a0))]) [0] rfl ?_
      exact t_X12_copy_14 hKp X hr hlk  h
def tab_X12_cut : List (Nat × Instr × Nat) := [(0, .iload_n 1, 1), (1, .invokestatic 253, 3), (4, .ifCond .eq 9, 3), (7, .iload_n 2, 1), (8, .bipush 12, 2), (10, .if_icmp .le 11, 3), (13, .aload_n 0, 1), (14, .sipush (-1001), 3), (17, .invokevirtual 242, 3), (20, .ireturn, 1), (21, .iload_n 2, 1), (22, .ifCond .ge 11, 3), (25, .aload_n 0, 1), (26, .sipush (-1014), 3), (29, .invokevirtual 242, 3), (32, .ireturn, 1), (33, .aload_n 0, 1), (34, .getfield 17, 3), (37, .iload_n 1, 1), (38, .iaload, 1), (39, .ifCond .ge 11, 3), (42, .aload_n 0, 1), (43, .sipush (-1011), 3), (46, .invokevirtual 242, 3), (49, .ireturn, 1), (50, .iload_n 2, 1), (51, .aload_n 0, 1), (52, .getfield 17, 3), (55, .iload_n 1, 1), (56, .iaload, 1), (57, .if_icmp .le 11, 3), (60, .aload_n 0, 1), (61, .sipush (-1012), 3), (64, .invokevirtual 242, 3), (67, .ireturn, 1), (68, .aload_n 0, 1), (69, .getfield 17, 3), (72, .iload_n 1, 1), (73, .iload_n 2, 1), (74, .iastore, 1), (75, .iload_n 2, 1), (76, .ireturn, 1)]
theorem tb_X12_cut : ix_tab cX12_cut tab_X12_cut := by
  unfold ix_tab
  decide +kernel
noncomputable def f_X12_cut_13 (n : Nat) (z : ix_Z)  (a0 : Nat) (d : ix_D2) : Option (Int32 × ix_D2) :=
  ix_ck (ix_ok z [11] a0) (ix_bd2 (f_X12_fail n z a0 ((-1001)) d) (fun r_8 d_5 => some (r_8, d_5)))
noncomputable def f_X12_cut (n : Nat) (z : ix_Z) (a0 : Nat) (x1 : Int32) (x2 : Int32) (d : ix_D2) : Option (Int32 × ix_D2) :=
  ix_bd2 (f_X12_isRow n z x1 d) (fun r_3 d_1 => ix_if (r_3 = 0) (f_X12_cut_13 n z  a0 d_1) (ix_if (x2 ≤ 12) (ix_if (0 ≤ x2) (ix_ck (ix_ok z [11] a0) (ix_bd1 (z.1 a0 5) (fun b_12 => ix_ck (ix_ix z 20 b_12 x1) (ix_if (0 ≤ d_1.1 b_12 (ix_n x1)) (ix_if (x2 ≤ d_1.1 b_12 (ix_n x1)) (ix_lt (ix_di d_1 b_12 (ix_n x1) x2) (fun d_17 => some (x2, d_17))) (ix_bd2 (f_X12_fail n z a0 ((-1012)) d_1) (fun r_21 d_19 => some (r_21, d_19)))) (ix_bd2 (f_X12_fail n z a0 ((-1011)) d_1) (fun r_24 d_22 => some (r_24, d_22))))))) (ix_ck (ix_ok z [11] a0) (ix_bd2 (f_X12_fail n z a0 ((-1014)) d_1) (fun r_28 d_25 => some (r_28, d_25))))) (f_X12_cut_13 n z  a0 d_1)))
set_option maxRecDepth 20000 in
theorem t_X12_cut_13 {l : Launch} {p : Program} {e : Env} {s : State} {m : MethodId} {args : Array Value} {below : List Frame} {meth : Method} {c : Code} {K : ix_Cx} (hKp : ix_Kp K) (X : ix_X p s m args c K cX12_cut RX12 3) (hr : meth.sig.returnType = (some .int)) (hlk : meth.locks = false) {n : Nat} {z : ix_Z}  {a0 : Nat} {r : Int32} {d1 : ix_D2}  {d : ix_D2} (h : f_X12_cut_13 n z  a0 d = some (r, d1)) : ix_G p l e (ix_rm 2 42 0 0) s m args below meth c (MQ below (ix_Post K (some (.int r)) (ix_w z d1)) args s 0 0 (ix_A K)) K 3 0 0 13 [(0, .ref (K.2.2.1 + a0))] [] (ix_w z d) := by
  unfold f_X12_cut_13 at h
  refine ix_aload_n (i := 0) (j := 0) X (ix_tb_at tb_X12_cut 6 rfl) rfl rfl (pc1 := 14) rfl ?_
  refine ix_sipush (v := (-1001)) X (ix_tb_at tb_X12_cut 7 rfl) (by decide) (pc1 := 17) rfl ?_
  obtain ⟨k_7, h⟩ := ix_ck_some h
  obtain ⟨r_8, d_5, h_6, h⟩ := ix_bd2_ex h
  refine ix_callV (As := [.int ((-1001))]) (rest := []) (ci := 11) (T := TX12) (nf := 116) X mf_X12_fail mi_X12_fail ms_X12_fail rfl (Nat.le_of_ble_eq_true rfl) ml_RX12_242 ⟨Nat.le_of_ble_eq_true rfl, Nat.le_of_ble_eq_true rfl⟩ ⟨Nat.le_of_ble_eq_true rfl, Nat.le_of_ble_eq_true rfl⟩ rfl (Nat.le_of_ble_eq_true rfl) (ix_tb_at tb_X12_cut 8 rfl) ⟨k_7.1, List.mem_singleton.mp k_7.2⟩ (c_X12_fail hKp h_6) rfl (pc1 := 20) rfl ?_
  exact ix_iret X hr hlk (ix_r2 (f := fun r => some (.int r)) (g := ix_w z) h) (ix_tb_at tb_X12_cut 9 rfl)
set_option maxRecDepth 20000 in
theorem c_X12_cut {l : Launch} {K : ix_Cx} (hKp : ix_Kp K) {n : Nat} {z : ix_Z} {a0 : Nat} {x1 : Int32} {x2 : Int32} {d : ix_D2} {r : Int32} {d1 : ix_D2} (h : f_X12_cut n z a0 x1 x2 d = some (r, d1)) : ix_M l K yX12_cut cX12_cut 3 (some .int) 2 42 0 0 [.ref (K.2.2.1 + a0), .int x1, .int x2] (ix_w z d) (some (.int r)) (ix_w z d1) := by
  refine ix_met mf_X12_cut hKp (Nat.le_of_ble_eq_true rfl) ?_
  intro p e s m args below meth c hr hlk hnm X
  have X : ix_X p s m args c K cX12_cut RX12 3 := X
  show ix_G p l e (ix_rm 2 42 0 0) s m args below meth c (MQ below (ix_Post K (some (.int r)) (ix_w z d1)) args s 0 0 (ix_A K)) K 3 0 0 0 [(0, .ref (K.2.2.1 + a0)), (1, .int x1), (2, .int x2)] [] (ix_w z d)
  unfold f_X12_cut at h
  refine ix_iload_n (i := 1) (j := 1) X (ix_tb_at tb_X12_cut 0 rfl) rfl rfl (pc1 := 1) rfl ?_
  obtain ⟨r_3, d_1, h_2, h⟩ := ix_bd2_ex h
  refine ix_callS (As := [.int x1]) (rest := []) X mf_X12_isRow st_X12_isRow ml_RX12_253 ⟨Nat.le_of_ble_eq_true rfl, Nat.le_of_ble_eq_true rfl⟩ ⟨Nat.le_of_ble_eq_true rfl, Nat.le_of_ble_eq_true rfl⟩ rfl (Nat.le_of_ble_eq_true rfl) (ix_tb_at tb_X12_cut 1 rfl) (c_X12_isRow hKp h_2) rfl (pc1 := 4) rfl ?_
  refine ix_if_eq (tgt := 13) X (ix_tb_at tb_X12_cut 2 rfl) (by decide) (pc1 := 7) rfl (fun q_4 => ?_) (fun q_4 => ?_)
  · have h := ix_ift q_4 h
    refine ix_sub (L1 := [(0, .ref (K.2.2.1 + a0))]) [0] rfl ?_
    exact t_X12_cut_13 hKp X hr hlk  h
  · have h := ix_iff q_4 h
    refine ix_iload_n (i := 2) (j := 2) X (ix_tb_at tb_X12_cut 3 rfl) rfl rfl (pc1 := 8) rfl ?_
    refine ix_bipush (v := 12) X (ix_tb_at tb_X12_cut 4 rfl) (by decide) (pc1 := 10) rfl ?_
    refine ix_icmp_le (tgt := 21) X (ix_tb_at tb_X12_cut 5 rfl) (by decide) (pc1 := 13) rfl (fun q_9 => ?_) (fun q_9 => ?_)
    · have h := ix_ift q_9 h
      refine ix_iload_n (i := 2) (j := 2) X (ix_tb_at tb_X12_cut 10 rfl) rfl rfl (pc1 := 22) rfl ?_
      refine ix_if_ge (tgt := 33) X (ix_tb_at tb_X12_cut 11 rfl) (by decide) (pc1 := 25) rfl (fun q_10 => ?_) (fun q_10 => ?_)
      · have h := ix_ift q_10 h
        refine ix_aload_n (i := 0) (j := 0) X (ix_tb_at tb_X12_cut 16 rfl) rfl rfl (pc1 := 34) rfl ?_
        obtain ⟨k_11, h⟩ := ix_ck_some h
        obtain ⟨b_12, q_13, h⟩ := ix_bd1_ex h
        refine iz_getR X fl_RX12_17 k_11 q_13 (ix_tb_at tb_X12_cut 17 rfl) (pc1 := 37) rfl ?_
        refine ix_iload_n (i := 1) (j := 1) X (ix_tb_at tb_X12_cut 18 rfl) rfl rfl (pc1 := 38) rfl ?_
        obtain ⟨k_14, h⟩ := ix_ck_some h
        refine iz_iald X k_14 (ix_tb_at tb_X12_cut 19 rfl) (pc1 := 39) rfl ?_
        refine ix_if_ge (tgt := 50) X (ix_tb_at tb_X12_cut 20 rfl) (by decide) (pc1 := 42) rfl (fun q_15 => ?_) (fun q_15 => ?_)
        · have h := ix_ift q_15 h
          refine ix_iload_n (i := 2) (j := 2) X (ix_tb_at tb_X12_cut 25 rfl) rfl rfl (pc1 := 51) rfl ?_
          refine ix_aload_n (i := 0) (j := 0) X (ix_tb_at tb_X12_cut 26 rfl) rfl rfl (pc1 := 52) rfl ?_
          refine iz_getR X fl_RX12_17 k_11 q_13 (ix_tb_at tb_X12_cut 27 rfl) (pc1 := 55) rfl ?_
          refine ix_iload_n (i := 1) (j := 1) X (ix_tb_at tb_X12_cut 28 rfl) rfl rfl (pc1 := 56) rfl ?_
          refine iz_iald X k_14 (ix_tb_at tb_X12_cut 29 rfl) (pc1 := 57) rfl ?_
          refine ix_icmp_le (tgt := 68) X (ix_tb_at tb_X12_cut 30 rfl) (by decide) (pc1 := 60) rfl (fun q_16 => ?_) (fun q_16 => ?_)
          · have h := ix_ift q_16 h
            refine ix_aload_n (i := 0) (j := 0) X (ix_tb_at tb_X12_cut 35 rfl) rfl rfl (pc1 := 69) rfl ?_
            refine iz_getR X fl_RX12_17 k_11 q_13 (ix_tb_at tb_X12_cut 36 rfl) (pc1 := 72) rfl ?_
            refine ix_iload_n (i := 1) (j := 1) X (ix_tb_at tb_X12_cut 37 rfl) rfl rfl (pc1 := 73) rfl ?_
            refine ix_iload_n (i := 2) (j := 2) X (ix_tb_at tb_X12_cut 38 rfl) rfl rfl (pc1 := 74) rfl ?_
            obtain ⟨d_17, e_18, h⟩ := ix_lt_ex h
            refine iz_iast X k_14 (ix_tb_at tb_X12_cut 39 rfl) e_18 (pc1 := 75) rfl ?_
            refine ix_iload_n (i := 2) (j := 2) X (ix_tb_at tb_X12_cut 40 rfl) rfl rfl (pc1 := 76) rfl ?_
            exact ix_iret X hr hlk (ix_r2 (f := fun r => some (.int r)) (g := ix_w z) h) (ix_tb_at tb_X12_cut 41 rfl)
          · have h := ix_iff q_16 h
            refine ix_aload_n (i := 0) (j := 0) X (ix_tb_at tb_X12_cut 31 rfl) rfl rfl (pc1 := 61) rfl ?_
            refine ix_sipush (v := (-1012)) X (ix_tb_at tb_X12_cut 32 rfl) (by decide) (pc1 := 64) rfl ?_
            obtain ⟨r_21, d_19, h_20, h⟩ := ix_bd2_ex h
            refine ix_callV (As := [.int ((-1012))]) (rest := []) (ci := 11) (T := TX12) (nf := 116) X mf_X12_fail mi_X12_fail ms_X12_fail rfl (Nat.le_of_ble_eq_true rfl) ml_RX12_242 ⟨Nat.le_of_ble_eq_true rfl, Nat.le_of_ble_eq_true rfl⟩ ⟨Nat.le_of_ble_eq_true rfl, Nat.le_of_ble_eq_true rfl⟩ rfl (Nat.le_of_ble_eq_true rfl) (ix_tb_at tb_X12_cut 33 rfl) ⟨k_11.1, List.mem_singleton.mp k_11.2⟩ (c_X12_fail hKp h_20) rfl (pc1 := 67) rfl ?_
            exact ix_iret X hr hlk (ix_r2 (f := fun r => some (.int r)) (g := ix_w z) h) (ix_tb_at tb_X12_cut 34 rfl)
        · have h := ix_iff q_15 h
          refine ix_aload_n (i := 0) (j := 0) X (ix_tb_at tb_X12_cut 21 rfl) rfl rfl (pc1 := 43) rfl ?_
          refine ix_sipush (v := (-1011)) X (ix_tb_at tb_X12_cut 22 rfl) (by decide) (pc1 := 46) rfl ?_
          obtain ⟨r_24, d_22, h_23, h⟩ := ix_bd2_ex h
          refine ix_callV (As := [.int ((-1011))]) (rest := []) (ci := 11) (T := TX12) (nf := 116) X mf_X12_fail mi_X12_fail ms_X12_fail rfl (Nat.le_of_ble_eq_true rfl) ml_RX12_242 ⟨Nat.le_of_ble_eq_true rfl, Nat.le_of_ble_eq_true rfl⟩ ⟨Nat.le_of_ble_eq_true rfl, Nat.le_of_ble_eq_true rfl⟩ rfl (Nat.le_of_ble_eq_true rfl) (ix_tb_at tb_X12_cut 23 rfl) ⟨k_11.1, List.mem_singleton.mp k_11.2⟩ (c_X12_fail hKp h_23) rfl (pc1 := 49) rfl ?_
          exact ix_iret X hr hlk (ix_r2 (f := fun r => some (.int r)) (g := ix_w z) h) (ix_tb_at tb_X12_cut 24 rfl)
      · have h := ix_iff q_10 h
        refine ix_aload_n (i := 0) (j := 0) X (ix_tb_at tb_X12_cut 12 rfl) rfl rfl (pc1 := 26) rfl ?_
        refine ix_sipush (v := (-1014)) X (ix_tb_at tb_X12_cut 13 rfl) (by decide) (pc1 := 29) rfl ?_
        obtain ⟨k_27, h⟩ := ix_ck_some h
        obtain ⟨r_28, d_25, h_26, h⟩ := ix_bd2_ex h
        refine ix_callV (As := [.int ((-1014))]) (rest := []) (ci := 11) (T := TX12) (nf := 116) X mf_X12_fail mi_X12_fail ms_X12_fail rfl (Nat.le_of_ble_eq_true rfl) ml_RX12_242 ⟨Nat.le_of_ble_eq_true rfl, Nat.le_of_ble_eq_true rfl⟩ ⟨Nat.le_of_ble_eq_true rfl, Nat.le_of_ble_eq_true rfl⟩ rfl (Nat.le_of_ble_eq_true rfl) (ix_tb_at tb_X12_cut 14 rfl) ⟨k_27.1, List.mem_singleton.mp k_27.2⟩ (c_X12_fail hKp h_26) rfl (pc1 := 32) rfl ?_
        exact ix_iret X hr hlk (ix_r2 (f := fun r => some (.int r)) (g := ix_w z) h) (ix_tb_at tb_X12_cut 15 rfl)
    · have h := ix_iff q_9 h
      refine ix_sub (L1 := [(0, .ref (K.2.2.1 + a0))]) [0] rfl ?_
      exact t_X12_cut_13 hKp X hr hlk  h

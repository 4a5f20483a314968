theorem mf_X12_item : ix_mf yX12_item cX12_item 3 (some .int) 2 := ⟨ix_wm (i := 2074) (by decide +kernel), ix_wm (i := 8) (by decide +kernel), ⟨by decide +kernel, by decide +kernel⟩, by decide +kernel, by decide +kernel⟩
theorem mi_X12_item : Cond.instanceMethod yX12_item ∈ lw_tbl := ix_wm (i := 2072) (by decide +kernel)
theorem mf_X12_rows : ix_mf yX12_rows cX12_rows 3 (some .int) 2 := ⟨ix_wm (i := 2078) (by decide +kernel), ix_wm (i := 8) (by decide +kernel), ⟨by decide +kernel, by decide +kernel⟩, by decide +kernel, by decide +kernel⟩
theorem mi_X12_rows : Cond.instanceMethod yX12_rows ∈ lw_tbl := ix_wm (i := 2076) (by decide +kernel)
theorem fl_RX12_162 : ix_flb 1642 0 false RX12 162 "ClauseCourtModel" [11] 78 2 = true := by decide +kernel
theorem fl_RX12_74 : ix_flb 1597 0 false RX12 74 "ClauseCourtModel" [11] 33 2 = true := by decide +kernel
theorem fl_RX12_442 : ix_flb 1630 0 false RX12 442 "ClauseCourtModel" [11] 66 0 = true := by decide +kernel
theorem mf_X12_sizeOf : ix_mf yX12_sizeOf cX12_sizeOf 3 (some .int) 2 := ⟨ix_wm (i := 2086) (by decide +kernel), ix_wm (i := 8) (by decide +kernel), ⟨by decide +kernel, by decide +kernel⟩, by decide +kernel, by decide +kernel⟩
theorem mi_X12_sizeOf : Cond.instanceMethod yX12_sizeOf ∈ lw_tbl := ix_wm (i := 2085) (by decide +kernel)
theorem fl_RX12_165 : ix_flb 1643 0 false RX12 165 "ClauseCourtModel" [11] 79 2 = true := by decide +kernel
theorem fl_RX12_77 : ix_flb 1598 0 false RX12 77 "ClauseCourtModel" [11] 34 2 = true := by decide +kernel
theorem mf_X12_itemOf : ix_mf yX12_itemOf cX12_itemOf 4 (some .int) 3 := ⟨ix_wm (i := 2090) (by decide +kernel), ix_wm (i := 8) (by decide +kernel), ⟨by decide +kernel, by decide +kernel⟩, by decide +kernel, by decide +kernel⟩
theorem mi_X12_itemOf : Cond.instanceMethod yX12_itemOf ∈ lw_tbl := ix_wm (i := 2089) (by decide +kernel)
theorem ms_X12_sizeOf : Cond.selects yX12_sizeOf.cls yX12_sizeOf yX12_sizeOf ∈ lw_tbl := List.mem_append_left _ (List.mem_of_getElem? (i := 78) (by decide +kernel))
theorem ml_RX12_377 : tables_1[2083]? = some (Cond.methodLink RX12 377 yX12_sizeOf) := by decide +kernel
theorem ms_X12_itemOf : Cond.selects yX12_itemOf.cls yX12_itemOf yX12_itemOf ∈ lw_tbl := List.mem_append_left _ (List.mem_of_getElem? (i := 79) (by decide +kernel))
theorem ml_RX12_381 : tables_1[2087]? = some (Cond.methodLink RX12 381 yX12_itemOf) := by decide +kernel
theorem fl_RX12_374 : ix_flb 1596 0 false RX12 374 "ClauseCourtModel" [11] 32 0 = true := by decide +kernel
theorem fl_RX12_171 : ix_flb 1645 0 false RX12 171 "ClauseCourtModel" [11] 81 2 = true := by decide +kernel
theorem mf_X12_line : ix_mf yX12_line cX12_line 4 (some .int) 2 := ⟨ix_wm (i := 2082) (by decide +kernel), ix_wm (i := 8) (by decide +kernel), ⟨by decide +kernel, by decide +kernel⟩, by decide +kernel, by decide +kernel⟩
theorem mi_X12_line : Cond.instanceMethod yX12_line ∈ lw_tbl := ix_wm (i := 2080) (by decide +kernel)
theorem fl_RX12_68 : ix_flb 1590 0 false RX12 68 "ClauseCourtModel" [11] 26 2 = true := by decide +kernel
theorem fl_RX12_385 : ix_flb 1591 0 false RX12 385 "ClauseCourtModel" [11] 27 0 = true := by decide +kernel
theorem fp_RX12_385 : ix_fpb 1591 0 false RX12 385 "ClauseCourtModel" [11] 27 "I" false = true := by decide +kernel
theorem mf_X12_mark : ix_mf yX12_mark cX12_mark 2 (none : Option Jvm.ClassFile.FieldType) 1 := ⟨ix_wm (i := 2102) (by decide +kernel), ix_wm (i := 8) (by decide +kernel), ⟨by decide +kernel, by decide +kernel⟩, by decide +kernel, by decide +kernel⟩
theorem mi_X12_mark : Cond.instanceMethod yX12_mark ∈ lw_tbl := ix_wm (i := 2101) (by decide +kernel)
theorem fl_RX12_113 : ix_flb 1624 0 false RX12 113 "ClauseCourtModel" [11] 60 2 = true := by decide +kernel
theorem mf_X12_isTrue : ix_mf yX12_isTrue cX12_isTrue 2 (some .boolean) 1 := ⟨ix_wm (i := 2110) (by decide +kernel), ix_wm (i := 8) (by decide +kernel), ⟨by decide +kernel, by decide +kernel⟩, by decide +kernel, by decide +kernel⟩
theorem mi_X12_isTrue : Cond.instanceMethod yX12_isTrue ∈ lw_tbl := ix_wm (i := 2109) (by decide +kernel)
theorem ms_X12_isTrue : Cond.selects yX12_isTrue.cls yX12_isTrue yX12_isTrue ∈ lw_tbl := List.mem_append_left _ (List.mem_of_getElem? (i := 83) (by decide +kernel))
theorem ml_RX12_388 : tables_1[2107]? = some (Cond.methodLink RX12 388 yX12_isTrue) := by decide +kernel
theorem mf_X12_truesOf : ix_mf yX12_truesOf cX12_truesOf 4 (some .int) 1 := ⟨ix_wm (i := 2114) (by decide +kernel), ix_wm (i := 8) (by decide +kernel), ⟨by decide +kernel, by decide +kernel⟩, by decide +kernel, by decide +kernel⟩
theorem mi_X12_truesOf : Cond.instanceMethod yX12_truesOf ∈ lw_tbl := ix_wm (i := 2113) (by decide +kernel)
theorem fl_RX12_107 : ix_flb 1619 0 false RX12 107 "ClauseCourtModel" [11] 55 2 = true := by decide +kernel
theorem mf_X12_isTextSo : ix_mf yX12_isTextSo cX12_isTextSo 10 (some .boolean) 1 := ⟨ix_wm (i := 2106) (by decide +kernel), ix_wm (i := 8) (by decide +kernel), ⟨by decide +kernel, by decide +kernel⟩, by decide +kernel, by decide +kernel⟩
theorem mi_X12_isTextSo : Cond.instanceMethod yX12_isTextSo ∈ lw_tbl := ix_wm (i := 2105) (by decide +kernel)
theorem ms_X12_mark : Cond.selects yX12_mark.cls yX12_mark yX12_mark ∈ lw_tbl := List.mem_append_left _ (List.mem_of_getElem? (i := 81) (by decide +kernel))
theorem ml_RX12_391 : tables_1[2099]? = some (Cond.methodLink RX12 391 yX12_mark) := by decide +kernel
theorem ms_X12_truesOf : Cond.selects yX12_truesOf.cls yX12_truesOf yX12_truesOf ∈ lw_tbl := List.mem_append_left _ (List.mem_of_getElem? (i := 84) (by decide +kernel))
theorem ml_RX12_397 : tables_1[2111]? = some (Cond.methodLink RX12 397 yX12_truesOf) := by decide +kernel
theorem ms_X12_isTextSo : Cond.selects yX12_isTextSo.cls yX12_isTextSo yX12_isTextSo ∈ lw_tbl := List.mem_append_left _ (List.mem_of_getElem? (i := 82) (by decide +kernel))
theorem ml_RX12_394 : tables_1[2103]? = some (Cond.methodLink RX12 394 yX12_isTextSo) := by decide +kernel
theorem mf_X12_holds : ix_mf yX12_holds cX12_holds 4 (some .boolean) 1 := ⟨ix_wm (i := 2098) (by decide +kernel), ix_wm (i := 8) (by decide +kernel), ⟨by decide +kernel, by decide +kernel⟩, by decide +kernel, by decide +kernel⟩
theorem mi_X12_holds : Cond.instanceMethod yX12_holds ∈ lw_tbl := ix_wm (i := 2097) (by decide +kernel)
theorem mf_X12_leastTrue : ix_mf yX12_leastTrue cX12_leastTrue 3 (some .int) 2 := ⟨ix_wm (i := 2118) (by decide +kernel), ix_wm (i := 8) (by decide +kernel), ⟨by decide +kernel, by decide +kernel⟩, by decide +kernel, by decide +kernel⟩
theorem mi_X12_leastTrue : Cond.instanceMethod yX12_leastTrue ∈ lw_tbl := ix_wm (i := 2117) (by decide +kernel)
theorem mf_X12_mostTrue : ix_mf yX12_mostTrue cX12_mostTrue 4 (some .int) 2 := ⟨ix_wm (i := 2122) (by decide +kernel), ix_wm (i := 8) (by decide +kernel), ⟨by decide +kernel, by decide +kernel⟩, by decide +kernel, by decide +kernel⟩
theorem mi_X12_mostTrue : Cond.instanceMethod yX12_mostTrue ∈ lw_tbl := ix_wm (i := 2121) (by decide +kernel)
theorem ms_X12_holds : Cond.selects yX12_holds.cls yX12_holds yX12_holds ∈ lw_tbl := List.mem_append_left _ (List.mem_of_getElem? (i := 80) (by decide +kernel))
theorem ml_RX12_403 : tables_1[2095]? = some (Cond.methodLink RX12 403 yX12_holds) := by decide +kernel
theorem ms_X12_leastTrue : Cond.selects yX12_leastTrue.cls yX12_leastTrue yX12_leastTrue ∈ lw_tbl := List.mem_append_left _ (List.mem_of_getElem? (i := 85) (by decide +kernel))
theorem ml_RX12_406 : tables_1[2115]? = some (Cond.methodLink RX12 406 yX12_leastTrue) := by decide +kernel
theorem ms_X12_mostTrue : Cond.selects yX12_mostTrue.cls yX12_mostTrue yX12_mostTrue ∈ lw_tbl := List.mem_append_left _ (List.mem_of_getElem? (i := 86) (by decide +kernel))
theorem ml_RX12_409 : tables_1[2119]? = some (Cond.methodLink RX12 409 yX12_mostTrue) := by decide +kernel
theorem fl_RX12_400 : ix_flb 1623 0 false RX12 400 "ClauseCourtModel" [11] 59 0 = true := by decide +kernel
theorem mf_X12_ask : ix_mf yX12_ask cX12_ask 3 (some .int) 2 := ⟨ix_wm (i := 2094) (by decide +kernel), ix_wm (i := 8) (by decide +kernel), ⟨by decide +kernel, by decide +kernel⟩, by decide +kernel, by decide +kernel⟩
theorem mi_X12_ask : Cond.instanceMethod yX12_ask ∈ lw_tbl := ix_wm (i := 2092) (by decide +kernel)
theorem fl_RX12_26 : ix_flb 1573 0 false RX12 26 "ClauseCourtModel" [11] 9 2 = true := by decide +kernel
theorem fl_RX12_412 : ix_flb 1574 0 false RX12 412 "ClauseCourtModel" [11] 10 0 = true := by decide +kernel
theorem fp_RX12_412 : ix_fpb 1574 0 false RX12 412 "ClauseCourtModel" [11] 10 "I" false = true := by decide +kernel
theorem mf_X12_write : ix_mf yX12_write cX12_write 2 (none : Option Jvm.ClassFile.FieldType) 1 := ⟨ix_wm (i := 2130) (by decide +kernel), ix_wm (i := 8) (by decide +kernel), ⟨by decide +kernel, by decide +kernel⟩, by decide +kernel, by decide +kernel⟩
theorem mi_X12_write : Cond.instanceMethod yX12_write ∈ lw_tbl := ix_wm (i := 2129) (by decide +kernel)
theorem ms_X12_write : Cond.selects yX12_write.cls yX12_write yX12_write ∈ lw_tbl := List.mem_append_left _ (List.mem_of_getElem? (i := 87) (by decide +kernel))
theorem ml_RX12_415 : tables_1[2127]? = some (Cond.methodLink RX12 415 yX12_write) := by decide +kernel
theorem mf_X12_writeNumber : ix_mf yX12_writeNumber cX12_writeNumber 3 (none : Option Jvm.ClassFile.FieldType) 1 := ⟨ix_wm (i := 2138) (by decide +kernel), ix_wm (i := 8) (by decide +kernel), ⟨by decide +kernel, by decide +kernel⟩, by decide +kernel, by decide +kernel⟩
theorem mi_X12_writeNumber : Cond.instanceMethod yX12_writeNumber ∈ lw_tbl := ix_wm (i := 2137) (by decide +kernel)
theorem fl_RX12_110 : ix_flb 1620 0 false RX12 110 "ClauseCourtModel" [11] 56 2 = true := by decide +kernel
theorem mf_X12_writeWord : ix_mf yX12_writeWord cX12_writeWord 3 (none : Option Jvm.ClassFile.FieldType) 1 := ⟨ix_wm (i := 2134) (by decide +kernel), ix_wm (i := 8) (by decide +kernel), ⟨by decide +kernel, by decide +kernel⟩, by decide +kernel, by decide +kernel⟩
theorem mi_X12_writeWord : Cond.instanceMethod yX12_writeWord ∈ lw_tbl := ix_wm (i := 2133) (by decide +kernel)
theorem ms_X12_writeNumber : Cond.selects yX12_writeNumber.cls yX12_writeNumber yX12_writeNumber ∈ lw_tbl := List.mem_append_left _ (List.mem_of_getElem? (i := 89) (by decide +kernel))
theorem ml_RX12_418 : tables_1[2135]? = some (Cond.methodLink RX12 418 yX12_writeNumber) := by decide +kernel
theorem mf_X12_writeList : ix_mf yX12_writeList cX12_writeList 3 (none : Option Jvm.ClassFile.FieldType) 1 := ⟨ix_wm (i := 2142) (by decide +kernel), ix_wm (i := 8) (by decide +kernel), ⟨by decide +kernel, by decide +kernel⟩, by decide +kernel, by decide +kernel⟩
theorem mi_X12_writeList : Cond.instanceMethod yX12_writeList ∈ lw_tbl := ix_wm (i := 2141) (by decide +kernel)
theorem ms_X12_writeWord : Cond.selects yX12_writeWord.cls yX12_writeWord yX12_writeWord ∈ lw_tbl := List.mem_append_left _ (List.mem_of_getElem? (i := 88) (by decide +kernel))
theorem ml_RX12_421 : tables_1[2131]? = some (Cond.methodLink RX12 421 yX12_writeWord) := by decide +kernel
theorem ms_X12_writeList : Cond.selects yX12_writeList.cls yX12_writeList yX12_writeList ∈ lw_tbl := List.mem_append_left _ (List.mem_of_getElem? (i := 90) (by decide +kernel))
theorem ml_RX12_424 : tables_1[2139]? = some (Cond.methodLink RX12 424 yX12_writeList) := by decide +kernel
theorem mf_X12_print : ix_mf yX12_print cX12_print 4 (some .int) 1 := ⟨ix_wm (i := 2126) (by decide +kernel), ix_wm (i := 8) (by decide +kernel), ⟨by decide +kernel, by decide +kernel⟩, by decide +kernel, by decide +kernel⟩
theorem mi_X12_print : Cond.instanceMethod yX12_print ∈ lw_tbl := ix_wm (i := 2124) (by decide +kernel)
theorem mf_X12_export : ix_mf yX12_export cX12_export 3 (some .int) 0 := ⟨ix_wm (i := 2146) (by decide +kernel), ix_wm (i := 8) (by decide +kernel), ⟨by decide +kernel, by decide +kernel⟩, by decide +kernel, by decide +kernel⟩
theorem mi_X12_export : Cond.instanceMethod yX12_export ∈ lw_tbl := ix_wm (i := 2144) (by decide +kernel)
theorem mf_X12_out : ix_mf yX12_out cX12_out 2 (some .int) 1 := ⟨ix_wm (i := 2150) (by decide +kernel), ix_wm (i := 8) (by decide +kernel), ⟨by decide +kernel, by decide +kernel⟩, by decide +kernel, by decide +kernel⟩
theorem mi_X12_out : Cond.instanceMethod yX12_out ∈ lw_tbl := ix_wm (i := 2148) (by decide +kernel)
theorem mf_X12_trace : ix_mf yX12_trace cX12_trace 2 (some .int) 1 := ⟨ix_wm (i := 2154) (by decide +kernel), ix_wm (i := 8) (by decide +kernel), ⟨by decide +kernel, by decide +kernel⟩, by decide +kernel, by decide +kernel⟩
theorem mi_X12_trace : Cond.instanceMethod yX12_trace ∈ lw_tbl := ix_wm (i := 2152) (by decide +kernel)
def tab_X12_item : List (Nat × Instr × Nat) := [(0, .aload_n 0, 1), (1, .iload_n 1, 1), (2, .invokevirtual 371, 3), (5, .ifCond .ne 11, 3), (8, .aload_n 0, 1), (9, .sipush (-1001), 3), (12, .invokevirtual 242, 3), (15, .ireturn, 1), (16, .iload_n 2, 1), (17, .iconst (-1), 1), (18, .if_icmp .ne 12, 3), (21, .aload_n 0, 1), (22, .getfield 38, 3), (25, .iload_n 1, 1), (26, .iaload, 1), (27, .goto 36, 3), (30, .iload_n 2, 1), (31, .iconst 0, 1), (32, .aload_n 0, 1), (33, .getfield 38, 3), (36, .iload_n 1, 1), (37, .iaload, 1), (38, .iconst 1, 1), (39, .isub, 1), (40, .invokestatic 238, 3), (43, .ifCond .eq 17, 3), (46, .aload_n 0, 1), (47, .getfield 41, 3), (50, .bipush 30, 2), (52, .iload_n 1, 1), (53, .imul, 1), (54, .iload_n 2, 1), (55, .iadd, 1), (56, .iaload, 1), (57, .goto 6, 3), (60, .sipush (-1005), 3), (63, .ireturn, 1)]
theorem tb_X12_item : ix_tab cX12_item tab_X12_item := by
  unfold ix_tab
  decide +kernel
noncomputable def f_X12_item (n : Nat) (z : ix_Z) (a0 : Nat) (x1 : Int32) (x2 : Int32) (d : ix_D2) : Option (Int32 × ix_D2) :=
  ix_ck (ix_ok z [11] a0) (ix_bd2 (f_X12_isRule n z a0 x1 d) (fun r_4 d_1 => ix_if (r_4 = 0) (ix_bd2 (f_X12_fail n z a0 ((-1001)) d_1) (fun r_22 d_20 => some (r_22, d_20))) (ix_if (x2 = (-1)) (ix_bd1 (z.1 a0 15) (fun b_17 => ix_ck (ix_ix z 20 b_17 x1) (some (d_1.1 b_17 (ix_n x1), d_1)))) (ix_bd1 (z.1 a0 15) (fun b_7 => ix_ck (ix_ix z 20 b_7 x1) (ix_bd2 (f_X12_in n z x2 0 ((d_1.1 b_7 (ix_n x1)) - 1) d_1) (fun r_12 d_10 => ix_if (r_12 = 0) (some ((-1005), d_10)) (ix_bd1 (z.1 a0 16) (fun b_14 => ix_ck (ix_ix z 20 b_14 ((30 * x1) + x2)) (some (d_10.1 b_14 (ix_n ((30 * x1) + x2)), d_10)))))))))))
set_option maxRecDepth 20000 in
theorem c_X12_item {l : Launch} {K : ix_Cx} (hKp : ix_Kp K) {n : Nat} {z : ix_Z} {a0 : Nat} {x1 : Int32} {x2 : Int32} {d : ix_D2} {r : Int32} {d1 : ix_D2} (h : f_X12_item n z a0 x1 x2 d = some (r, d1)) : ix_M l K yX12_item cX12_item 3 (some .int) 2 43 0 0 [.ref (K.2.2.1 + a0), .int x1, .int x2] (ix_w z d) (some (.int r)) (ix_w z d1) := by
  refine ix_met mf_X12_item hKp (Nat.le_of_ble_eq_true rfl) ?_
  intro p e s m args below meth c hr hlk hnm X
  have X : ix_X p s m args c K cX12_item RX12 3 := X
  show ix_G p l e (ix_rm 2 43 0 0) s m args below meth c (MQ below (ix_Post K (some (.int r)) (ix_w z d1)) args s 0 0 (ix_A K)) K 3 0 0 0 [(0, .ref (K.2.2.1 + a0)), (1, .int x1), (2, .int x2)] [] (ix_w z d)
  unfold f_X12_item at h
  refine ix_aload_n (i := 0) (j := 0) X (ix_tb_at tb_X12_item 0 rfl) rfl rfl (pc1 := 1) rfl ?_
  refine ix_iload_n (i := 1) (j := 1) X (ix_tb_at tb_X12_item 1 rfl) rfl rfl (pc1 := 2) rfl ?_
  obtain ⟨k_3, h⟩ := ix_ck_some h
  obtain ⟨r_4, d_1, h_2, h⟩ := ix_bd2_ex h
  refine ix_callV (As := [.int x1]) (rest := []) (ci := 11) (T := TX12) (nf := 116) X mf_X12_isRule mi_X12_isRule ms_X12_isRule rfl (Nat.le_of_ble_eq_true rfl) ml_RX12_371 ⟨Nat.le_of_ble_eq_true rfl, Nat.le_of_ble_eq_true rfl⟩ ⟨Nat.le_of_ble_eq_true rfl, Nat.le_of_ble_eq_true rfl⟩ rfl (Nat.le_of_ble_eq_true rfl) (ix_tb_at tb_X12_item 2 rfl) ⟨k_3.1, List.mem_singleton.mp k_3.2⟩ (c_X12_isRule hKp h_2) rfl (pc1 := 5) rfl ?_
  refine ix_if_ne (tgt := 16) X (ix_tb_at tb_X12_item 3 rfl) (by decide) (pc1 := 8) rfl (fun q_5 => ?_) (fun q_5 => ?_)
  · have h := ix_iff q_5 h
    refine ix_iload_n (i := 2) (j := 2) X (ix_tb_at tb_X12_item 8 rfl) rfl rfl (pc1 := 17) rfl ?_
    refine ix_iconst (v := (-1)) X (ix_tb_at tb_X12_item 9 rfl) (by decide) (pc1 := 18) rfl ?_
    refine ix_icmp_ne (tgt := 30) X (ix_tb_at tb_X12_item 10 rfl) (by decide) (pc1 := 21) rfl (fun q_6 => ?_) (fun q_6 => ?_)
    · have h := ix_iff q_6 h
      refine ix_iload_n (i := 2) (j := 2) X (ix_tb_at tb_X12_item 16 rfl) rfl rfl (pc1 := 31) rfl ?_
      refine ix_iconst (v := 0) X (ix_tb_at tb_X12_item 17 rfl) (by decide) (pc1 := 32) rfl ?_
      refine ix_aload_n (i := 0) (j := 0) X (ix_tb_at tb_X12_item 18 rfl) rfl rfl (pc1 := 33) rfl ?_
      obtain ⟨b_7, q_8, h⟩ := ix_bd1_ex h
      refine iz_getR X fl_RX12_38 k_3 q_8 (ix_tb_at tb_X12_item 19 rfl) (pc1 := 36) rfl ?_
      refine ix_iload_n (i := 1) (j := 1) X (ix_tb_at tb_X12_item 20 rfl) rfl rfl (pc1 := 37) rfl ?_
      obtain ⟨k_9, h⟩ := ix_ck_some h
      refine iz_iald X k_9 (ix_tb_at tb_X12_item 21 rfl) (pc1 := 38) rfl ?_
      refine ix_iconst (v := 1) X (ix_tb_at tb_X12_item 22 rfl) (by decide) (pc1 := 39) rfl ?_
      refine ix_isub X (ix_tb_at tb_X12_item 23 rfl) (pc1 := 40) rfl ?_
      obtain ⟨r_12, d_10, h_11, h⟩ := ix_bd2_ex h
      refine ix_callS (As := [.int x2, .int 0, .int ((d_1.1 b_7 (ix_n x1)) - 1)]) (rest := []) X mf_X12_in st_X12_in ml_RX12_238 ⟨Nat.le_of_ble_eq_true rfl, Nat.le_of_ble_eq_true rfl⟩ ⟨Nat.le_of_ble_eq_true rfl, Nat.le_of_ble_eq_true rfl⟩ rfl (Nat.le_of_ble_eq_true rfl) (ix_tb_at tb_X12_item 24 rfl) (c_X12_in hKp h_11) rfl (pc1 := 43) rfl ?_
      refine ix_if_eq (tgt := 60) X (ix_tb_at tb_X12_item 25 rfl) (by decide) (pc1 := 46) rfl (fun q_13 => ?_) (fun q_13 => ?_)
      · have h := ix_ift q_13 h
        refine ix_sipush (v := (-1005)) X (ix_tb_at tb_X12_item 35 rfl) (by decide) (pc1 := 63) rfl ?_
        exact ix_iret X hr hlk (ix_r2 (f := fun r => some (.int r)) (g := ix_w z) h) (ix_tb_at tb_X12_item 36 rfl)
      · have h := ix_iff q_13 h
        refine ix_aload_n (i := 0) (j := 0) X (ix_tb_at tb_X12_item 26 rfl) rfl rfl (pc1 := 47) rfl ?_
        obtain ⟨b_14, q_15, h⟩ := ix_bd1_ex h
        refine iz_getR X fl_RX12_41 k_3 q_15 (ix_tb_at tb_X12_item 27 rfl) (pc1 := 50) rfl ?_
        refine ix_bipush (v := 30) X (ix_tb_at tb_X12_item 28 rfl) (by decide) (pc1 := 52) rfl ?_
        refine ix_iload_n (i := 1) (j := 1) X (ix_tb_at tb_X12_item 29 rfl) rfl rfl (pc1 := 53) rfl ?_
        refine ix_imul X (ix_tb_at tb_X12_item 30 rfl) (pc1 := 54) rfl ?_
        refine ix_iload_n (i := 2) (j := 2) X (ix_tb_at tb_X12_item 31 rfl) rfl rfl (pc1 := 55) rfl ?_
        refine ix_iadd X (ix_tb_at tb_X12_item 32 rfl) (pc1 := 56) rfl ?_
        obtain ⟨k_16, h⟩ := ix_ck_some h
        refine iz_iald X k_16 (ix_tb_at tb_X12_item 33 rfl) (pc1 := 57) rfl ?_
        refine ix_goto (tgt := 63) X (ix_tb_at tb_X12_item 34 rfl) (by decide) ?_
        exact ix_iret X hr hlk (ix_r2 (f := fun r => some (.int r)) (g := ix_w z) h) (ix_tb_at tb_X12_item 36 rfl)
    · have h := ix_ift q_6 h
      refine ix_aload_n (i := 0) (j := 0) X (ix_tb_at tb_X12_item 11 rfl) rfl rfl (pc1 := 22) rfl ?_
      obtain ⟨b_17, q_18, h⟩ := ix_bd1_ex h
      refine iz_getR X fl_RX12_38 k_3 q_18 (ix_tb_at tb_X12_item 12 rfl) (pc1 := 25) rfl ?_
      refine ix_iload_n (i := 1) (j := 1) X (ix_tb_at tb_X12_item 13 rfl) rfl rfl (pc1 := 26) rfl ?_
      obtain ⟨k_19, h⟩ := ix_ck_some h
      refine iz_iald X k_19 (ix_tb_at tb_X12_item 14 rfl) (pc1 := 27) rfl ?_
      refine ix_goto (tgt := 63) X (ix_tb_at tb_X12_item 15 rfl) (by decide) ?_
      exact ix_iret X hr hlk (ix_r2 (f := fun r => some (.int r)) (g := ix_w z) h) (ix_tb_at tb_X12_item 36 rfl)
  · have h := ix_ift q_5 h
    refine ix_aload_n (i := 0) (j := 0) X (ix_tb_at tb_X12_item 4 rfl) rfl rfl (pc1 := 9) rfl ?_
    refine ix_sipush (v := (-1001)) X (ix_tb_at tb_X12_item 5 rfl) (by decide) (pc1 := 12) rfl ?_
    obtain ⟨r_22, d_20, h_21, h⟩ := ix_bd2_ex h
    refine ix_callV (As := [.int ((-1001))]) (rest := []) (ci := 11) (T := TX12) (nf := 116) X mf_X12_fail mi_X12_fail ms_X12_fail rfl (Nat.le_of_ble_eq_true rfl) ml_RX12_242 ⟨Nat.le_of_ble_eq_true rfl, Nat.le_of_ble_eq_true rfl⟩ ⟨Nat.le_of_ble_eq_true rfl, Nat.le_of_ble_eq_true rfl⟩ rfl (Nat.le_of_ble_eq_true rfl) (ix_tb_at tb_X12_item 6 rfl) ⟨k_3.1, List.mem_singleton.mp k_3.2⟩ (c_X12_fail hKp h_21) rfl (pc1 := 15) rfl ?_
    exact ix_iret X hr hlk (ix_r2 (f := fun r => some (.int r)) (g := ix_w z) h) (ix_tb_at tb_X12_item 7 rfl)
def tab_X12_rows : List (Nat × Instr × Nat) := [(0, .aload_n 0, 1), (1, .iload_n 1, 1), (2, .invokevirtual 371, 3), (5, .ifCond .ne 11, 3), (8, .aload_n 0, 1), (9, .sipush (-1001), 3), (12, .invokevirtual 242, 3), (15, .ireturn, 1), (16, .iload_n 2, 1), (17, .iconst 0, 1), (18, .aload_n 0, 1), (19, .getfield 47, 3), (22, .iload_n 1, 1), (23, .iaload, 1), (24, .iconst 1, 1), (25, .isub, 1), (26, .invokestatic 238, 3), (29, .ifCond .eq 14, 3), (32, .aload_n 0, 1), (33, .getfield 44, 3), (36, .iload_n 1, 1), (37, .iaload, 1), (38, .iload_n 2, 1), (39, .iadd, 1), (40, .goto 6, 3), (43, .sipush (-1005), 3), (46, .ireturn, 1)]
theorem tb_X12_rows : ix_tab cX12_rows tab_X12_rows := by
  unfold ix_tab
  decide +kernel
noncomputable def f_X12_rows (n : Nat) (z : ix_Z) (a0 : Nat) (x1 : Int32) (x2 : Int32) (d : ix_D2) : Option (Int32 × ix_D2) :=
  ix_ck (ix_ok z [11] a0) (ix_bd2 (f_X12_isRule n z a0 x1 d) (fun r_4 d_1 => ix_if (r_4 = 0) (ix_bd2 (f_X12_fail n z a0 ((-1001)) d_1) (fun r_18 d_16 => some (r_18, d_16))) (ix_bd1 (z.1 a0 18) (fun b_6 => ix_ck (ix_ix z 20 b_6 x1) (ix_bd2 (f_X12_in n z x2 0 ((d_1.1 b_6 (ix_n x1)) - 1) d_1) (fun r_11 d_9 => ix_if (r_11 = 0) (some ((-1005), d_9)) (ix_bd1 (z.1 a0 17) (fun b_13 => ix_ck (ix_ix z 20 b_13 x1) (some ((d_9.1 b_13 (ix_n x1)) + x2, d_9))))))))))
set_option maxRecDepth 20000 in
theorem c_X12_rows {l : Launch} {K : ix_Cx} (hKp : ix_Kp K) {n : Nat} {z : ix_Z} {a0 : Nat} {x1 : Int32} {x2 : Int32} {d : ix_D2} {r : Int32} {d1 : ix_D2} (h : f_X12_rows n z a0 x1 x2 d = some (r, d1)) : ix_M l K yX12_rows cX12_rows 3 (some .int) 2 43 0 0 [.ref (K.2.2.1 + a0), .int x1, .int x2] (ix_w z d) (some (.int r)) (ix_w z d1) := by
  refine ix_met mf_X12_rows hKp (Nat.le_of_ble_eq_true rfl) ?_
  intro p e s m args below meth c hr hlk hnm X
  have X : ix_X p s m args c K cX12_rows RX12 3 := X
  show ix_G p l e (ix_rm 2 43 0 0) s m args below meth c (MQ below (ix_Post K (some (.int r)) (ix_w z d1)) args s 0 0 (ix_A K)) K 3 0 0 0 [(0, .ref (K.2.2.1 + a0)), (1, .int x1), (2, .int x2)] [] (ix_w z d)
  unfold f_X12_rows at h
  refine ix_aload_n (i := 0) (j := 0) X (ix_tb_at tb_X12_rows 0 rfl) rfl rfl (pc1 := 1) rfl ?_
  refine ix_iload_n (i := 1) (j := 1) X (ix_tb_at tb_X12_rows 1 rfl) rfl rfl (pc1 := 2) rfl ?_
  obtain ⟨k_3, h⟩ := ix_ck_some h
  obtain ⟨r_4, d_1, h_2, h⟩ := ix_bd2_ex h
  refine ix_callV (As := [.int x1]) (rest := []) (ci := 11) (T := TX12) (nf := 116) X mf_X12_isRule mi_X12_isRule ms_X12_isRule rfl (Nat.le_of_ble_eq_true rfl) ml_RX12_371 ⟨Nat.le_of_ble_eq_true rfl, Nat.le_of_ble_eq_true rfl⟩ ⟨Nat.le_of_ble_eq_true rfl, Nat.le_of_ble_eq_true rfl⟩ rfl (Nat.le_of_ble_eq_true rfl) (ix_tb_at tb_X12_rows 2 rfl) ⟨k_3.1, List.mem_singleton.mp k_3.2⟩ (c_X12_isRule hKp h_2) rfl (pc1 := 5) rfl ?_
  refine ix_if_ne (tgt := 16) X (ix_tb_at tb_X12_rows 3 rfl) (by decide) (pc1 := 8) rfl (fun q_5 => ?_) (fun q_5 => ?_)
  · have h := ix_iff q_5 h
    refine ix_iload_n (i := 2) (j := 2) X (ix_tb_at tb_X12_rows 8 rfl) rfl rfl (pc1 := 17) rfl ?_
    refine ix_iconst (v := 0) X (ix_tb_at tb_X12_rows 9 rfl) (by decide) (pc1 := 18) rfl ?_
    refine ix_aload_n (i := 0) (j := 0) X (ix_tb_at tb_X12_rows 10 rfl) rfl rfl (pc1 := 19) rfl ?_
    obtain ⟨b_6, q_7, h⟩ := ix_bd1_ex h
    refine iz_getR X fl_RX12_47 k_3 q_7 (ix_tb_at tb_X12_rows 11 rfl) (pc1 := 22) rfl ?_
    refine ix_iload_n (i := 1) (j := 1) X (ix_tb_at tb_X12_rows 12 rfl) rfl rfl (pc1 := 23) rfl ?_
    obtain ⟨k_8, h⟩ := ix_ck_some h
    refine iz_iald X k_8 (ix_tb_at tb_X12_rows 13 rfl) (pc1 := 24) rfl ?_
    refine ix_iconst (v := 1) X (ix_tb_at tb_X12_rows 14 rfl) (by decide) (pc1 := 25) rfl ?_
    refine ix_isub X (ix_tb_at tb_X12_rows 15 rfl) (pc1 := 26) rfl ?_
    obtain ⟨r_11, d_9, h_10, h⟩ := ix_bd2_ex h
    refine ix_callS (As := [.int x2, .int 0, .int ((d_1.1 b_6 (ix_n x1)) - 1)]) (rest := []) X mf_X12_in st_X12_in ml_RX12_238 ⟨Nat.le_of_ble_eq_true rfl, Nat.le_of_ble_eq_true rfl⟩ ⟨Nat.le_of_ble_eq_true rfl, Nat.le_of_ble_eq_true rfl⟩ rfl (Nat.le_of_ble_eq_true rfl) (ix_tb_at tb_X12_rows 16 rfl) (c_X12_in hKp h_10) rfl (pc1 := 29) rfl ?_
    refine ix_if_eq (tgt := 43) X (ix_tb_at tb_X12_rows 17 rfl) (by decide) (pc1 := 32) rfl (fun q_12 => ?_) (fun q_12 => ?_)
    · have h := ix_ift q_12 h
      refine ix_sipush (v := (-1005)) X (ix_tb_at tb_X12_rows 25 rfl) (by decide) (pc1 := 46) rfl ?_
      exact ix_iret X hr hlk (ix_r2 (f := fun r => some (.int r)) (g := ix_w z) h) (ix_tb_at tb_X12_rows 26 rfl)
    · have h := ix_iff q_12 h
      refine ix_aload_n (i := 0) (j := 0) X (ix_tb_at tb_X12_rows 18 rfl) rfl rfl (pc1 := 33) rfl ?_
      obtain ⟨b_13, q_14, h⟩ := ix_bd1_ex h
      refine iz_getR X fl_RX12_44 k_3 q_14 (ix_tb_at tb_X12_rows 19 rfl) (pc1 := 36) rfl ?_
      refine ix_iload_n (i := 1) (j := 1) X (ix_tb_at tb_X12_rows 20 rfl) rfl rfl (pc1 := 37) rfl ?_
      obtain ⟨k_15, h⟩ := ix_ck_some h
      refine iz_iald X k_15 (ix_tb_at tb_X12_rows 21 rfl) (pc1 := 38) rfl ?_
      refine ix_iload_n (i := 2) (j := 2) X (ix_tb_at tb_X12_rows 22 rfl) rfl rfl (pc1 := 39) rfl ?_
      refine ix_iadd X (ix_tb_at tb_X12_rows 23 rfl) (pc1 := 40) rfl ?_
      refine ix_goto (tgt := 46) X (ix_tb_at tb_X12_rows 24 rfl) (by decide) ?_
      exact ix_iret X hr hlk (ix_r2 (f := fun r => some (.int r)) (g := ix_w z) h) (ix_tb_at tb_X12_rows 26 rfl)
  · have h := ix_ift q_5 h
    refine ix_aload_n (i := 0) (j := 0) X (ix_tb_at tb_X12_rows 4 rfl) rfl rfl (pc1 := 9) rfl ?_
    refine ix_sipush (v := (-1001)) X (ix_tb_at tb_X12_rows 5 rfl) (by decide) (pc1 := 12) rfl ?_
    obtain ⟨r_18, d_16, h_17, h⟩ := ix_bd2_ex h
    refine ix_callV (As := [.int ((-1001))]) (rest := []) (ci := 11) (T := TX12) (nf := 116) X mf_X12_fail mi_X12_fail ms_X12_fail rfl (Nat.le_of_ble_eq_true rfl) ml_RX12_242 ⟨Nat.le_of_ble_eq_true rfl, Nat.le_of_ble_eq_true rfl⟩ ⟨Nat.le_of_ble_eq_true rfl, Nat.le_of_ble_eq_true rfl⟩ rfl (Nat.le_of_ble_eq_true rfl) (ix_tb_at tb_X12_rows 6 rfl) ⟨k_3.1, List.mem_singleton.mp k_3.2⟩ (c_X12_fail hKp h_17) rfl (pc1 := 15) rfl ?_
    exact ix_iret X hr hlk (ix_r2 (f := fun r => some (.int r)) (g := ix_w z) h) (ix_tb_at tb_X12_rows 7 rfl)
def tab_X12_sizeOf : List (Nat × Instr × Nat) := [(0, .iload_n 2, 1), (1, .sipush 1000, 3), (4, .if_icmp .ge 19, 3), (7, .aload_n 0, 1), (8, .getfield 62, 3), (11, .iload_n 2, 1), (12, .iconst 1, 1), (13, .iadd, 1), (14, .iaload, 1), (15, .aload_n 0, 1), (16, .getfield 62, 3), (19, .iload_n 2, 1), (20, .iaload, 1), (21, .isub, 1), (22, .ireturn, 1), (23, .iload_n 2, 1), (24, .sipush 2000, 3), (27, .if_icmp .ge 21, 3), (30, .aload_n 0, 1), (31, .getfield 74, 3), (34, .aload_n 0, 1), (35, .getfield 442, 3), (38, .iload_n 2, 1), (39, .iadd, 1), (40, .sipush 1000, 3), (43, .isub, 1), (44, .iaload, 1), (45, .goto 36, 3), (48, .aload_n 0, 1), (49, .getfield 162, 3), (52, .sipush 801, 3), (55, .iload_n 1, 1), (56, .imul, 1), (57, .iload_n 2, 1), (58, .iadd, 1), (59, .sipush 1999, 3), (62, .isub, 1), (63, .iaload, 1), (64, .aload_n 0, 1), (65, .getfield 162, 3), (68, .sipush 801, 3), (71, .iload_n 1, 1), (72, .imul, 1), (73, .iload_n 2, 1), (74, .iadd, 1), (75, .sipush 2000, 3), (78, .isub, 1), (79, .iaload, 1), (80, .isub, 1), (81, .ireturn, 1)]
theorem tb_X12_sizeOf : ix_tab cX12_sizeOf tab_X12_sizeOf := by
  unfold ix_tab
  decide +kernel
noncomputable def f_X12_sizeOf (n : Nat) (z : ix_Z) (a0 : Nat) (x1 : Int32) (x2 : Int32) (d : ix_D2) : Option (Int32 × ix_D2) :=
  ix_if (1000 ≤ x2) (ix_if (2000 ≤ x2) (ix_ck (ix_ok z [11] a0) (ix_bd1 (z.1 a0 78) (fun b_4 => ix_ck (ix_ix z 20 b_4 (((801 * x1) + x2) - 1999)) (ix_ck (ix_ix z 20 b_4 (((801 * x1) + x2) - 2000)) (some ((d.1 b_4 (ix_n (((801 * x1) + x2) - 1999))) - (d.1 b_4 (ix_n (((801 * x1) + x2) - 2000))), d)))))) (ix_ck (ix_ok z [11] a0) (ix_bd1 (z.1 a0 33) (fun b_9 => ix_ck (ix_ix z 20 b_9 (((d.1 a0 66) + x2) - 1000)) (some (d.1 b_9 (ix_n (((d.1 a0 66) + x2) - 1000)), d)))))) (ix_ck (ix_ok z [11] a0) (ix_bd1 (z.1 a0 24) (fun b_13 => ix_ck (ix_ix z 20 b_13 (x2 + 1)) (ix_ck (ix_ix z 20 b_13 x2) (some ((d.1 b_13 (ix_n (x2 + 1))) - (d.1 b_13 (ix_n x2)), d))))))
set_option maxRecDepth 20000 in
theorem c_X12_sizeOf {l : Launch} {K : ix_Cx} (hKp : ix_Kp K) {n : Nat} {z : ix_Z} {a0 : Nat} {x1 : Int32} {x2 : Int32} {d : ix_D2} {r : Int32} {d1 : ix_D2} (h : f_X12_sizeOf n z a0 x1 x2 d = some (r, d1)) : ix_M l K yX12_sizeOf cX12_sizeOf 3 (some .int) 0 0 0 0 [.ref (K.2.2.1 + a0), .int x1, .int x2] (ix_w z d) (some (.int r)) (ix_w z d1) := by
  refine ix_met mf_X12_sizeOf hKp (Nat.le_of_ble_eq_true rfl) ?_
  intro p e s m args below meth c hr hlk hnm X
  have X : ix_X p s m args c K cX12_sizeOf RX12 3 := X
  show ix_G p l e (ix_rm 0 0 0 0) s m args below meth c (MQ below (ix_Post K (some (.int r)) (ix_w z d1)) args s 0 0 (ix_A K)) K 3 0 0 0 [(0, .ref (K.2.2.1 + a0)), (1, .int x1), (2, .int x2)] [] (ix_w z d)
  unfold f_X12_sizeOf at h
  refine ix_iload_n (i := 2) (j := 2) X (ix_tb_at tb_X12_sizeOf 0 rfl) rfl rfl (pc1 := 1) rfl ?_
  refine ix_sipush (v := 1000) X (ix_tb_at tb_X12_sizeOf 1 rfl) (by decide) (pc1 := 4) rfl ?_
  refine ix_icmp_ge (tgt := 23) X (ix_tb_at tb_X12_sizeOf 2 rfl) (by decide) (pc1 := 7) rfl (fun q_1 => ?_) (fun q_1 => ?_)
  · have h := ix_ift q_1 h
    refine ix_iload_n (i := 2) (j := 2) X (ix_tb_at tb_X12_sizeOf 15 rfl) rfl rfl (pc1 := 24) rfl ?_
    refine ix_sipush (v := 2000) X (ix_tb_at tb_X12_sizeOf 16 rfl) (by decide) (pc1 := 27) rfl ?_
    refine ix_icmp_ge (tgt := 48) X (ix_tb_at tb_X12_sizeOf 17 rfl) (by decide) (pc1 := 30) rfl (fun q_2 => ?_) (fun q_2 => ?_)
    · have h := ix_ift q_2 h
      refine ix_aload_n (i := 0) (j := 0) X (ix_tb_at tb_X12_sizeOf 28 rfl) rfl rfl (pc1 := 49) rfl ?_
      obtain ⟨k_3, h⟩ := ix_ck_some h
      obtain ⟨b_4, q_5, h⟩ := ix_bd1_ex h
      refine iz_getR X fl_RX12_162 k_3 q_5 (ix_tb_at tb_X12_sizeOf 29 rfl) (pc1 := 52) rfl ?_
      refine ix_sipush (v := 801) X (ix_tb_at tb_X12_sizeOf 30 rfl) (by decide) (pc1 := 55) rfl ?_
      refine ix_iload_n (i := 1) (j := 1) X (ix_tb_at tb_X12_sizeOf 31 rfl) rfl rfl (pc1 := 56) rfl ?_
      refine ix_imul X (ix_tb_at tb_X12_sizeOf 32 rfl) (pc1 := 57) rfl ?_
      refine ix_iload_n (i := 2) (j := 2) X (ix_tb_at tb_X12_sizeOf 33 rfl) rfl rfl (pc1 := 58) rfl ?_
      refine ix_iadd X (ix_tb_at tb_X12_sizeOf 34 rfl) (pc1 := 59) rfl ?_
      refine ix_sipush (v := 1999) X (ix_tb_at tb_X12_sizeOf 35 rfl) (by decide) (pc1 := 62) rfl ?_
      refine ix_isub X (ix_tb_at tb_X12_sizeOf 36 rfl) (pc1 := 63) rfl ?_
      obtain ⟨k_6, h⟩ := ix_ck_some h
      refine iz_iald X k_6 (ix_tb_at tb_X12_sizeOf 37 rfl) (pc1 := 64) rfl ?_
      refine ix_aload_n (i := 0) (j := 0) X (ix_tb_at tb_X12_sizeOf 38 rfl) rfl rfl (pc1 := 65) rfl ?_
      refine iz_getR X fl_RX12_162 k_3 q_5 (ix_tb_at tb_X12_sizeOf 39 rfl) (pc1 := 68) rfl ?_
      refine ix_sipush (v := 801) X (ix_tb_at tb_X12_sizeOf 40 rfl) (by decide) (pc1 := 71) rfl ?_
      refine ix_iload_n (i := 1) (j := 1) X (ix_tb_at tb_X12_sizeOf 41 rfl) rfl rfl (pc1 := 72) rfl ?_
      refine ix_imul X (ix_tb_at tb_X12_sizeOf 42 rfl) (pc1 := 73) rfl ?_
      refine ix_iload_n (i := 2) (j := 2) X (ix_tb_at tb_X12_sizeOf 43 rfl) rfl rfl (pc1 := 74) rfl ?_
      refine ix_iadd X (ix_tb_at tb_X12_sizeOf 44 rfl) (pc1 := 75) rfl ?_
      refine ix_sipush (v := 2000) X (ix_tb_at tb_X12_sizeOf 45 rfl) (by decide) (pc1 := 78) rfl ?_
      refine ix_isub X (ix_tb_at tb_X12_sizeOf 46 rfl) (pc1 := 79) rfl ?_
      obtain ⟨k_7, h⟩ := ix_ck_some h
      refine iz_iald X k_7 (ix_tb_at tb_X12_sizeOf 47 rfl) (pc1 := 80) rfl ?_
      refine ix_isub X (ix_tb_at tb_X12_sizeOf 48 rfl) (pc1 := 81) rfl ?_
      exact ix_iret X hr hlk (ix_r2 (f := fun r => some (.int r)) (g := ix_w z) h) (ix_tb_at tb_X12_sizeOf 49 rfl)
    · have h := ix_iff q_2 h
      refine ix_aload_n (i := 0) (j := 0) X (ix_tb_at tb_X12_sizeOf 18 rfl) rfl rfl (pc1 := 31) rfl ?_
      obtain ⟨k_8, h⟩ := ix_ck_some h
      obtain ⟨b_9, q_10, h⟩ := ix_bd1_ex h
      refine iz_getR X fl_RX12_74 k_8 q_10 (ix_tb_at tb_X12_sizeOf 19 rfl) (pc1 := 34) rfl ?_
      refine ix_aload_n (i := 0) (j := 0) X (ix_tb_at tb_X12_sizeOf 20 rfl) rfl rfl (pc1 := 35) rfl ?_
      refine iz_getI X fl_RX12_442 k_8 (ix_tb_at tb_X12_sizeOf 21 rfl) (pc1 := 38) rfl ?_
      refine ix_iload_n (i := 2) (j := 2) X (ix_tb_at tb_X12_sizeOf 22 rfl) rfl rfl (pc1 := 39) rfl ?_
      refine ix_iadd X (ix_tb_at tb_X12_sizeOf 23 rfl) (pc1 := 40) rfl ?_
      refine ix_sipush (v := 1000) X (ix_tb_at tb_X12_sizeOf 24 rfl) (by decide) (pc1 := 43) rfl ?_
      refine ix_isub X (ix_tb_at tb_X12_sizeOf 25 rfl) (pc1 := 44) rfl ?_
      obtain ⟨k_11, h⟩ := ix_ck_some h
      refine iz_iald X k_11 (ix_tb_at tb_X12_sizeOf 26 rfl) (pc1 := 45) rfl ?_
      refine ix_goto (tgt := 81) X (ix_tb_at tb_X12_sizeOf 27 rfl) (by decide) ?_
      exact ix_iret X hr hlk (ix_r2 (f := fun r => some (.int r)) (g := ix_w z) h) (ix_tb_at tb_X12_sizeOf 49 rfl)
  · have h := ix_iff q_1 h
    refine ix_aload_n (i := 0) (j := 0) X (ix_tb_at tb_X12_sizeOf 3 rfl) rfl rfl (pc1 := 8) rfl ?_
    obtain ⟨k_12, h⟩ := ix_ck_some h
    obtain ⟨b_13, q_14, h⟩ := ix_bd1_ex h
    refine iz_getR X fl_RX12_62 k_12 q_14 (ix_tb_at tb_X12_sizeOf 4 rfl) (pc1 := 11) rfl ?_
    refine ix_iload_n (i := 2) (j := 2) X (ix_tb_at tb_X12_sizeOf 5 rfl) rfl rfl (pc1 := 12) rfl ?_
    refine ix_iconst (v := 1) X (ix_tb_at tb_X12_sizeOf 6 rfl) (by decide) (pc1 := 13) rfl ?_
    refine ix_iadd X (ix_tb_at tb_X12_sizeOf 7 rfl) (pc1 := 14) rfl ?_
    obtain ⟨k_15, h⟩ := ix_ck_some h
    refine iz_iald X k_15 (ix_tb_at tb_X12_sizeOf 8 rfl) (pc1 := 15) rfl ?_
    refine ix_aload_n (i := 0) (j := 0) X (ix_tb_at tb_X12_sizeOf 9 rfl) rfl rfl (pc1 := 16) rfl ?_
    refine iz_getR X fl_RX12_62 k_12 q_14 (ix_tb_at tb_X12_sizeOf 10 rfl) (pc1 := 19) rfl ?_
    refine ix_iload_n (i := 2) (j := 2) X (ix_tb_at tb_X12_sizeOf 11 rfl) rfl rfl (pc1 := 20) rfl ?_
    obtain ⟨k_16, h⟩ := ix_ck_some h
    refine iz_iald X k_16 (ix_tb_at tb_X12_sizeOf 12 rfl) (pc1 := 21) rfl ?_
    refine ix_isub X (ix_tb_at tb_X12_sizeOf 13 rfl) (pc1 := 22) rfl ?_
    exact ix_iret X hr hlk (ix_r2 (f := fun r => some (.int r)) (g := ix_w z) h) (ix_tb_at tb_X12_sizeOf 14 rfl)
def tab_X12_itemOf : List (Nat × Instr × Nat) := [(0, .iload_n 2, 1), (1, .sipush 1000, 3), (4, .if_icmp .ge 17, 3), (7, .aload_n 0, 1), (8, .getfield 65, 3), (11, .aload_n 0, 1), (12, .getfield 62, 3), (15, .iload_n 2, 1), (16, .iaload, 1), (17, .iload_n 3, 1), (18, .iadd, 1), (19, .iaload, 1), (20, .ireturn, 1), (21, .iload_n 2, 1), (22, .sipush 2000, 3), (25, .if_icmp .ge 26, 3), (28, .aload_n 0, 1), (29, .getfield 77, 3), (32, .bipush 20, 2), (34, .aload_n 0, 1), (35, .getfield 442, 3), (38, .iload_n 2, 1), (39, .iadd, 1), (40, .sipush 1000, 3), (43, .isub, 1), (44, .imul, 1), (45, .iload_n 3, 1), (46, .iadd, 1), (47, .iaload, 1), (48, .goto 32, 3), (51, .aload_n 0, 1), (52, .getfield 165, 3), (55, .sipush 8050, 3), (58, .iload_n 1, 1), (59, .imul, 1), (60, .aload_n 0, 1), (61, .getfield 162, 3), (64, .sipush 801, 3), (67, .iload_n 1, 1), (68, .imul, 1), (69, .iload_n 2, 1), (70, .iadd, 1), (71, .sipush 2000, 3), (74, .isub, 1), (75, .iaload, 1), (76, .iadd, 1), (77, .iload_n 3, 1), (78, .iadd, 1), (79, .iaload, 1), (80, .ireturn, 1)]
theorem tb_X12_itemOf : ix_tab cX12_itemOf tab_X12_itemOf := by
  unfold ix_tab
  decide +kernel
noncomputable def f_X12_itemOf (n : Nat) (z : ix_Z) (a0 : Nat) (x1 : Int32) (x2 : Int32) (x3 : Int32) (d : ix_D2) : Option (Int32 × ix_D2) :=
  ix_if (1000 ≤ x2) (ix_if (2000 ≤ x2) (ix_ck (ix_ok z [11] a0) (ix_bd1 (z.1 a0 79) (fun b_4 => ix_bd1 (z.1 a0 78) (fun b_6 => ix_ck (ix_ix z 20 b_6 (((801 * x1) + x2) - 2000)) (ix_ck (ix_ix z 20 b_4 (((8050 * x1) + (d.1 b_6 (ix_n (((801 * x1) + x2) - 2000)))) + x3)) (some (d.1 b_4 (ix_n (((8050 * x1) + (d.1 b_6 (ix_n (((801 * x1) + x2) - 2000)))) + x3)), d))))))) (ix_ck (ix_ok z [11] a0) (ix_bd1 (z.1 a0 34) (fun b_11 => ix_ck (ix_ix z 20 b_11 ((20 * (((d.1 a0 66) + x2) - 1000)) + x3)) (some (d.1 b_11 (ix_n ((20 * (((d.1 a0 66) + x2) - 1000)) + x3)), d)))))) (ix_ck (ix_ok z [11] a0) (ix_bd1 (z.1 a0 25) (fun b_15 => ix_bd1 (z.1 a0 24) (fun b_17 => ix_ck (ix_ix z 20 b_17 x2) (ix_ck (ix_ix z 20 b_15 ((d.1 b_17 (ix_n x2)) + x3)) (some (d.1 b_15 (ix_n ((d.1 b_17 (ix_n x2)) + x3)), d)))))))
set_option maxRecDepth 20000 in
theorem c_X12_itemOf {l : Launch} {K : ix_Cx} (hKp : ix_Kp K) {n : Nat} {z : ix_Z} {a0 : Nat} {x1 : Int32} {x2 : Int32} {x3 : Int32} {d : ix_D2} {r : Int32} {d1 : ix_D2} (h : f_X12_itemOf n z a0 x1 x2 x3 d = some (r, d1)) : ix_M l K yX12_itemOf cX12_itemOf 4 (some .int) 0 0 0 0 [.ref (K.2.2.1 + a0), .int x1, .int x2, .int x3] (ix_w z d) (some (.int r)) (ix_w z d1) := by
  refine ix_met mf_X12_itemOf hKp (Nat.le_of_ble_eq_true rfl) ?_
  intro p e s m args below meth c hr hlk hnm X
  have X : ix_X p s m args c K cX12_itemOf RX12 4 := X
  show ix_G p l e (ix_rm 0 0 0 0) s m args below meth c (MQ below (ix_Post K (some (.int r)) (ix_w z d1)) args s 0 0 (ix_A K)) K 4 0 0 0 [(0, .ref (K.2.2.1 + a0)), (1, .int x1), (2, .int x2), (3, .int x3)] [] (ix_w z d)
  unfold f_X12_itemOf at h
  refine ix_iload_n (i := 2) (j := 2) X (ix_tb_at tb_X12_itemOf 0 rfl) rfl rfl (pc1 := 1) rfl ?_
  refine ix_sipush (v := 1000) X (ix_tb_at tb_X12_itemOf 1 rfl) (by decide) (pc1 := 4) rfl ?_
  refine ix_icmp_ge (tgt := 21) X (ix_tb_at tb_X12_itemOf 2 rfl) (by decide) (pc1 := 7) rfl (fun q_1 => ?_) (fun q_1 => ?_)
  · have h := ix_ift q_1 h
    refine ix_iload_n (i := 2) (j := 2) X (ix_tb_at tb_X12_itemOf 13 rfl) rfl rfl (pc1 := 22) rfl ?_
    refine ix_sipush (v := 2000) X (ix_tb_at tb_X12_itemOf 14 rfl) (by decide) (pc1 := 25) rfl ?_
    refine ix_icmp_ge (tgt := 51) X (ix_tb_at tb_X12_itemOf 15 rfl) (by decide) (pc1 := 28) rfl (fun q_2 => ?_) (fun q_2 => ?_)
    · have h := ix_ift q_2 h
      refine ix_aload_n (i := 0) (j := 0) X (ix_tb_at tb_X12_itemOf 30 rfl) rfl rfl (pc1 := 52) rfl ?_
      obtain ⟨k_3, h⟩ := ix_ck_some h
      obtain ⟨b_4, q_5, h⟩ := ix_bd1_ex h
      refine iz_getR X fl_RX12_165 k_3 q_5 (ix_tb_at tb_X12_itemOf 31 rfl) (pc1 := 55) rfl ?_
      refine ix_sipush (v := 8050) X (ix_tb_at tb_X12_itemOf 32 rfl) (by decide) (pc1 := 58) rfl ?_
      refine ix_iload_n (i := 1) (j := 1) X (ix_tb_at tb_X12_itemOf 33 rfl) rfl rfl (pc1 := 59) rfl ?_
      refine ix_imul X (ix_tb_at tb_X12_itemOf 34 rfl) (pc1 := 60) rfl ?_
      refine ix_aload_n (i := 0) (j := 0) X (ix_tb_at tb_X12_itemOf 35 rfl) rfl rfl (pc1 := 61) rfl ?_
      obtain ⟨b_6, q_7, h⟩ := ix_bd1_ex h
      refine iz_getR X fl_RX12_162 k_3 q_7 (ix_tb_at tb_X12_itemOf 36 rfl) (pc1 := 64) rfl ?_
      refine ix_sipush (v := 801) X (ix_tb_at tb_X12_itemOf 37 rfl) (by decide) (pc1 := 67) rfl ?_
      refine ix_iload_n (i := 1) (j := 1) X (ix_tb_at tb_X12_itemOf 38 rfl) rfl rfl (pc1 := 68) rfl ?_
      refine ix_imul X (ix_tb_at tb_X12_itemOf 39 rfl) (pc1 := 69) rfl ?_
      refine ix_iload_n (i := 2) (j := 2) X (ix_tb_at tb_X12_itemOf 40 rfl) rfl rfl (pc1 := 70) rfl ?_
      refine ix_iadd X (ix_tb_at tb_X12_itemOf 41 rfl) (pc1 := 71) rfl ?_
      refine ix_sipush (v := 2000) X (ix_tb_at tb_X12_itemOf 42 rfl) (by decide) (pc1 := 74) rfl ?_
      refine ix_isub X (ix_tb_at tb_X12_itemOf 43 rfl) (pc1 := 75) rfl ?_
      obtain ⟨k_8, h⟩ := ix_ck_some h
      refine iz_iald X k_8 (ix_tb_at tb_X12_itemOf 44 rfl) (pc1 := 76) rfl ?_
      refine ix_iadd X (ix_tb_at tb_X12_itemOf 45 rfl) (pc1 := 77) rfl ?_
      refine ix_iload_n (i := 3) (j := 3) X (ix_tb_at tb_X12_itemOf 46 rfl) rfl rfl (pc1 := 78) rfl ?_
      refine ix_iadd X (ix_tb_at tb_X12_itemOf 47 rfl) (pc1 := 79) rfl ?_
      obtain ⟨k_9, h⟩ := ix_ck_some h
      refine iz_iald X k_9 (ix_tb_at tb_X12_itemOf 48 rfl) (pc1 := 80) rfl ?_
      exact ix_iret X hr hlk (ix_r2 (f := fun r => some (.int r)) (g := ix_w z) h) (ix_tb_at tb_X12_itemOf 49 rfl)
    · have h := ix_iff q_2 h
      refine ix_aload_n (i := 0) (j := 0) X (ix_tb_at tb_X12_itemOf 16 rfl) rfl rfl (pc1 := 29) rfl ?_
      obtain ⟨k_10, h⟩ := ix_ck_some h
      obtain ⟨b_11, q_12, h⟩ := ix_bd1_ex h
      refine iz_getR X fl_RX12_77 k_10 q_12 (ix_tb_at tb_X12_itemOf 17 rfl) (pc1 := 32) rfl ?_
      refine ix_bipush (v := 20) X (ix_tb_at tb_X12_itemOf 18 rfl) (by decide) (pc1 := 34) rfl ?_
      refine ix_aload_n (i := 0) (j := 0) X (ix_tb_at tb_X12_itemOf 19 rfl) rfl rfl (pc1 := 35) rfl ?_
      refine iz_getI X fl_RX12_442 k_10 (ix_tb_at tb_X12_itemOf 20 rfl) (pc1 := 38) rfl ?_
      refine ix_iload_n (i := 2) (j := 2) X (ix_tb_at tb_X12_itemOf 21 rfl) rfl rfl (pc1 := 39) rfl ?_
      refine ix_iadd X (ix_tb_at tb_X12_itemOf 22 rfl) (pc1 := 40) rfl ?_
      refine ix_sipush (v := 1000) X (ix_tb_at tb_X12_itemOf 23 rfl) (by decide) (pc1 := 43) rfl ?_
      refine ix_isub X (ix_tb_at tb_X12_itemOf 24 rfl) (pc1 := 44) rfl ?_
      refine ix_imul X (ix_tb_at tb_X12_itemOf 25 rfl) (pc1 := 45) rfl ?_
      refine ix_iload_n (i := 3) (j := 3) X (ix_tb_at tb_X12_itemOf 26 rfl) rfl rfl (pc1 := 46) rfl ?_
      refine ix_iadd X (ix_tb_at tb_X12_itemOf 27 rfl) (pc1 := 47) rfl ?_
      obtain ⟨k_13, h⟩ := ix_ck_some h
      refine iz_iald X k_13 (ix_tb_at tb_X12_itemOf 28 rfl) (pc1 := 48) rfl ?_
      refine ix_goto (tgt := 80) X (ix_tb_at tb_X12_itemOf 29 rfl) (by decide) ?_
      exact ix_iret X hr hlk (ix_r2 (f := fun r => some (.int r)) (g := ix_w z) h) (ix_tb_at tb_X12_itemOf 49 rfl)
  · have h := ix_iff q_1 h
    refine ix_aload_n (i := 0) (j := 0) X (ix_tb_at tb_X12_itemOf 3 rfl) rfl rfl (pc1 := 8) rfl ?_
    obtain ⟨k_14, h⟩ := ix_ck_some h
    obtain ⟨b_15, q_16, h⟩ := ix_bd1_ex h
    refine iz_getR X fl_RX12_65 k_14 q_16 (ix_tb_at tb_X12_itemOf 4 rfl) (pc1 := 11) rfl ?_
    refine ix_aload_n (i := 0) (j := 0) X (ix_tb_at tb_X12_itemOf 5 rfl) rfl rfl (pc1 := 12) rfl ?_
    obtain ⟨b_17, q_18, h⟩ := ix_bd1_ex h
    refine iz_getR X fl_RX12_62 k_14 q_18 (ix_tb_at tb_X12_itemOf 6 rfl) (pc1 := 15) rfl ?_
    refine ix_iload_n (i := 2) (j := 2) X (ix_tb_at tb_X12_itemOf 7 rfl) rfl rfl (pc1 := 16) rfl ?_
    obtain ⟨k_19, h⟩ := ix_ck_some h
    refine iz_iald X k_19 (ix_tb_at tb_X12_itemOf 8 rfl) (pc1 := 17) rfl ?_
    refine ix_iload_n (i := 3) (j := 3) X (ix_tb_at tb_X12_itemOf 9 rfl) rfl rfl (pc1 := 18) rfl ?_
    refine ix_iadd X (ix_tb_at tb_X12_itemOf 10 rfl) (pc1 := 19) rfl ?_
    obtain ⟨k_20, h⟩ := ix_ck_some h
    refine iz_iald X k_20 (ix_tb_at tb_X12_itemOf 11 rfl) (pc1 := 20) rfl ?_
    exact ix_iret X hr hlk (ix_r2 (f := fun r => some (.int r)) (g := ix_w z) h) (ix_tb_at tb_X12_itemOf 12 rfl)
def tab_X12_line : List (Nat × Instr × Nat) := [(0, .iload_n 1, 1), (1, .iconst 0, 1), (2, .aload_n 0, 1), (3, .getfield 273, 3), (6, .iconst 1, 1), (7, .isub, 1), (8, .invokestatic 238, 3), (11, .ifCond .ne 41, 3), (14, .iload_n 1, 1), (15, .sipush 1000, 3), (18, .sipush 999, 3), (21, .aload_n 0, 1), (22, .getfield 374, 3), (25, .iadd, 1), (26, .invokestatic 238, 3), (29, .ifCond .ne 23, 3), (32, .iload_n 1, 1), (33, .sipush 2000, 3), (36, .sipush 1999, 3), (39, .aload_n 0, 1), (40, .getfield 171, 3), (43, .iconst 0, 1), (44, .iaload, 1), (45, .iadd, 1), (46, .invokestatic 238, 3), (49, .ifCond .eq 12, 3), (52, .aload_n 0, 1), (53, .iconst 0, 1), (54, .iload_n 1, 1), (55, .invokevirtual 377, 3), (58, .goto 6, 3), (61, .sipush (-1005), 3), (64, .istore_n 3, 1), (65, .iload_n 3, 1), (66, .ifCond .ge 9, 3), (69, .sipush (-1005), 3), (72, .goto 36, 3), (75, .iload_n 2, 1), (76, .iconst (-1), 1), (77, .if_icmp .ne 7, 3), (80, .iload_n 3, 1), (81, .goto 27, 3), (84, .iload_n 2, 1), (85, .iconst 0, 1), (86, .iload_n 3, 1), (87, .iconst 1, 1), (88, .isub, 1), (89, .invokestatic 238, 3), (92, .ifCond .eq 13, 3), (95, .aload_n 0, 1), (96, .iconst 0, 1), (97, .iload_n 1, 1), (98, .iload_n 2, 1), (99, .invokevirtual 381, 3), (102, .goto 6, 3), (105, .sipush (-1005), 3), (108, .ireturn, 1)]
theorem tb_X12_line : ix_tab cX12_line tab_X12_line := by
  unfold ix_tab
  decide +kernel
noncomputable def f_X12_line_64 (n : Nat) (z : ix_Z)  (a0 : Nat) (x1 : Int32) (x2 : Int32) (s0 : Int32) (d : ix_D2) : Option (Int32 × ix_D2) :=
  ix_if (0 ≤ s0) (ix_if (x2 = (-1)) (some (s0, d)) (ix_bd2 (f_X12_in n z x2 0 (s0 - 1) d) (fun r_14 d_12 => ix_if (r_14 = 0) (some ((-1005), d_12)) (ix_ck (ix_ok z [11] a0) (ix_bd2 (f_X12_itemOf n z a0 0 x1 x2 d_12) (fun r_19 d_16 => some (r_19, d_16))))))) (some ((-1005), d))
noncomputable def f_X12_line_52 (n : Nat) (z : ix_Z)  (a0 : Nat) (x1 : Int32) (x2 : Int32) (d : ix_D2) : Option (Int32 × ix_D2) :=
  ix_ck (ix_ok z [11] a0) (ix_bd2 (f_X12_sizeOf n z a0 0 x1 d) (fun r_9 d_6 => f_X12_line_64 n z  a0 x1 x2 r_9 d_6))
noncomputable def f_X12_line (n : Nat) (z : ix_Z) (a0 : Nat) (x1 : Int32) (x2 : Int32) (d : ix_D2) : Option (Int32 × ix_D2) :=
  ix_ck (ix_ok z [11] a0) (ix_bd2 (f_X12_in n z x1 0 ((d.1 a0 23) - 1) d) (fun r_4 d_2 => ix_if (r_4 = 0) (ix_bd2 (f_X12_in n z x1 1000 (999 + (d_2.1 a0 32)) d_2) (fun r_22 d_20 => ix_if (r_22 = 0) (ix_bd1 (z.1 a0 81) (fun b_24 => ix_ck (ix_ix z 20 b_24 0) (ix_bd2 (f_X12_in n z x1 2000 (1999 + (d_20.1 b_24 (ix_n 0))) d_20) (fun r_29 d_27 => ix_if (r_29 = 0) (f_X12_line_64 n z  a0 x1 x2 ((-1005)) d_27) (f_X12_line_52 n z  a0 x1 x2 d_27))))) (f_X12_line_52 n z  a0 x1 x2 d_20))) (f_X12_line_52 n z  a0 x1 x2 d_2)))
set_option maxRecDepth 20000 in
theorem t_X12_line_64 {l : Launch} {p : Program} {e : Env} {s : State} {m : MethodId} {args : Array Value} {below : List Frame} {meth : Method} {c : Code} {K : ix_Cx} (hKp : ix_Kp K) {n : Nat} {z : ix_Z} (X : ix_X p s m args c K cX12_line RX12 4) (hr : meth.sig.returnType = (some .int)) (hlk : meth.locks = false)  {a0 : Nat} {x1 : Int32} {x2 : Int32} {s0 : Int32} {r : Int32} {d1 : ix_D2}  {d : ix_D2} (h : f_X12_line_64 n z  a0 x1 x2 s0 d = some (r, d1)) : ix_G p l e (ix_rm 1 23 0 0) s m args below meth c (MQ below (ix_Post K (some (.int r)) (ix_w z d1)) args s 0 0 (ix_A K)) K 4 0 0 64 [(0, .ref (K.2.2.1 + a0)), (1, .int x1), (2, .int x2)] [.int s0] (ix_w z d) := by
  unfold f_X12_line_64 at h
  refine ix_istore_n (i := 3) (L1 := [(3, .int s0), (0, .ref (K.2.2.1 + a0)), (1, .int x1), (2, .int x2)]) X (ix_tb_at tb_X12_line 32 rfl) rfl (Nat.le_of_ble_eq_true rfl) rfl (pc1 := 65) rfl ?_
  refine ix_iload_n (i := 3) (j := 0) X (ix_tb_at tb_X12_line 33 rfl) rfl rfl (pc1 := 66) rfl ?_
  refine ix_if_ge (tgt := 75) X (ix_tb_at tb_X12_line 34 rfl) (by decide) (pc1 := 69) rfl (fun q_10 => ?_) (fun q_10 => ?_)
  · have h := ix_ift q_10 h
    refine ix_iload_n (i := 2) (j := 3) X (ix_tb_at tb_X12_line 37 rfl) rfl rfl (pc1 := 76) rfl ?_
    refine ix_iconst (v := (-1)) X (ix_tb_at tb_X12_line 38 rfl) (by decide) (pc1 := 77) rfl ?_
    refine ix_icmp_ne (tgt := 84) X (ix_tb_at tb_X12_line 39 rfl) (by decide) (pc1 := 80) rfl (fun q_11 => ?_) (fun q_11 => ?_)
    · have h := ix_iff q_11 h
      refine ix_iload_n (i := 2) (j := 3) X (ix_tb_at tb_X12_line 42 rfl) rfl rfl (pc1 := 85) rfl ?_
      refine ix_iconst (v := 0) X (ix_tb_at tb_X12_line 43 rfl) (by decide) (pc1 := 86) rfl ?_
      refine ix_iload_n (i := 3) (j := 0) X (ix_tb_at tb_X12_line 44 rfl) rfl rfl (pc1 := 87) rfl ?_
      refine ix_iconst (v := 1) X (ix_tb_at tb_X12_line 45 rfl) (by decide) (pc1 := 88) rfl ?_
      refine ix_isub X (ix_tb_at tb_X12_line 46 rfl) (pc1 := 89) rfl ?_
      obtain ⟨r_14, d_12, h_13, h⟩ := ix_bd2_ex h
      refine ix_callS (As := [.int x2, .int 0, .int (s0 - 1)]) (rest := []) X mf_X12_in st_X12_in ml_RX12_238 ⟨Nat.le_of_ble_eq_true rfl, Nat.le_of_ble_eq_true rfl⟩ ⟨Nat.le_of_ble_eq_true rfl, Nat.le_of_ble_eq_true rfl⟩ rfl (Nat.le_of_ble_eq_true rfl) (ix_tb_at tb_X12_line 47 rfl) (c_X12_in hKp h_13) rfl (pc1 := 92) rfl ?_
      refine ix_if_eq (tgt := 105) X (ix_tb_at tb_X12_line 48 rfl) (by decide) (pc1 := 95) rfl (fun q_15 => ?_) (fun q_15 => ?_)
      · have h := ix_ift q_15 h
        refine ix_sipush (v := (-1005)) X (ix_tb_at tb_X12_line 55 rfl) (by decide) (pc1 := 108) rfl ?_
        exact ix_iret X hr hlk (ix_r2 (f := fun r => some (.int r)) (g := ix_w z) h) (ix_tb_at tb_X12_line 56 rfl)
      · have h := ix_iff q_15 h
        refine ix_aload_n (i := 0) (j := 1) X (ix_tb_at tb_X12_line 49 rfl) rfl rfl (pc1 := 96) rfl ?_
        refine ix_iconst (v := 0) X (ix_tb_at tb_X12_line 50 rfl) (by decide) (pc1 := 97) rfl ?_
        refine ix_iload_n (i := 1) (j := 2) X (ix_tb_at tb_X12_line 51 rfl) rfl rfl (pc1 := 98) rfl ?_
        refine ix_iload_n (i := 2) (j := 3) X (ix_tb_at tb_X12_line 52 rfl) rfl rfl (pc1 := 99) rfl ?_
        obtain ⟨k_18, h⟩ := ix_ck_some h
        obtain ⟨r_19, d_16, h_17, h⟩ := ix_bd2_ex h
        refine ix_callV (As := [.int 0, .int x1, .int x2]) (rest := []) (ci := 11) (T := TX12) (nf := 116) X mf_X12_itemOf mi_X12_itemOf ms_X12_itemOf rfl (Nat.le_of_ble_eq_true rfl) ml_RX12_381 ⟨Nat.le_of_ble_eq_true rfl, Nat.le_of_ble_eq_true rfl⟩ ⟨Nat.le_of_ble_eq_true rfl, Nat.le_of_ble_eq_true rfl⟩ rfl (Nat.le_of_ble_eq_true rfl) (ix_tb_at tb_X12_line 53 rfl) ⟨k_18.1, List.mem_singleton.mp k_18.2⟩ (c_X12_itemOf hKp h_17) rfl (pc1 := 102) rfl ?_
        refine ix_goto (tgt := 108) X (ix_tb_at tb_X12_line 54 rfl) (by decide) ?_
        exact ix_iret X hr hlk (ix_r2 (f := fun r => some (.int r)) (g := ix_w z) h) (ix_tb_at tb_X12_line 56 rfl)
    · have h := ix_ift q_11 h
      refine ix_iload_n (i := 3) (j := 0) X (ix_tb_at tb_X12_line 40 rfl) rfl rfl (pc1 := 81) rfl ?_
      refine ix_goto (tgt := 108) X (ix_tb_at tb_X12_line 41 rfl) (by decide) ?_
      exact ix_iret X hr hlk (ix_r2 (f := fun r => some (.int r)) (g := ix_w z) h) (ix_tb_at tb_X12_line 56 rfl)
  · have h := ix_iff q_10 h
    refine ix_sipush (v := (-1005)) X (ix_tb_at tb_X12_line 35 rfl) (by decide) (pc1 := 72) rfl ?_
    refine ix_goto (tgt := 108) X (ix_tb_at tb_X12_line 36 rfl) (by decide) ?_
    exact ix_iret X hr hlk (ix_r2 (f := fun r => some (.int r)) (g := ix_w z) h) (ix_tb_at tb_X12_line 56 rfl)
set_option maxRecDepth 20000 in
theorem t_X12_line_52 {l : Launch} {p : Program} {e : Env} {s : State} {m : MethodId} {args : Array Value} {below : List Frame} {meth : Method} {c : Code} {K : ix_Cx} (hKp : ix_Kp K) {n : Nat} {z : ix_Z} (X : ix_X p s m args c K cX12_line RX12 4) (hr : meth.sig.returnType = (some .int)) (hlk : meth.locks = false)  {a0 : Nat} {x1 : Int32} {x2 : Int32} {r : Int32} {d1 : ix_D2}  {d : ix_D2} (h : f_X12_line_52 n z  a0 x1 x2 d = some (r, d1)) : ix_G p l e (ix_rm 1 23 0 0) s m args below meth c (MQ below (ix_Post K (some (.int r)) (ix_w z d1)) args s 0 0 (ix_A K)) K 4 0 0 52 [(0, .ref (K.2.2.1 + a0)), (1, .int x1), (2, .int x2)] [] (ix_w z d) := by
  unfold f_X12_line_52 at h
  refine ix_aload_n (i := 0) (j := 0) X (ix_tb_at tb_X12_line 26 rfl) rfl rfl (pc1 := 53) rfl ?_
  refine ix_iconst (v := 0) X (ix_tb_at tb_X12_line 27 rfl) (by decide) (pc1 := 54) rfl ?_
  refine ix_iload_n (i := 1) (j := 1) X (ix_tb_at tb_X12_line 28 rfl) rfl rfl (pc1 := 55) rfl ?_
  obtain ⟨k_8, h⟩ := ix_ck_some h
  obtain ⟨r_9, d_6, h_7, h⟩ := ix_bd2_ex h
  refine ix_callV (As := [.int 0, .int x1]) (rest := []) (ci := 11) (T := TX12) (nf := 116) X mf_X12_sizeOf mi_X12_sizeOf ms_X12_sizeOf rfl (Nat.le_of_ble_eq_true rfl) ml_RX12_377 ⟨Nat.le_of_ble_eq_true rfl, Nat.le_of_ble_eq_true rfl⟩ ⟨Nat.le_of_ble_eq_true rfl, Nat.le_of_ble_eq_true rfl⟩ rfl (Nat.le_of_ble_eq_true rfl) (ix_tb_at tb_X12_line 29 rfl) ⟨k_8.1, List.mem_singleton.mp k_8.2⟩ (c_X12_sizeOf hKp h_7) rfl (pc1 := 58) rfl ?_
  refine ix_goto (tgt := 64) X (ix_tb_at tb_X12_line 30 rfl) (by decide) ?_
  refine ix_sub (L1 := [(0, .ref (K.2.2.1 + a0)), (1, .int x1), (2, .int x2)]) [0, 1, 2] rfl ?_
  exact t_X12_line_64 hKp X hr hlk  h
set_option maxRecDepth 20000 in
theorem c_X12_line {l : Launch} {K : ix_Cx} (hKp : ix_Kp K) {n : Nat} {z : ix_Z} {a0 : Nat} {x1 : Int32} {x2 : Int32} {d : ix_D2} {r : Int32} {d1 : ix_D2} (h : f_X12_line n z a0 x1 x2 d = some (r, d1)) : ix_M l K yX12_line cX12_line 4 (some .int) 1 23 0 0 [.ref (K.2.2.1 + a0), .int x1, .int x2] (ix_w z d) (some (.int r)) (ix_w z d1) := by
  refine ix_met mf_X12_line hKp (Nat.le_of_ble_eq_true rfl) ?_
  intro p e s m args below meth c hr hlk hnm X
  have X : ix_X p s m args c K cX12_line RX12 4 := X
  show ix_G p l e (ix_rm 1 23 0 0) s m args below meth c (MQ below (ix_Post K (some (.int r)) (ix_w z d1)) args s 0 0 (ix_A K)) K 4 0 0 0 [(0, .ref (K.2.2.1 + a0)), (1, .int x1), (2, .int x2)] [] (ix_w z d)
  unfold f_X12_line at h
  refine ix_iload_n (i := 1) (j := 1) X (ix_tb_at tb_X12_line 0 rfl) rfl rfl (pc1 := 1) rfl ?_
  refine ix_iconst (v := 0) X (ix_tb_at tb_X12_line 1 rfl) (by decide) (pc1 := 2) rfl ?_
  refine ix_aload_n (i := 0) (j := 0) X (ix_tb_at tb_X12_line 2 rfl) rfl rfl (pc1 := 3) rfl ?_
  obtain ⟨k_1, h⟩ := ix_ck_some h
  refine iz_getI X fl_RX12_273 k_1 (ix_tb_at tb_X12_line 3 rfl) (pc1 := 6) rfl ?_
  refine ix_iconst (v := 1) X (ix_tb_at tb_X12_line 4 rfl) (by decide) (pc1 := 7) rfl ?_
  refine ix_isub X (ix_tb_at tb_X12_line 5 rfl) (pc1 := 8) rfl ?_
  obtain ⟨r_4, d_2, h_3, h⟩ := ix_bd2_ex h
  refine ix_callS (As := [.int x1, .int 0, .int ((d.1 a0 23) - 1)]) (rest := []) X mf_X12_in st_X12_in ml_RX12_238 ⟨Nat.le_of_ble_eq_true rfl, Nat.le_of_ble_eq_true rfl⟩ ⟨Nat.le_of_ble_eq_true rfl, Nat.le_of_ble_eq_true rfl⟩ rfl (Nat.le_of_ble_eq_true rfl) (ix_tb_at tb_X12_line 6 rfl) (c_X12_in hKp h_3) rfl (pc1 := 11) rfl ?_
  refine ix_if_ne (tgt := 52) X (ix_tb_at tb_X12_line 7 rfl) (by decide) (pc1 := 14) rfl (fun q_5 => ?_) (fun q_5 => ?_)
  · have h := ix_iff q_5 h
    refine ix_sub (L1 := [(0, .ref (K.2.2.1 + a0)), (1, .int x1), (2, .int x2)]) [0, 1, 2] rfl ?_
    exact t_X12_line_52 hKp X hr hlk  h
  · have h := ix_ift q_5 h
    refine ix_iload_n (i := 1) (j := 1) X (ix_tb_at tb_X12_line 8 rfl) rfl rfl (pc1 := 15) rfl ?_
    refine ix_sipush (v := 1000) X (ix_tb_at tb_X12_line 9 rfl) (by decide) (pc1 := 18) rfl ?_
    refine ix_sipush (v := 999) X (ix_tb_at tb_X12_line 10 rfl) (by decide) (pc1 := 21) rfl ?_
    refine ix_aload_n (i := 0) (j := 0) X (ix_tb_at tb_X12_line 11 rfl) rfl rfl (pc1 := 22) rfl ?_
    refine iz_getI X fl_RX12_374 k_1 (ix_tb_at tb_X12_line 12 rfl) (pc1 := 25) rfl ?_
    refine ix_iadd X (ix_tb_at tb_X12_line 13 rfl) (pc1 := 26) rfl ?_
    obtain ⟨r_22, d_20, h_21, h⟩ := ix_bd2_ex h
    refine ix_callS (As := [.int x1, .int 1000, .int (999 + (d_2.1 a0 32))]) (rest := []) X mf_X12_in st_X12_in ml_RX12_238 ⟨Nat.le_of_ble_eq_true rfl, Nat.le_of_ble_eq_true rfl⟩ ⟨Nat.le_of_ble_eq_true rfl, Nat.le_of_ble_eq_true rfl⟩ rfl (Nat.le_of_ble_eq_true rfl) (ix_tb_at tb_X12_line 14 rfl) (c_X12_in hKp h_21) rfl (pc1 := 29) rfl ?_
    refine ix_if_ne (tgt := 52) X (ix_tb_at tb_X12_line 15 rfl) (by decide) (pc1 := 32) rfl (fun q_23 => ?_) (fun q_23 => ?_)
    · have h := ix_iff q_23 h
      refine ix_sub (L1 := [(0, .ref (K.2.2.1 + a0)), (1, .int x1), (2, .int x2)]) [0, 1, 2] rfl ?_
      exact t_X12_line_52 hKp X hr hlk  h
    · have h := ix_ift q_23 h
      refine ix_iload_n (i := 1) (j := 1) X (ix_tb_at tb_X12_line 16 rfl) rfl rfl (pc1 := 33) rfl ?_
      refine ix_sipush (v := 2000) X (ix_tb_at tb_X12_line 17 rfl) (by decide) (pc1 := 36) rfl ?_
      refine ix_sipush (v := 1999) X (ix_tb_at tb_X12_line 18 rfl) (by decide) (pc1 := 39) rfl ?_
      refine ix_aload_n (i := 0) (j := 0) X (ix_tb_at tb_X12_line 19 rfl) rfl rfl (pc1 := 40) rfl ?_
      obtain ⟨b_24, q_25, h⟩ := ix_bd1_ex h
      refine iz_getR X fl_RX12_171 k_1 q_25 (ix_tb_at tb_X12_line 20 rfl) (pc1 := 43) rfl ?_
      refine ix_iconst (v := 0) X (ix_tb_at tb_X12_line 21 rfl) (by decide) (pc1 := 44) rfl ?_
      obtain ⟨k_26, h⟩ := ix_ck_some h
      refine iz_iald X k_26 (ix_tb_at tb_X12_line 22 rfl) (pc1 := 45) rfl ?_
      refine ix_iadd X (ix_tb_at tb_X12_line 23 rfl) (pc1 := 46) rfl ?_
      obtain ⟨r_29, d_27, h_28, h⟩ := ix_bd2_ex h
      refine ix_callS (As := [.int x1, .int 2000, .int (1999 + (d_20.1 b_24 (ix_n 0)))]) (rest := []) X mf_X12_in st_X12_in ml_RX12_238 ⟨Nat.le_of_ble_eq_true rfl, Nat.le_of_ble_eq_true rfl⟩ ⟨Nat.le_of_ble_eq_true rfl, Nat.le_of_ble_eq_true rfl⟩ rfl (Nat.le_of_ble_eq_true rfl) (ix_tb_at tb_X12_line 24 rfl) (c_X12_in hKp h_28) rfl (pc1 := 49) rfl ?_
      refine ix_if_eq (tgt := 61) X (ix_tb_at tb_X12_line 25 rfl) (by decide) (pc1 := 52) rfl (fun q_30 => ?_) (fun q_30 => ?_)
      · have h := ix_ift q_30 h
        refine ix_sipush (v := (-1005)) X (ix_tb_at tb_X12_line 31 rfl) (by decide) (pc1 := 64) rfl ?_
        refine ix_sub (L1 := [(0, .ref (K.2.2.1 + a0)), (1, .int x1), (2, .int x2)]) [0, 1, 2] rfl ?_
        exact t_X12_line_64 hKp X hr hlk  h
      · have h := ix_iff q_30 h
        refine ix_sub (L1 := [(0, .ref (K.2.2.1 + a0)), (1, .int x1), (2, .int x2)]) [0, 1, 2] rfl ?_
        exact t_X12_line_52 hKp X hr hlk  h
def tab_X12_mark : List (Nat × Instr × Nat) := [(0, .aload_n 0, 1), (1, .getfield 68, 3), (4, .aload_n 0, 1), (5, .getfield 385, 3), (8, .bipush 100, 2), (10, .irem, 1), (11, .iload_n 1, 1), (12, .iastore, 1), (13, .aload_n 0, 1), (14, .dup, 1), (15, .getfield 385, 3), (18, .iconst 1, 1), (19, .iadd, 1), (20, .putfield 385, 3), (23, .return_, 1)]
theorem tb_X12_mark : ix_tab cX12_mark tab_X12_mark := by
  unfold ix_tab
  decide +kernel
noncomputable def f_X12_mark (n : Nat) (z : ix_Z) (a0 : Nat) (x1 : Int32) (d : ix_D2) : Option (ix_D2) :=
  ix_ck (ix_ok z [11] a0) (ix_bd1 (z.1 a0 26) (fun b_2 => ix_ck (ix_ix z 20 b_2 ((d.1 a0 27) - (d.1 a0 27) / 100 * 100)) (ix_lt (ix_di d b_2 (ix_n ((d.1 a0 27) - (d.1 a0 27) / 100 * 100)) x1) (fun d_5 => ix_lt (ix_di d_5 a0 27 ((d_5.1 a0 27) + 1)) (fun d_7 => some d_7)))))
set_option maxRecDepth 20000 in
theorem c_X12_mark {l : Launch} {K : ix_Cx} (hKp : ix_Kp K) {n : Nat} {z : ix_Z} {a0 : Nat} {x1 : Int32} {d : ix_D2} {d1 : ix_D2} (h : f_X12_mark n z a0 x1 d = some d1) : ix_M l K yX12_mark cX12_mark 2 (none : Option Jvm.ClassFile.FieldType) 0 0 0 0 [.ref (K.2.2.1 + a0), .int x1] (ix_w z d) none (ix_w z d1) := by
  refine ix_met mf_X12_mark hKp (Nat.le_of_ble_eq_true rfl) ?_
  intro p e s m args below meth c hr hlk hnm X
  have X : ix_X p s m args c K cX12_mark RX12 2 := X
  show ix_G p l e (ix_rm 0 0 0 0) s m args below meth c (MQ below (ix_Post K none (ix_w z d1)) args s 0 0 (ix_A K)) K 2 0 0 0 [(0, .ref (K.2.2.1 + a0)), (1, .int x1)] [] (ix_w z d)
  unfold f_X12_mark at h
  refine ix_aload_n (i := 0) (j := 0) X (ix_tb_at tb_X12_mark 0 rfl) rfl rfl (pc1 := 1) rfl ?_
  obtain ⟨k_1, h⟩ := ix_ck_some h
  obtain ⟨b_2, q_3, h⟩ := ix_bd1_ex h
  refine iz_getR X fl_RX12_68 k_1 q_3 (ix_tb_at tb_X12_mark 1 rfl) (pc1 := 4) rfl ?_
  refine ix_aload_n (i := 0) (j := 0) X (ix_tb_at tb_X12_mark 2 rfl) rfl rfl (pc1 := 5) rfl ?_
  refine iz_getI X fl_RX12_385 k_1 (ix_tb_at tb_X12_mark 3 rfl) (pc1 := 8) rfl ?_
  refine ix_bipush (v := 100) X (ix_tb_at tb_X12_mark 4 rfl) (by decide) (pc1 := 10) rfl ?_
  refine ix_irem X (ix_tb_at tb_X12_mark 5 rfl) (by decide) (pc1 := 11) rfl ?_
  refine ix_iload_n (i := 1) (j := 1) X (ix_tb_at tb_X12_mark 6 rfl) rfl rfl (pc1 := 12) rfl ?_
  obtain ⟨k_4, h⟩ := ix_ck_some h
  obtain ⟨d_5, e_6, h⟩ := ix_lt_ex h
  refine iz_iast X k_4 (ix_tb_at tb_X12_mark 7 rfl) e_6 (pc1 := 13) rfl ?_
  refine ix_aload_n (i := 0) (j := 0) X (ix_tb_at tb_X12_mark 8 rfl) rfl rfl (pc1 := 14) rfl ?_
  refine ix_dup X (ix_tb_at tb_X12_mark 9 rfl) rfl (pc1 := 15) rfl ?_
  refine iz_getI X fl_RX12_385 k_1 (ix_tb_at tb_X12_mark 10 rfl) (pc1 := 18) rfl ?_
  refine ix_iconst (v := 1) X (ix_tb_at tb_X12_mark 11 rfl) (by decide) (pc1 := 19) rfl ?_
  refine ix_iadd X (ix_tb_at tb_X12_mark 12 rfl) (pc1 := 20) rfl ?_
  obtain ⟨d_7, e_8, h⟩ := ix_lt_ex h
  refine iz_putI X fp_RX12_385 k_1 (ix_tb_at tb_X12_mark 13 rfl) e_8 (pc1 := 23) rfl ?_
  exact ix_vret X hr hlk (ix_r1 (g := ix_w z) h) (ix_tb_at tb_X12_mark 14 rfl)
def tab_X12_isTrue : List (Nat × Instr × Nat) := [(0, .iload_n 1, 1), (1, .ifCond .le 21, 3), (4, .aload_n 0, 1), (5, .getfield 113, 3), (8, .iload_n 1, 1), (9, .iaload, 1), (10, .iconst 1, 1), (11, .if_icmp .ne 7, 3), (14, .iconst 1, 1), (15, .goto 22, 3), (18, .iconst 0, 1), (19, .goto 18, 3), (22, .aload_n 0, 1), (23, .getfield 113, 3), (26, .iload_n 1, 1), (27, .ineg, 1), (28, .iaload, 1), (29, .ifCond .ne 7, 3), (32, .iconst 1, 1), (33, .goto 4, 3), (36, .iconst 0, 1), (37, .ireturn, 1)]
theorem tb_X12_isTrue : ix_tab cX12_isTrue tab_X12_isTrue := by
  unfold ix_tab
  decide +kernel
noncomputable def f_X12_isTrue (n : Nat) (z : ix_Z) (a0 : Nat) (x1 : Int32) (d : ix_D2) : Option (Int32 × ix_D2) :=
  ix_if (x1 ≤ 0) (ix_ck (ix_ok z [11] a0) (ix_bd1 (z.1 a0 60) (fun b_3 => ix_ck (ix_ix z 20 b_3 (-x1)) (ix_if (d.1 b_3 (ix_n (-x1)) = 0) (some (1, d)) (some (0, d)))))) (ix_ck (ix_ok z [11] a0) (ix_bd1 (z.1 a0 60) (fun b_8 => ix_ck (ix_ix z 20 b_8 x1) (ix_if (d.1 b_8 (ix_n x1) = 1) (some (1, d)) (some (0, d))))))
set_option maxRecDepth 20000 in
theorem c_X12_isTrue {l : Launch} {K : ix_Cx} (hKp : ix_Kp K) {n : Nat} {z : ix_Z} {a0 : Nat} {x1 : Int32} {d : ix_D2} {r : Int32} {d1 : ix_D2} (h : f_X12_isTrue n z a0 x1 d = some (r, d1)) : ix_M l K yX12_isTrue cX12_isTrue 2 (some .boolean) 0 0 0 0 [.ref (K.2.2.1 + a0), .int x1] (ix_w z d) (some (.int r)) (ix_w z d1) := by
  refine ix_met mf_X12_isTrue hKp (Nat.le_of_ble_eq_true rfl) ?_
  intro p e s m args below meth c hr hlk hnm X
  have X : ix_X p s m args c K cX12_isTrue RX12 2 := X
  show ix_G p l e (ix_rm 0 0 0 0) s m args below meth c (MQ below (ix_Post K (some (.int r)) (ix_w z d1)) args s 0 0 (ix_A K)) K 2 0 0 0 [(0, .ref (K.2.2.1 + a0)), (1, .int x1)] [] (ix_w z d)
  unfold f_X12_isTrue at h
  refine ix_iload_n (i := 1) (j := 1) X (ix_tb_at tb_X12_isTrue 0 rfl) rfl rfl (pc1 := 1) rfl ?_
  refine ix_if_le (tgt := 22) X (ix_tb_at tb_X12_isTrue 1 rfl) (by decide) (pc1 := 4) rfl (fun q_1 => ?_) (fun q_1 => ?_)
  · have h := ix_ift q_1 h
    refine ix_aload_n (i := 0) (j := 0) X (ix_tb_at tb_X12_isTrue 12 rfl) rfl rfl (pc1 := 23) rfl ?_
    obtain ⟨k_2, h⟩ := ix_ck_some h
    obtain ⟨b_3, q_4, h⟩ := ix_bd1_ex h
    refine iz_getR X fl_RX12_113 k_2 q_4 (ix_tb_at tb_X12_isTrue 13 rfl) (pc1 := 26) rfl ?_
    refine ix_iload_n (i := 1) (j := 1) X (ix_tb_at tb_X12_isTrue 14 rfl) rfl rfl (pc1 := 27) rfl ?_
    refine ix_ineg X (ix_tb_at tb_X12_isTrue 15 rfl) (pc1 := 28) rfl ?_
    obtain ⟨k_5, h⟩ := ix_ck_some h
    refine iz_iald X k_5 (ix_tb_at tb_X12_isTrue 16 rfl) (pc1 := 29) rfl ?_
    refine ix_if_ne (tgt := 36) X (ix_tb_at tb_X12_isTrue 17 rfl) (by decide) (pc1 := 32) rfl (fun q_6 => ?_) (fun q_6 => ?_)
    · have h := ix_iff q_6 h
      refine ix_iconst (v := 0) X (ix_tb_at tb_X12_isTrue 20 rfl) (by decide) (pc1 := 37) rfl ?_
      exact ix_zret X hr hlk (by decide) (ix_r2 (f := fun r => some (.int r)) (g := ix_w z) h) (ix_tb_at tb_X12_isTrue 21 rfl)
    · have h := ix_ift q_6 h
      refine ix_iconst (v := 1) X (ix_tb_at tb_X12_isTrue 18 rfl) (by decide) (pc1 := 33) rfl ?_
      refine ix_goto (tgt := 37) X (ix_tb_at tb_X12_isTrue 19 rfl) (by decide) ?_
      exact ix_zret X hr hlk (by decide) (ix_r2 (f := fun r => some (.int r)) (g := ix_w z) h) (ix_tb_at tb_X12_isTrue 21 rfl)
  · have h := ix_iff q_1 h
    refine ix_aload_n (i := 0) (j := 0) X (ix_tb_at tb_X12_isTrue 2 rfl) rfl rfl (pc1 := 5) rfl ?_
    obtain ⟨k_7, h⟩ := ix_ck_some h
    obtain ⟨b_8, q_9, h⟩ := ix_bd1_ex h
    refine iz_getR X fl_RX12_113 k_7 q_9 (ix_tb_at tb_X12_isTrue 3 rfl) (pc1 := 8) rfl ?_
    refine ix_iload_n (i := 1) (j := 1) X (ix_tb_at tb_X12_isTrue 4 rfl) rfl rfl (pc1 := 9) rfl ?_
    obtain ⟨k_10, h⟩ := ix_ck_some h
    refine iz_iald X k_10 (ix_tb_at tb_X12_isTrue 5 rfl) (pc1 := 10) rfl ?_
    refine ix_iconst (v := 1) X (ix_tb_at tb_X12_isTrue 6 rfl) (by decide) (pc1 := 11) rfl ?_
    refine ix_icmp_ne (tgt := 18) X (ix_tb_at tb_X12_isTrue 7 rfl) (by decide) (pc1 := 14) rfl (fun q_11 => ?_) (fun q_11 => ?_)
    · have h := ix_iff q_11 h
      refine ix_iconst (v := 0) X (ix_tb_at tb_X12_isTrue 10 rfl) (by decide) (pc1 := 19) rfl ?_
      refine ix_goto (tgt := 37) X (ix_tb_at tb_X12_isTrue 11 rfl) (by decide) ?_
      exact ix_zret X hr hlk (by decide) (ix_r2 (f := fun r => some (.int r)) (g := ix_w z) h) (ix_tb_at tb_X12_isTrue 21 rfl)
    · have h := ix_ift q_11 h
      refine ix_iconst (v := 1) X (ix_tb_at tb_X12_isTrue 8 rfl) (by decide) (pc1 := 15) rfl ?_
      refine ix_goto (tgt := 37) X (ix_tb_at tb_X12_isTrue 9 rfl) (by decide) ?_
      exact ix_zret X hr hlk (by decide) (ix_r2 (f := fun r => some (.int r)) (g := ix_w z) h) (ix_tb_at tb_X12_isTrue 21 rfl)
def tab_X12_truesOf : List (Nat × Instr × Nat) := [(0, .iconst 0, 1), (1, .istore_n 2, 1), (2, .iconst 0, 1), (3, .istore_n 3, 1), (4, .iload_n 3, 1), (5, .aload_n 0, 1), (6, .getfield 38, 3), (9, .iload_n 1, 1), (10, .iaload, 1), (11, .if_icmp .ge 35, 3), (14, .iload_n 2, 1), (15, .aload_n 0, 1), (16, .aload_n 0, 1), (17, .getfield 41, 3), (20, .bipush 30, 2), (22, .iload_n 1, 1), (23, .imul, 1), (24, .iload_n 3, 1), (25, .iadd, 1), (26, .iaload, 1), (27, .invokevirtual 388, 3), (30, .ifCond .eq 7, 3), (33, .iconst 1, 1), (34, .goto 4, 3), (37, .iconst 0, 1), (38, .iadd, 1), (39, .istore_n 2, 1), (40, .iinc 3 1, 3), (43, .goto (-39), 3), (46, .iload_n 2, 1), (47, .ireturn, 1)]
theorem tb_X12_truesOf : ix_tab cX12_truesOf tab_X12_truesOf := by
  unfold ix_tab
  decide +kernel
noncomputable def f_X12_truesOf_38 (n : Nat) (z : ix_Z) (rec4 : Int32 → Int32 → ix_D2 → Option (Int32 × ix_D2)) (a0 : Nat) (x1 : Int32) (x3 : Int32) (s0 : Int32) (s1 : Int32) (d : ix_D2) : Option (Int32 × ix_D2) :=
  ix_lt (s1 + s0) (fun x2_13 => ix_lt (x3 + 1) (fun x3_15 => rec4 x2_13 x3_15 d))
noncomputable def b_X12_truesOf_4 (n : Nat) (z : ix_Z)  (a0 : Nat) (x1 : Int32) (rec4 : Int32 → Int32 → ix_D2 → Option (Int32 × ix_D2)) (x2 : Int32) (x3 : Int32) (d : ix_D2) : Option (Int32 × ix_D2) :=
  ix_ck (ix_ok z [11] a0) (ix_bd1 (z.1 a0 15) (fun b_2 => ix_ck (ix_ix z 20 b_2 x1) (ix_if (d.1 b_2 (ix_n x1) ≤ x3) (some (x2, d)) (ix_bd1 (z.1 a0 16) (fun b_6 => ix_ck (ix_ix z 20 b_6 ((30 * x1) + x3)) (ix_bd2 (f_X12_isTrue n z a0 (d.1 b_6 (ix_n ((30 * x1) + x3))) d) (fun r_11 d_9 => ix_if (r_11 = 0) (f_X12_truesOf_38 n z rec4 a0 x1 x3 0 x2 d_9) (f_X12_truesOf_38 n z rec4 a0 x1 x3 1 x2 d_9))))))))
noncomputable def f_X12_truesOf_4 (n : Nat) (z : ix_Z)  (a0 : Nat) (x1 : Int32) (x2 : Int32) (x3 : Int32) (d : ix_D2) : Option (Int32 × ix_D2) := ix_fix (b_X12_truesOf_4 n z  a0 x1) (fun _ _ _ => none) n x2 x3 d
noncomputable def f_X12_truesOf (n : Nat) (z : ix_Z) (a0 : Nat) (x1 : Int32) (d : ix_D2) : Option (Int32 × ix_D2) :=
  f_X12_truesOf_4 n z  a0 x1 0 0 d
set_option maxRecDepth 20000 in
theorem t_X12_truesOf_38 {l : Launch} {p : Program} {e : Env} {s : State} {m : MethodId} {args : Array Value} {below : List Frame} {meth : Method} {c : Code} {K : ix_Cx} (hKp : ix_Kp K) {n : Nat} {z : ix_Z} (X : ix_X p s m args c K cX12_truesOf RX12 4) (hr : meth.sig.returnType = (some .int)) (hlk : meth.locks = false) {rec4 : Int32 → Int32 → ix_D2 → Option (Int32 × ix_D2)} {a0 : Nat} {x1 : Int32} {x3 : Int32} {s0 : Int32} {s1 : Int32} {r : Int32} {d1 : ix_D2} (hrec4 : ∀ (x2 : Int32) (x3 : Int32) (d : ix_D2), rec4 x2 x3 d = some (r, d1) → ix_G p l e (ix_rm 1 21 0 0) s m args below meth c (MQ below (ix_Post K (some (.int r)) (ix_w z d1)) args s 0 0 (ix_A K)) K 4 0 0 4 [(0, .ref (K.2.2.1 + a0)), (1, .int x1), (2, .int x2), (3, .int x3)] [] (ix_w z d)) {d : ix_D2} (h : f_X12_truesOf_38 n z rec4 a0 x1 x3 s0 s1 d = some (r, d1)) : ix_G p l e (ix_rm 1 21 0 0) s m args below meth c (MQ below (ix_Post K (some (.int r)) (ix_w z d1)) args s 0 0 (ix_A K)) K 4 0 0 38 [(0, .ref (K.2.2.1 + a0)), (1, .int x1), (3, .int x3)] [.int s0, .int s1] (ix_w z d) := by
  unfold f_X12_truesOf_38 at h
  refine ix_iadd X (ix_tb_at tb_X12_truesOf 25 rfl) (pc1 := 39) rfl ?_
  obtain ⟨x2_13, e_14, h⟩ := ix_lt_ex h
  refine ix_nmi e_14 ?_
  refine ix_istore_n (i := 2) (L1 := [(2, .int x2_13), (0, .ref (K.2.2.1 + a0)), (1, .int x1), (3, .int x3)]) X (ix_tb_at tb_X12_truesOf 26 rfl) rfl (Nat.le_of_ble_eq_true rfl) rfl (pc1 := 40) rfl ?_
  obtain ⟨x3_15, e_16, h⟩ := ix_lt_ex h
  refine ix_iinc (i := 3) (j := 3) (v := x3_15) (L1 := [(3, .int x3_15), (2, .int x2_13), (0, .ref (K.2.2.1 + a0)), (1, .int x1)]) X (ix_tb_at tb_X12_truesOf 27 rfl) rfl (by rw [oi_1]; exact e_16.symm) (Nat.le_of_ble_eq_true rfl) rfl (pc1 := 43) rfl ?_
  refine ix_goto (tgt := 4) X (ix_tb_at tb_X12_truesOf 28 rfl) (by decide) ?_
  refine ix_sub (L1 := [(0, .ref (K.2.2.1 + a0)), (1, .int x1), (2, .int x2_13), (3, .int x3_15)]) [2, 3, 1, 0] rfl ?_
  exact hrec4 x2_13 x3_15 d h
set_option maxRecDepth 20000 in
theorem tb_X12_truesOf_4 {l : Launch} {p : Program} {e : Env} {s : State} {m : MethodId} {args : Array Value} {below : List Frame} {meth : Method} {c : Code} {K : ix_Cx} (hKp : ix_Kp K) {n : Nat} {z : ix_Z} (X : ix_X p s m args c K cX12_truesOf RX12 4) (hr : meth.sig.returnType = (some .int)) (hlk : meth.locks = false)  {a0 : Nat} {x1 : Int32} {rec4 : Int32 → Int32 → ix_D2 → Option (Int32 × ix_D2)} {r : Int32} {d1 : ix_D2} (hrec4 : ∀ (x2 : Int32) (x3 : Int32) (d : ix_D2), rec4 x2 x3 d = some (r, d1) → ix_G p l e (ix_rm 1 21 0 0) s m args below meth c (MQ below (ix_Post K (some (.int r)) (ix_w z d1)) args s 0 0 (ix_A K)) K 4 0 0 4 [(0, .ref (K.2.2.1 + a0)), (1, .int x1), (2, .int x2), (3, .int x3)] [] (ix_w z d)) {x2 : Int32} {x3 : Int32} {d : ix_D2} (h : b_X12_truesOf_4 n z  a0 x1 rec4 x2 x3 d = some (r, d1)) : ix_G p l e (ix_rm 1 21 0 0) s m args below meth c (MQ below (ix_Post K (some (.int r)) (ix_w z d1)) args s 0 0 (ix_A K)) K 4 0 0 4 [(0, .ref (K.2.2.1 + a0)), (1, .int x1), (2, .int x2), (3, .int x3)] [] (ix_w z d) := by
  unfold b_X12_truesOf_4 at h
  refine ix_iload_n (i := 3) (j := 3) X (ix_tb_at tb_X12_truesOf 4 rfl) rfl rfl (pc1 := 5) rfl ?_
  refine ix_aload_n (i := 0) (j := 0) X (ix_tb_at tb_X12_truesOf 5 rfl) rfl rfl (pc1 := 6) rfl ?_
  obtain ⟨k_1, h⟩ := ix_ck_some h
  obtain ⟨b_2, q_3, h⟩ := ix_bd1_ex h
  refine iz_getR X fl_RX12_38 k_1 q_3 (ix_tb_at tb_X12_truesOf 6 rfl) (pc1 := 9) rfl ?_
  refine ix_iload_n (i := 1) (j := 1) X (ix_tb_at tb_X12_truesOf 7 rfl) rfl rfl (pc1 := 10) rfl ?_
  obtain ⟨k_4, h⟩ := ix_ck_some h
  refine iz_iald X k_4 (ix_tb_at tb_X12_truesOf 8 rfl) (pc1 := 11) rfl ?_
  refine ix_icmp_ge (tgt := 46) X (ix_tb_at tb_X12_truesOf 9 rfl) (by decide) (pc1 := 14) rfl (fun q_5 => ?_) (fun q_5 => ?_)
  · have h := ix_ift q_5 h
    refine ix_iload_n (i := 2) (j := 2) X (ix_tb_at tb_X12_truesOf 29 rfl) rfl rfl (pc1 := 47) rfl ?_
    exact ix_iret X hr hlk (ix_r2 (f := fun r => some (.int r)) (g := ix_w z) h) (ix_tb_at tb_X12_truesOf 30 rfl)
  · have h := ix_iff q_5 h
    refine ix_iload_n (i := 2) (j := 2) X (ix_tb_at tb_X12_truesOf 10 rfl) rfl rfl (pc1 := 15) rfl ?_
    refine ix_aload_n (i := 0) (j := 0) X (ix_tb_at tb_X12_truesOf 11 rfl) rfl rfl (pc1 := 16) rfl ?_
    refine ix_aload_n (i := 0) (j := 0) X (ix_tb_at tb_X12_truesOf 12 rfl) rfl rfl (pc1 := 17) rfl ?_
    obtain ⟨b_6, q_7, h⟩ := ix_bd1_ex h
    refine iz_getR X fl_RX12_41 k_1 q_7 (ix_tb_at tb_X12_truesOf 13 rfl) (pc1 := 20) rfl ?_
    refine ix_bipush (v := 30) X (ix_tb_at tb_X12_truesOf 14 rfl) (by decide) (pc1 := 22) rfl ?_
    refine ix_iload_n (i := 1) (j := 1) X (ix_tb_at tb_X12_truesOf 15 rfl) rfl rfl (pc1 := 23) rfl ?_
    refine ix_imul X (ix_tb_at tb_X12_truesOf 16 rfl) (pc1 := 24) rfl ?_
    refine ix_iload_n (i := 3) (j := 3) X (ix_tb_at tb_X12_truesOf 17 rfl) rfl rfl (pc1 := 25) rfl ?_
    refine ix_iadd X (ix_tb_at tb_X12_truesOf 18 rfl) (pc1 := 26) rfl ?_
    obtain ⟨k_8, h⟩ := ix_ck_some h
    refine iz_iald X k_8 (ix_tb_at tb_X12_truesOf 19 rfl) (pc1 := 27) rfl ?_
    obtain ⟨r_11, d_9, h_10, h⟩ := ix_bd2_ex h
    refine ix_callV (As := [.int (d.1 b_6 (ix_n ((30 * x1) + x3)))]) (rest := [.int x2]) (ci := 11) (T := TX12) (nf := 116) X mf_X12_isTrue mi_X12_isTrue ms_X12_isTrue rfl (Nat.le_of_ble_eq_true rfl) ml_RX12_388 ⟨Nat.le_of_ble_eq_true rfl, Nat.le_of_ble_eq_true rfl⟩ ⟨Nat.le_of_ble_eq_true rfl, Nat.le_of_ble_eq_true rfl⟩ rfl (Nat.le_of_ble_eq_true rfl) (ix_tb_at tb_X12_truesOf 20 rfl) ⟨k_1.1, List.mem_singleton.mp k_1.2⟩ (c_X12_isTrue hKp h_10) rfl (pc1 := 30) rfl ?_
    refine ix_if_eq (tgt := 37) X (ix_tb_at tb_X12_truesOf 21 rfl) (by decide) (pc1 := 33) rfl (fun q_12 => ?_) (fun q_12 => ?_)
    · have h := ix_ift q_12 h
      refine ix_iconst (v := 0) X (ix_tb_at tb_X12_truesOf 24 rfl) (by decide) (pc1 := 38) rfl ?_
      refine ix_sub (L1 := [(0, .ref (K.2.2.1 + a0)), (1, .int x1), (3, .int x3)]) [0, 1, 3] rfl ?_
      exact t_X12_truesOf_38 hKp X hr hlk hrec4 h
    · have h := ix_iff q_12 h
      refine ix_iconst (v := 1) X (ix_tb_at tb_X12_truesOf 22 rfl) (by decide) (pc1 := 34) rfl ?_
      refine ix_goto (tgt := 38) X (ix_tb_at tb_X12_truesOf 23 rfl) (by decide) ?_
      refine ix_sub (L1 := [(0, .ref (K.2.2.1 + a0)), (1, .int x1), (3, .int x3)]) [0, 1, 3] rfl ?_
      exact t_X12_truesOf_38 hKp X hr hlk hrec4 h
theorem t_X12_truesOf_4 {l : Launch} {p : Program} {e : Env} {s : State} {m : MethodId} {args : Array Value} {below : List Frame} {meth : Method} {c : Code} {K : ix_Cx} (hKp : ix_Kp K) {n : Nat} {z : ix_Z} (X : ix_X p s m args c K cX12_truesOf RX12 4) (hr : meth.sig.returnType = (some .int)) (hlk : meth.locks = false)  {a0 : Nat} {x1 : Int32} {r : Int32} {d1 : ix_D2}  {x2 : Int32} {x3 : Int32} {d : ix_D2} (h : f_X12_truesOf_4 n z  a0 x1 x2 x3 d = some (r, d1)) : ix_G p l e (ix_rm 1 21 0 0) s m args below meth c (MQ below (ix_Post K (some (.int r)) (ix_w z d1)) args s 0 0 (ix_A K)) K 4 0 0 4 [(0, .ref (K.2.2.1 + a0)), (1, .int x1), (2, .int x2), (3, .int x3)] [] (ix_w z d) := by
  have key : ∀ (f : Nat) (x2 : Int32) (x3 : Int32) (d : ix_D2), ix_fix (b_X12_truesOf_4 n z  a0 x1) (fun _ _ _ => none) f x2 x3 d = some (r, d1) → ix_G p l e (ix_rm 1 21 0 0) s m args below meth c (MQ below (ix_Post K (some (.int r)) (ix_w z d1)) args s 0 0 (ix_A K)) K 4 0 0 4 [(0, .ref (K.2.2.1 + a0)), (1, .int x1), (2, .int x2), (3, .int x3)] [] (ix_w z d) := by
    intro f
    induction f with
    | zero =>
      intro x2 x3 d h
      have h : (none : Option (Int32 × ix_D2)) = some (r, d1) := h
      cases h
    | succ f ih =>
      intro x2 x3 d h
      exact tb_X12_truesOf_4 hKp X hr hlk (rec4 := ix_fix (b_X12_truesOf_4 n z  a0 x1) (fun _ _ _ => none) f)  ih h
  exact key n x2 x3 d h
set_option maxRecDepth 20000 in
theorem c_X12_truesOf {l : Launch} {K : ix_Cx} (hKp : ix_Kp K) {n : Nat} {z : ix_Z} {a0 : Nat} {x1 : Int32} {d : ix_D2} {r : Int32} {d1 : ix_D2} (h : f_X12_truesOf n z a0 x1 d = some (r, d1)) : ix_M l K yX12_truesOf cX12_truesOf 4 (some .int) 1 21 0 0 [.ref (K.2.2.1 + a0), .int x1] (ix_w z d) (some (.int r)) (ix_w z d1) := by
  refine ix_met mf_X12_truesOf hKp (Nat.le_of_ble_eq_true rfl) ?_
  intro p e s m args below meth c hr hlk hnm X
  have X : ix_X p s m args c K cX12_truesOf RX12 4 := X
  show ix_G p l e (ix_rm 1 21 0 0) s m args below meth c (MQ below (ix_Post K (some (.int r)) (ix_w z d1)) args s 0 0 (ix_A K)) K 4 0 0 0 [(0, .ref (K.2.2.1 + a0)), (1, .int x1)] [] (ix_w z d)
  unfold f_X12_truesOf at h
  refine ix_iconst (v := 0) X (ix_tb_at tb_X12_truesOf 0 rfl) (by decide) (pc1 := 1) rfl ?_
  refine ix_istore_n (i := 2) (L1 := [(2, .int 0), (0, .ref (K.2.2.1 + a0)), (1, .int x1)]) X (ix_tb_at tb_X12_truesOf 1 rfl) rfl (Nat.le_of_ble_eq_true rfl) rfl (pc1 := 2) rfl ?_
  refine ix_iconst (v := 0) X (ix_tb_at tb_X12_truesOf 2 rfl) (by decide) (pc1 := 3) rfl ?_
  refine ix_istore_n (i := 3) (L1 := [(3, .int 0), (2, .int 0), (0, .ref (K.2.2.1 + a0)), (1, .int x1)]) X (ix_tb_at tb_X12_truesOf 3 rfl) rfl (Nat.le_of_ble_eq_true rfl) rfl (pc1 := 4) rfl ?_
  refine ix_sub (L1 := [(0, .ref (K.2.2.1 + a0)), (1, .int x1), (2, .int 0), (3, .int 0)]) [2, 3, 1, 0] rfl ?_
  exact t_X12_truesOf_4 hKp X hr hlk  h
def tab_X12_isTextSo : List (Nat × Instr × Nat) := [(0, .iconst 0, 1), (1, .istore_n 2, 1), (2, .iconst 0, 1), (3, .istore_n 3, 1), (4, .iload_n 3, 1), (5, .aload_n 0, 1), (6, .getfield 59, 3), (9, .iload_n 1, 1), (10, .iaload, 1), (11, .if_icmp .ge 259, 3), (14, .aload_n 0, 1), (15, .getfield 56, 3), (18, .bipush 60, 2), (20, .iload_n 1, 1), (21, .imul, 1), (22, .iload_n 3, 1), (23, .iadd, 1), (24, .iaload, 1), (25, .istore 4, 2), (27, .iload 4, 2), (29, .ifCond .ge 33, 3), (32, .aload_n 0, 1), (33, .getfield 107, 3), (36, .iload_n 2, 1), (37, .aload_n 0, 1), (38, .aload_n 0, 1), (39, .getfield 41, 3), (42, .bipush 30, 2), (44, .iload_n 1, 1), (45, .imul, 1), (46, .iload 4, 2), (48, .isub, 1), (49, .iconst 1, 1), (50, .isub, 1), (51, .iaload, 1), (52, .invokevirtual 388, 3), (55, .bastore, 1), (56, .iinc 2 1, 3), (59, .goto 205, 3), (62, .iload 4, 2), (64, .ifCond .ne 30, 3), (67, .aload_n 0, 1), (68, .getfield 107, 3), (71, .iload_n 2, 1), (72, .iconst 1, 1), (73, .isub, 1), (74, .aload_n 0, 1), (75, .getfield 107, 3), (78, .iload_n 2, 1), (79, .iconst 1, 1), (80, .isub, 1), (81, .baload, 1), (82, .ifCond .ne 7, 3), (85, .iconst 1, 1), (86, .goto 4, 3), (89, .iconst 0, 1), (90, .bastore, 1), (91, .goto 173, 3), (94, .iload 4, 2), (96, .sipush 1000, 3), (99, .irem, 1), (100, .istore 5, 2), (102, .iload 4, 2), (104, .sipush 1000, 3), (107, .idiv, 1), (108, .istore 6, 2), (110, .iconst 0, 1), (111, .istore 7, 2), (113, .iload_n 2, 1), (114, .iload 5, 2), (116, .isub, 1), (117, .istore 8, 2), (119, .iload 8, 2), (121, .iload_n 2, 1), (122, .if_icmp .ge 29, 3), (125, .iload 7, 2), (127, .aload_n 0, 1), (128, .getfield 107, 3), (131, .iload 8, 2), (133, .baload, 1), (134, .ifCond .eq 7, 3), (137, .iconst 1, 1), (138, .goto 4, 3), (141, .iconst 0, 1), (142, .iadd, 1), (143, .istore 7, 2), (145, .iinc 8 1, 3), (148, .goto (-29), 3), (151, .aload_n 0, 1), (152, .getfield 107, 3), (155, .iload_n 2, 1), (156, .iload 5, 2), (158, .isub, 1), (159, .baload, 1), (160, .istore 8, 2), (162, .aload_n 0, 1), (163, .getfield 107, 3), (166, .iload_n 2, 1), (167, .iconst 1, 1), (168, .isub, 1), (169, .baload, 1), (170, .istore 9, 2), (172, .iload_n 2, 1), (173, .iload 5, 2), (175, .isub, 1), (176, .istore_n 2, 1), (177, .aload_n 0, 1), (178, .getfield 107, 3), (181, .iload_n 2, 1), (182, .iload 6, 2), (184, .bipush 38, 2), (186, .if_icmp .ne 18, 3), (189, .iload 7, 2), (191, .iload 5, 2), (193, .if_icmp .ne 7, 3), (196, .iconst 1, 1), (197, .goto 63, 3), (200, .iconst 0, 1), (201, .goto 59, 3), (204, .iload 6, 2), (206, .bipush 124, 2), (208, .if_icmp .ne 16, 3), (211, .iload 7, 2), (213, .ifCond .le 7, 3), (216, .iconst 1, 1), (217, .goto 43, 3), (220, .iconst 0, 1), (221, .goto 39, 3), (224, .iload 6, 2), (226, .bipush 106, 2), (228, .if_icmp .ne 17, 3), (231, .iload 7, 2), (233, .iconst 1, 1), (234, .if_icmp .ne 7, 3), (237, .iconst 1, 1), (238, .goto 22, 3), (241, .iconst 0, 1), (242, .goto 18, 3), (245, .iload 8, 2), (247, .ifCond .eq 8, 3), (250, .iload 9, 2), (252, .ifCond .eq 7, 3), (255, .iconst 1, 1), (256, .goto 4, 3), (259, .iconst 0, 1), (260, .bastore, 1), (261, .iinc 2 1, 3), (264, .iinc 3 1, 3), (267, .goto (-263), 3), (270, .aload_n 0, 1), (271, .getfield 107, 3), (274, .iconst 0, 1), (275, .baload, 1), (276, .ireturn, 1)]
theorem tb_X12_isTextSo : ix_tab cX12_isTextSo tab_X12_isTextSo := by
  unfold ix_tab
  decide +kernel
noncomputable def f_X12_isTextSo_264 (n : Nat) (z : ix_Z) (rec4 : Int32 → Int32 → ix_D2 → Option (Int32 × ix_D2)) (a0 : Nat) (x1 : Int32) (x2 : Int32) (x3 : Int32) (d : ix_D2) : Option (Int32 × ix_D2) :=
  ix_lt (x3 + 1) (fun x3_44 => rec4 x2 x3_44 d)
noncomputable def f_X12_isTextSo_260 (n : Nat) (z : ix_Z) (rec4 : Int32 → Int32 → ix_D2 → Option (Int32 × ix_D2)) (a0 : Nat) (x1 : Int32) (x2 : Int32) (x3 : Int32) (s0 : Int32) (s1 : Int32) (s2 : Nat) (d : ix_D2) : Option (Int32 × ix_D2) :=
  ix_ck (ix_ix z 22 s2 s1) (ix_lt (ix_di d s2 (ix_n s1) (vp_nar .boolean s0)) (fun d_40 => ix_lt (x2 + 1) (fun x2_42 => f_X12_isTextSo_264 n z rec4 a0 x1 x2_42 x3 d_40)))
noncomputable def f_X12_isTextSo_255 (n : Nat) (z : ix_Z) (rec4 : Int32 → Int32 → ix_D2 → Option (Int32 × ix_D2)) (a0 : Nat) (x1 : Int32) (x2 : Int32) (x3 : Int32) (s0 : Int32) (s1 : Nat) (d : ix_D2) : Option (Int32 × ix_D2) :=
  f_X12_isTextSo_260 n z rec4 a0 x1 x2 x3 1 s0 s1 d
noncomputable def f_X12_isTextSo_142 (n : Nat) (z : ix_Z) (rec4 : Int32 → Int32 → ix_D2 → Option (Int32 × ix_D2)) (rec119 : Int32 → Int32 → ix_D2 → Option (Int32 × ix_D2)) (a0 : Nat) (x1 : Int32) (x2 : Int32) (x3 : Int32) (x5 : Int32) (x6 : Int32) (x8 : Int32) (s0 : Int32) (s1 : Int32) (d : ix_D2) : Option (Int32 × ix_D2) :=
  ix_lt (s1 + s0) (fun x7_55 => ix_lt (x8 + 1) (fun x8_57 => rec119 x7_55 x8_57 d))
noncomputable def b_X12_isTextSo_119 (n : Nat) (z : ix_Z) (rec4 : Int32 → Int32 → ix_D2 → Option (Int32 × ix_D2)) (a0 : Nat) (x1 : Int32) (x2 : Int32) (x3 : Int32) (x5 : Int32) (x6 : Int32) (rec119 : Int32 → Int32 → ix_D2 → Option (Int32 × ix_D2)) (x7 : Int32) (x8 : Int32) (d : ix_D2) : Option (Int32 × ix_D2) :=
  ix_if (x2 ≤ x8) (ix_ck (ix_ok z [11] a0) (ix_bd1 (z.1 a0 55) (fun b_25 => ix_ck (ix_ix z 22 b_25 (x2 - x5)) (ix_lt (d.1 b_25 (ix_n (x2 - x5))) (fun x8_28 => ix_ck (ix_ix z 22 b_25 (x2 - 1)) (ix_lt (d.1 b_25 (ix_n (x2 - 1))) (fun x9_31 => ix_lt (x2 - x5) (fun x2_33 => ix_if (x6 = 38) (ix_if (x7 = x5) (f_X12_isTextSo_260 n z rec4 a0 x1 x2_33 x3 1 x2_33 b_25 d) (f_X12_isTextSo_260 n z rec4 a0 x1 x2_33 x3 0 x2_33 b_25 d)) (ix_if (x6 = 124) (ix_if (x7 ≤ 0) (f_X12_isTextSo_260 n z rec4 a0 x1 x2_33 x3 0 x2_33 b_25 d) (f_X12_isTextSo_260 n z rec4 a0 x1 x2_33 x3 1 x2_33 b_25 d)) (ix_if (x6 = 106) (ix_if (x7 = 1) (f_X12_isTextSo_260 n z rec4 a0 x1 x2_33 x3 1 x2_33 b_25 d) (f_X12_isTextSo_260 n z rec4 a0 x1 x2_33 x3 0 x2_33 b_25 d)) (ix_if (x8_28 = 0) (f_X12_isTextSo_255 n z rec4 a0 x1 x2_33 x3 x2_33 b_25 d) (ix_if (x9_31 = 0) (f_X12_isTextSo_260 n z rec4 a0 x1 x2_33 x3 0 x2_33 b_25 d) (f_X12_isTextSo_255 n z rec4 a0 x1 x2_33 x3 x2_33 b_25 d))))))))))))) (ix_ck (ix_ok z [11] a0) (ix_bd1 (z.1 a0 55) (fun b_51 => ix_ck (ix_ix z 22 b_51 x8) (ix_if (d.1 b_51 (ix_n x8) = 0) (f_X12_isTextSo_142 n z rec4 rec119 a0 x1 x2 x3 x5 x6 x8 0 x7 d) (f_X12_isTextSo_142 n z rec4 rec119 a0 x1 x2 x3 x5 x6 x8 1 x7 d)))))
noncomputable def f_X12_isTextSo_119 (n : Nat) (z : ix_Z) (rec4 : Int32 → Int32 → ix_D2 → Option (Int32 × ix_D2)) (a0 : Nat) (x1 : Int32) (x2 : Int32) (x3 : Int32) (x5 : Int32) (x6 : Int32) (x7 : Int32) (x8 : Int32) (d : ix_D2) : Option (Int32 × ix_D2) := ix_fix (b_X12_isTextSo_119 n z rec4 a0 x1 x2 x3 x5 x6) (fun _ _ _ => none) n x7 x8 d
noncomputable def f_X12_isTextSo_90 (n : Nat) (z : ix_Z) (rec4 : Int32 → Int32 → ix_D2 → Option (Int32 × ix_D2)) (a0 : Nat) (x1 : Int32) (x2 : Int32) (x3 : Int32) (s0 : Int32) (s1 : Int32) (s2 : Nat) (d : ix_D2) : Option (Int32 × ix_D2) :=
  ix_ck (ix_ix z 22 s2 s1) (ix_lt (ix_di d s2 (ix_n s1) (vp_nar .boolean s0)) (fun d_64 => f_X12_isTextSo_264 n z rec4 a0 x1 x2 x3 d_64))
noncomputable def b_X12_isTextSo_4 (n : Nat) (z : ix_Z)  (a0 : Nat) (x1 : Int32) (rec4 : Int32 → Int32 → ix_D2 → Option (Int32 × ix_D2)) (x2 : Int32) (x3 : Int32) (d : ix_D2) : Option (Int32 × ix_D2) :=
  ix_ck (ix_ok z [11] a0) (ix_bd1 (z.1 a0 22) (fun b_2 => ix_ck (ix_ix z 20 b_2 x1) (ix_if (d.1 b_2 (ix_n x1) ≤ x3) (ix_bd1 (z.1 a0 55) (fun b_6 => ix_ck (ix_ix z 22 b_6 0) (ix_ck (d.1 b_6 (ix_n 0) = 0 ∨ d.1 b_6 (ix_n 0) = 1) (some (d.1 b_6 (ix_n 0), d))))) (ix_bd1 (z.1 a0 21) (fun b_10 => ix_ck (ix_ix z 20 b_10 ((60 * x1) + x3)) (ix_lt (d.1 b_10 (ix_n ((60 * x1) + x3))) (fun x4_13 => ix_if (0 ≤ x4_13) (ix_if (x4_13 = 0) (ix_bd1 (z.1 a0 55) (fun b_59 => ix_ck (ix_ix z 22 b_59 (x2 - 1)) (ix_if (d.1 b_59 (ix_n (x2 - 1)) = 0) (f_X12_isTextSo_90 n z rec4 a0 x1 x2 x3 1 (x2 - 1) b_59 d) (f_X12_isTextSo_90 n z rec4 a0 x1 x2 x3 0 (x2 - 1) b_59 d)))) (ix_lt (x4_13 - x4_13 / 1000 * 1000) (fun x5_17 => ix_lt (x4_13 / 1000) (fun x6_19 => ix_lt (x2 - x5_17) (fun x8_21 => f_X12_isTextSo_119 n z rec4 a0 x1 x2 x3 x5_17 x6_19 0 x8_21 d))))) (ix_bd1 (z.1 a0 55) (fun b_66 => ix_bd1 (z.1 a0 16) (fun b_68 => ix_ck (ix_ix z 20 b_68 (((30 * x1) - x4_13) - 1)) (ix_bd2 (f_X12_isTrue n z a0 (d.1 b_68 (ix_n (((30 * x1) - x4_13) - 1))) d) (fun r_73 d_71 => ix_ck (ix_ix z 22 b_66 x2) (ix_lt (ix_di d_71 b_66 (ix_n x2) (vp_nar .boolean r_73)) (fun d_75 => ix_lt (x2 + 1) (fun x2_77 => f_X12_isTextSo_264 n z rec4 a0 x1 x2_77 x3 d_75)))))))))))))))
noncomputable def f_X12_isTextSo_4 (n : Nat) (z : ix_Z)  (a0 : Nat) (x1 : Int32) (x2 : Int32) (x3 : Int32) (d : ix_D2) : Option (Int32 × ix_D2) := ix_fix (b_X12_isTextSo_4 n z  a0 x1) (fun _ _ _ => none) n x2 x3 d
noncomputable def f_X12_isTextSo (n : Nat) (z : ix_Z) (a0 : Nat) (x1 : Int32) (d : ix_D2) : Option (Int32 × ix_D2) :=
  f_X12_isTextSo_4 n z  a0 x1 0 0 d
set_option maxRecDepth 20000 in
theorem t_X12_isTextSo_264 {l : Launch} {p : Program} {e : Env} {s : State} {m : MethodId} {args : Array Value} {below : List Frame} {meth : Method} {c : Code} {K : ix_Cx} (hKp : ix_Kp K) {n : Nat} {z : ix_Z} (X : ix_X p s m args c K cX12_isTextSo RX12 10) (hr : meth.sig.returnType = (some .boolean)) (hlk : meth.locks = false) {rec4 : Int32 → Int32 → ix_D2 → Option (Int32 × ix_D2)} {a0 : Nat} {x1 : Int32} {x2 : Int32} {x3 : Int32} {r : Int32} {d1 : ix_D2} (hrec4 : ∀ (x2 : Int32) (x3 : Int32) (d : ix_D2), rec4 x2 x3 d = some (r, d1) → ix_G p l e (ix_rm 1 21 0 0) s m args below meth c (MQ below (ix_Post K (some (.int r)) (ix_w z d1)) args s 0 0 (ix_A K)) K 10 0 0 4 [(0, .ref (K.2.2.1 + a0)), (1, .int x1), (2, .int x2), (3, .int x3)] [] (ix_w z d)) {d : ix_D2} (h : f_X12_isTextSo_264 n z rec4 a0 x1 x2 x3 d = some (r, d1)) : ix_G p l e (ix_rm 1 21 0 0) s m args below meth c (MQ below (ix_Post K (some (.int r)) (ix_w z d1)) args s 0 0 (ix_A K)) K 10 0 0 264 [(0, .ref (K.2.2.1 + a0)), (1, .int x1), (2, .int x2), (3, .int x3)] [] (ix_w z d) := by
  unfold f_X12_isTextSo_264 at h
  obtain ⟨x3_44, e_45, h⟩ := ix_lt_ex h
  refine ix_iinc (i := 3) (j := 3) (v := x3_44) (L1 := [(3, .int x3_44), (0, .ref (K.2.2.1 + a0)), (1, .int x1), (2, .int x2)]) X (ix_tb_at tb_X12_isTextSo 147 rfl) rfl (by rw [oi_1]; exact e_45.symm) (Nat.le_of_ble_eq_true rfl) rfl (pc1 := 267) rfl ?_
  refine ix_goto (tgt := 4) X (ix_tb_at tb_X12_isTextSo 148 rfl) (by decide) ?_
  refine ix_sub (L1 := [(0, .ref (K.2.2.1 + a0)), (1, .int x1), (2, .int x2), (3, .int x3_44)]) [1, 2, 3, 0] rfl ?_
  exact hrec4 x2 x3_44 d h
set_option maxRecDepth 20000 in
theorem t_X12_isTextSo_260 {l : Launch} {p : Program} {e : Env} {s : State} {m : MethodId} {args : Array Value} {below : List Frame} {meth : Method} {c : Code} {K : ix_Cx} (hKp : ix_Kp K) {n : Nat} {z : ix_Z} (X : ix_X p s m args c K cX12_isTextSo RX12 10) (hr : meth.sig.returnType = (some .boolean)) (hlk : meth.locks = false) {rec4 : Int32 → Int32 → ix_D2 → Option (Int32 × ix_D2)} {a0 : Nat} {x1 : Int32} {x2 : Int32} {x3 : Int32} {s0 : Int32} {s1 : Int32} {s2 : Nat} {r : Int32} {d1 : ix_D2} (hrec4 : ∀ (x2 : Int32) (x3 : Int32) (d : ix_D2), rec4 x2 x3 d = some (r, d1) → ix_G p l e (ix_rm 1 21 0 0) s m args below meth c (MQ below (ix_Post K (some (.int r)) (ix_w z d1)) args s 0 0 (ix_A K)) K 10 0 0 4 [(0, .ref (K.2.2.1 + a0)), (1, .int x1), (2, .int x2), (3, .int x3)] [] (ix_w z d)) {d : ix_D2} (h : f_X12_isTextSo_260 n z rec4 a0 x1 x2 x3 s0 s1 s2 d = some (r, d1)) : ix_G p l e (ix_rm 1 21 0 0) s m args below meth c (MQ below (ix_Post K (some (.int r)) (ix_w z d1)) args s 0 0 (ix_A K)) K 10 0 0 260 [(0, .ref (K.2.2.1 + a0)), (1, .int x1), (2, .int x2), (3, .int x3)] [.int s0, .int s1, .ref (K.2.2.1 + s2)] (ix_w z d) := by
  unfold f_X12_isTextSo_260 at h
  obtain ⟨k_39, h⟩ := ix_ck_some h
  obtain ⟨d_40, e_41, h⟩ := ix_lt_ex h
  refine iz_zast X k_39 (ix_tb_at tb_X12_isTextSo 145 rfl) e_41 (pc1 := 261) rfl ?_
  obtain ⟨x2_42, e_43, h⟩ := ix_lt_ex h
  refine ix_iinc (i := 2) (j := 2) (v := x2_42) (L1 := [(2, .int x2_42), (0, .ref (K.2.2.1 + a0)), (1, .int x1), (3, .int x3)]) X (ix_tb_at tb_X12_isTextSo 146 rfl) rfl (by rw [oi_1]; exact e_43.symm) (Nat.le_of_ble_eq_true rfl) rfl (pc1 := 264) rfl ?_
  refine ix_sub (L1 := [(0, .ref (K.2.2.1 + a0)), (1, .int x1), (2, .int x2_42), (3, .int x3)]) [1, 2, 0, 3] rfl ?_
  exact t_X12_isTextSo_264 hKp X hr hlk hrec4 h
set_option maxRecDepth 20000 in
theorem t_X12_isTextSo_255 {l : Launch} {p : Program} {e : Env} {s : State} {m : MethodId} {args : Array Value} {below : List Frame} {meth : Method} {c : Code} {K : ix_Cx} (hKp : ix_Kp K) {n : Nat} {z : ix_Z} (X : ix_X p s m args c K cX12_isTextSo RX12 10) (hr : meth.sig.returnType = (some .boolean)) (hlk : meth.locks = false) {rec4 : Int32 → Int32 → ix_D2 → Option (Int32 × ix_D2)} {a0 : Nat} {x1 : Int32} {x2 : Int32} {x3 : Int32} {s0 : Int32} {s1 : Nat} {r : Int32} {d1 : ix_D2} (hrec4 : ∀ (x2 : Int32) (x3 : Int32) (d : ix_D2), rec4 x2 x3 d = some (r, d1) → ix_G p l e (ix_rm 1 21 0 0) s m args below meth c (MQ below (ix_Post K (some (.int r)) (ix_w z d1)) args s 0 0 (ix_A K)) K 10 0 0 4 [(0, .ref (K.2.2.1 + a0)), (1, .int x1), (2, .int x2), (3, .int x3)] [] (ix_w z d)) {d : ix_D2} (h : f_X12_isTextSo_255 n z rec4 a0 x1 x2 x3 s0 s1 d = some (r, d1)) : ix_G p l e (ix_rm 1 21 0 0) s m args below meth c (MQ below (ix_Post K (some (.int r)) (ix_w z d1)) args s 0 0 (ix_A K)) K 10 0 0 255 [(0, .ref (K.2.2.1 + a0)), (1, .int x1), (2, .int x2), (3, .int x3)] [.int s0, .ref (K.2.2.1 + s1)] (ix_w z d) := by
  unfold f_X12_isTextSo_255 at h
  refine ix_iconst (v := 1) X (ix_tb_at tb_X12_isTextSo 142 rfl) (by decide) (pc1 := 256) rfl ?_
  refine ix_goto (tgt := 260) X (ix_tb_at tb_X12_isTextSo 143 rfl) (by decide) ?_
  refine ix_sub (L1 := [(0, .ref (K.2.2.1 + a0)), (1, .int x1), (2, .int x2), (3, .int x3)]) [0, 1, 2, 3] rfl ?_
  exact t_X12_isTextSo_260 hKp X hr hlk hrec4 h
set_option maxRecDepth 20000 in
theorem t_X12_isTextSo_142 {l : Launch} {p : Program} {e : Env} {s : State} {m : MethodId} {args : Array Value} {below : List Frame} {meth : Method} {c : Code} {K : ix_Cx} (hKp : ix_Kp K) {n : Nat} {z : ix_Z} (X : ix_X p s m args c K cX12_isTextSo RX12 10) (hr : meth.sig.returnType = (some .boolean)) (hlk : meth.locks = false) {rec4 : Int32 → Int32 → ix_D2 → Option (Int32 × ix_D2)} {rec119 : Int32 → Int32 → ix_D2 → Option (Int32 × ix_D2)} {a0 : Nat} {x1 : Int32} {x2 : Int32} {x3 : Int32} {x5 : Int32} {x6 : Int32} {x8 : Int32} {s0 : Int32} {s1 : Int32} {r : Int32} {d1 : ix_D2} (hrec4 : ∀ (x2 : Int32) (x3 : Int32) (d : ix_D2), rec4 x2 x3 d = some (r, d1) → ix_G p l e (ix_rm 1 21 0 0) s m args below meth c (MQ below (ix_Post K (some (.int r)) (ix_w z d1)) args s 0 0 (ix_A K)) K 10 0 0 4 [(0, .ref (K.2.2.1 + a0)), (1, .int x1), (2, .int x2), (3, .int x3)] [] (ix_w z d)) (hrec119 : ∀ (x7 : Int32) (x8 : Int32) (d : ix_D2), rec119 x7 x8 d = some (r, d1) → ix_G p l e (ix_rm 1 21 0 0) s m args below meth c (MQ below (ix_Post K (some (.int r)) (ix_w z d1)) args s 0 0 (ix_A K)) K 10 0 0 119 [(0, .ref (K.2.2.1 + a0)), (1, .int x1), (2, .int x2), (3, .int x3), (5, .int x5), (6, .int x6), (7, .int x7), (8, .int x8)] [] (ix_w z d)) {d : ix_D2} (h : f_X12_isTextSo_142 n z rec4 rec119 a0 x1 x2 x3 x5 x6 x8 s0 s1 d = some (r, d1)) : ix_G p l e (ix_rm 1 21 0 0) s m args below meth c (MQ below (ix_Post K (some (.int r)) (ix_w z d1)) args s 0 0 (ix_A K)) K 10 0 0 142 [(0, .ref (K.2.2.1 + a0)), (1, .int x1), (2, .int x2), (3, .int x3), (5, .int x5), (6, .int x6), (8, .int x8)] [.int s0, .int s1] (ix_w z d) := by
  unfold f_X12_isTextSo_142 at h
  refine ix_iadd X (ix_tb_at tb_X12_isTextSo 84 rfl) (pc1 := 143) rfl ?_
  obtain ⟨x7_55, e_56, h⟩ := ix_lt_ex h
  refine ix_nmi e_56 ?_
  refine ix_istore (i := 7) (L1 := [(7, .int x7_55), (0, .ref (K.2.2.1 + a0)), (1, .int x1), (2, .int x2), (3, .int x3), (5, .int x5), (6, .int x6), (8, .int x8)]) X (ix_tb_at tb_X12_isTextSo 85 rfl) (Nat.le_of_ble_eq_true rfl) rfl (pc1 := 145) rfl ?_
  obtain ⟨x8_57, e_58, h⟩ := ix_lt_ex h
  refine ix_iinc (i := 8) (j := 7) (v := x8_57) (L1 := [(8, .int x8_57), (7, .int x7_55), (0, .ref (K.2.2.1 + a0)), (1, .int x1), (2, .int x2), (3, .int x3), (5, .int x5), (6, .int x6)]) X (ix_tb_at tb_X12_isTextSo 86 rfl) rfl (by rw [oi_1]; exact e_58.symm) (Nat.le_of_ble_eq_true rfl) rfl (pc1 := 148) rfl ?_
  refine ix_goto (tgt := 119) X (ix_tb_at tb_X12_isTextSo 87 rfl) (by decide) ?_
  refine ix_sub (L1 := [(0, .ref (K.2.2.1 + a0)), (1, .int x1), (2, .int x2), (3, .int x3), (5, .int x5), (6, .int x6), (7, .int x7_55), (8, .int x8_57)]) [2, 3, 4, 5, 6, 7, 1, 0] rfl ?_
  exact hrec119 x7_55 x8_57 d h
set_option maxRecDepth 20000 in
theorem tb_X12_isTextSo_119 {l : Launch} {p : Program} {e : Env} {s : State} {m : MethodId} {args : Array Value} {below : List Frame} {meth : Method} {c : Code} {K : ix_Cx} (hKp : ix_Kp K) {n : Nat} {z : ix_Z} (X : ix_X p s m args c K cX12_isTextSo RX12 10) (hr : meth.sig.returnType = (some .boolean)) (hlk : meth.locks = false) {rec4 : Int32 → Int32 → ix_D2 → Option (Int32 × ix_D2)} {a0 : Nat} {x1 : Int32} {x2 : Int32} {x3 : Int32} {x5 : Int32} {x6 : Int32} {rec119 : Int32 → Int32 → ix_D2 → Option (Int32 × ix_D2)} {r : Int32} {d1 : ix_D2} (hrec4 : ∀ (x2 : Int32) (x3 : Int32) (d : ix_D2), rec4 x2 x3 d = some (r, d1) → ix_G p l e (ix_rm 1 21 0 0) s m args below meth c (MQ below (ix_Post K (some (.int r)) (ix_w z d1)) args s 0 0 (ix_A K)) K 10 0 0 4 [(0, .ref (K.2.2.1 + a0)), (1, .int x1), (2, .int x2), (3, .int x3)] [] (ix_w z d)) (hrec119 : ∀ (x7 : Int32) (x8 : Int32) (d : ix_D2), rec119 x7 x8 d = some (r, d1) → ix_G p l e (ix_rm 1 21 0 0) s m args below meth c (MQ below (ix_Post K (some (.int r)) (ix_w z d1)) args s 0 0 (ix_A K)) K 10 0 0 119 [(0, .ref (K.2.2.1 + a0)), (1, .int x1), (2, .int x2), (3, .int x3), (5, .int x5), (6, .int x6), (7, .int x7), (8, .int x8)] [] (ix_w z d)) {x7 : Int32} {x8 : Int32} {d : ix_D2} (h : b_X12_isTextSo_119 n z rec4 a0 x1 x2 x3 x5 x6 rec119 x7 x8 d = some (r, d1)) : ix_G p l e (ix_rm 1 21 0 0) s m args below meth c (MQ below (ix_Post K (some (.int r)) (ix_w z d1)) args s 0 0 (ix_A K)) K 10 0 0 119 [(0, .ref (K.2.2.1 + a0)), (1, .int x1), (2, .int x2), (3, .int x3), (5, .int x5), (6, .int x6), (7, .int x7), (8, .int x8)] [] (ix_w z d) := by
  unfold b_X12_isTextSo_119 at h
  refine ix_iload (i := 8) (j := 7) X (ix_tb_at tb_X12_isTextSo 72 rfl) rfl (pc1 := 121) rfl ?_
  refine ix_iload_n (i := 2) (j := 2) X (ix_tb_at tb_X12_isTextSo 73 rfl) rfl rfl (pc1 := 122) rfl ?_
  refine ix_icmp_ge (tgt := 151) X (ix_tb_at tb_X12_isTextSo 74 rfl) (by decide) (pc1 := 125) rfl (fun q_23 => ?_) (fun q_23 => ?_)
  · have h := ix_ift q_23 h
    refine ix_aload_n (i := 0) (j := 0) X (ix_tb_at tb_X12_isTextSo 88 rfl) rfl rfl (pc1 := 152) rfl ?_
    obtain ⟨k_24, h⟩ := ix_ck_some h
    obtain ⟨b_25, q_26, h⟩ := ix_bd1_ex h
    refine iz_getR X fl_RX12_107 k_24 q_26 (ix_tb_at tb_X12_isTextSo 89 rfl) (pc1 := 155) rfl ?_
    refine ix_iload_n (i := 2) (j := 2) X (ix_tb_at tb_X12_isTextSo 90 rfl) rfl rfl (pc1 := 156) rfl ?_
    refine ix_iload (i := 5) (j := 4) X (ix_tb_at tb_X12_isTextSo 91 rfl) rfl (pc1 := 158) rfl ?_
    refine ix_isub X (ix_tb_at tb_X12_isTextSo 92 rfl) (pc1 := 159) rfl ?_
    obtain ⟨k_27, h⟩ := ix_ck_some h
    refine iz_zald X k_27 (ix_tb_at tb_X12_isTextSo 93 rfl) (pc1 := 160) rfl ?_
    obtain ⟨x8_28, e_29, h⟩ := ix_lt_ex h
    refine ix_nmi e_29 ?_
    refine ix_istore (i := 8) (L1 := [(8, .int x8_28), (0, .ref (K.2.2.1 + a0)), (1, .int x1), (2, .int x2), (3, .int x3), (5, .int x5), (6, .int x6), (7, .int x7)]) X (ix_tb_at tb_X12_isTextSo 94 rfl) (Nat.le_of_ble_eq_true rfl) rfl (pc1 := 162) rfl ?_
    refine ix_aload_n (i := 0) (j := 1) X (ix_tb_at tb_X12_isTextSo 95 rfl) rfl rfl (pc1 := 163) rfl ?_
    refine iz_getR X fl_RX12_107 k_24 q_26 (ix_tb_at tb_X12_isTextSo 96 rfl) (pc1 := 166) rfl ?_
    refine ix_iload_n (i := 2) (j := 3) X (ix_tb_at tb_X12_isTextSo 97 rfl) rfl rfl (pc1 := 167) rfl ?_
    refine ix_iconst (v := 1) X (ix_tb_at tb_X12_isTextSo 98 rfl) (by decide) (pc1 := 168) rfl ?_
    refine ix_isub X (ix_tb_at tb_X12_isTextSo 99 rfl) (pc1 := 169) rfl ?_
    obtain ⟨k_30, h⟩ := ix_ck_some h
    refine iz_zald X k_30 (ix_tb_at tb_X12_isTextSo 100 rfl) (pc1 := 170) rfl ?_
    obtain ⟨x9_31, e_32, h⟩ := ix_lt_ex h
    refine ix_nmi e_32 ?_
    refine ix_istore (i := 9) (L1 := [(9, .int x9_31), (8, .int x8_28), (0, .ref (K.2.2.1 + a0)), (1, .int x1), (2, .int x2), (3, .int x3), (5, .int x5), (6, .int x6), (7, .int x7)]) X (ix_tb_at tb_X12_isTextSo 101 rfl) (Nat.le_of_ble_eq_true rfl) rfl (pc1 := 172) rfl ?_
    refine ix_iload_n (i := 2) (j := 4) X (ix_tb_at tb_X12_isTextSo 102 rfl) rfl rfl (pc1 := 173) rfl ?_
    refine ix_iload (i := 5) (j := 6) X (ix_tb_at tb_X12_isTextSo 103 rfl) rfl (pc1 := 175) rfl ?_
    refine ix_isub X (ix_tb_at tb_X12_isTextSo 104 rfl) (pc1 := 176) rfl ?_
    obtain ⟨x2_33, e_34, h⟩ := ix_lt_ex h
    refine ix_nmi e_34 ?_
    refine ix_istore_n (i := 2) (L1 := [(2, .int x2_33), (9, .int x9_31), (8, .int x8_28), (0, .ref (K.2.2.1 + a0)), (1, .int x1), (3, .int x3), (5, .int x5), (6, .int x6), (7, .int x7)]) X (ix_tb_at tb_X12_isTextSo 105 rfl) rfl (Nat.le_of_ble_eq_true rfl) rfl (pc1 := 177) rfl ?_
    refine ix_aload_n (i := 0) (j := 3) X (ix_tb_at tb_X12_isTextSo 106 rfl) rfl rfl (pc1 := 178) rfl ?_
    refine iz_getR X fl_RX12_107 k_24 q_26 (ix_tb_at tb_X12_isTextSo 107 rfl) (pc1 := 181) rfl ?_
    refine ix_iload_n (i := 2) (j := 0) X (ix_tb_at tb_X12_isTextSo 108 rfl) rfl rfl (pc1 := 182) rfl ?_
    refine ix_iload (i := 6) (j := 7) X (ix_tb_at tb_X12_isTextSo 109 rfl) rfl (pc1 := 184) rfl ?_
    refine ix_bipush (v := 38) X (ix_tb_at tb_X12_isTextSo 110 rfl) (by decide) (pc1 := 186) rfl ?_
    refine ix_icmp_ne (tgt := 204) X (ix_tb_at tb_X12_isTextSo 111 rfl) (by decide) (pc1 := 189) rfl (fun q_35 => ?_) (fun q_35 => ?_)
    · have h := ix_iff q_35 h
      refine ix_iload (i := 6) (j := 7) X (ix_tb_at tb_X12_isTextSo 119 rfl) rfl (pc1 := 206) rfl ?_
      refine ix_bipush (v := 124) X (ix_tb_at tb_X12_isTextSo 120 rfl) (by decide) (pc1 := 208) rfl ?_
      refine ix_icmp_ne (tgt := 224) X (ix_tb_at tb_X12_isTextSo 121 rfl) (by decide) (pc1 := 211) rfl (fun q_36 => ?_) (fun q_36 => ?_)
      · have h := ix_iff q_36 h
        refine ix_iload (i := 6) (j := 7) X (ix_tb_at tb_X12_isTextSo 128 rfl) rfl (pc1 := 226) rfl ?_
        refine ix_bipush (v := 106) X (ix_tb_at tb_X12_isTextSo 129 rfl) (by decide) (pc1 := 228) rfl ?_
        refine ix_icmp_ne (tgt := 245) X (ix_tb_at tb_X12_isTextSo 130 rfl) (by decide) (pc1 := 231) rfl (fun q_37 => ?_) (fun q_37 => ?_)
        · have h := ix_iff q_37 h
          refine ix_iload (i := 8) (j := 2) X (ix_tb_at tb_X12_isTextSo 138 rfl) rfl (pc1 := 247) rfl ?_
          refine ix_if_eq (tgt := 255) X (ix_tb_at tb_X12_isTextSo 139 rfl) (by decide) (pc1 := 250) rfl (fun q_38 => ?_) (fun q_38 => ?_)
          · have h := ix_ift q_38 h
            refine ix_sub (L1 := [(0, .ref (K.2.2.1 + a0)), (1, .int x1), (2, .int x2_33), (3, .int x3)]) [3, 4, 0, 5] rfl ?_
            exact t_X12_isTextSo_255 hKp X hr hlk hrec4 h
          · have h := ix_iff q_38 h
            refine ix_iload (i := 9) (j := 1) X (ix_tb_at tb_X12_isTextSo 140 rfl) rfl (pc1 := 252) rfl ?_
            refine ix_if_eq (tgt := 259) X (ix_tb_at tb_X12_isTextSo 141 rfl) (by decide) (pc1 := 255) rfl (fun q_46 => ?_) (fun q_46 => ?_)
            · have h := ix_ift q_46 h
              refine ix_iconst (v := 0) X (ix_tb_at tb_X12_isTextSo 144 rfl) (by decide) (pc1 := 260) rfl ?_
              refine ix_sub (L1 := [(0, .ref (K.2.2.1 + a0)), (1, .int x1), (2, .int x2_33), (3, .int x3)]) [3, 4, 0, 5] rfl ?_
              exact t_X12_isTextSo_260 hKp X hr hlk hrec4 h
            · have h := ix_iff q_46 h
              refine ix_sub (L1 := [(0, .ref (K.2.2.1 + a0)), (1, .int x1), (2, .int x2_33), (3, .int x3)]) [3, 4, 0, 5] rfl ?_
              exact t_X12_isTextSo_255 hKp X hr hlk hrec4 h
        · have h := ix_ift q_37 h
          refine ix_iload (i := 7) (j := 8) X (ix_tb_at tb_X12_isTextSo 131 rfl) rfl (pc1 := 233) rfl ?_
          refine ix_iconst (v := 1) X (ix_tb_at tb_X12_isTextSo 132 rfl) (by decide) (pc1 := 234) rfl ?_
          refine ix_icmp_ne (tgt := 241) X (ix_tb_at tb_X12_isTextSo 133 rfl) (by decide) (pc1 := 237) rfl (fun q_47 => ?_) (fun q_47 => ?_)
          · have h := ix_iff q_47 h
            refine ix_iconst (v := 0) X (ix_tb_at tb_X12_isTextSo 136 rfl) (by decide) (pc1 := 242) rfl ?_
            refine ix_goto (tgt := 260) X (ix_tb_at tb_X12_isTextSo 137 rfl) (by decide) ?_
            refine ix_sub (L1 := [(0, .ref (K.2.2.1 + a0)), (1, .int x1), (2, .int x2_33), (3, .int x3)]) [3, 4, 0, 5] rfl ?_
            exact t_X12_isTextSo_260 hKp X hr hlk hrec4 h
          · have h := ix_ift q_47 h
            refine ix_iconst (v := 1) X (ix_tb_at tb_X12_isTextSo 134 rfl) (by decide) (pc1 := 238) rfl ?_
            refine ix_goto (tgt := 260) X (ix_tb_at tb_X12_isTextSo 135 rfl) (by decide) ?_
            refine ix_sub (L1 := [(0, .ref (K.2.2.1 + a0)), (1, .int x1), (2, .int x2_33), (3, .int x3)]) [3, 4, 0, 5] rfl ?_
            exact t_X12_isTextSo_260 hKp X hr hlk hrec4 h
      · have h := ix_ift q_36 h
        refine ix_iload (i := 7) (j := 8) X (ix_tb_at tb_X12_isTextSo 122 rfl) rfl (pc1 := 213) rfl ?_
        refine ix_if_le (tgt := 220) X (ix_tb_at tb_X12_isTextSo 123 rfl) (by decide) (pc1 := 216) rfl (fun q_48 => ?_) (fun q_48 => ?_)
        · have h := ix_ift q_48 h
          refine ix_iconst (v := 0) X (ix_tb_at tb_X12_isTextSo 126 rfl) (by decide) (pc1 := 221) rfl ?_
          refine ix_goto (tgt := 260) X (ix_tb_at tb_X12_isTextSo 127 rfl) (by decide) ?_
          refine ix_sub (L1 := [(0, .ref (K.2.2.1 + a0)), (1, .int x1), (2, .int x2_33), (3, .int x3)]) [3, 4, 0, 5] rfl ?_
          exact t_X12_isTextSo_260 hKp X hr hlk hrec4 h
        · have h := ix_iff q_48 h
          refine ix_iconst (v := 1) X (ix_tb_at tb_X12_isTextSo 124 rfl) (by decide) (pc1 := 217) rfl ?_
          refine ix_goto (tgt := 260) X (ix_tb_at tb_X12_isTextSo 125 rfl) (by decide) ?_
          refine ix_sub (L1 := [(0, .ref (K.2.2.1 + a0)), (1, .int x1), (2, .int x2_33), (3, .int x3)]) [3, 4, 0, 5] rfl ?_
          exact t_X12_isTextSo_260 hKp X hr hlk hrec4 h
    · have h := ix_ift q_35 h
      refine ix_iload (i := 7) (j := 8) X (ix_tb_at tb_X12_isTextSo 112 rfl) rfl (pc1 := 191) rfl ?_
      refine ix_iload (i := 5) (j := 6) X (ix_tb_at tb_X12_isTextSo 113 rfl) rfl (pc1 := 193) rfl ?_
      refine ix_icmp_ne (tgt := 200) X (ix_tb_at tb_X12_isTextSo 114 rfl) (by decide) (pc1 := 196) rfl (fun q_49 => ?_) (fun q_49 => ?_)
      · have h := ix_iff q_49 h
        refine ix_iconst (v := 0) X (ix_tb_at tb_X12_isTextSo 117 rfl) (by decide) (pc1 := 201) rfl ?_
        refine ix_goto (tgt := 260) X (ix_tb_at tb_X12_isTextSo 118 rfl) (by decide) ?_
        refine ix_sub (L1 := [(0, .ref (K.2.2.1 + a0)), (1, .int x1), (2, .int x2_33), (3, .int x3)]) [3, 4, 0, 5] rfl ?_
        exact t_X12_isTextSo_260 hKp X hr hlk hrec4 h
      · have h := ix_ift q_49 h
        refine ix_iconst (v := 1) X (ix_tb_at tb_X12_isTextSo 115 rfl) (by decide) (pc1 := 197) rfl ?_
        refine ix_goto (tgt := 260) X (ix_tb_at tb_X12_isTextSo 116 rfl) (by decide) ?_
        refine ix_sub (L1 := [(0, .ref (K.2.2.1 + a0)), (1, .int x1), (2, .int x2_33), (3, .int x3)]) [3, 4, 0, 5] rfl ?_
        exact t_X12_isTextSo_260 hKp X hr hlk hrec4 h
  · have h := ix_iff q_23 h
    refine ix_iload (i := 7) (j := 6) X (ix_tb_at tb_X12_isTextSo 75 rfl) rfl (pc1 := 127) rfl ?_
    refine ix_aload_n (i := 0) (j := 0) X (ix_tb_at tb_X12_isTextSo 76 rfl) rfl rfl (pc1 := 128) rfl ?_
    obtain ⟨k_50, h⟩ := ix_ck_some h
    obtain ⟨b_51, q_52, h⟩ := ix_bd1_ex h
    refine iz_getR X fl_RX12_107 k_50 q_52 (ix_tb_at tb_X12_isTextSo 77 rfl) (pc1 := 131) rfl ?_
    refine ix_iload (i := 8) (j := 7) X (ix_tb_at tb_X12_isTextSo 78 rfl) rfl (pc1 := 133) rfl ?_
    obtain ⟨k_53, h⟩ := ix_ck_some h
    refine iz_zald X k_53 (ix_tb_at tb_X12_isTextSo 79 rfl) (pc1 := 134) rfl ?_
    refine ix_if_eq (tgt := 141) X (ix_tb_at tb_X12_isTextSo 80 rfl) (by decide) (pc1 := 137) rfl (fun q_54 => ?_) (fun q_54 => ?_)
    · have h := ix_ift q_54 h
      refine ix_iconst (v := 0) X (ix_tb_at tb_X12_isTextSo 83 rfl) (by decide) (pc1 := 142) rfl ?_
      refine ix_sub (L1 := [(0, .ref (K.2.2.1 + a0)), (1, .int x1), (2, .int x2), (3, .int x3), (5, .int x5), (6, .int x6), (8, .int x8)]) [0, 1, 2, 3, 4, 5, 7] rfl ?_
      exact t_X12_isTextSo_142 hKp X hr hlk hrec4 hrec119 h
    · have h := ix_iff q_54 h
      refine ix_iconst (v := 1) X (ix_tb_at tb_X12_isTextSo 81 rfl) (by decide) (pc1 := 138) rfl ?_
      refine ix_goto (tgt := 142) X (ix_tb_at tb_X12_isTextSo 82 rfl) (by decide) ?_
      refine ix_sub (L1 := [(0, .ref (K.2.2.1 + a0)), (1, .int x1), (2, .int x2), (3, .int x3), (5, .int x5), (6, .int x6), (8, .int x8)]) [0, 1, 2, 3, 4, 5, 7] rfl ?_
      exact t_X12_isTextSo_142 hKp X hr hlk hrec4 hrec119 h
theorem t_X12_isTextSo_119 {l : Launch} {p : Program} {e : Env} {s : State} {m : MethodId} {args : Array Value} {below : List Frame} {meth : Method} {c : Code} {K : ix_Cx} (hKp : ix_Kp K) {n : Nat} {z : ix_Z} (X : ix_X p s m args c K cX12_isTextSo RX12 10) (hr : meth.sig.returnType = (some .boolean)) (hlk : meth.locks = false) {rec4 : Int32 → Int32 → ix_D2 → Option (Int32 × ix_D2)} {a0 : Nat} {x1 : Int32} {x2 : Int32} {x3 : Int32} {x5 : Int32} {x6 : Int32} {r : Int32} {d1 : ix_D2} (hrec4 : ∀ (x2 : Int32) (x3 : Int32) (d : ix_D2), rec4 x2 x3 d = some (r, d1) → ix_G p l e (ix_rm 1 21 0 0) s m args below meth c (MQ below (ix_Post K (some (.int r)) (ix_w z d1)) args s 0 0 (ix_A K)) K 10 0 0 4 [(0, .ref (K.2.2.1 + a0)), (1, .int x1), (2, .int x2), (3, .int x3)] [] (ix_w z d)) {x7 : Int32} {x8 : Int32} {d : ix_D2} (h : f_X12_isTextSo_119 n z rec4 a0 x1 x2 x3 x5 x6 x7 x8 d = some (r, d1)) : ix_G p l e (ix_rm 1 21 0 0) s m args below meth c (MQ below (ix_Post K (some (.int r)) (ix_w z d1)) args s 0 0 (ix_A K)) K 10 0 0 119 [(0, .ref (K.2.2.1 + a0)), (1, .int x1), (2, .int x2), (3, .int x3), (5, .int x5), (6, .int x6), (7, .int x7), (8, .int x8)] [] (ix_w z d) := by
  have key : ∀ (f : Nat) (x7 : Int32) (x8 : Int32) (d : ix_D2), ix_fix (b_X12_isTextSo_119 n z rec4 a0 x1 x2 x3 x5 x6) (fun _ _ _ => none) f x7 x8 d = some (r, d1) → ix_G p l e (ix_rm 1 21 0 0) s m args below meth c (MQ below (ix_Post K (some (.int r)) (ix_w z d1)) args s 0 0 (ix_A K)) K 10 0 0 119 [(0, .ref (K.2.2.1 + a0)), (1, .int x1), (2, .int x2), (3, .int x3), (5, .int x5), (6, .int x6), (7, .int x7), (8, .int x8)] [] (ix_w z d) := by
    intro f
    induction f with
    | zero =>
      intro x7 x8 d h
      have h : (none : Option (Int32 × ix_D2)) = some (r, d1) := h
      cases h
    | succ f ih =>
      intro x7 x8 d h
      exact tb_X12_isTextSo_119 hKp X hr hlk (rec119 := ix_fix (b_X12_isTextSo_119 n z rec4 a0 x1 x2 x3 x5 x6) (fun _ _ _ => none) f) hrec4 ih h
  exact key n x7 x8 d h
set_option maxRecDepth 20000 in
theorem t_X12_isTextSo_90 {l : Launch} {p : Program} {e : Env} {s : State} {m : MethodId} {args : Array Value} {below : List Frame} {meth : Method} {c : Code} {K : ix_Cx} (hKp : ix_Kp K) {n : Nat} {z : ix_Z} (X : ix_X p s m args c K cX12_isTextSo RX12 10) (hr : meth.sig.returnType = (some .boolean)) (hlk : meth.locks = false) {rec4 : Int32 → Int32 → ix_D2 → Option (Int32 × ix_D2)} {a0 : Nat} {x1 : Int32} {x2 : Int32} {x3 : Int32} {s0 : Int32} {s1 : Int32} {s2 : Nat} {r : Int32} {d1 : ix_D2} (hrec4 : ∀ (x2 : Int32) (x3 : Int32) (d : ix_D2), rec4 x2 x3 d = some (r, d1) → ix_G p l e (ix_rm 1 21 0 0) s m args below meth c (MQ below (ix_Post K (some (.int r)) (ix_w z d1)) args s 0 0 (ix_A K)) K 10 0 0 4 [(0, .ref (K.2.2.1 + a0)), (1, .int x1), (2, .int x2), (3, .int x3)] [] (ix_w z d)) {d : ix_D2} (h : f_X12_isTextSo_90 n z rec4 a0 x1 x2 x3 s0 s1 s2 d = some (r, d1)) : ix_G p l e (ix_rm 1 21 0 0) s m args below meth c (MQ below (ix_Post K (some (.int r)) (ix_w z d1)) args s 0 0 (ix_A K)) K 10 0 0 90 [(0, .ref (K.2.2.1 + a0)), (1, .int x1), (2, .int x2), (3, .int x3)] [.int s0, .int s1, .ref (K.2.2.1 + s2)] (ix_w z d) := by
  unfold f_X12_isTextSo_90 at h
  obtain ⟨k_63, h⟩ := ix_ck_some h
  obtain ⟨d_64, e_65, h⟩ := ix_lt_ex h
  refine iz_zast X k_63 (ix_tb_at tb_X12_isTextSo 56 rfl) e_65 (pc1 := 91) rfl ?_
  refine ix_goto (tgt := 264) X (ix_tb_at tb_X12_isTextSo 57 rfl) (by decide) ?_
  refine ix_sub (L1 := [(0, .ref (K.2.2.1 + a0)), (1, .int x1), (2, .int x2), (3, .int x3)]) [0, 1, 2, 3] rfl ?_
  exact t_X12_isTextSo_264 hKp X hr hlk hrec4 h
set_option maxRecDepth 20000 in
theorem tb_X12_isTextSo_4 {l : Launch} {p : Program} {e : Env} {s : State} {m : MethodId} {args : Array Value} {below : List Frame} {meth : Method} {c : Code} {K : ix_Cx} (hKp : ix_Kp K) {n : Nat} {z : ix_Z} (X : ix_X p s m args c K cX12_isTextSo RX12 10) (hr : meth.sig.returnType = (some .boolean)) (hlk : meth.locks = false)  {a0 : Nat} {x1 : Int32} {rec4 : Int32 → Int32 → ix_D2 → Option (Int32 × ix_D2)} {r : Int32} {d1 : ix_D2} (hrec4 : ∀ (x2 : Int32) (x3 : Int32) (d : ix_D2), rec4 x2 x3 d = some (r, d1) → ix_G p l e (ix_rm 1 21 0 0) s m args below meth c (MQ below (ix_Post K (some (.int r)) (ix_w z d1)) args s 0 0 (ix_A K)) K 10 0 0 4 [(0, .ref (K.2.2.1 + a0)), (1, .int x1), (2, .int x2), (3, .int x3)] [] (ix_w z d)) {x2 : Int32} {x3 : Int32} {d : ix_D2} (h : b_X12_isTextSo_4 n z  a0 x1 rec4 x2 x3 d = some (r, d1)) : ix_G p l e (ix_rm 1 21 0 0) s m args below meth c (MQ below (ix_Post K (some (.int r)) (ix_w z d1)) args s 0 0 (ix_A K)) K 10 0 0 4 [(0, .ref (K.2.2.1 + a0)), (1, .int x1), (2, .int x2), (3, .int x3)] [] (ix_w z d) := by
  unfold b_X12_isTextSo_4 at h
  refine ix_iload_n (i := 3) (j := 3) X (ix_tb_at tb_X12_isTextSo 4 rfl) rfl rfl (pc1 := 5) rfl ?_
  refine ix_aload_n (i := 0) (j := 0) X (ix_tb_at tb_X12_isTextSo 5 rfl) rfl rfl (pc1 := 6) rfl ?_
  obtain ⟨k_1, h⟩ := ix_ck_some h
  obtain ⟨b_2, q_3, h⟩ := ix_bd1_ex h
  refine iz_getR X fl_RX12_59 k_1 q_3 (ix_tb_at tb_X12_isTextSo 6 rfl) (pc1 := 9) rfl ?_
  refine ix_iload_n (i := 1) (j := 1) X (ix_tb_at tb_X12_isTextSo 7 rfl) rfl rfl (pc1 := 10) rfl ?_
  obtain ⟨k_4, h⟩ := ix_ck_some h
  refine iz_iald X k_4 (ix_tb_at tb_X12_isTextSo 8 rfl) (pc1 := 11) rfl ?_
  refine ix_icmp_ge (tgt := 270) X (ix_tb_at tb_X12_isTextSo 9 rfl) (by decide) (pc1 := 14) rfl (fun q_5 => ?_) (fun q_5 => ?_)
  · have h := ix_ift q_5 h
    refine ix_aload_n (i := 0) (j := 0) X (ix_tb_at tb_X12_isTextSo 149 rfl) rfl rfl (pc1 := 271) rfl ?_
    obtain ⟨b_6, q_7, h⟩ := ix_bd1_ex h
    refine iz_getR X fl_RX12_107 k_1 q_7 (ix_tb_at tb_X12_isTextSo 150 rfl) (pc1 := 274) rfl ?_
    refine ix_iconst (v := 0) X (ix_tb_at tb_X12_isTextSo 151 rfl) (by decide) (pc1 := 275) rfl ?_
    obtain ⟨k_8, h⟩ := ix_ck_some h
    refine iz_zald X k_8 (ix_tb_at tb_X12_isTextSo 152 rfl) (pc1 := 276) rfl ?_
    obtain ⟨k_9, h⟩ := ix_ck_some h
    exact ix_zret X hr hlk k_9 (ix_r2 (f := fun r => some (.int r)) (g := ix_w z) h) (ix_tb_at tb_X12_isTextSo 153 rfl)
  · have h := ix_iff q_5 h
    refine ix_aload_n (i := 0) (j := 0) X (ix_tb_at tb_X12_isTextSo 10 rfl) rfl rfl (pc1 := 15) rfl ?_
    obtain ⟨b_10, q_11, h⟩ := ix_bd1_ex h
    refine iz_getR X fl_RX12_56 k_1 q_11 (ix_tb_at tb_X12_isTextSo 11 rfl) (pc1 := 18) rfl ?_
    refine ix_bipush (v := 60) X (ix_tb_at tb_X12_isTextSo 12 rfl) (by decide) (pc1 := 20) rfl ?_
    refine ix_iload_n (i := 1) (j := 1) X (ix_tb_at tb_X12_isTextSo 13 rfl) rfl rfl (pc1 := 21) rfl ?_
    refine ix_imul X (ix_tb_at tb_X12_isTextSo 14 rfl) (pc1 := 22) rfl ?_
    refine ix_iload_n (i := 3) (j := 3) X (ix_tb_at tb_X12_isTextSo 15 rfl) rfl rfl (pc1 := 23) rfl ?_
    refine ix_iadd X (ix_tb_at tb_X12_isTextSo 16 rfl) (pc1 := 24) rfl ?_
    obtain ⟨k_12, h⟩ := ix_ck_some h
    refine iz_iald X k_12 (ix_tb_at tb_X12_isTextSo 17 rfl) (pc1 := 25) rfl ?_
    obtain ⟨x4_13, e_14, h⟩ := ix_lt_ex h
    refine ix_nmi e_14 ?_
    refine ix_istore (i := 4) (L1 := [(4, .int x4_13), (0, .ref (K.2.2.1 + a0)), (1, .int x1), (2, .int x2), (3, .int x3)]) X (ix_tb_at tb_X12_isTextSo 18 rfl) (Nat.le_of_ble_eq_true rfl) rfl (pc1 := 27) rfl ?_
    refine ix_iload (i := 4) (j := 0) X (ix_tb_at tb_X12_isTextSo 19 rfl) rfl (pc1 := 29) rfl ?_
    refine ix_if_ge (tgt := 62) X (ix_tb_at tb_X12_isTextSo 20 rfl) (by decide) (pc1 := 32) rfl (fun q_15 => ?_) (fun q_15 => ?_)
    · have h := ix_ift q_15 h
      refine ix_iload (i := 4) (j := 0) X (ix_tb_at tb_X12_isTextSo 39 rfl) rfl (pc1 := 64) rfl ?_
      refine ix_if_ne (tgt := 94) X (ix_tb_at tb_X12_isTextSo 40 rfl) (by decide) (pc1 := 67) rfl (fun q_16 => ?_) (fun q_16 => ?_)
      · have h := ix_iff q_16 h
        refine ix_iload (i := 4) (j := 0) X (ix_tb_at tb_X12_isTextSo 58 rfl) rfl (pc1 := 96) rfl ?_
        refine ix_sipush (v := 1000) X (ix_tb_at tb_X12_isTextSo 59 rfl) (by decide) (pc1 := 99) rfl ?_
        refine ix_irem X (ix_tb_at tb_X12_isTextSo 60 rfl) (by decide) (pc1 := 100) rfl ?_
        obtain ⟨x5_17, e_18, h⟩ := ix_lt_ex h
        refine ix_nmi e_18 ?_
        refine ix_istore (i := 5) (L1 := [(5, .int x5_17), (4, .int x4_13), (0, .ref (K.2.2.1 + a0)), (1, .int x1), (2, .int x2), (3, .int x3)]) X (ix_tb_at tb_X12_isTextSo 61 rfl) (Nat.le_of_ble_eq_true rfl) rfl (pc1 := 102) rfl ?_
        refine ix_iload (i := 4) (j := 1) X (ix_tb_at tb_X12_isTextSo 62 rfl) rfl (pc1 := 104) rfl ?_
        refine ix_sipush (v := 1000) X (ix_tb_at tb_X12_isTextSo 63 rfl) (by decide) (pc1 := 107) rfl ?_
        refine ix_idiv X (ix_tb_at tb_X12_isTextSo 64 rfl) (by decide) (pc1 := 108) rfl ?_
        obtain ⟨x6_19, e_20, h⟩ := ix_lt_ex h
        refine ix_nmi e_20 ?_
        refine ix_istore (i := 6) (L1 := [(6, .int x6_19), (5, .int x5_17), (4, .int x4_13), (0, .ref (K.2.2.1 + a0)), (1, .int x1), (2, .int x2), (3, .int x3)]) X (ix_tb_at tb_X12_isTextSo 65 rfl) (Nat.le_of_ble_eq_true rfl) rfl (pc1 := 110) rfl ?_
        refine ix_iconst (v := 0) X (ix_tb_at tb_X12_isTextSo 66 rfl) (by decide) (pc1 := 111) rfl ?_
        refine ix_istore (i := 7) (L1 := [(7, .int 0), (6, .int x6_19), (5, .int x5_17), (4, .int x4_13), (0, .ref (K.2.2.1 + a0)), (1, .int x1), (2, .int x2), (3, .int x3)]) X (ix_tb_at tb_X12_isTextSo 67 rfl) (Nat.le_of_ble_eq_true rfl) rfl (pc1 := 113) rfl ?_
        refine ix_iload_n (i := 2) (j := 6) X (ix_tb_at tb_X12_isTextSo 68 rfl) rfl rfl (pc1 := 114) rfl ?_
        refine ix_iload (i := 5) (j := 2) X (ix_tb_at tb_X12_isTextSo 69 rfl) rfl (pc1 := 116) rfl ?_
        refine ix_isub X (ix_tb_at tb_X12_isTextSo 70 rfl) (pc1 := 117) rfl ?_
        obtain ⟨x8_21, e_22, h⟩ := ix_lt_ex h
        refine ix_nmi e_22 ?_
        refine ix_istore (i := 8) (L1 := [(8, .int x8_21), (7, .int 0), (6, .int x6_19), (5, .int x5_17), (4, .int x4_13), (0, .ref (K.2.2.1 + a0)), (1, .int x1), (2, .int x2), (3, .int x3)]) X (ix_tb_at tb_X12_isTextSo 71 rfl) (Nat.le_of_ble_eq_true rfl) rfl (pc1 := 119) rfl ?_
        refine ix_sub (L1 := [(0, .ref (K.2.2.1 + a0)), (1, .int x1), (2, .int x2), (3, .int x3), (5, .int x5_17), (6, .int x6_19), (7, .int 0), (8, .int x8_21)]) [5, 6, 7, 8, 3, 2, 1, 0] rfl ?_
        exact t_X12_isTextSo_119 hKp X hr hlk hrec4 h
      · have h := ix_ift q_16 h
        refine ix_aload_n (i := 0) (j := 1) X (ix_tb_at tb_X12_isTextSo 41 rfl) rfl rfl (pc1 := 68) rfl ?_
        obtain ⟨b_59, q_60, h⟩ := ix_bd1_ex h
        refine iz_getR X fl_RX12_107 k_1 q_60 (ix_tb_at tb_X12_isTextSo 42 rfl) (pc1 := 71) rfl ?_
        refine ix_iload_n (i := 2) (j := 3) X (ix_tb_at tb_X12_isTextSo 43 rfl) rfl rfl (pc1 := 72) rfl ?_
        refine ix_iconst (v := 1) X (ix_tb_at tb_X12_isTextSo 44 rfl) (by decide) (pc1 := 73) rfl ?_
        refine ix_isub X (ix_tb_at tb_X12_isTextSo 45 rfl) (pc1 := 74) rfl ?_
        refine ix_aload_n (i := 0) (j := 1) X (ix_tb_at tb_X12_isTextSo 46 rfl) rfl rfl (pc1 := 75) rfl ?_
        refine iz_getR X fl_RX12_107 k_1 q_60 (ix_tb_at tb_X12_isTextSo 47 rfl) (pc1 := 78) rfl ?_
        refine ix_iload_n (i := 2) (j := 3) X (ix_tb_at tb_X12_isTextSo 48 rfl) rfl rfl (pc1 := 79) rfl ?_
        refine ix_iconst (v := 1) X (ix_tb_at tb_X12_isTextSo 49 rfl) (by decide) (pc1 := 80) rfl ?_
        refine ix_isub X (ix_tb_at tb_X12_isTextSo 50 rfl) (pc1 := 81) rfl ?_
        obtain ⟨k_61, h⟩ := ix_ck_some h
        refine iz_zald X k_61 (ix_tb_at tb_X12_isTextSo 51 rfl) (pc1 := 82) rfl ?_
        refine ix_if_ne (tgt := 89) X (ix_tb_at tb_X12_isTextSo 52 rfl) (by decide) (pc1 := 85) rfl (fun q_62 => ?_) (fun q_62 => ?_)
        · have h := ix_iff q_62 h
          refine ix_iconst (v := 0) X (ix_tb_at tb_X12_isTextSo 55 rfl) (by decide) (pc1 := 90) rfl ?_
          refine ix_sub (L1 := [(0, .ref (K.2.2.1 + a0)), (1, .int x1), (2, .int x2), (3, .int x3)]) [1, 2, 3, 4] rfl ?_
          exact t_X12_isTextSo_90 hKp X hr hlk hrec4 h
        · have h := ix_ift q_62 h
          refine ix_iconst (v := 1) X (ix_tb_at tb_X12_isTextSo 53 rfl) (by decide) (pc1 := 86) rfl ?_
          refine ix_goto (tgt := 90) X (ix_tb_at tb_X12_isTextSo 54 rfl) (by decide) ?_
          refine ix_sub (L1 := [(0, .ref (K.2.2.1 + a0)), (1, .int x1), (2, .int x2), (3, .int x3)]) [1, 2, 3, 4] rfl ?_
          exact t_X12_isTextSo_90 hKp X hr hlk hrec4 h
    · have h := ix_iff q_15 h
      refine ix_aload_n (i := 0) (j := 1) X (ix_tb_at tb_X12_isTextSo 21 rfl) rfl rfl (pc1 := 33) rfl ?_
      obtain ⟨b_66, q_67, h⟩ := ix_bd1_ex h
      refine iz_getR X fl_RX12_107 k_1 q_67 (ix_tb_at tb_X12_isTextSo 22 rfl) (pc1 := 36) rfl ?_
      refine ix_iload_n (i := 2) (j := 3) X (ix_tb_at tb_X12_isTextSo 23 rfl) rfl rfl (pc1 := 37) rfl ?_
      refine ix_aload_n (i := 0) (j := 1) X (ix_tb_at tb_X12_isTextSo 24 rfl) rfl rfl (pc1 := 38) rfl ?_
      refine ix_aload_n (i := 0) (j := 1) X (ix_tb_at tb_X12_isTextSo 25 rfl) rfl rfl (pc1 := 39) rfl ?_
      obtain ⟨b_68, q_69, h⟩ := ix_bd1_ex h
      refine iz_getR X fl_RX12_41 k_1 q_69 (ix_tb_at tb_X12_isTextSo 26 rfl) (pc1 := 42) rfl ?_
      refine ix_bipush (v := 30) X (ix_tb_at tb_X12_isTextSo 27 rfl) (by decide) (pc1 := 44) rfl ?_
      refine ix_iload_n (i := 1) (j := 2) X (ix_tb_at tb_X12_isTextSo 28 rfl) rfl rfl (pc1 := 45) rfl ?_
      refine ix_imul X (ix_tb_at tb_X12_isTextSo 29 rfl) (pc1 := 46) rfl ?_
      refine ix_iload (i := 4) (j := 0) X (ix_tb_at tb_X12_isTextSo 30 rfl) rfl (pc1 := 48) rfl ?_
      refine ix_isub X (ix_tb_at tb_X12_isTextSo 31 rfl) (pc1 := 49) rfl ?_
      refine ix_iconst (v := 1) X (ix_tb_at tb_X12_isTextSo 32 rfl) (by decide) (pc1 := 50) rfl ?_
      refine ix_isub X (ix_tb_at tb_X12_isTextSo 33 rfl) (pc1 := 51) rfl ?_
      obtain ⟨k_70, h⟩ := ix_ck_some h
      refine iz_iald X k_70 (ix_tb_at tb_X12_isTextSo 34 rfl) (pc1 := 52) rfl ?_
      obtain ⟨r_73, d_71, h_72, h⟩ := ix_bd2_ex h
      refine ix_callV (As := [.int (d.1 b_68 (ix_n (((30 * x1) - x4_13) - 1)))]) (rest := [.int x2, .ref (K.2.2.1 + b_66)]) (ci := 11) (T := TX12) (nf := 116) X mf_X12_isTrue mi_X12_isTrue ms_X12_isTrue rfl (Nat.le_of_ble_eq_true rfl) ml_RX12_388 ⟨Nat.le_of_ble_eq_true rfl, Nat.le_of_ble_eq_true rfl⟩ ⟨Nat.le_of_ble_eq_true rfl, Nat.le_of_ble_eq_true rfl⟩ rfl (Nat.le_of_ble_eq_true rfl) (ix_tb_at tb_X12_isTextSo 35 rfl) ⟨k_1.1, List.mem_singleton.mp k_1.2⟩ (c_X12_isTrue hKp h_72) rfl (pc1 := 55) rfl ?_
      obtain ⟨k_74, h⟩ := ix_ck_some h
      obtain ⟨d_75, e_76, h⟩ := ix_lt_ex h
      refine iz_zast X k_74 (ix_tb_at tb_X12_isTextSo 36 rfl) e_76 (pc1 := 56) rfl ?_
      obtain ⟨x2_77, e_78, h⟩ := ix_lt_ex h
      refine ix_iinc (i := 2) (j := 3) (v := x2_77) (L1 := [(2, .int x2_77), (4, .int x4_13), (0, .ref (K.2.2.1 + a0)), (1, .int x1), (3, .int x3)]) X (ix_tb_at tb_X12_isTextSo 37 rfl) rfl (by rw [oi_1]; exact e_78.symm) (Nat.le_of_ble_eq_true rfl) rfl (pc1 := 59) rfl ?_
      refine ix_goto (tgt := 264) X (ix_tb_at tb_X12_isTextSo 38 rfl) (by decide) ?_
      refine ix_sub (L1 := [(0, .ref (K.2.2.1 + a0)), (1, .int x1), (2, .int x2_77), (3, .int x3)]) [2, 3, 0, 4] rfl ?_
      exact t_X12_isTextSo_264 hKp X hr hlk hrec4 h
theorem t_X12_isTextSo_4 {l : Launch} {p : Program} {e : Env} {s : State} {m : MethodId} {args : Array Value} {below : List Frame} {meth : Method} {c : Code} {K : ix_Cx} (hKp : ix_Kp K) {n : Nat} {z : ix_Z} (X : ix_X p s m args c K cX12_isTextSo RX12 10) (hr : meth.sig.returnType = (some .boolean)) (hlk : meth.locks = false)  {a0 : Nat} {x1 : Int32} {r : Int32} {d1 : ix_D2}  {x2 : Int32} {x3 : Int32} {d : ix_D2} (h : f_X12_isTextSo_4 n z  a0 x1 x2 x3 d = some (r, d1)) : ix_G p l e (ix_rm 1 21 0 0) s m args below meth c (MQ below (ix_Post K (some (.int r)) (ix_w z d1)) args s 0 0 (ix_A K)) K 10 0 0 4 [(0, .ref (K.2.2.1 + a0)), (1, .int x1), (2, .int x2), (3, .int x3)] [] (ix_w z d) := by
  have key : ∀ (f : Nat) (x2 : Int32) (x3 : Int32) (d : ix_D2), ix_fix (b_X12_isTextSo_4 n z  a0 x1) (fun _ _ _ => none) f x2 x3 d = some (r, d1) → ix_G p l e (ix_rm 1 21 0 0) s m args below meth c (MQ below (ix_Post K (some (.int r)) (ix_w z d1)) args s 0 0 (ix_A K)) K 10 0 0 4 [(0, .ref (K.2.2.1 + a0)), (1, .int x1), (2, .int x2), (3, .int x3)] [] (ix_w z d) := by
    intro f
    induction f with
    | zero =>
      intro x2 x3 d h
      have h : (none : Option (Int32 × ix_D2)) = some (r, d1) := h
      cases h
    | succ f ih =>
      intro x2 x3 d h
      exact tb_X12_isTextSo_4 hKp X hr hlk (rec4 := ix_fix (b_X12_isTextSo_4 n z  a0 x1) (fun _ _ _ => none) f)  ih h
  exact key n x2 x3 d h
set_option maxRecDepth 20000 in
theorem c_X12_isTextSo {l : Launch} {K : ix_Cx} (hKp : ix_Kp K) {n : Nat} {z : ix_Z} {a0 : Nat} {x1 : Int32} {d : ix_D2} {r : Int32} {d1 : ix_D2} (h : f_X12_isTextSo n z a0 x1 d = some (r, d1)) : ix_M l K yX12_isTextSo cX12_isTextSo 10 (some .boolean) 1 21 0 0 [.ref (K.2.2.1 + a0), .int x1] (ix_w z d) (some (.int r)) (ix_w z d1) := by
  refine ix_met mf_X12_isTextSo hKp (Nat.le_of_ble_eq_true rfl) ?_
  intro p e s m args below meth c hr hlk hnm X
  have X : ix_X p s m args c K cX12_isTextSo RX12 10 := X
  show ix_G p l e (ix_rm 1 21 0 0) s m args below meth c (MQ below (ix_Post K (some (.int r)) (ix_w z d1)) args s 0 0 (ix_A K)) K 10 0 0 0 [(0, .ref (K.2.2.1 + a0)), (1, .int x1)] [] (ix_w z d)
  unfold f_X12_isTextSo at h
  refine ix_iconst (v := 0) X (ix_tb_at tb_X12_isTextSo 0 rfl) (by decide) (pc1 := 1) rfl ?_
  refine ix_istore_n (i := 2) (L1 := [(2, .int 0), (0, .ref (K.2.2.1 + a0)), (1, .int x1)]) X (ix_tb_at tb_X12_isTextSo 1 rfl) rfl (Nat.le_of_ble_eq_true rfl) rfl (pc1 := 2) rfl ?_
  refine ix_iconst (v := 0) X (ix_tb_at tb_X12_isTextSo 2 rfl) (by decide) (pc1 := 3) rfl ?_
  refine ix_istore_n (i := 3) (L1 := [(3, .int 0), (2, .int 0), (0, .ref (K.2.2.1 + a0)), (1, .int x1)]) X (ix_tb_at tb_X12_isTextSo 3 rfl) rfl (Nat.le_of_ble_eq_true rfl) rfl (pc1 := 4) rfl ?_
  refine ix_sub (L1 := [(0, .ref (K.2.2.1 + a0)), (1, .int x1), (2, .int 0), (3, .int 0)]) [2, 3, 1, 0] rfl ?_
  exact t_X12_isTextSo_4 hKp X hr hlk  h
def tab_X12_holds : List (Nat × Instr × Nat) := [(0, .aload_n 0, 1), (1, .getfield 29, 3), (4, .iload_n 1, 1), (5, .iaload, 1), (6, .istore_n 2, 1), (7, .aload_n 0, 1), (8, .bipush 10, 2), (10, .iload_n 2, 1), (11, .imul, 1), (12, .invokevirtual 391, 3), (15, .iload_n 2, 1), (16, .iconst 4, 1), (17, .if_icmp .ne 9, 3), (20, .aload_n 0, 1), (21, .iload_n 1, 1), (22, .invokevirtual 394, 3), (25, .ireturn, 1), (26, .aload_n 0, 1), (27, .iload_n 1, 1), (28, .invokevirtual 397, 3), (31, .istore_n 3, 1), (32, .iload_n 2, 1), (33, .iconst 2, 1), (34, .if_icmp .ne 25, 3), (37, .aload_n 0, 1), (38, .bipush 10, 2), (40, .invokevirtual 391, 3), (43, .iload_n 3, 1), (44, .aload_n 0, 1), (45, .getfield 32, 3), (48, .iload_n 1, 1), (49, .iaload, 1), (50, .if_icmp .ne 7, 3), (53, .iconst 1, 1), (54, .goto 4, 3), (57, .iconst 0, 1), (58, .ireturn, 1), (59, .iload_n 2, 1), (60, .ifCond .ne 15, 3), (63, .iload_n 3, 1), (64, .ifCond .le 7, 3), (67, .iconst 1, 1), (68, .goto 56, 3), (71, .iconst 0, 1), (72, .goto 52, 3), (75, .iload_n 2, 1), (76, .iconst 1, 1), (77, .if_icmp .ne 21, 3), (80, .iload_n 3, 1), (81, .aload_n 0, 1), (82, .getfield 32, 3), (85, .iload_n 1, 1), (86, .iaload, 1), (87, .if_icmp .gt 7, 3), (90, .iconst 1, 1), (91, .goto 33, 3), (94, .iconst 0, 1), (95, .goto 29, 3), (98, .iload_n 3, 1), (99, .iconst 2, 1), (100, .irem, 1), (101, .iconst 1, 1), (102, .if_icmp .ne 7, 3), (105, .iconst 1, 1), (106, .goto 4, 3), (109, .iconst 0, 1), (110, .aload_n 0, 1), (111, .getfield 35, 3), (114, .iload_n 1, 1), (115, .baload, 1), (116, .if_icmp .ne 7, 3), (119, .iconst 1, 1), (120, .goto 4, 3), (123, .iconst 0, 1), (124, .ireturn, 1)]
theorem tb_X12_holds : ix_tab cX12_holds tab_X12_holds := by
  unfold ix_tab
  decide +kernel
noncomputable def f_X12_holds_110 (n : Nat) (z : ix_Z)  (a0 : Nat) (x1 : Int32) (s0 : Int32) (d : ix_D2) : Option (Int32 × ix_D2) :=
  ix_ck (ix_ok z [11] a0) (ix_bd1 (z.1 a0 14) (fun b_18 => ix_ck (ix_ix z 22 b_18 x1) (ix_if (s0 = d.1 b_18 (ix_n x1)) (some (1, d)) (some (0, d)))))
noncomputable def f_X12_holds (n : Nat) (z : ix_Z) (a0 : Nat) (x1 : Int32) (d : ix_D2) : Option (Int32 × ix_D2) :=
  ix_ck (ix_ok z [11] a0) (ix_bd1 (z.1 a0 12) (fun b_2 => ix_ck (ix_ix z 20 b_2 x1) (ix_lt (d.1 b_2 (ix_n x1)) (fun x2_5 => ix_bd1 (f_X12_mark n z a0 (10 * x2_5) d) (fun d_7 => ix_if (x2_5 = 4) (ix_bd2 (f_X12_isTextSo n z a0 x1 d_7) (fun r_35 d_33 => ix_ck (r_35 = 0 ∨ r_35 = 1) (some (r_35, d_33)))) (ix_bd2 (f_X12_truesOf n z a0 x1 d_7) (fun r_12 d_10 => ix_if (x2_5 = 2) (ix_bd1 (f_X12_mark n z a0 10 d_10) (fun d_27 => ix_bd1 (z.1 a0 13) (fun b_29 => ix_ck (ix_ix z 20 b_29 x1) (ix_if (r_12 = d_27.1 b_29 (ix_n x1)) (some (1, d_27)) (some (0, d_27)))))) (ix_if (x2_5 = 0) (ix_if (r_12 ≤ 0) (some (0, d_10)) (some (1, d_10))) (ix_if (x2_5 = 1) (ix_bd1 (z.1 a0 13) (fun b_22 => ix_ck (ix_ix z 20 b_22 x1) (ix_if (d_10.1 b_22 (ix_n x1) < r_12) (some (0, d_10)) (some (1, d_10))))) (ix_if (r_12 - r_12 / 2 * 2 = 1) (f_X12_holds_110 n z  a0 x1 1 d_10) (f_X12_holds_110 n z  a0 x1 0 d_10)))))))))))
set_option maxRecDepth 20000 in
theorem t_X12_holds_110 {l : Launch} {p : Program} {e : Env} {s : State} {m : MethodId} {args : Array Value} {below : List Frame} {meth : Method} {c : Code} {K : ix_Cx} (hKp : ix_Kp K) {n : Nat} {z : ix_Z} (X : ix_X p s m args c K cX12_holds RX12 4) (hr : meth.sig.returnType = (some .boolean)) (hlk : meth.locks = false)  {a0 : Nat} {x1 : Int32} {s0 : Int32} {r : Int32} {d1 : ix_D2}  {d : ix_D2} (h : f_X12_holds_110 n z  a0 x1 s0 d = some (r, d1)) : ix_G p l e (ix_rm 2 50 0 0) s m args below meth c (MQ below (ix_Post K (some (.int r)) (ix_w z d1)) args s 0 0 (ix_A K)) K 4 0 0 110 [(0, .ref (K.2.2.1 + a0)), (1, .int x1)] [.int s0] (ix_w z d) := by
  unfold f_X12_holds_110 at h
  refine ix_aload_n (i := 0) (j := 0) X (ix_tb_at tb_X12_holds 66 rfl) rfl rfl (pc1 := 111) rfl ?_
  obtain ⟨k_17, h⟩ := ix_ck_some h
  obtain ⟨b_18, q_19, h⟩ := ix_bd1_ex h
  refine iz_getR X fl_RX12_35 k_17 q_19 (ix_tb_at tb_X12_holds 67 rfl) (pc1 := 114) rfl ?_
  refine ix_iload_n (i := 1) (j := 1) X (ix_tb_at tb_X12_holds 68 rfl) rfl rfl (pc1 := 115) rfl ?_
  obtain ⟨k_20, h⟩ := ix_ck_some h
  refine iz_zald X k_20 (ix_tb_at tb_X12_holds 69 rfl) (pc1 := 116) rfl ?_
  refine ix_icmp_ne (tgt := 123) X (ix_tb_at tb_X12_holds 70 rfl) (by decide) (pc1 := 119) rfl (fun q_21 => ?_) (fun q_21 => ?_)
  · have h := ix_iff q_21 h
    refine ix_iconst (v := 0) X (ix_tb_at tb_X12_holds 73 rfl) (by decide) (pc1 := 124) rfl ?_
    exact ix_zret X hr hlk (by decide) (ix_r2 (f := fun r => some (.int r)) (g := ix_w z) h) (ix_tb_at tb_X12_holds 74 rfl)
  · have h := ix_ift q_21 h
    refine ix_iconst (v := 1) X (ix_tb_at tb_X12_holds 71 rfl) (by decide) (pc1 := 120) rfl ?_
    refine ix_goto (tgt := 124) X (ix_tb_at tb_X12_holds 72 rfl) (by decide) ?_
    exact ix_zret X hr hlk (by decide) (ix_r2 (f := fun r => some (.int r)) (g := ix_w z) h) (ix_tb_at tb_X12_holds 74 rfl)
set_option maxRecDepth 20000 in
theorem c_X12_holds {l : Launch} {K : ix_Cx} (hKp : ix_Kp K) {n : Nat} {z : ix_Z} {a0 : Nat} {x1 : Int32} {d : ix_D2} {r : Int32} {d1 : ix_D2} (h : f_X12_holds n z a0 x1 d = some (r, d1)) : ix_M l K yX12_holds cX12_holds 4 (some .boolean) 2 50 0 0 [.ref (K.2.2.1 + a0), .int x1] (ix_w z d) (some (.int r)) (ix_w z d1) := by
  refine ix_met mf_X12_holds hKp (Nat.le_of_ble_eq_true rfl) ?_
  intro p e s m args below meth c hr hlk hnm X
  have X : ix_X p s m args c K cX12_holds RX12 4 := X
  show ix_G p l e (ix_rm 2 50 0 0) s m args below meth c (MQ below (ix_Post K (some (.int r)) (ix_w z d1)) args s 0 0 (ix_A K)) K 4 0 0 0 [(0, .ref (K.2.2.1 + a0)), (1, .int x1)] [] (ix_w z d)
  unfold f_X12_holds at h
  refine ix_aload_n (i := 0) (j := 0) X (ix_tb_at tb_X12_holds 0 rfl) rfl rfl (pc1 := 1) rfl ?_
  obtain ⟨k_1, h⟩ := ix_ck_some h
  obtain ⟨b_2, q_3, h⟩ := ix_bd1_ex h
  refine iz_getR X fl_RX12_29 k_1 q_3 (ix_tb_at tb_X12_holds 1 rfl) (pc1 := 4) rfl ?_
  refine ix_iload_n (i := 1) (j := 1) X (ix_tb_at tb_X12_holds 2 rfl) rfl rfl (pc1 := 5) rfl ?_
  obtain ⟨k_4, h⟩ := ix_ck_some h
  refine iz_iald X k_4 (ix_tb_at tb_X12_holds 3 rfl) (pc1 := 6) rfl ?_
  obtain ⟨x2_5, e_6, h⟩ := ix_lt_ex h
  refine ix_nmi e_6 ?_
  refine ix_istore_n (i := 2) (L1 := [(2, .int x2_5), (0, .ref (K.2.2.1 + a0)), (1, .int x1)]) X (ix_tb_at tb_X12_holds 4 rfl) rfl (Nat.le_of_ble_eq_true rfl) rfl (pc1 := 7) rfl ?_
  refine ix_aload_n (i := 0) (j := 1) X (ix_tb_at tb_X12_holds 5 rfl) rfl rfl (pc1 := 8) rfl ?_
  refine ix_bipush (v := 10) X (ix_tb_at tb_X12_holds 6 rfl) (by decide) (pc1 := 10) rfl ?_
  refine ix_iload_n (i := 2) (j := 0) X (ix_tb_at tb_X12_holds 7 rfl) rfl rfl (pc1 := 11) rfl ?_
  refine ix_imul X (ix_tb_at tb_X12_holds 8 rfl) (pc1 := 12) rfl ?_
  obtain ⟨d_7, h_8, h⟩ := ix_bd1_ex h
  refine ix_callV (As := [.int (10 * x2_5)]) (rest := []) (ci := 11) (T := TX12) (nf := 116) X mf_X12_mark mi_X12_mark ms_X12_mark rfl (Nat.le_of_ble_eq_true rfl) ml_RX12_391 ⟨Nat.le_of_ble_eq_true rfl, Nat.le_of_ble_eq_true rfl⟩ ⟨Nat.le_of_ble_eq_true rfl, Nat.le_of_ble_eq_true rfl⟩ rfl (Nat.le_of_ble_eq_true rfl) (ix_tb_at tb_X12_holds 9 rfl) ⟨k_1.1, List.mem_singleton.mp k_1.2⟩ (c_X12_mark hKp h_8) rfl (pc1 := 15) rfl ?_
  refine ix_iload_n (i := 2) (j := 0) X (ix_tb_at tb_X12_holds 10 rfl) rfl rfl (pc1 := 16) rfl ?_
  refine ix_iconst (v := 4) X (ix_tb_at tb_X12_holds 11 rfl) (by decide) (pc1 := 17) rfl ?_
  refine ix_icmp_ne (tgt := 26) X (ix_tb_at tb_X12_holds 12 rfl) (by decide) (pc1 := 20) rfl (fun q_9 => ?_) (fun q_9 => ?_)
  · have h := ix_iff q_9 h
    refine ix_aload_n (i := 0) (j := 1) X (ix_tb_at tb_X12_holds 17 rfl) rfl rfl (pc1 := 27) rfl ?_
    refine ix_iload_n (i := 1) (j := 2) X (ix_tb_at tb_X12_holds 18 rfl) rfl rfl (pc1 := 28) rfl ?_
    obtain ⟨r_12, d_10, h_11, h⟩ := ix_bd2_ex h
    refine ix_callV (As := [.int x1]) (rest := []) (ci := 11) (T := TX12) (nf := 116) X mf_X12_truesOf mi_X12_truesOf ms_X12_truesOf rfl (Nat.le_of_ble_eq_true rfl) ml_RX12_397 ⟨Nat.le_of_ble_eq_true rfl, Nat.le_of_ble_eq_true rfl⟩ ⟨Nat.le_of_ble_eq_true rfl, Nat.le_of_ble_eq_true rfl⟩ rfl (Nat.le_of_ble_eq_true rfl) (ix_tb_at tb_X12_holds 19 rfl) ⟨k_1.1, List.mem_singleton.mp k_1.2⟩ (c_X12_truesOf hKp h_11) rfl (pc1 := 31) rfl ?_
    refine ix_istore_n (i := 3) (L1 := [(3, .int r_12), (2, .int x2_5), (0, .ref (K.2.2.1 + a0)), (1, .int x1)]) X (ix_tb_at tb_X12_holds 20 rfl) rfl (Nat.le_of_ble_eq_true rfl) rfl (pc1 := 32) rfl ?_
    refine ix_iload_n (i := 2) (j := 1) X (ix_tb_at tb_X12_holds 21 rfl) rfl rfl (pc1 := 33) rfl ?_
    refine ix_iconst (v := 2) X (ix_tb_at tb_X12_holds 22 rfl) (by decide) (pc1 := 34) rfl ?_
    refine ix_icmp_ne (tgt := 59) X (ix_tb_at tb_X12_holds 23 rfl) (by decide) (pc1 := 37) rfl (fun q_13 => ?_) (fun q_13 => ?_)
    · have h := ix_iff q_13 h
      refine ix_iload_n (i := 2) (j := 1) X (ix_tb_at tb_X12_holds 37 rfl) rfl rfl (pc1 := 60) rfl ?_
      refine ix_if_ne (tgt := 75) X (ix_tb_at tb_X12_holds 38 rfl) (by decide) (pc1 := 63) rfl (fun q_14 => ?_) (fun q_14 => ?_)
      · have h := ix_iff q_14 h
        refine ix_iload_n (i := 2) (j := 1) X (ix_tb_at tb_X12_holds 45 rfl) rfl rfl (pc1 := 76) rfl ?_
        refine ix_iconst (v := 1) X (ix_tb_at tb_X12_holds 46 rfl) (by decide) (pc1 := 77) rfl ?_
        refine ix_icmp_ne (tgt := 98) X (ix_tb_at tb_X12_holds 47 rfl) (by decide) (pc1 := 80) rfl (fun q_15 => ?_) (fun q_15 => ?_)
        · have h := ix_iff q_15 h
          refine ix_iload_n (i := 3) (j := 0) X (ix_tb_at tb_X12_holds 58 rfl) rfl rfl (pc1 := 99) rfl ?_
          refine ix_iconst (v := 2) X (ix_tb_at tb_X12_holds 59 rfl) (by decide) (pc1 := 100) rfl ?_
          refine ix_irem X (ix_tb_at tb_X12_holds 60 rfl) (by decide) (pc1 := 101) rfl ?_
          refine ix_iconst (v := 1) X (ix_tb_at tb_X12_holds 61 rfl) (by decide) (pc1 := 102) rfl ?_
          refine ix_icmp_ne (tgt := 109) X (ix_tb_at tb_X12_holds 62 rfl) (by decide) (pc1 := 105) rfl (fun q_16 => ?_) (fun q_16 => ?_)
          · have h := ix_iff q_16 h
            refine ix_iconst (v := 0) X (ix_tb_at tb_X12_holds 65 rfl) (by decide) (pc1 := 110) rfl ?_
            refine ix_sub (L1 := [(0, .ref (K.2.2.1 + a0)), (1, .int x1)]) [2, 3] rfl ?_
            exact t_X12_holds_110 hKp X hr hlk  h
          · have h := ix_ift q_16 h
            refine ix_iconst (v := 1) X (ix_tb_at tb_X12_holds 63 rfl) (by decide) (pc1 := 106) rfl ?_
            refine ix_goto (tgt := 110) X (ix_tb_at tb_X12_holds 64 rfl) (by decide) ?_
            refine ix_sub (L1 := [(0, .ref (K.2.2.1 + a0)), (1, .int x1)]) [2, 3] rfl ?_
            exact t_X12_holds_110 hKp X hr hlk  h
        · have h := ix_ift q_15 h
          refine ix_iload_n (i := 3) (j := 0) X (ix_tb_at tb_X12_holds 48 rfl) rfl rfl (pc1 := 81) rfl ?_
          refine ix_aload_n (i := 0) (j := 2) X (ix_tb_at tb_X12_holds 49 rfl) rfl rfl (pc1 := 82) rfl ?_
          obtain ⟨b_22, q_23, h⟩ := ix_bd1_ex h
          refine iz_getR X fl_RX12_32 k_1 q_23 (ix_tb_at tb_X12_holds 50 rfl) (pc1 := 85) rfl ?_
          refine ix_iload_n (i := 1) (j := 3) X (ix_tb_at tb_X12_holds 51 rfl) rfl rfl (pc1 := 86) rfl ?_
          obtain ⟨k_24, h⟩ := ix_ck_some h
          refine iz_iald X k_24 (ix_tb_at tb_X12_holds 52 rfl) (pc1 := 87) rfl ?_
          refine ix_icmp_gt (tgt := 94) X (ix_tb_at tb_X12_holds 53 rfl) (by decide) (pc1 := 90) rfl (fun q_25 => ?_) (fun q_25 => ?_)
          · have h := ix_ift q_25 h
            refine ix_iconst (v := 0) X (ix_tb_at tb_X12_holds 56 rfl) (by decide) (pc1 := 95) rfl ?_
            refine ix_goto (tgt := 124) X (ix_tb_at tb_X12_holds 57 rfl) (by decide) ?_
            exact ix_zret X hr hlk (by decide) (ix_r2 (f := fun r => some (.int r)) (g := ix_w z) h) (ix_tb_at tb_X12_holds 74 rfl)
          · have h := ix_iff q_25 h
            refine ix_iconst (v := 1) X (ix_tb_at tb_X12_holds 54 rfl) (by decide) (pc1 := 91) rfl ?_
            refine ix_goto (tgt := 124) X (ix_tb_at tb_X12_holds 55 rfl) (by decide) ?_
            exact ix_zret X hr hlk (by decide) (ix_r2 (f := fun r => some (.int r)) (g := ix_w z) h) (ix_tb_at tb_X12_holds 74 rfl)
      · have h := ix_ift q_14 h
        refine ix_iload_n (i := 3) (j := 0) X (ix_tb_at tb_X12_holds 39 rfl) rfl rfl (pc1 := 64) rfl ?_
        refine ix_if_le (tgt := 71) X (ix_tb_at tb_X12_holds 40 rfl) (by decide) (pc1 := 67) rfl (fun q_26 => ?_) (fun q_26 => ?_)
        · have h := ix_ift q_26 h
          refine ix_iconst (v := 0) X (ix_tb_at tb_X12_holds 43 rfl) (by decide) (pc1 := 72) rfl ?_
          refine ix_goto (tgt := 124) X (ix_tb_at tb_X12_holds 44 rfl) (by decide) ?_
          exact ix_zret X hr hlk (by decide) (ix_r2 (f := fun r => some (.int r)) (g := ix_w z) h) (ix_tb_at tb_X12_holds 74 rfl)
        · have h := ix_iff q_26 h
          refine ix_iconst (v := 1) X (ix_tb_at tb_X12_holds 41 rfl) (by decide) (pc1 := 68) rfl ?_
          refine ix_goto (tgt := 124) X (ix_tb_at tb_X12_holds 42 rfl) (by decide) ?_
          exact ix_zret X hr hlk (by decide) (ix_r2 (f := fun r => some (.int r)) (g := ix_w z) h) (ix_tb_at tb_X12_holds 74 rfl)
    · have h := ix_ift q_13 h
      refine ix_aload_n (i := 0) (j := 2) X (ix_tb_at tb_X12_holds 24 rfl) rfl rfl (pc1 := 38) rfl ?_
      refine ix_bipush (v := 10) X (ix_tb_at tb_X12_holds 25 rfl) (by decide) (pc1 := 40) rfl ?_
      obtain ⟨d_27, h_28, h⟩ := ix_bd1_ex h
      refine ix_callV (As := [.int 10]) (rest := []) (ci := 11) (T := TX12) (nf := 116) X mf_X12_mark mi_X12_mark ms_X12_mark rfl (Nat.le_of_ble_eq_true rfl) ml_RX12_391 ⟨Nat.le_of_ble_eq_true rfl, Nat.le_of_ble_eq_true rfl⟩ ⟨Nat.le_of_ble_eq_true rfl, Nat.le_of_ble_eq_true rfl⟩ rfl (Nat.le_of_ble_eq_true rfl) (ix_tb_at tb_X12_holds 26 rfl) ⟨k_1.1, List.mem_singleton.mp k_1.2⟩ (c_X12_mark hKp h_28) rfl (pc1 := 43) rfl ?_
      refine ix_iload_n (i := 3) (j := 0) X (ix_tb_at tb_X12_holds 27 rfl) rfl rfl (pc1 := 44) rfl ?_
      refine ix_aload_n (i := 0) (j := 2) X (ix_tb_at tb_X12_holds 28 rfl) rfl rfl (pc1 := 45) rfl ?_
      obtain ⟨b_29, q_30, h⟩ := ix_bd1_ex h
      refine iz_getR X fl_RX12_32 k_1 q_30 (ix_tb_at tb_X12_holds 29 rfl) (pc1 := 48) rfl ?_
      refine ix_iload_n (i := 1) (j := 3) X (ix_tb_at tb_X12_holds 30 rfl) rfl rfl (pc1 := 49) rfl ?_
      obtain ⟨k_31, h⟩ := ix_ck_some h
      refine iz_iald X k_31 (ix_tb_at tb_X12_holds 31 rfl) (pc1 := 50) rfl ?_
      refine ix_icmp_ne (tgt := 57) X (ix_tb_at tb_X12_holds 32 rfl) (by decide) (pc1 := 53) rfl (fun q_32 => ?_) (fun q_32 => ?_)
      · have h := ix_iff q_32 h
        refine ix_iconst (v := 0) X (ix_tb_at tb_X12_holds 35 rfl) (by decide) (pc1 := 58) rfl ?_
        exact ix_zret X hr hlk (by decide) (ix_r2 (f := fun r => some (.int r)) (g := ix_w z) h) (ix_tb_at tb_X12_holds 36 rfl)
      · have h := ix_ift q_32 h
        refine ix_iconst (v := 1) X (ix_tb_at tb_X12_holds 33 rfl) (by decide) (pc1 := 54) rfl ?_
        refine ix_goto (tgt := 58) X (ix_tb_at tb_X12_holds 34 rfl) (by decide) ?_
        exact ix_zret X hr hlk (by decide) (ix_r2 (f := fun r => some (.int r)) (g := ix_w z) h) (ix_tb_at tb_X12_holds 36 rfl)
  · have h := ix_ift q_9 h
    refine ix_aload_n (i := 0) (j := 1) X (ix_tb_at tb_X12_holds 13 rfl) rfl rfl (pc1 := 21) rfl ?_
    refine ix_iload_n (i := 1) (j := 2) X (ix_tb_at tb_X12_holds 14 rfl) rfl rfl (pc1 := 22) rfl ?_
    obtain ⟨r_35, d_33, h_34, h⟩ := ix_bd2_ex h
    refine ix_callV (As := [.int x1]) (rest := []) (ci := 11) (T := TX12) (nf := 116) X mf_X12_isTextSo mi_X12_isTextSo ms_X12_isTextSo rfl (Nat.le_of_ble_eq_true rfl) ml_RX12_394 ⟨Nat.le_of_ble_eq_true rfl, Nat.le_of_ble_eq_true rfl⟩ ⟨Nat.le_of_ble_eq_true rfl, Nat.le_of_ble_eq_true rfl⟩ rfl (Nat.le_of_ble_eq_true rfl) (ix_tb_at tb_X12_holds 15 rfl) ⟨k_1.1, List.mem_singleton.mp k_1.2⟩ (c_X12_isTextSo hKp h_34) rfl (pc1 := 25) rfl ?_
    obtain ⟨k_36, h⟩ := ix_ck_some h
    exact ix_zret X hr hlk k_36 (ix_r2 (f := fun r => some (.int r)) (g := ix_w z) h) (ix_tb_at tb_X12_holds 16 rfl)
def tab_X12_leastTrue : List (Nat × Instr × Nat) := [(0, .iload_n 2, 1), (1, .iconst 2, 1), (2, .if_icmp .ne 16, 3), (5, .aload_n 0, 1), (6, .bipush 21, 2), (8, .invokevirtual 391, 3), (11, .aload_n 0, 1), (12, .getfield 32, 3), (15, .iload_n 1, 1), (16, .iaload, 1), (17, .ireturn, 1), (18, .iload_n 2, 1), (19, .iconst 3, 1), (20, .if_icmp .ne 30, 3), (23, .aload_n 0, 1), (24, .bipush 31, 2), (26, .invokevirtual 391, 3), (29, .aload_n 0, 1), (30, .bipush 51, 2), (32, .invokevirtual 391, 3), (35, .aload_n 0, 1), (36, .getfield 35, 3), (39, .iload_n 1, 1), (40, .baload, 1), (41, .ifCond .eq 7, 3), (44, .iconst 1, 1), (45, .goto 4, 3), (48, .iconst 0, 1), (49, .ireturn, 1), (50, .iload_n 2, 1), (51, .iconst 1, 1), (52, .if_icmp .ne 9, 3), (55, .aload_n 0, 1), (56, .bipush 11, 2), (58, .invokevirtual 391, 3), (61, .aload_n 0, 1), (62, .iconst 1, 1), (63, .invokevirtual 391, 3), (66, .aload_n 0, 1), (67, .bipush 51, 2), (69, .invokevirtual 391, 3), (72, .iload_n 2, 1), (73, .iconst 1, 1), (74, .if_icmp .ne 7, 3), (77, .iconst 0, 1), (78, .goto 4, 3), (81, .iconst 1, 1), (82, .ireturn, 1)]
theorem tb_X12_leastTrue : ix_tab cX12_leastTrue tab_X12_leastTrue := by
  unfold ix_tab
  decide +kernel
noncomputable def f_X12_leastTrue_61 (n : Nat) (z : ix_Z)  (a0 : Nat) (x2 : Int32) (d : ix_D2) : Option (Int32 × ix_D2) :=
  ix_ck (ix_ok z [11] a0) (ix_bd1 (f_X12_mark n z a0 1 d) (fun d_4 => ix_bd1 (f_X12_mark n z a0 51 d_4) (fun d_7 => ix_if (x2 = 1) (some (0, d_7)) (some (1, d_7)))))
noncomputable def f_X12_leastTrue (n : Nat) (z : ix_Z) (a0 : Nat) (x1 : Int32) (x2 : Int32) (d : ix_D2) : Option (Int32 × ix_D2) :=
  ix_if (x2 = 2) (ix_ck (ix_ok z [11] a0) (ix_bd1 (f_X12_mark n z a0 21 d) (fun d_22 => ix_bd1 (z.1 a0 13) (fun b_25 => ix_ck (ix_ix z 20 b_25 x1) (some (d_22.1 b_25 (ix_n x1), d_22)))))) (ix_if (x2 = 3) (ix_ck (ix_ok z [11] a0) (ix_bd1 (f_X12_mark n z a0 31 d) (fun d_13 => ix_bd1 (f_X12_mark n z a0 51 d_13) (fun d_16 => ix_bd1 (z.1 a0 14) (fun b_18 => ix_ck (ix_ix z 22 b_18 x1) (ix_if (d_16.1 b_18 (ix_n x1) = 0) (some (0, d_16)) (some (1, d_16)))))))) (ix_if (x2 = 1) (ix_ck (ix_ok z [11] a0) (ix_bd1 (f_X12_mark n z a0 11 d) (fun d_10 => f_X12_leastTrue_61 n z  a0 x2 d_10))) (f_X12_leastTrue_61 n z  a0 x2 d)))
set_option maxRecDepth 20000 in
theorem t_X12_leastTrue_61 {l : Launch} {p : Program} {e : Env} {s : State} {m : MethodId} {args : Array Value} {below : List Frame} {meth : Method} {c : Code} {K : ix_Cx} (hKp : ix_Kp K) {n : Nat} {z : ix_Z} (X : ix_X p s m args c K cX12_leastTrue RX12 3) (hr : meth.sig.returnType = (some .int)) (hlk : meth.locks = false)  {a0 : Nat} {x2 : Int32} {r : Int32} {d1 : ix_D2}  {d : ix_D2} (h : f_X12_leastTrue_61 n z  a0 x2 d = some (r, d1)) : ix_G p l e (ix_rm 1 21 0 0) s m args below meth c (MQ below (ix_Post K (some (.int r)) (ix_w z d1)) args s 0 0 (ix_A K)) K 3 0 0 61 [(0, .ref (K.2.2.1 + a0)), (2, .int x2)] [] (ix_w z d) := by
  unfold f_X12_leastTrue_61 at h
  refine ix_aload_n (i := 0) (j := 0) X (ix_tb_at tb_X12_leastTrue 35 rfl) rfl rfl (pc1 := 62) rfl ?_
  refine ix_iconst (v := 1) X (ix_tb_at tb_X12_leastTrue 36 rfl) (by decide) (pc1 := 63) rfl ?_
  obtain ⟨k_6, h⟩ := ix_ck_some h
  obtain ⟨d_4, h_5, h⟩ := ix_bd1_ex h
  refine ix_callV (As := [.int 1]) (rest := []) (ci := 11) (T := TX12) (nf := 116) X mf_X12_mark mi_X12_mark ms_X12_mark rfl (Nat.le_of_ble_eq_true rfl) ml_RX12_391 ⟨Nat.le_of_ble_eq_true rfl, Nat.le_of_ble_eq_true rfl⟩ ⟨Nat.le_of_ble_eq_true rfl, Nat.le_of_ble_eq_true rfl⟩ rfl (Nat.le_of_ble_eq_true rfl) (ix_tb_at tb_X12_leastTrue 37 rfl) ⟨k_6.1, List.mem_singleton.mp k_6.2⟩ (c_X12_mark hKp h_5) rfl (pc1 := 66) rfl ?_
  refine ix_aload_n (i := 0) (j := 0) X (ix_tb_at tb_X12_leastTrue 38 rfl) rfl rfl (pc1 := 67) rfl ?_
  refine ix_bipush (v := 51) X (ix_tb_at tb_X12_leastTrue 39 rfl) (by decide) (pc1 := 69) rfl ?_
  obtain ⟨d_7, h_8, h⟩ := ix_bd1_ex h
  refine ix_callV (As := [.int 51]) (rest := []) (ci := 11) (T := TX12) (nf := 116) X mf_X12_mark mi_X12_mark ms_X12_mark rfl (Nat.le_of_ble_eq_true rfl) ml_RX12_391 ⟨Nat.le_of_ble_eq_true rfl, Nat.le_of_ble_eq_true rfl⟩ ⟨Nat.le_of_ble_eq_true rfl, Nat.le_of_ble_eq_true rfl⟩ rfl (Nat.le_of_ble_eq_true rfl) (ix_tb_at tb_X12_leastTrue 40 rfl) ⟨k_6.1, List.mem_singleton.mp k_6.2⟩ (c_X12_mark hKp h_8) rfl (pc1 := 72) rfl ?_
  refine ix_iload_n (i := 2) (j := 1) X (ix_tb_at tb_X12_leastTrue 41 rfl) rfl rfl (pc1 := 73) rfl ?_
  refine ix_iconst (v := 1) X (ix_tb_at tb_X12_leastTrue 42 rfl) (by decide) (pc1 := 74) rfl ?_
  refine ix_icmp_ne (tgt := 81) X (ix_tb_at tb_X12_leastTrue 43 rfl) (by decide) (pc1 := 77) rfl (fun q_9 => ?_) (fun q_9 => ?_)
  · have h := ix_iff q_9 h
    refine ix_iconst (v := 1) X (ix_tb_at tb_X12_leastTrue 46 rfl) (by decide) (pc1 := 82) rfl ?_
    exact ix_iret X hr hlk (ix_r2 (f := fun r => some (.int r)) (g := ix_w z) h) (ix_tb_at tb_X12_leastTrue 47 rfl)
  · have h := ix_ift q_9 h
    refine ix_iconst (v := 0) X (ix_tb_at tb_X12_leastTrue 44 rfl) (by decide) (pc1 := 78) rfl ?_
    refine ix_goto (tgt := 82) X (ix_tb_at tb_X12_leastTrue 45 rfl) (by decide) ?_
    exact ix_iret X hr hlk (ix_r2 (f := fun r => some (.int r)) (g := ix_w z) h) (ix_tb_at tb_X12_leastTrue 47 rfl)
set_option maxRecDepth 20000 in
theorem c_X12_leastTrue {l : Launch} {K : ix_Cx} (hKp : ix_Kp K) {n : Nat} {z : ix_Z} {a0 : Nat} {x1 : Int32} {x2 : Int32} {d : ix_D2} {r : Int32} {d1 : ix_D2} (h : f_X12_leastTrue n z a0 x1 x2 d = some (r, d1)) : ix_M l K yX12_leastTrue cX12_leastTrue 3 (some .int) 1 21 0 0 [.ref (K.2.2.1 + a0), .int x1, .int x2] (ix_w z d) (some (.int r)) (ix_w z d1) := by
  refine ix_met mf_X12_leastTrue hKp (Nat.le_of_ble_eq_true rfl) ?_
  intro p e s m args below meth c hr hlk hnm X
  have X : ix_X p s m args c K cX12_leastTrue RX12 3 := X
  show ix_G p l e (ix_rm 1 21 0 0) s m args below meth c (MQ below (ix_Post K (some (.int r)) (ix_w z d1)) args s 0 0 (ix_A K)) K 3 0 0 0 [(0, .ref (K.2.2.1 + a0)), (1, .int x1), (2, .int x2)] [] (ix_w z d)
  unfold f_X12_leastTrue at h
  refine ix_iload_n (i := 2) (j := 2) X (ix_tb_at tb_X12_leastTrue 0 rfl) rfl rfl (pc1 := 1) rfl ?_
  refine ix_iconst (v := 2) X (ix_tb_at tb_X12_leastTrue 1 rfl) (by decide) (pc1 := 2) rfl ?_
  refine ix_icmp_ne (tgt := 18) X (ix_tb_at tb_X12_leastTrue 2 rfl) (by decide) (pc1 := 5) rfl (fun q_1 => ?_) (fun q_1 => ?_)
  · have h := ix_iff q_1 h
    refine ix_iload_n (i := 2) (j := 2) X (ix_tb_at tb_X12_leastTrue 11 rfl) rfl rfl (pc1 := 19) rfl ?_
    refine ix_iconst (v := 3) X (ix_tb_at tb_X12_leastTrue 12 rfl) (by decide) (pc1 := 20) rfl ?_
    refine ix_icmp_ne (tgt := 50) X (ix_tb_at tb_X12_leastTrue 13 rfl) (by decide) (pc1 := 23) rfl (fun q_2 => ?_) (fun q_2 => ?_)
    · have h := ix_iff q_2 h
      refine ix_iload_n (i := 2) (j := 2) X (ix_tb_at tb_X12_leastTrue 29 rfl) rfl rfl (pc1 := 51) rfl ?_
      refine ix_iconst (v := 1) X (ix_tb_at tb_X12_leastTrue 30 rfl) (by decide) (pc1 := 52) rfl ?_
      refine ix_icmp_ne (tgt := 61) X (ix_tb_at tb_X12_leastTrue 31 rfl) (by decide) (pc1 := 55) rfl (fun q_3 => ?_) (fun q_3 => ?_)
      · have h := ix_iff q_3 h
        refine ix_sub (L1 := [(0, .ref (K.2.2.1 + a0)), (2, .int x2)]) [0, 2] rfl ?_
        exact t_X12_leastTrue_61 hKp X hr hlk  h
      · have h := ix_ift q_3 h
        refine ix_aload_n (i := 0) (j := 0) X (ix_tb_at tb_X12_leastTrue 32 rfl) rfl rfl (pc1 := 56) rfl ?_
        refine ix_bipush (v := 11) X (ix_tb_at tb_X12_leastTrue 33 rfl) (by decide) (pc1 := 58) rfl ?_
        obtain ⟨k_12, h⟩ := ix_ck_some h
        obtain ⟨d_10, h_11, h⟩ := ix_bd1_ex h
        refine ix_callV (As := [.int 11]) (rest := []) (ci := 11) (T := TX12) (nf := 116) X mf_X12_mark mi_X12_mark ms_X12_mark rfl (Nat.le_of_ble_eq_true rfl) ml_RX12_391 ⟨Nat.le_of_ble_eq_true rfl, Nat.le_of_ble_eq_true rfl⟩ ⟨Nat.le_of_ble_eq_true rfl, Nat.le_of_ble_eq_true rfl⟩ rfl (Nat.le_of_ble_eq_true rfl) (ix_tb_at tb_X12_leastTrue 34 rfl) ⟨k_12.1, List.mem_singleton.mp k_12.2⟩ (c_X12_mark hKp h_11) rfl (pc1 := 61) rfl ?_
        refine ix_sub (L1 := [(0, .ref (K.2.2.1 + a0)), (2, .int x2)]) [0, 2] rfl ?_
        exact t_X12_leastTrue_61 hKp X hr hlk  h
    · have h := ix_ift q_2 h
      refine ix_aload_n (i := 0) (j := 0) X (ix_tb_at tb_X12_leastTrue 14 rfl) rfl rfl (pc1 := 24) rfl ?_
      refine ix_bipush (v := 31) X (ix_tb_at tb_X12_leastTrue 15 rfl) (by decide) (pc1 := 26) rfl ?_
      obtain ⟨k_15, h⟩ := ix_ck_some h
      obtain ⟨d_13, h_14, h⟩ := ix_bd1_ex h
      refine ix_callV (As := [.int 31]) (rest := []) (ci := 11) (T := TX12) (nf := 116) X mf_X12_mark mi_X12_mark ms_X12_mark rfl (Nat.le_of_ble_eq_true rfl) ml_RX12_391 ⟨Nat.le_of_ble_eq_true rfl, Nat.le_of_ble_eq_true rfl⟩ ⟨Nat.le_of_ble_eq_true rfl, Nat.le_of_ble_eq_true rfl⟩ rfl (Nat.le_of_ble_eq_true rfl) (ix_tb_at tb_X12_leastTrue 16 rfl) ⟨k_15.1, List.mem_singleton.mp k_15.2⟩ (c_X12_mark hKp h_14) rfl (pc1 := 29) rfl ?_
      refine ix_aload_n (i := 0) (j := 0) X (ix_tb_at tb_X12_leastTrue 17 rfl) rfl rfl (pc1 := 30) rfl ?_
      refine ix_bipush (v := 51) X (ix_tb_at tb_X12_leastTrue 18 rfl) (by decide) (pc1 := 32) rfl ?_
      obtain ⟨d_16, h_17, h⟩ := ix_bd1_ex h
      refine ix_callV (As := [.int 51]) (rest := []) (ci := 11) (T := TX12) (nf := 116) X mf_X12_mark mi_X12_mark ms_X12_mark rfl (Nat.le_of_ble_eq_true rfl) ml_RX12_391 ⟨Nat.le_of_ble_eq_true rfl, Nat.le_of_ble_eq_true rfl⟩ ⟨Nat.le_of_ble_eq_true rfl, Nat.le_of_ble_eq_true rfl⟩ rfl (Nat.le_of_ble_eq_true rfl) (ix_tb_at tb_X12_leastTrue 19 rfl) ⟨k_15.1, List.mem_singleton.mp k_15.2⟩ (c_X12_mark hKp h_17) rfl (pc1 := 35) rfl ?_
      refine ix_aload_n (i := 0) (j := 0) X (ix_tb_at tb_X12_leastTrue 20 rfl) rfl rfl (pc1 := 36) rfl ?_
      obtain ⟨b_18, q_19, h⟩ := ix_bd1_ex h
      refine iz_getR X fl_RX12_35 k_15 q_19 (ix_tb_at tb_X12_leastTrue 21 rfl) (pc1 := 39) rfl ?_
      refine ix_iload_n (i := 1) (j := 1) X (ix_tb_at tb_X12_leastTrue 22 rfl) rfl rfl (pc1 := 40) rfl ?_
      obtain ⟨k_20, h⟩ := ix_ck_some h
      refine iz_zald X k_20 (ix_tb_at tb_X12_leastTrue 23 rfl) (pc1 := 41) rfl ?_
      refine ix_if_eq (tgt := 48) X (ix_tb_at tb_X12_leastTrue 24 rfl) (by decide) (pc1 := 44) rfl (fun q_21 => ?_) (fun q_21 => ?_)
      · have h := ix_ift q_21 h
        refine ix_iconst (v := 0) X (ix_tb_at tb_X12_leastTrue 27 rfl) (by decide) (pc1 := 49) rfl ?_
        exact ix_iret X hr hlk (ix_r2 (f := fun r => some (.int r)) (g := ix_w z) h) (ix_tb_at tb_X12_leastTrue 28 rfl)
      · have h := ix_iff q_21 h
        refine ix_iconst (v := 1) X (ix_tb_at tb_X12_leastTrue 25 rfl) (by decide) (pc1 := 45) rfl ?_
        refine ix_goto (tgt := 49) X (ix_tb_at tb_X12_leastTrue 26 rfl) (by decide) ?_
        exact ix_iret X hr hlk (ix_r2 (f := fun r => some (.int r)) (g := ix_w z) h) (ix_tb_at tb_X12_leastTrue 28 rfl)
  · have h := ix_ift q_1 h
    refine ix_aload_n (i := 0) (j := 0) X (ix_tb_at tb_X12_leastTrue 3 rfl) rfl rfl (pc1 := 6) rfl ?_
    refine ix_bipush (v := 21) X (ix_tb_at tb_X12_leastTrue 4 rfl) (by decide) (pc1 := 8) rfl ?_
    obtain ⟨k_24, h⟩ := ix_ck_some h
    obtain ⟨d_22, h_23, h⟩ := ix_bd1_ex h
    refine ix_callV (As := [.int 21]) (rest := []) (ci := 11) (T := TX12) (nf := 116) X mf_X12_mark mi_X12_mark ms_X12_mark rfl (Nat.le_of_ble_eq_true rfl) ml_RX12_391 ⟨Nat.le_of_ble_eq_true rfl, Nat.le_of_ble_eq_true rfl⟩ ⟨Nat.le_of_ble_eq_true rfl, Nat.le_of_ble_eq_true rfl⟩ rfl (Nat.le_of_ble_eq_true rfl) (ix_tb_at tb_X12_leastTrue 5 rfl) ⟨k_24.1, List.mem_singleton.mp k_24.2⟩ (c_X12_mark hKp h_23) rfl (pc1 := 11) rfl ?_
    refine ix_aload_n (i := 0) (j := 0) X (ix_tb_at tb_X12_leastTrue 6 rfl) rfl rfl (pc1 := 12) rfl ?_
    obtain ⟨b_25, q_26, h⟩ := ix_bd1_ex h
    refine iz_getR X fl_RX12_32 k_24 q_26 (ix_tb_at tb_X12_leastTrue 7 rfl) (pc1 := 15) rfl ?_
    refine ix_iload_n (i := 1) (j := 1) X (ix_tb_at tb_X12_leastTrue 8 rfl) rfl rfl (pc1 := 16) rfl ?_
    obtain ⟨k_27, h⟩ := ix_ck_some h
    refine iz_iald X k_27 (ix_tb_at tb_X12_leastTrue 9 rfl) (pc1 := 17) rfl ?_
    exact ix_iret X hr hlk (ix_r2 (f := fun r => some (.int r)) (g := ix_w z) h) (ix_tb_at tb_X12_leastTrue 10 rfl)
def tab_X12_mostTrue : List (Nat × Instr × Nat) := [(0, .aload_n 0, 1), (1, .getfield 38, 3), (4, .iload_n 1, 1), (5, .iaload, 1), (6, .istore_n 3, 1), (7, .iload_n 2, 1), (8, .iconst 4, 1), (9, .if_icmp .ne 11, 3), (12, .aload_n 0, 1), (13, .bipush 42, 2), (15, .invokevirtual 391, 3), (18, .iconst 1, 1), (19, .ireturn, 1), (20, .iload_n 2, 1), (21, .iconst 1, 1), (22, .if_icmp .eq 8, 3), (25, .iload_n 2, 1), (26, .iconst 2, 1), (27, .if_icmp .ne 12, 3), (30, .aload_n 0, 1), (31, .bipush 12, 2), (33, .invokevirtual 391, 3), (36, .goto 14, 3), (39, .iload_n 2, 1), (40, .iconst 3, 1), (41, .if_icmp .ne 9, 3), (44, .aload_n 0, 1), (45, .bipush 32, 2), (47, .invokevirtual 391, 3), (50, .aload_n 0, 1), (51, .bipush 52, 2), (53, .invokevirtual 391, 3), (56, .iload_n 2, 1), (57, .ifCond .ne 5, 3), (60, .iload_n 3, 1), (61, .ireturn, 1), (62, .iload_n 2, 1), (63, .iconst 3, 1), (64, .if_icmp .ne 32, 3), (67, .iload_n 3, 1), (68, .iconst 2, 1), (69, .irem, 1), (70, .iconst 1, 1), (71, .if_icmp .ne 7, 3), (74, .iconst 1, 1), (75, .goto 4, 3), (78, .iconst 0, 1), (79, .aload_n 0, 1), (80, .getfield 35, 3), (83, .iload_n 1, 1), (84, .baload, 1), (85, .if_icmp .ne 7, 3), (88, .iload_n 3, 1), (89, .goto 6, 3), (92, .iload_n 3, 1), (93, .iconst 1, 1), (94, .isub, 1), (95, .ireturn, 1), (96, .iload_n 3, 1), (97, .aload_n 0, 1), (98, .getfield 32, 3), (101, .iload_n 1, 1), (102, .iaload, 1), (103, .if_icmp .ge 7, 3), (106, .iload_n 3, 1), (107, .goto 9, 3), (110, .aload_n 0, 1), (111, .getfield 32, 3), (114, .iload_n 1, 1), (115, .iaload, 1), (116, .ireturn, 1)]
theorem tb_X12_mostTrue : ix_tab cX12_mostTrue tab_X12_mostTrue := by
  unfold ix_tab
  decide +kernel
noncomputable def f_X12_mostTrue_79 (n : Nat) (z : ix_Z)  (a0 : Nat) (x1 : Int32) (x3 : Int32) (s0 : Int32) (d : ix_D2) : Option (Int32 × ix_D2) :=
  ix_ck (ix_ok z [11] a0) (ix_bd1 (z.1 a0 14) (fun b_23 => ix_ck (ix_ix z 22 b_23 x1) (ix_if (s0 = d.1 b_23 (ix_n x1)) (some (x3, d)) (some (x3 - 1, d)))))
noncomputable def f_X12_mostTrue_50 (n : Nat) (z : ix_Z)  (a0 : Nat) (x1 : Int32) (x2 : Int32) (x3 : Int32) (d : ix_D2) : Option (Int32 × ix_D2) :=
  ix_ck (ix_ok z [11] a0) (ix_bd1 (f_X12_mark n z a0 52 d) (fun d_12 => ix_if (x2 = 0) (some (x3, d_12)) (ix_if (x2 = 3) (ix_if (x3 - x3 / 2 * 2 = 1) (f_X12_mostTrue_79 n z  a0 x1 x3 1 d_12) (f_X12_mostTrue_79 n z  a0 x1 x3 0 d_12)) (ix_bd1 (z.1 a0 13) (fun b_17 => ix_ck (ix_ix z 20 b_17 x1) (ix_if (d_12.1 b_17 (ix_n x1) ≤ x3) (some (d_12.1 b_17 (ix_n x1), d_12)) (some (x3, d_12))))))))
noncomputable def f_X12_mostTrue_30 (n : Nat) (z : ix_Z)  (a0 : Nat) (x1 : Int32) (x2 : Int32) (x3 : Int32) (d : ix_D2) : Option (Int32 × ix_D2) :=
  ix_ck (ix_ok z [11] a0) (ix_bd1 (f_X12_mark n z a0 12 d) (fun d_9 => f_X12_mostTrue_50 n z  a0 x1 x2 x3 d_9))
noncomputable def f_X12_mostTrue (n : Nat) (z : ix_Z) (a0 : Nat) (x1 : Int32) (x2 : Int32) (d : ix_D2) : Option (Int32 × ix_D2) :=
  ix_ck (ix_ok z [11] a0) (ix_bd1 (z.1 a0 15) (fun b_2 => ix_ck (ix_ix z 20 b_2 x1) (ix_lt (d.1 b_2 (ix_n x1)) (fun x3_5 => ix_if (x2 = 4) (ix_bd1 (f_X12_mark n z a0 42 d) (fun d_31 => some (1, d_31))) (ix_if (x2 = 1) (f_X12_mostTrue_30 n z  a0 x1 x2 x3_5 d) (ix_if (x2 = 2) (f_X12_mostTrue_30 n z  a0 x1 x2 x3_5 d) (ix_if (x2 = 3) (ix_bd1 (f_X12_mark n z a0 32 d) (fun d_29 => f_X12_mostTrue_50 n z  a0 x1 x2 x3_5 d_29)) (f_X12_mostTrue_50 n z  a0 x1 x2 x3_5 d))))))))
set_option maxRecDepth 20000 in
theorem t_X12_mostTrue_79 {l : Launch} {p : Program} {e : Env} {s : State} {m : MethodId} {args : Array Value} {below : List Frame} {meth : Method} {c : Code} {K : ix_Cx} (hKp : ix_Kp K) {n : Nat} {z : ix_Z} (X : ix_X p s m args c K cX12_mostTrue RX12 4) (hr : meth.sig.returnType = (some .int)) (hlk : meth.locks = false)  {a0 : Nat} {x1 : Int32} {x3 : Int32} {s0 : Int32} {r : Int32} {d1 : ix_D2}  {d : ix_D2} (h : f_X12_mostTrue_79 n z  a0 x1 x3 s0 d = some (r, d1)) : ix_G p l e (ix_rm 1 21 0 0) s m args below meth c (MQ below (ix_Post K (some (.int r)) (ix_w z d1)) args s 0 0 (ix_A K)) K 4 0 0 79 [(0, .ref (K.2.2.1 + a0)), (1, .int x1), (3, .int x3)] [.int s0] (ix_w z d) := by
  unfold f_X12_mostTrue_79 at h
  refine ix_aload_n (i := 0) (j := 0) X (ix_tb_at tb_X12_mostTrue 47 rfl) rfl rfl (pc1 := 80) rfl ?_
  obtain ⟨k_22, h⟩ := ix_ck_some h
  obtain ⟨b_23, q_24, h⟩ := ix_bd1_ex h
  refine iz_getR X fl_RX12_35 k_22 q_24 (ix_tb_at tb_X12_mostTrue 48 rfl) (pc1 := 83) rfl ?_
  refine ix_iload_n (i := 1) (j := 1) X (ix_tb_at tb_X12_mostTrue 49 rfl) rfl rfl (pc1 := 84) rfl ?_
  obtain ⟨k_25, h⟩ := ix_ck_some h
  refine iz_zald X k_25 (ix_tb_at tb_X12_mostTrue 50 rfl) (pc1 := 85) rfl ?_
  refine ix_icmp_ne (tgt := 92) X (ix_tb_at tb_X12_mostTrue 51 rfl) (by decide) (pc1 := 88) rfl (fun q_26 => ?_) (fun q_26 => ?_)
  · have h := ix_iff q_26 h
    refine ix_iload_n (i := 3) (j := 2) X (ix_tb_at tb_X12_mostTrue 54 rfl) rfl rfl (pc1 := 93) rfl ?_
    refine ix_iconst (v := 1) X (ix_tb_at tb_X12_mostTrue 55 rfl) (by decide) (pc1 := 94) rfl ?_
    refine ix_isub X (ix_tb_at tb_X12_mostTrue 56 rfl) (pc1 := 95) rfl ?_
    exact ix_iret X hr hlk (ix_r2 (f := fun r => some (.int r)) (g := ix_w z) h) (ix_tb_at tb_X12_mostTrue 57 rfl)
  · have h := ix_ift q_26 h
    refine ix_iload_n (i := 3) (j := 2) X (ix_tb_at tb_X12_mostTrue 52 rfl) rfl rfl (pc1 := 89) rfl ?_
    refine ix_goto (tgt := 95) X (ix_tb_at tb_X12_mostTrue 53 rfl) (by decide) ?_
    exact ix_iret X hr hlk (ix_r2 (f := fun r => some (.int r)) (g := ix_w z) h) (ix_tb_at tb_X12_mostTrue 57 rfl)
set_option maxRecDepth 20000 in
theorem t_X12_mostTrue_50 {l : Launch} {p : Program} {e : Env} {s : State} {m : MethodId} {args : Array Value} {below : List Frame} {meth : Method} {c : Code} {K : ix_Cx} (hKp : ix_Kp K) {n : Nat} {z : ix_Z} (X : ix_X p s m args c K cX12_mostTrue RX12 4) (hr : meth.sig.returnType = (some .int)) (hlk : meth.locks = false)  {a0 : Nat} {x1 : Int32} {x2 : Int32} {x3 : Int32} {r : Int32} {d1 : ix_D2}  {d : ix_D2} (h : f_X12_mostTrue_50 n z  a0 x1 x2 x3 d = some (r, d1)) : ix_G p l e (ix_rm 1 21 0 0) s m args below meth c (MQ below (ix_Post K (some (.int r)) (ix_w z d1)) args s 0 0 (ix_A K)) K 4 0 0 50 [(0, .ref (K.2.2.1 + a0)), (1, .int x1), (2, .int x2), (3, .int x3)] [] (ix_w z d) := by
  unfold f_X12_mostTrue_50 at h
  refine ix_aload_n (i := 0) (j := 0) X (ix_tb_at tb_X12_mostTrue 29 rfl) rfl rfl (pc1 := 51) rfl ?_
  refine ix_bipush (v := 52) X (ix_tb_at tb_X12_mostTrue 30 rfl) (by decide) (pc1 := 53) rfl ?_
  obtain ⟨k_14, h⟩ := ix_ck_some h
  obtain ⟨d_12, h_13, h⟩ := ix_bd1_ex h
  refine ix_callV (As := [.int 52]) (rest := []) (ci := 11) (T := TX12) (nf := 116) X mf_X12_mark mi_X12_mark ms_X12_mark rfl (Nat.le_of_ble_eq_true rfl) ml_RX12_391 ⟨Nat.le_of_ble_eq_true rfl, Nat.le_of_ble_eq_true rfl⟩ ⟨Nat.le_of_ble_eq_true rfl, Nat.le_of_ble_eq_true rfl⟩ rfl (Nat.le_of_ble_eq_true rfl) (ix_tb_at tb_X12_mostTrue 31 rfl) ⟨k_14.1, List.mem_singleton.mp k_14.2⟩ (c_X12_mark hKp h_13) rfl (pc1 := 56) rfl ?_
  refine ix_iload_n (i := 2) (j := 2) X (ix_tb_at tb_X12_mostTrue 32 rfl) rfl rfl (pc1 := 57) rfl ?_
  refine ix_if_ne (tgt := 62) X (ix_tb_at tb_X12_mostTrue 33 rfl) (by decide) (pc1 := 60) rfl (fun q_15 => ?_) (fun q_15 => ?_)
  · have h := ix_iff q_15 h
    refine ix_iload_n (i := 2) (j := 2) X (ix_tb_at tb_X12_mostTrue 36 rfl) rfl rfl (pc1 := 63) rfl ?_
    refine ix_iconst (v := 3) X (ix_tb_at tb_X12_mostTrue 37 rfl) (by decide) (pc1 := 64) rfl ?_
    refine ix_icmp_ne (tgt := 96) X (ix_tb_at tb_X12_mostTrue 38 rfl) (by decide) (pc1 := 67) rfl (fun q_16 => ?_) (fun q_16 => ?_)
    · have h := ix_iff q_16 h
      refine ix_iload_n (i := 3) (j := 3) X (ix_tb_at tb_X12_mostTrue 58 rfl) rfl rfl (pc1 := 97) rfl ?_
      refine ix_aload_n (i := 0) (j := 0) X (ix_tb_at tb_X12_mostTrue 59 rfl) rfl rfl (pc1 := 98) rfl ?_
      obtain ⟨b_17, q_18, h⟩ := ix_bd1_ex h
      refine iz_getR X fl_RX12_32 k_14 q_18 (ix_tb_at tb_X12_mostTrue 60 rfl) (pc1 := 101) rfl ?_
      refine ix_iload_n (i := 1) (j := 1) X (ix_tb_at tb_X12_mostTrue 61 rfl) rfl rfl (pc1 := 102) rfl ?_
      obtain ⟨k_19, h⟩ := ix_ck_some h
      refine iz_iald X k_19 (ix_tb_at tb_X12_mostTrue 62 rfl) (pc1 := 103) rfl ?_
      refine ix_icmp_ge (tgt := 110) X (ix_tb_at tb_X12_mostTrue 63 rfl) (by decide) (pc1 := 106) rfl (fun q_20 => ?_) (fun q_20 => ?_)
      · have h := ix_ift q_20 h
        refine ix_aload_n (i := 0) (j := 0) X (ix_tb_at tb_X12_mostTrue 66 rfl) rfl rfl (pc1 := 111) rfl ?_
        refine iz_getR X fl_RX12_32 k_14 q_18 (ix_tb_at tb_X12_mostTrue 67 rfl) (pc1 := 114) rfl ?_
        refine ix_iload_n (i := 1) (j := 1) X (ix_tb_at tb_X12_mostTrue 68 rfl) rfl rfl (pc1 := 115) rfl ?_
        refine iz_iald X k_19 (ix_tb_at tb_X12_mostTrue 69 rfl) (pc1 := 116) rfl ?_
        exact ix_iret X hr hlk (ix_r2 (f := fun r => some (.int r)) (g := ix_w z) h) (ix_tb_at tb_X12_mostTrue 70 rfl)
      · have h := ix_iff q_20 h
        refine ix_iload_n (i := 3) (j := 3) X (ix_tb_at tb_X12_mostTrue 64 rfl) rfl rfl (pc1 := 107) rfl ?_
        refine ix_goto (tgt := 116) X (ix_tb_at tb_X12_mostTrue 65 rfl) (by decide) ?_
        exact ix_iret X hr hlk (ix_r2 (f := fun r => some (.int r)) (g := ix_w z) h) (ix_tb_at tb_X12_mostTrue 70 rfl)
    · have h := ix_ift q_16 h
      refine ix_iload_n (i := 3) (j := 3) X (ix_tb_at tb_X12_mostTrue 39 rfl) rfl rfl (pc1 := 68) rfl ?_
      refine ix_iconst (v := 2) X (ix_tb_at tb_X12_mostTrue 40 rfl) (by decide) (pc1 := 69) rfl ?_
      refine ix_irem X (ix_tb_at tb_X12_mostTrue 41 rfl) (by decide) (pc1 := 70) rfl ?_
      refine ix_iconst (v := 1) X (ix_tb_at tb_X12_mostTrue 42 rfl) (by decide) (pc1 := 71) rfl ?_
      refine ix_icmp_ne (tgt := 78) X (ix_tb_at tb_X12_mostTrue 43 rfl) (by decide) (pc1 := 74) rfl (fun q_21 => ?_) (fun q_21 => ?_)
      · have h := ix_iff q_21 h
        refine ix_iconst (v := 0) X (ix_tb_at tb_X12_mostTrue 46 rfl) (by decide) (pc1 := 79) rfl ?_
        refine ix_sub (L1 := [(0, .ref (K.2.2.1 + a0)), (1, .int x1), (3, .int x3)]) [0, 1, 3] rfl ?_
        exact t_X12_mostTrue_79 hKp X hr hlk  h
      · have h := ix_ift q_21 h
        refine ix_iconst (v := 1) X (ix_tb_at tb_X12_mostTrue 44 rfl) (by decide) (pc1 := 75) rfl ?_
        refine ix_goto (tgt := 79) X (ix_tb_at tb_X12_mostTrue 45 rfl) (by decide) ?_
        refine ix_sub (L1 := [(0, .ref (K.2.2.1 + a0)), (1, .int x1), (3, .int x3)]) [0, 1, 3] rfl ?_
        exact t_X12_mostTrue_79 hKp X hr hlk  h
  · have h := ix_ift q_15 h
    refine ix_iload_n (i := 3) (j := 3) X (ix_tb_at tb_X12_mostTrue 34 rfl) rfl rfl (pc1 := 61) rfl ?_
    exact ix_iret X hr hlk (ix_r2 (f := fun r => some (.int r)) (g := ix_w z) h) (ix_tb_at tb_X12_mostTrue 35 rfl)
set_option maxRecDepth 20000 in
theorem t_X12_mostTrue_30 {l : Launch} {p : Program} {e : Env} {s : State} {m : MethodId} {args : Array Value} {below : List Frame} {meth : Method} {c : Code} {K : ix_Cx} (hKp : ix_Kp K) {n : Nat} {z : ix_Z} (X : ix_X p s m args c K cX12_mostTrue RX12 4) (hr : meth.sig.returnType = (some .int)) (hlk : meth.locks = false)  {a0 : Nat} {x1 : Int32} {x2 : Int32} {x3 : Int32} {r : Int32} {d1 : ix_D2}  {d : ix_D2} (h : f_X12_mostTrue_30 n z  a0 x1 x2 x3 d = some (r, d1)) : ix_G p l e (ix_rm 1 21 0 0) s m args below meth c (MQ below (ix_Post K (some (.int r)) (ix_w z d1)) args s 0 0 (ix_A K)) K 4 0 0 30 [(0, .ref (K.2.2.1 + a0)), (1, .int x1), (2, .int x2), (3, .int x3)] [] (ix_w z d) := by
  unfold f_X12_mostTrue_30 at h
  refine ix_aload_n (i := 0) (j := 0) X (ix_tb_at tb_X12_mostTrue 19 rfl) rfl rfl (pc1 := 31) rfl ?_
  refine ix_bipush (v := 12) X (ix_tb_at tb_X12_mostTrue 20 rfl) (by decide) (pc1 := 33) rfl ?_
  obtain ⟨k_11, h⟩ := ix_ck_some h
  obtain ⟨d_9, h_10, h⟩ := ix_bd1_ex h
  refine ix_callV (As := [.int 12]) (rest := []) (ci := 11) (T := TX12) (nf := 116) X mf_X12_mark mi_X12_mark ms_X12_mark rfl (Nat.le_of_ble_eq_true rfl) ml_RX12_391 ⟨Nat.le_of_ble_eq_true rfl, Nat.le_of_ble_eq_true rfl⟩ ⟨Nat.le_of_ble_eq_true rfl, Nat.le_of_ble_eq_true rfl⟩ rfl (Nat.le_of_ble_eq_true rfl) (ix_tb_at tb_X12_mostTrue 21 rfl) ⟨k_11.1, List.mem_singleton.mp k_11.2⟩ (c_X12_mark hKp h_10) rfl (pc1 := 36) rfl ?_
  refine ix_goto (tgt := 50) X (ix_tb_at tb_X12_mostTrue 22 rfl) (by decide) ?_
  refine ix_sub (L1 := [(0, .ref (K.2.2.1 + a0)), (1, .int x1), (2, .int x2), (3, .int x3)]) [0, 1, 2, 3] rfl ?_
  exact t_X12_mostTrue_50 hKp X hr hlk  h
set_option maxRecDepth 20000 in
theorem c_X12_mostTrue {l : Launch} {K : ix_Cx} (hKp : ix_Kp K) {n : Nat} {z : ix_Z} {a0 : Nat} {x1 : Int32} {x2 : Int32} {d : ix_D2} {r : Int32} {d1 : ix_D2} (h : f_X12_mostTrue n z a0 x1 x2 d = some (r, d1)) : ix_M l K yX12_mostTrue cX12_mostTrue 4 (some .int) 1 21 0 0 [.ref (K.2.2.1 + a0), .int x1, .int x2] (ix_w z d) (some (.int r)) (ix_w z d1) := by
  refine ix_met mf_X12_mostTrue hKp (Nat.le_of_ble_eq_true rfl) ?_
  intro p e s m args below meth c hr hlk hnm X
  have X : ix_X p s m args c K cX12_mostTrue RX12 4 := X
  show ix_G p l e (ix_rm 1 21 0 0) s m args below meth c (MQ below (ix_Post K (some (.int r)) (ix_w z d1)) args s 0 0 (ix_A K)) K 4 0 0 0 [(0, .ref (K.2.2.1 + a0)), (1, .int x1), (2, .int x2)] [] (ix_w z d)
  unfold f_X12_mostTrue at h
  refine ix_aload_n (i := 0) (j := 0) X (ix_tb_at tb_X12_mostTrue 0 rfl) rfl rfl (pc1 := 1) rfl ?_
  obtain ⟨k_1, h⟩ := ix_ck_some h
  obtain ⟨b_2, q_3, h⟩ := ix_bd1_ex h
  refine iz_getR X fl_RX12_38 k_1 q_3 (ix_tb_at tb_X12_mostTrue 1 rfl) (pc1 := 4) rfl ?_
  refine ix_iload_n (i := 1) (j := 1) X (ix_tb_at tb_X12_mostTrue 2 rfl) rfl rfl (pc1 := 5) rfl ?_
  obtain ⟨k_4, h⟩ := ix_ck_some h
  refine iz_iald X k_4 (ix_tb_at tb_X12_mostTrue 3 rfl) (pc1 := 6) rfl ?_
  obtain ⟨x3_5, e_6, h⟩ := ix_lt_ex h
  refine ix_nmi e_6 ?_
  refine ix_istore_n (i := 3) (L1 := [(3, .int x3_5), (0, .ref (K.2.2.1 + a0)), (1, .int x1), (2, .int x2)]) X (ix_tb_at tb_X12_mostTrue 4 rfl) rfl (Nat.le_of_ble_eq_true rfl) rfl (pc1 := 7) rfl ?_
  refine ix_iload_n (i := 2) (j := 3) X (ix_tb_at tb_X12_mostTrue 5 rfl) rfl rfl (pc1 := 8) rfl ?_
  refine ix_iconst (v := 4) X (ix_tb_at tb_X12_mostTrue 6 rfl) (by decide) (pc1 := 9) rfl ?_
  refine ix_icmp_ne (tgt := 20) X (ix_tb_at tb_X12_mostTrue 7 rfl) (by decide) (pc1 := 12) rfl (fun q_7 => ?_) (fun q_7 => ?_)
  · have h := ix_iff q_7 h
    refine ix_iload_n (i := 2) (j := 3) X (ix_tb_at tb_X12_mostTrue 13 rfl) rfl rfl (pc1 := 21) rfl ?_
    refine ix_iconst (v := 1) X (ix_tb_at tb_X12_mostTrue 14 rfl) (by decide) (pc1 := 22) rfl ?_
    refine ix_icmp_eq (tgt := 30) X (ix_tb_at tb_X12_mostTrue 15 rfl) (by decide) (pc1 := 25) rfl (fun q_8 => ?_) (fun q_8 => ?_)
    · have h := ix_ift q_8 h
      refine ix_sub (L1 := [(0, .ref (K.2.2.1 + a0)), (1, .int x1), (2, .int x2), (3, .int x3_5)]) [1, 2, 3, 0] rfl ?_
      exact t_X12_mostTrue_30 hKp X hr hlk  h
    · have h := ix_iff q_8 h
      refine ix_iload_n (i := 2) (j := 3) X (ix_tb_at tb_X12_mostTrue 16 rfl) rfl rfl (pc1 := 26) rfl ?_
      refine ix_iconst (v := 2) X (ix_tb_at tb_X12_mostTrue 17 rfl) (by decide) (pc1 := 27) rfl ?_
      refine ix_icmp_ne (tgt := 39) X (ix_tb_at tb_X12_mostTrue 18 rfl) (by decide) (pc1 := 30) rfl (fun q_27 => ?_) (fun q_27 => ?_)
      · have h := ix_iff q_27 h
        refine ix_iload_n (i := 2) (j := 3) X (ix_tb_at tb_X12_mostTrue 23 rfl) rfl rfl (pc1 := 40) rfl ?_
        refine ix_iconst (v := 3) X (ix_tb_at tb_X12_mostTrue 24 rfl) (by decide) (pc1 := 41) rfl ?_
        refine ix_icmp_ne (tgt := 50) X (ix_tb_at tb_X12_mostTrue 25 rfl) (by decide) (pc1 := 44) rfl (fun q_28 => ?_) (fun q_28 => ?_)
        · have h := ix_iff q_28 h
          refine ix_sub (L1 := [(0, .ref (K.2.2.1 + a0)), (1, .int x1), (2, .int x2), (3, .int x3_5)]) [1, 2, 3, 0] rfl ?_
          exact t_X12_mostTrue_50 hKp X hr hlk  h
        · have h := ix_ift q_28 h
          refine ix_aload_n (i := 0) (j := 1) X (ix_tb_at tb_X12_mostTrue 26 rfl) rfl rfl (pc1 := 45) rfl ?_
          refine ix_bipush (v := 32) X (ix_tb_at tb_X12_mostTrue 27 rfl) (by decide) (pc1 := 47) rfl ?_
          obtain ⟨d_29, h_30, h⟩ := ix_bd1_ex h
          refine ix_callV (As := [.int 32]) (rest := []) (ci := 11) (T := TX12) (nf := 116) X mf_X12_mark mi_X12_mark ms_X12_mark rfl (Nat.le_of_ble_eq_true rfl) ml_RX12_391 ⟨Nat.le_of_ble_eq_true rfl, Nat.le_of_ble_eq_true rfl⟩ ⟨Nat.le_of_ble_eq_true rfl, Nat.le_of_ble_eq_true rfl⟩ rfl (Nat.le_of_ble_eq_true rfl) (ix_tb_at tb_X12_mostTrue 28 rfl) ⟨k_1.1, List.mem_singleton.mp k_1.2⟩ (c_X12_mark hKp h_30) rfl (pc1 := 50) rfl ?_
          refine ix_sub (L1 := [(0, .ref (K.2.2.1 + a0)), (1, .int x1), (2, .int x2), (3, .int x3_5)]) [1, 2, 3, 0] rfl ?_
          exact t_X12_mostTrue_50 hKp X hr hlk  h
      · have h := ix_ift q_27 h
        refine ix_sub (L1 := [(0, .ref (K.2.2.1 + a0)), (1, .int x1), (2, .int x2), (3, .int x3_5)]) [1, 2, 3, 0] rfl ?_
        exact t_X12_mostTrue_30 hKp X hr hlk  h
  · have h := ix_ift q_7 h
    refine ix_aload_n (i := 0) (j := 1) X (ix_tb_at tb_X12_mostTrue 8 rfl) rfl rfl (pc1 := 13) rfl ?_
    refine ix_bipush (v := 42) X (ix_tb_at tb_X12_mostTrue 9 rfl) (by decide) (pc1 := 15) rfl ?_
    obtain ⟨d_31, h_32, h⟩ := ix_bd1_ex h
    refine ix_callV (As := [.int 42]) (rest := []) (ci := 11) (T := TX12) (nf := 116) X mf_X12_mark mi_X12_mark ms_X12_mark rfl (Nat.le_of_ble_eq_true rfl) ml_RX12_391 ⟨Nat.le_of_ble_eq_true rfl, Nat.le_of_ble_eq_true rfl⟩ ⟨Nat.le_of_ble_eq_true rfl, Nat.le_of_ble_eq_true rfl⟩ rfl (Nat.le_of_ble_eq_true rfl) (ix_tb_at tb_X12_mostTrue 10 rfl) ⟨k_1.1, List.mem_singleton.mp k_1.2⟩ (c_X12_mark hKp h_32) rfl (pc1 := 18) rfl ?_
    refine ix_iconst (v := 1) X (ix_tb_at tb_X12_mostTrue 11 rfl) (by decide) (pc1 := 19) rfl ?_
    exact ix_iret X hr hlk (ix_r2 (f := fun r => some (.int r)) (g := ix_w z) h) (ix_tb_at tb_X12_mostTrue 12 rfl)
def tab_X12_ask : List (Nat × Instr × Nat) := [(0, .aload_n 0, 1), (1, .iload_n 1, 1), (2, .invokevirtual 371, 3), (5, .ifCond .eq 12, 3), (8, .iload_n 2, 1), (9, .iconst 0, 1), (10, .iconst 3, 1), (11, .invokestatic 238, 3), (14, .ifCond .ne 11, 3), (17, .aload_n 0, 1), (18, .sipush (-1001), 3), (21, .invokevirtual 242, 3), (24, .ireturn, 1), (25, .iload_n 2, 1), (26, .ifCond .ne 29, 3), (29, .aload_n 0, 1), (30, .getfield 131, 3), (33, .iconst 0, 1), (34, .iaload, 1), (35, .iconst 1, 1), (36, .if_icmp .ne 11, 3), (39, .iload_n 1, 1), (40, .aload_n 0, 1), (41, .getfield 400, 3), (44, .if_icmp .lt 11, 3), (47, .aload_n 0, 1), (48, .sipush (-1002), 3), (51, .invokevirtual 242, 3), (54, .ireturn, 1), (55, .iload_n 2, 1), (56, .tableswitch 66 0 2 #[28, 42, 54], 28), (84, .aload_n 0, 1), (85, .iload_n 1, 1), (86, .invokevirtual 403, 3), (89, .ifCond .eq 7, 3), (92, .iconst 1, 1), (93, .goto 4, 3), (96, .iconst 0, 1), (97, .ireturn, 1), (98, .aload_n 0, 1), (99, .iload_n 1, 1), (100, .aload_n 0, 1), (101, .getfield 29, 3), (104, .iload_n 1, 1), (105, .iaload, 1), (106, .invokevirtual 406, 3), (109, .ireturn, 1), (110, .aload_n 0, 1), (111, .iload_n 1, 1), (112, .aload_n 0, 1), (113, .getfield 29, 3), (116, .iload_n 1, 1), (117, .iaload, 1), (118, .invokevirtual 409, 3), (121, .ireturn, 1), (122, .aload_n 0, 1), (123, .bipush 53, 2), (125, .invokevirtual 391, 3), (128, .aload_n 0, 1), (129, .getfield 47, 3), (132, .iload_n 1, 1), (133, .iaload, 1), (134, .ireturn, 1)]
theorem tb_X12_ask : ix_tab cX12_ask tab_X12_ask := by
  unfold ix_tab
  decide +kernel
noncomputable def f_X12_ask_17 (n : Nat) (z : ix_Z)  (a0 : Nat) (d : ix_D2) : Option (Int32 × ix_D2) :=
  ix_ck (ix_ok z [11] a0) (ix_bd2 (f_X12_fail n z a0 ((-1001)) d) (fun r_9 d_6 => some (r_9, d_6)))
noncomputable def f_X12_ask_55 (n : Nat) (z : ix_Z)  (a0 : Nat) (x1 : Int32) (x2 : Int32) (d : ix_D2) : Option (Int32 × ix_D2) :=
  ix_if (x2 = 0) (ix_ck (ix_ok z [11] a0) (ix_bd2 (f_X12_holds n z a0 x1 d) (fun r_19 d_16 => ix_if (r_19 = 0) (some (0, d_16)) (some (1, d_16))))) (ix_if (x2 = 1) (ix_ck (ix_ok z [11] a0) (ix_bd1 (z.1 a0 12) (fun b_23 => ix_ck (ix_ix z 20 b_23 x1) (ix_bd2 (f_X12_leastTrue n z a0 x1 (d.1 b_23 (ix_n x1)) d) (fun r_28 d_26 => some (r_28, d_26)))))) (ix_if (x2 = 2) (ix_ck (ix_ok z [11] a0) (ix_bd1 (z.1 a0 12) (fun b_31 => ix_ck (ix_ix z 20 b_31 x1) (ix_bd2 (f_X12_mostTrue n z a0 x1 (d.1 b_31 (ix_n x1)) d) (fun r_36 d_34 => some (r_36, d_34)))))) (ix_ck (ix_ok z [11] a0) (ix_bd1 (f_X12_mark n z a0 53 d) (fun d_37 => ix_bd1 (z.1 a0 18) (fun b_40 => ix_ck (ix_ix z 20 b_40 x1) (some (d_37.1 b_40 (ix_n x1), d_37))))))))
noncomputable def f_X12_ask_47 (n : Nat) (z : ix_Z)  (a0 : Nat) (d : ix_D2) : Option (Int32 × ix_D2) :=
  ix_ck (ix_ok z [11] a0) (ix_bd2 (f_X12_fail n z a0 ((-1002)) d) (fun r_50 d_47 => some (r_50, d_47)))
noncomputable def f_X12_ask (n : Nat) (z : ix_Z) (a0 : Nat) (x1 : Int32) (x2 : Int32) (d : ix_D2) : Option (Int32 × ix_D2) :=
  ix_ck (ix_ok z [11] a0) (ix_bd2 (f_X12_isRule n z a0 x1 d) (fun r_4 d_1 => ix_if (r_4 = 0) (f_X12_ask_17 n z  a0 d_1) (ix_bd2 (f_X12_in n z x2 0 3 d_1) (fun r_12 d_10 => ix_if (r_12 = 0) (f_X12_ask_17 n z  a0 d_10) (ix_if (x2 = 0) (ix_bd1 (z.1 a0 68) (fun b_43 => ix_ck (ix_ix z 20 b_43 0) (ix_if (d_10.1 b_43 (ix_n 0) = 1) (ix_if (x1 < d_10.1 a0 59) (f_X12_ask_55 n z  a0 x1 x2 d_10) (f_X12_ask_47 n z  a0 d_10)) (f_X12_ask_47 n z  a0 d_10)))) (f_X12_ask_55 n z  a0 x1 x2 d_10))))))
set_option maxRecDepth 20000 in
theorem t_X12_ask_17 {l : Launch} {p : Program} {e : Env} {s : State} {m : MethodId} {args : Array Value} {below : List Frame} {meth : Method} {c : Code} {K : ix_Cx} (hKp : ix_Kp K) {n : Nat} {z : ix_Z} (X : ix_X p s m args c K cX12_ask RX12 3) (hr : meth.sig.returnType = (some .int)) (hlk : meth.locks = false)  {a0 : Nat} {r : Int32} {d1 : ix_D2}  {d : ix_D2} (h : f_X12_ask_17 n z  a0 d = some (r, d1)) : ix_G p l e (ix_rm 3 73 0 0) s m args below meth c (MQ below (ix_Post K (some (.int r)) (ix_w z d1)) args s 0 0 (ix_A K)) K 3 0 0 17 [(0, .ref (K.2.2.1 + a0))] [] (ix_w z d) := by
  unfold f_X12_ask_17 at h
  refine ix_aload_n (i := 0) (j := 0) X (ix_tb_at tb_X12_ask 9 rfl) rfl rfl (pc1 := 18) rfl ?_
  refine ix_sipush (v := (-1001)) X (ix_tb_at tb_X12_ask 10 rfl) (by decide) (pc1 := 21) rfl ?_
  obtain ⟨k_8, h⟩ := ix_ck_some h
  obtain ⟨r_9, d_6, h_7, h⟩ := ix_bd2_ex h
  refine ix_callV (As := [.int ((-1001))]) (rest := []) (ci := 11) (T := TX12) (nf := 116) X mf_X12_fail mi_X12_fail ms_X12_fail rfl (Nat.le_of_ble_eq_true rfl) ml_RX12_242 ⟨Nat.le_of_ble_eq_true rfl, Nat.le_of_ble_eq_true rfl⟩ ⟨Nat.le_of_ble_eq_true rfl, Nat.le_of_ble_eq_true rfl⟩ rfl (Nat.le_of_ble_eq_true rfl) (ix_tb_at tb_X12_ask 11 rfl) ⟨k_8.1, List.mem_singleton.mp k_8.2⟩ (c_X12_fail hKp h_7) rfl (pc1 := 24) rfl ?_
  exact ix_iret X hr hlk (ix_r2 (f := fun r => some (.int r)) (g := ix_w z) h) (ix_tb_at tb_X12_ask 12 rfl)
set_option maxRecDepth 20000 in
theorem t_X12_ask_55 {l : Launch} {p : Program} {e : Env} {s : State} {m : MethodId} {args : Array Value} {below : List Frame} {meth : Method} {c : Code} {K : ix_Cx} (hKp : ix_Kp K) {n : Nat} {z : ix_Z} (X : ix_X p s m args c K cX12_ask RX12 3) (hr : meth.sig.returnType = (some .int)) (hlk : meth.locks = false)  {a0 : Nat} {x1 : Int32} {x2 : Int32} {r : Int32} {d1 : ix_D2}  {d : ix_D2} (h : f_X12_ask_55 n z  a0 x1 x2 d = some (r, d1)) : ix_G p l e (ix_rm 3 73 0 0) s m args below meth c (MQ below (ix_Post K (some (.int r)) (ix_w z d1)) args s 0 0 (ix_A K)) K 3 0 0 55 [(0, .ref (K.2.2.1 + a0)), (1, .int x1), (2, .int x2)] [] (ix_w z d) := by
  unfold f_X12_ask_55 at h
  refine ix_iload_n (i := 2) (j := 2) X (ix_tb_at tb_X12_ask 29 rfl) rfl rfl (pc1 := 56) rfl ?_
  rcases Classical.em (x2 = 0) with q_15 | q_15
  · have h := ix_ift q_15 h
    refine ix_swin (tgt := 84) X (ix_tb_at tb_X12_ask 30 rfl) (by rw [q_15]; decide) (by rw [q_15]; decide) (by rw [q_15]; rfl) (by decide) ?_
    refine ix_aload_n (i := 0) (j := 0) X (ix_tb_at tb_X12_ask 31 rfl) rfl rfl (pc1 := 85) rfl ?_
    refine ix_iload_n (i := 1) (j := 1) X (ix_tb_at tb_X12_ask 32 rfl) rfl rfl (pc1 := 86) rfl ?_
    obtain ⟨k_18, h⟩ := ix_ck_some h
    obtain ⟨r_19, d_16, h_17, h⟩ := ix_bd2_ex h
    refine ix_callV (As := [.int x1]) (rest := []) (ci := 11) (T := TX12) (nf := 116) X mf_X12_holds mi_X12_holds ms_X12_holds rfl (Nat.le_of_ble_eq_true rfl) ml_RX12_403 ⟨Nat.le_of_ble_eq_true rfl, Nat.le_of_ble_eq_true rfl⟩ ⟨Nat.le_of_ble_eq_true rfl, Nat.le_of_ble_eq_true rfl⟩ rfl (Nat.le_of_ble_eq_true rfl) (ix_tb_at tb_X12_ask 33 rfl) ⟨k_18.1, List.mem_singleton.mp k_18.2⟩ (c_X12_holds hKp h_17) rfl (pc1 := 89) rfl ?_
    refine ix_if_eq (tgt := 96) X (ix_tb_at tb_X12_ask 34 rfl) (by decide) (pc1 := 92) rfl (fun q_20 => ?_) (fun q_20 => ?_)
    · have h := ix_ift q_20 h
      refine ix_iconst (v := 0) X (ix_tb_at tb_X12_ask 37 rfl) (by decide) (pc1 := 97) rfl ?_
      exact ix_iret X hr hlk (ix_r2 (f := fun r => some (.int r)) (g := ix_w z) h) (ix_tb_at tb_X12_ask 38 rfl)
    · have h := ix_iff q_20 h
      refine ix_iconst (v := 1) X (ix_tb_at tb_X12_ask 35 rfl) (by decide) (pc1 := 93) rfl ?_
      refine ix_goto (tgt := 97) X (ix_tb_at tb_X12_ask 36 rfl) (by decide) ?_
      exact ix_iret X hr hlk (ix_r2 (f := fun r => some (.int r)) (g := ix_w z) h) (ix_tb_at tb_X12_ask 38 rfl)
  · have h := ix_iff q_15 h
    rcases Classical.em (x2 = 1) with q_21 | q_21
    · have h := ix_ift q_21 h
      refine ix_swin (tgt := 98) X (ix_tb_at tb_X12_ask 30 rfl) (by rw [q_21]; decide) (by rw [q_21]; decide) (by rw [q_21]; rfl) (by decide) ?_
      refine ix_aload_n (i := 0) (j := 0) X (ix_tb_at tb_X12_ask 39 rfl) rfl rfl (pc1 := 99) rfl ?_
      refine ix_iload_n (i := 1) (j := 1) X (ix_tb_at tb_X12_ask 40 rfl) rfl rfl (pc1 := 100) rfl ?_
      refine ix_aload_n (i := 0) (j := 0) X (ix_tb_at tb_X12_ask 41 rfl) rfl rfl (pc1 := 101) rfl ?_
      obtain ⟨k_22, h⟩ := ix_ck_some h
      obtain ⟨b_23, q_24, h⟩ := ix_bd1_ex h
      refine iz_getR X fl_RX12_29 k_22 q_24 (ix_tb_at tb_X12_ask 42 rfl) (pc1 := 104) rfl ?_
      refine ix_iload_n (i := 1) (j := 1) X (ix_tb_at tb_X12_ask 43 rfl) rfl rfl (pc1 := 105) rfl ?_
      obtain ⟨k_25, h⟩ := ix_ck_some h
      refine iz_iald X k_25 (ix_tb_at tb_X12_ask 44 rfl) (pc1 := 106) rfl ?_
      obtain ⟨r_28, d_26, h_27, h⟩ := ix_bd2_ex h
      refine ix_callV (As := [.int x1, .int (d.1 b_23 (ix_n x1))]) (rest := []) (ci := 11) (T := TX12) (nf := 116) X mf_X12_leastTrue mi_X12_leastTrue ms_X12_leastTrue rfl (Nat.le_of_ble_eq_true rfl) ml_RX12_406 ⟨Nat.le_of_ble_eq_true rfl, Nat.le_of_ble_eq_true rfl⟩ ⟨Nat.le_of_ble_eq_true rfl, Nat.le_of_ble_eq_true rfl⟩ rfl (Nat.le_of_ble_eq_true rfl) (ix_tb_at tb_X12_ask 45 rfl) ⟨k_22.1, List.mem_singleton.mp k_22.2⟩ (c_X12_leastTrue hKp h_27) rfl (pc1 := 109) rfl ?_
      exact ix_iret X hr hlk (ix_r2 (f := fun r => some (.int r)) (g := ix_w z) h) (ix_tb_at tb_X12_ask 46 rfl)
    · have h := ix_iff q_21 h
      rcases Classical.em (x2 = 2) with q_29 | q_29
      · have h := ix_ift q_29 h
        refine ix_swin (tgt := 110) X (ix_tb_at tb_X12_ask 30 rfl) (by rw [q_29]; decide) (by rw [q_29]; decide) (by rw [q_29]; rfl) (by decide) ?_
        refine ix_aload_n (i := 0) (j := 0) X (ix_tb_at tb_X12_ask 47 rfl) rfl rfl (pc1 := 111) rfl ?_
        refine ix_iload_n (i := 1) (j := 1) X (ix_tb_at tb_X12_ask 48 rfl) rfl rfl (pc1 := 112) rfl ?_
        refine ix_aload_n (i := 0) (j := 0) X (ix_tb_at tb_X12_ask 49 rfl) rfl rfl (pc1 := 113) rfl ?_
        obtain ⟨k_30, h⟩ := ix_ck_some h
        obtain ⟨b_31, q_32, h⟩ := ix_bd1_ex h
        refine iz_getR X fl_RX12_29 k_30 q_32 (ix_tb_at tb_X12_ask 50 rfl) (pc1 := 116) rfl ?_
        refine ix_iload_n (i := 1) (j := 1) X (ix_tb_at tb_X12_ask 51 rfl) rfl rfl (pc1 := 117) rfl ?_
        obtain ⟨k_33, h⟩ := ix_ck_some h
        refine iz_iald X k_33 (ix_tb_at tb_X12_ask 52 rfl) (pc1 := 118) rfl ?_
        obtain ⟨r_36, d_34, h_35, h⟩ := ix_bd2_ex h
        refine ix_callV (As := [.int x1, .int (d.1 b_31 (ix_n x1))]) (rest := []) (ci := 11) (T := TX12) (nf := 116) X mf_X12_mostTrue mi_X12_mostTrue ms_X12_mostTrue rfl (Nat.le_of_ble_eq_true rfl) ml_RX12_409 ⟨Nat.le_of_ble_eq_true rfl, Nat.le_of_ble_eq_true rfl⟩ ⟨Nat.le_of_ble_eq_true rfl, Nat.le_of_ble_eq_true rfl⟩ rfl (Nat.le_of_ble_eq_true rfl) (ix_tb_at tb_X12_ask 53 rfl) ⟨k_30.1, List.mem_singleton.mp k_30.2⟩ (c_X12_mostTrue hKp h_35) rfl (pc1 := 121) rfl ?_
        exact ix_iret X hr hlk (ix_r2 (f := fun r => some (.int r)) (g := ix_w z) h) (ix_tb_at tb_X12_ask 54 rfl)
      · have h := ix_iff q_29 h
        refine ix_swout (tgt := 122) X (ix_tb_at tb_X12_ask 30 rfl) (by have wq_15 := ix_ne (a := 0) (by decide) q_15; have wq_21 := ix_ne (a := 1) (by decide) q_21; have wq_29 := ix_ne (a := 2) (by decide) q_29; omega) (by decide) ?_
        refine ix_aload_n (i := 0) (j := 0) X (ix_tb_at tb_X12_ask 55 rfl) rfl rfl (pc1 := 123) rfl ?_
        refine ix_bipush (v := 53) X (ix_tb_at tb_X12_ask 56 rfl) (by decide) (pc1 := 125) rfl ?_
        obtain ⟨k_39, h⟩ := ix_ck_some h
        obtain ⟨d_37, h_38, h⟩ := ix_bd1_ex h
        refine ix_callV (As := [.int 53]) (rest := []) (ci := 11) (T := TX12) (nf := 116) X mf_X12_mark mi_X12_mark ms_X12_mark rfl (Nat.le_of_ble_eq_true rfl) ml_RX12_391 ⟨Nat.le_of_ble_eq_true rfl, Nat.le_of_ble_eq_true rfl⟩ ⟨Nat.le_of_ble_eq_true rfl, Nat.le_of_ble_eq_true rfl⟩ rfl (Nat.le_of_ble_eq_true rfl) (ix_tb_at tb_X12_ask 57 rfl) ⟨k_39.1, List.mem_singleton.mp k_39.2⟩ (c_X12_mark hKp h_38) rfl (pc1 := 128) rfl ?_
        refine ix_aload_n (i := 0) (j := 0) X (ix_tb_at tb_X12_ask 58 rfl) rfl rfl (pc1 := 129) rfl ?_
        obtain ⟨b_40, q_41, h⟩ := ix_bd1_ex h
        refine iz_getR X fl_RX12_47 k_39 q_41 (ix_tb_at tb_X12_ask 59 rfl) (pc1 := 132) rfl ?_
        refine ix_iload_n (i := 1) (j := 1) X (ix_tb_at tb_X12_ask 60 rfl) rfl rfl (pc1 := 133) rfl ?_
        obtain ⟨k_42, h⟩ := ix_ck_some h
        refine iz_iald X k_42 (ix_tb_at tb_X12_ask 61 rfl) (pc1 := 134) rfl ?_
        exact ix_iret X hr hlk (ix_r2 (f := fun r => some (.int r)) (g := ix_w z) h) (ix_tb_at tb_X12_ask 62 rfl)
set_option maxRecDepth 20000 in
theorem t_X12_ask_47 {l : Launch} {p : Program} {e : Env} {s : State} {m : MethodId} {args : Array Value} {below : List Frame} {meth : Method} {c : Code} {K : ix_Cx} (hKp : ix_Kp K) {n : Nat} {z : ix_Z} (X : ix_X p s m args c K cX12_ask RX12 3) (hr : meth.sig.returnType = (some .int)) (hlk : meth.locks = false)  {a0 : Nat} {r : Int32} {d1 : ix_D2}  {d : ix_D2} (h : f_X12_ask_47 n z  a0 d = some (r, d1)) : ix_G p l e (ix_rm 3 73 0 0) s m args below meth c (MQ below (ix_Post K (some (.int r)) (ix_w z d1)) args s 0 0 (ix_A K)) K 3 0 0 47 [(0, .ref (K.2.2.1 + a0))] [] (ix_w z d) := by
  unfold f_X12_ask_47 at h
  refine ix_aload_n (i := 0) (j := 0) X (ix_tb_at tb_X12_ask 25 rfl) rfl rfl (pc1 := 48) rfl ?_
  refine ix_sipush (v := (-1002)) X (ix_tb_at tb_X12_ask 26 rfl) (by decide) (pc1 := 51) rfl ?_
  obtain ⟨k_49, h⟩ := ix_ck_some h
  obtain ⟨r_50, d_47, h_48, h⟩ := ix_bd2_ex h
  refine ix_callV (As := [.int ((-1002))]) (rest := []) (ci := 11) (T := TX12) (nf := 116) X mf_X12_fail mi_X12_fail ms_X12_fail rfl (Nat.le_of_ble_eq_true rfl) ml_RX12_242 ⟨Nat.le_of_ble_eq_true rfl, Nat.le_of_ble_eq_true rfl⟩ ⟨Nat.le_of_ble_eq_true rfl, Nat.le_of_ble_eq_true rfl⟩ rfl (Nat.le_of_ble_eq_true rfl) (ix_tb_at tb_X12_ask 27 rfl) ⟨k_49.1, List.mem_singleton.mp k_49.2⟩ (c_X12_fail hKp h_48) rfl (pc1 := 54) rfl ?_
  exact ix_iret X hr hlk (ix_r2 (f := fun r => some (.int r)) (g := ix_w z) h) (ix_tb_at tb_X12_ask 28 rfl)
set_option maxRecDepth 20000 in
theorem c_X12_ask {l : Launch} {K : ix_Cx} (hKp : ix_Kp K) {n : Nat} {z : ix_Z} {a0 : Nat} {x1 : Int32} {x2 : Int32} {d : ix_D2} {r : Int32} {d1 : ix_D2} (h : f_X12_ask n z a0 x1 x2 d = some (r, d1)) : ix_M l K yX12_ask cX12_ask 3 (some .int) 3 73 0 0 [.ref (K.2.2.1 + a0), .int x1, .int x2] (ix_w z d) (some (.int r)) (ix_w z d1) := by
  refine ix_met mf_X12_ask hKp (Nat.le_of_ble_eq_true rfl) ?_
  intro p e s m args below meth c hr hlk hnm X
  have X : ix_X p s m args c K cX12_ask RX12 3 := X
  show ix_G p l e (ix_rm 3 73 0 0) s m args below meth c (MQ below (ix_Post K (some (.int r)) (ix_w z d1)) args s 0 0 (ix_A K)) K 3 0 0 0 [(0, .ref (K.2.2.1 + a0)), (1, .int x1), (2, .int x2)] [] (ix_w z d)
  unfold f_X12_ask at h
  refine ix_aload_n (i := 0) (j := 0) X (ix_tb_at tb_X12_ask 0 rfl) rfl rfl (pc1 := 1) rfl ?_
  refine ix_iload_n (i := 1) (j := 1) X (ix_tb_at tb_X12_ask 1 rfl) rfl rfl (pc1 := 2) rfl ?_
  obtain ⟨k_3, h⟩ := ix_ck_some h
  obtain ⟨r_4, d_1, h_2, h⟩ := ix_bd2_ex h
  refine ix_callV (As := [.int x1]) (rest := []) (ci := 11) (T := TX12) (nf := 116) X mf_X12_isRule mi_X12_isRule ms_X12_isRule rfl (Nat.le_of_ble_eq_true rfl) ml_RX12_371 ⟨Nat.le_of_ble_eq_true rfl, Nat.le_of_ble_eq_true rfl⟩ ⟨Nat.le_of_ble_eq_true rfl, Nat.le_of_ble_eq_true rfl⟩ rfl (Nat.le_of_ble_eq_true rfl) (ix_tb_at tb_X12_ask 2 rfl) ⟨k_3.1, List.mem_singleton.mp k_3.2⟩ (c_X12_isRule hKp h_2) rfl (pc1 := 5) rfl ?_
  refine ix_if_eq (tgt := 17) X (ix_tb_at tb_X12_ask 3 rfl) (by decide) (pc1 := 8) rfl (fun q_5 => ?_) (fun q_5 => ?_)
  · have h := ix_ift q_5 h
    refine ix_sub (L1 := [(0, .ref (K.2.2.1 + a0))]) [0] rfl ?_
    exact t_X12_ask_17 hKp X hr hlk  h
  · have h := ix_iff q_5 h
    refine ix_iload_n (i := 2) (j := 2) X (ix_tb_at tb_X12_ask 4 rfl) rfl rfl (pc1 := 9) rfl ?_
    refine ix_iconst (v := 0) X (ix_tb_at tb_X12_ask 5 rfl) (by decide) (pc1 := 10) rfl ?_
    refine ix_iconst (v := 3) X (ix_tb_at tb_X12_ask 6 rfl) (by decide) (pc1 := 11) rfl ?_
    obtain ⟨r_12, d_10, h_11, h⟩ := ix_bd2_ex h
    refine ix_callS (As := [.int x2, .int 0, .int 3]) (rest := []) X mf_X12_in st_X12_in ml_RX12_238 ⟨Nat.le_of_ble_eq_true rfl, Nat.le_of_ble_eq_true rfl⟩ ⟨Nat.le_of_ble_eq_true rfl, Nat.le_of_ble_eq_true rfl⟩ rfl (Nat.le_of_ble_eq_true rfl) (ix_tb_at tb_X12_ask 7 rfl) (c_X12_in hKp h_11) rfl (pc1 := 14) rfl ?_
    refine ix_if_ne (tgt := 25) X (ix_tb_at tb_X12_ask 8 rfl) (by decide) (pc1 := 17) rfl (fun q_13 => ?_) (fun q_13 => ?_)
    · have h := ix_iff q_13 h
      refine ix_iload_n (i := 2) (j := 2) X (ix_tb_at tb_X12_ask 13 rfl) rfl rfl (pc1 := 26) rfl ?_
      refine ix_if_ne (tgt := 55) X (ix_tb_at tb_X12_ask 14 rfl) (by decide) (pc1 := 29) rfl (fun q_14 => ?_) (fun q_14 => ?_)
      · have h := ix_iff q_14 h
        refine ix_sub (L1 := [(0, .ref (K.2.2.1 + a0)), (1, .int x1), (2, .int x2)]) [0, 1, 2] rfl ?_
        exact t_X12_ask_55 hKp X hr hlk  h
      · have h := ix_ift q_14 h
        refine ix_aload_n (i := 0) (j := 0) X (ix_tb_at tb_X12_ask 15 rfl) rfl rfl (pc1 := 30) rfl ?_
        obtain ⟨b_43, q_44, h⟩ := ix_bd1_ex h
        refine iz_getR X fl_RX12_131 k_3 q_44 (ix_tb_at tb_X12_ask 16 rfl) (pc1 := 33) rfl ?_
        refine ix_iconst (v := 0) X (ix_tb_at tb_X12_ask 17 rfl) (by decide) (pc1 := 34) rfl ?_
        obtain ⟨k_45, h⟩ := ix_ck_some h
        refine iz_iald X k_45 (ix_tb_at tb_X12_ask 18 rfl) (pc1 := 35) rfl ?_
        refine ix_iconst (v := 1) X (ix_tb_at tb_X12_ask 19 rfl) (by decide) (pc1 := 36) rfl ?_
        refine ix_icmp_ne (tgt := 47) X (ix_tb_at tb_X12_ask 20 rfl) (by decide) (pc1 := 39) rfl (fun q_46 => ?_) (fun q_46 => ?_)
        · have h := ix_iff q_46 h
          refine ix_sub (L1 := [(0, .ref (K.2.2.1 + a0))]) [0] rfl ?_
          exact t_X12_ask_47 hKp X hr hlk  h
        · have h := ix_ift q_46 h
          refine ix_iload_n (i := 1) (j := 1) X (ix_tb_at tb_X12_ask 21 rfl) rfl rfl (pc1 := 40) rfl ?_
          refine ix_aload_n (i := 0) (j := 0) X (ix_tb_at tb_X12_ask 22 rfl) rfl rfl (pc1 := 41) rfl ?_
          refine iz_getI X fl_RX12_400 k_3 (ix_tb_at tb_X12_ask 23 rfl) (pc1 := 44) rfl ?_
          refine ix_icmp_lt (tgt := 55) X (ix_tb_at tb_X12_ask 24 rfl) (by decide) (pc1 := 47) rfl (fun q_51 => ?_) (fun q_51 => ?_)
          · have h := ix_ift q_51 h
            refine ix_sub (L1 := [(0, .ref (K.2.2.1 + a0)), (1, .int x1), (2, .int x2)]) [0, 1, 2] rfl ?_
            exact t_X12_ask_55 hKp X hr hlk  h
          · have h := ix_iff q_51 h
            refine ix_sub (L1 := [(0, .ref (K.2.2.1 + a0))]) [0] rfl ?_
            exact t_X12_ask_47 hKp X hr hlk  h
    · have h := ix_ift q_13 h
      refine ix_sub (L1 := [(0, .ref (K.2.2.1 + a0))]) [0] rfl ?_
      exact t_X12_ask_17 hKp X hr hlk  h
def tab_X12_write : List (Nat × Instr × Nat) := [(0, .aload_n 0, 1), (1, .getfield 26, 3), (4, .aload_n 0, 1), (5, .getfield 412, 3), (8, .iload_n 1, 1), (9, .iastore, 1), (10, .aload_n 0, 1), (11, .dup, 1), (12, .getfield 412, 3), (15, .iconst 1, 1), (16, .iadd, 1), (17, .putfield 412, 3), (20, .return_, 1)]
theorem tb_X12_write : ix_tab cX12_write tab_X12_write := by
  unfold ix_tab
  decide +kernel
noncomputable def f_X12_write (n : Nat) (z : ix_Z) (a0 : Nat) (x1 : Int32) (d : ix_D2) : Option (ix_D2) :=
  ix_ck (ix_ok z [11] a0) (ix_bd1 (z.1 a0 9) (fun b_2 => ix_ck (ix_ix z 20 b_2 (d.1 a0 10)) (ix_lt (ix_di d b_2 (ix_n (d.1 a0 10)) x1) (fun d_5 => ix_lt (ix_di d_5 a0 10 ((d_5.1 a0 10) + 1)) (fun d_7 => some d_7)))))
set_option maxRecDepth 20000 in
theorem c_X12_write {l : Launch} {K : ix_Cx} (hKp : ix_Kp K) {n : Nat} {z : ix_Z} {a0 : Nat} {x1 : Int32} {d : ix_D2} {d1 : ix_D2} (h : f_X12_write n z a0 x1 d = some d1) : ix_M l K yX12_write cX12_write 2 (none : Option Jvm.ClassFile.FieldType) 0 0 0 0 [.ref (K.2.2.1 + a0), .int x1] (ix_w z d) none (ix_w z d1) := by
  refine ix_met mf_X12_write hKp (Nat.le_of_ble_eq_true rfl) ?_
  intro p e s m args below meth c hr hlk hnm X
  have X : ix_X p s m args c K cX12_write RX12 2 := X
  show ix_G p l e (ix_rm 0 0 0 0) s m args below meth c (MQ below (ix_Post K none (ix_w z d1)) args s 0 0 (ix_A K)) K 2 0 0 0 [(0, .ref (K.2.2.1 + a0)), (1, .int x1)] [] (ix_w z d)
  unfold f_X12_write at h
  refine ix_aload_n (i := 0) (j := 0) X (ix_tb_at tb_X12_write 0 rfl) rfl rfl (pc1 := 1) rfl ?_
  obtain ⟨k_1, h⟩ := ix_ck_some h
  obtain ⟨b_2, q_3, h⟩ := ix_bd1_ex h
  refine iz_getR X fl_RX12_26 k_1 q_3 (ix_tb_at tb_X12_write 1 rfl) (pc1 := 4) rfl ?_
  refine ix_aload_n (i := 0) (j := 0) X (ix_tb_at tb_X12_write 2 rfl) rfl rfl (pc1 := 5) rfl ?_
  refine iz_getI X fl_RX12_412 k_1 (ix_tb_at tb_X12_write 3 rfl) (pc1 := 8) rfl ?_
  refine ix_iload_n (i := 1) (j := 1) X (ix_tb_at tb_X12_write 4 rfl) rfl rfl (pc1 := 9) rfl ?_
  obtain ⟨k_4, h⟩ := ix_ck_some h
  obtain ⟨d_5, e_6, h⟩ := ix_lt_ex h
  refine iz_iast X k_4 (ix_tb_at tb_X12_write 5 rfl) e_6 (pc1 := 10) rfl ?_
  refine ix_aload_n (i := 0) (j := 0) X (ix_tb_at tb_X12_write 6 rfl) rfl rfl (pc1 := 11) rfl ?_
  refine ix_dup X (ix_tb_at tb_X12_write 7 rfl) rfl (pc1 := 12) rfl ?_
  refine iz_getI X fl_RX12_412 k_1 (ix_tb_at tb_X12_write 8 rfl) (pc1 := 15) rfl ?_
  refine ix_iconst (v := 1) X (ix_tb_at tb_X12_write 9 rfl) (by decide) (pc1 := 16) rfl ?_
  refine ix_iadd X (ix_tb_at tb_X12_write 10 rfl) (pc1 := 17) rfl ?_
  obtain ⟨d_7, e_8, h⟩ := ix_lt_ex h
  refine iz_putI X fp_RX12_412 k_1 (ix_tb_at tb_X12_write 11 rfl) e_8 (pc1 := 20) rfl ?_
  exact ix_vret X hr hlk (ix_r1 (g := ix_w z) h) (ix_tb_at tb_X12_write 12 rfl)
def tab_X12_writeNumber : List (Nat × Instr × Nat) := [(0, .iload_n 1, 1), (1, .istore_n 2, 1), (2, .iload_n 2, 1), (3, .ifCond .ge 12, 3), (6, .aload_n 0, 1), (7, .bipush 45, 2), (9, .invokevirtual 415, 3), (12, .iload_n 2, 1), (13, .ineg, 1), (14, .istore_n 2, 1), (15, .iload_n 2, 1), (16, .bipush 99, 2), (18, .if_icmp .le 14, 3), (21, .aload_n 0, 1), (22, .bipush 48, 2), (24, .iload_n 2, 1), (25, .bipush 100, 2), (27, .idiv, 1), (28, .iadd, 1), (29, .invokevirtual 415, 3), (32, .iload_n 2, 1), (33, .bipush 9, 2), (35, .if_icmp .le 17, 3), (38, .aload_n 0, 1), (39, .bipush 48, 2), (41, .iload_n 2, 1), (42, .bipush 10, 2), (44, .idiv, 1), (45, .bipush 10, 2), (47, .irem, 1), (48, .iadd, 1), (49, .invokevirtual 415, 3), (52, .aload_n 0, 1), (53, .bipush 48, 2), (55, .iload_n 2, 1), (56, .bipush 10, 2), (58, .irem, 1), (59, .iadd, 1), (60, .invokevirtual 415, 3), (63, .return_, 1)]
theorem tb_X12_writeNumber : ix_tab cX12_writeNumber tab_X12_writeNumber := by
  unfold ix_tab
  decide +kernel
noncomputable def f_X12_writeNumber_52 (n : Nat) (z : ix_Z)  (a0 : Nat) (x2 : Int32) (d : ix_D2) : Option (ix_D2) :=
  ix_ck (ix_ok z [11] a0) (ix_bd1 (f_X12_write n z a0 (48 + (x2 - x2 / 10 * 10)) d) (fun d_4 => some d_4))
noncomputable def f_X12_writeNumber_32 (n : Nat) (z : ix_Z)  (a0 : Nat) (x2 : Int32) (d : ix_D2) : Option (ix_D2) :=
  ix_if (x2 ≤ 9) (f_X12_writeNumber_52 n z  a0 x2 d) (ix_ck (ix_ok z [11] a0) (ix_bd1 (f_X12_write n z a0 (48 + ((x2 / 10) - (x2 / 10) / 10 * 10)) d) (fun d_7 => f_X12_writeNumber_52 n z  a0 x2 d_7)))
noncomputable def f_X12_writeNumber_15 (n : Nat) (z : ix_Z)  (a0 : Nat) (x2 : Int32) (d : ix_D2) : Option (ix_D2) :=
  ix_if (x2 ≤ 99) (f_X12_writeNumber_32 n z  a0 x2 d) (ix_ck (ix_ok z [11] a0) (ix_bd1 (f_X12_write n z a0 (48 + (x2 / 100)) d) (fun d_10 => f_X12_writeNumber_32 n z  a0 x2 d_10)))
noncomputable def f_X12_writeNumber (n : Nat) (z : ix_Z) (a0 : Nat) (x1 : Int32) (d : ix_D2) : Option (ix_D2) :=
  ix_if (0 ≤ x1) (f_X12_writeNumber_15 n z  a0 x1 d) (ix_ck (ix_ok z [11] a0) (ix_bd1 (f_X12_write n z a0 45 d) (fun d_13 => ix_lt (-x1) (fun x2_16 => f_X12_writeNumber_15 n z  a0 x2_16 d_13))))
set_option maxRecDepth 20000 in
theorem t_X12_writeNumber_52 {l : Launch} {p : Program} {e : Env} {s : State} {m : MethodId} {args : Array Value} {below : List Frame} {meth : Method} {c : Code} {K : ix_Cx} (hKp : ix_Kp K) {n : Nat} {z : ix_Z} (X : ix_X p s m args c K cX12_writeNumber RX12 3) (hr : meth.sig.returnType = (none : Option Jvm.ClassFile.FieldType)) (hlk : meth.locks = false)  {a0 : Nat} {x2 : Int32} {d1 : ix_D2}  {d : ix_D2} (h : f_X12_writeNumber_52 n z  a0 x2 d = some d1) : ix_G p l e (ix_rm 1 21 0 0) s m args below meth c (MQ below (ix_Post K none (ix_w z d1)) args s 0 0 (ix_A K)) K 3 0 0 52 [(0, .ref (K.2.2.1 + a0)), (2, .int x2)] [] (ix_w z d) := by
  unfold f_X12_writeNumber_52 at h
  refine ix_aload_n (i := 0) (j := 0) X (ix_tb_at tb_X12_writeNumber 32 rfl) rfl rfl (pc1 := 53) rfl ?_
  refine ix_bipush (v := 48) X (ix_tb_at tb_X12_writeNumber 33 rfl) (by decide) (pc1 := 55) rfl ?_
  refine ix_iload_n (i := 2) (j := 1) X (ix_tb_at tb_X12_writeNumber 34 rfl) rfl rfl (pc1 := 56) rfl ?_
  refine ix_bipush (v := 10) X (ix_tb_at tb_X12_writeNumber 35 rfl) (by decide) (pc1 := 58) rfl ?_
  refine ix_irem X (ix_tb_at tb_X12_writeNumber 36 rfl) (by decide) (pc1 := 59) rfl ?_
  refine ix_iadd X (ix_tb_at tb_X12_writeNumber 37 rfl) (pc1 := 60) rfl ?_
  obtain ⟨k_6, h⟩ := ix_ck_some h
  obtain ⟨d_4, h_5, h⟩ := ix_bd1_ex h
  refine ix_callV (As := [.int (48 + (x2 - x2 / 10 * 10))]) (rest := []) (ci := 11) (T := TX12) (nf := 116) X mf_X12_write mi_X12_write ms_X12_write rfl (Nat.le_of_ble_eq_true rfl) ml_RX12_415 ⟨Nat.le_of_ble_eq_true rfl, Nat.le_of_ble_eq_true rfl⟩ ⟨Nat.le_of_ble_eq_true rfl, Nat.le_of_ble_eq_true rfl⟩ rfl (Nat.le_of_ble_eq_true rfl) (ix_tb_at tb_X12_writeNumber 38 rfl) ⟨k_6.1, List.mem_singleton.mp k_6.2⟩ (c_X12_write hKp h_5) rfl (pc1 := 63) rfl ?_
  exact ix_vret X hr hlk (ix_r1 (g := ix_w z) h) (ix_tb_at tb_X12_writeNumber 39 rfl)
set_option maxRecDepth 20000 in
theorem t_X12_writeNumber_32 {l : Launch} {p : Program} {e : Env} {s : State} {m : MethodId} {args : Array Value} {below : List Frame} {meth : Method} {c : Code} {K : ix_Cx} (hKp : ix_Kp K) {n : Nat} {z : ix_Z} (X : ix_X p s m args c K cX12_writeNumber RX12 3) (hr : meth.sig.returnType = (none : Option Jvm.ClassFile.FieldType)) (hlk : meth.locks = false)  {a0 : Nat} {x2 : Int32} {d1 : ix_D2}  {d : ix_D2} (h : f_X12_writeNumber_32 n z  a0 x2 d = some d1) : ix_G p l e (ix_rm 1 21 0 0) s m args below meth c (MQ below (ix_Post K none (ix_w z d1)) args s 0 0 (ix_A K)) K 3 0 0 32 [(0, .ref (K.2.2.1 + a0)), (2, .int x2)] [] (ix_w z d) := by
  unfold f_X12_writeNumber_32 at h
  refine ix_iload_n (i := 2) (j := 1) X (ix_tb_at tb_X12_writeNumber 20 rfl) rfl rfl (pc1 := 33) rfl ?_
  refine ix_bipush (v := 9) X (ix_tb_at tb_X12_writeNumber 21 rfl) (by decide) (pc1 := 35) rfl ?_
  refine ix_icmp_le (tgt := 52) X (ix_tb_at tb_X12_writeNumber 22 rfl) (by decide) (pc1 := 38) rfl (fun q_3 => ?_) (fun q_3 => ?_)
  · have h := ix_ift q_3 h
    refine ix_sub (L1 := [(0, .ref (K.2.2.1 + a0)), (2, .int x2)]) [0, 1] rfl ?_
    exact t_X12_writeNumber_52 hKp X hr hlk  h
  · have h := ix_iff q_3 h
    refine ix_aload_n (i := 0) (j := 0) X (ix_tb_at tb_X12_writeNumber 23 rfl) rfl rfl (pc1 := 39) rfl ?_
    refine ix_bipush (v := 48) X (ix_tb_at tb_X12_writeNumber 24 rfl) (by decide) (pc1 := 41) rfl ?_
    refine ix_iload_n (i := 2) (j := 1) X (ix_tb_at tb_X12_writeNumber 25 rfl) rfl rfl (pc1 := 42) rfl ?_
    refine ix_bipush (v := 10) X (ix_tb_at tb_X12_writeNumber 26 rfl) (by decide) (pc1 := 44) rfl ?_
    refine ix_idiv X (ix_tb_at tb_X12_writeNumber 27 rfl) (by decide) (pc1 := 45) rfl ?_
    refine ix_bipush (v := 10) X (ix_tb_at tb_X12_writeNumber 28 rfl) (by decide) (pc1 := 47) rfl ?_
    refine ix_irem X (ix_tb_at tb_X12_writeNumber 29 rfl) (by decide) (pc1 := 48) rfl ?_
    refine ix_iadd X (ix_tb_at tb_X12_writeNumber 30 rfl) (pc1 := 49) rfl ?_
    obtain ⟨k_9, h⟩ := ix_ck_some h
    obtain ⟨d_7, h_8, h⟩ := ix_bd1_ex h
    refine ix_callV (As := [.int (48 + ((x2 / 10) - (x2 / 10) / 10 * 10))]) (rest := []) (ci := 11) (T := TX12) (nf := 116) X mf_X12_write mi_X12_write ms_X12_write rfl (Nat.le_of_ble_eq_true rfl) ml_RX12_415 ⟨Nat.le_of_ble_eq_true rfl, Nat.le_of_ble_eq_true rfl⟩ ⟨Nat.le_of_ble_eq_true rfl, Nat.le_of_ble_eq_true rfl⟩ rfl (Nat.le_of_ble_eq_true rfl) (ix_tb_at tb_X12_writeNumber 31 rfl) ⟨k_9.1, List.mem_singleton.mp k_9.2⟩ (c_X12_write hKp h_8) rfl (pc1 := 52) rfl ?_
    refine ix_sub (L1 := [(0, .ref (K.2.2.1 + a0)), (2, .int x2)]) [0, 1] rfl ?_
    exact t_X12_writeNumber_52 hKp X hr hlk  h
set_option maxRecDepth 20000 in
theorem t_X12_writeNumber_15 {l : Launch} {p : Program} {e : Env} {s : State} {m : MethodId} {args : Array Value} {below : List Frame} {meth : Method} {c : Code} {K : ix_Cx} (hKp : ix_Kp K) {n : Nat} {z : ix_Z} (X : ix_X p s m args c K cX12_writeNumber RX12 3) (hr : meth.sig.returnType = (none : Option Jvm.ClassFile.FieldType)) (hlk : meth.locks = false)  {a0 : Nat} {x2 : Int32} {d1 : ix_D2}  {d : ix_D2} (h : f_X12_writeNumber_15 n z  a0 x2 d = some d1) : ix_G p l e (ix_rm 1 21 0 0) s m args below meth c (MQ below (ix_Post K none (ix_w z d1)) args s 0 0 (ix_A K)) K 3 0 0 15 [(0, .ref (K.2.2.1 + a0)), (2, .int x2)] [] (ix_w z d) := by
  unfold f_X12_writeNumber_15 at h
  refine ix_iload_n (i := 2) (j := 1) X (ix_tb_at tb_X12_writeNumber 10 rfl) rfl rfl (pc1 := 16) rfl ?_
  refine ix_bipush (v := 99) X (ix_tb_at tb_X12_writeNumber 11 rfl) (by decide) (pc1 := 18) rfl ?_
  refine ix_icmp_le (tgt := 32) X (ix_tb_at tb_X12_writeNumber 12 rfl) (by decide) (pc1 := 21) rfl (fun q_2 => ?_) (fun q_2 => ?_)
  · have h := ix_ift q_2 h
    refine ix_sub (L1 := [(0, .ref (K.2.2.1 + a0)), (2, .int x2)]) [0, 1] rfl ?_
    exact t_X12_writeNumber_32 hKp X hr hlk  h
  · have h := ix_iff q_2 h
    refine ix_aload_n (i := 0) (j := 0) X (ix_tb_at tb_X12_writeNumber 13 rfl) rfl rfl (pc1 := 22) rfl ?_
    refine ix_bipush (v := 48) X (ix_tb_at tb_X12_writeNumber 14 rfl) (by decide) (pc1 := 24) rfl ?_
    refine ix_iload_n (i := 2) (j := 1) X (ix_tb_at tb_X12_writeNumber 15 rfl) rfl rfl (pc1 := 25) rfl ?_
    refine ix_bipush (v := 100) X (ix_tb_at tb_X12_writeNumber 16 rfl) (by decide) (pc1 := 27) rfl ?_
    refine ix_idiv X (ix_tb_at tb_X12_writeNumber 17 rfl) (by decide) (pc1 := 28) rfl ?_
    refine ix_iadd X (ix_tb_at tb_X12_writeNumber 18 rfl) (pc1 := 29) rfl ?_
    obtain ⟨k_12, h⟩ := ix_ck_some h
    obtain ⟨d_10, h_11, h⟩ := ix_bd1_ex h
    refine ix_callV (As := [.int (48 + (x2 / 100))]) (rest := []) (ci := 11) (T := TX12) (nf := 116) X mf_X12_write mi_X12_write ms_X12_write rfl (Nat.le_of_ble_eq_true rfl) ml_RX12_415 ⟨Nat.le_of_ble_eq_true rfl, Nat.le_of_ble_eq_true rfl⟩ ⟨Nat.le_of_ble_eq_true rfl, Nat.le_of_ble_eq_true rfl⟩ rfl (Nat.le_of_ble_eq_true rfl) (ix_tb_at tb_X12_writeNumber 19 rfl) ⟨k_12.1, List.mem_singleton.mp k_12.2⟩ (c_X12_write hKp h_11) rfl (pc1 := 32) rfl ?_
    refine ix_sub (L1 := [(0, .ref (K.2.2.1 + a0)), (2, .int x2)]) [0, 1] rfl ?_
    exact t_X12_writeNumber_32 hKp X hr hlk  h
set_option maxRecDepth 20000 in
theorem c_X12_writeNumber {l : Launch} {K : ix_Cx} (hKp : ix_Kp K) {n : Nat} {z : ix_Z} {a0 : Nat} {x1 : Int32} {d : ix_D2} {d1 : ix_D2} (h : f_X12_writeNumber n z a0 x1 d = some d1) : ix_M l K yX12_writeNumber cX12_writeNumber 3 (none : Option Jvm.ClassFile.FieldType) 1 21 0 0 [.ref (K.2.2.1 + a0), .int x1] (ix_w z d) none (ix_w z d1) := by
  refine ix_met mf_X12_writeNumber hKp (Nat.le_of_ble_eq_true rfl) ?_
  intro p e s m args below meth c hr hlk hnm X
  have X : ix_X p s m args c K cX12_writeNumber RX12 3 := X
  show ix_G p l e (ix_rm 1 21 0 0) s m args below meth c (MQ below (ix_Post K none (ix_w z d1)) args s 0 0 (ix_A K)) K 3 0 0 0 [(0, .ref (K.2.2.1 + a0)), (1, .int x1)] [] (ix_w z d)
  unfold f_X12_writeNumber at h
  refine ix_iload_n (i := 1) (j := 1) X (ix_tb_at tb_X12_writeNumber 0 rfl) rfl rfl (pc1 := 1) rfl ?_
  refine ix_istore_n (i := 2) (L1 := [(2, .int x1), (0, .ref (K.2.2.1 + a0)), (1, .int x1)]) X (ix_tb_at tb_X12_writeNumber 1 rfl) rfl (Nat.le_of_ble_eq_true rfl) rfl (pc1 := 2) rfl ?_
  refine ix_iload_n (i := 2) (j := 0) X (ix_tb_at tb_X12_writeNumber 2 rfl) rfl rfl (pc1 := 3) rfl ?_
  refine ix_if_ge (tgt := 15) X (ix_tb_at tb_X12_writeNumber 3 rfl) (by decide) (pc1 := 6) rfl (fun q_1 => ?_) (fun q_1 => ?_)
  · have h := ix_ift q_1 h
    refine ix_sub (L1 := [(0, .ref (K.2.2.1 + a0)), (2, .int x1)]) [1, 0] rfl ?_
    exact t_X12_writeNumber_15 hKp X hr hlk  h
  · have h := ix_iff q_1 h
    refine ix_aload_n (i := 0) (j := 1) X (ix_tb_at tb_X12_writeNumber 4 rfl) rfl rfl (pc1 := 7) rfl ?_
    refine ix_bipush (v := 45) X (ix_tb_at tb_X12_writeNumber 5 rfl) (by decide) (pc1 := 9) rfl ?_
    obtain ⟨k_15, h⟩ := ix_ck_some h
    obtain ⟨d_13, h_14, h⟩ := ix_bd1_ex h
    refine ix_callV (As := [.int 45]) (rest := []) (ci := 11) (T := TX12) (nf := 116) X mf_X12_write mi_X12_write ms_X12_write rfl (Nat.le_of_ble_eq_true rfl) ml_RX12_415 ⟨Nat.le_of_ble_eq_true rfl, Nat.le_of_ble_eq_true rfl⟩ ⟨Nat.le_of_ble_eq_true rfl, Nat.le_of_ble_eq_true rfl⟩ rfl (Nat.le_of_ble_eq_true rfl) (ix_tb_at tb_X12_writeNumber 6 rfl) ⟨k_15.1, List.mem_singleton.mp k_15.2⟩ (c_X12_write hKp h_14) rfl (pc1 := 12) rfl ?_
    refine ix_iload_n (i := 2) (j := 0) X (ix_tb_at tb_X12_writeNumber 7 rfl) rfl rfl (pc1 := 13) rfl ?_
    refine ix_ineg X (ix_tb_at tb_X12_writeNumber 8 rfl) (pc1 := 14) rfl ?_
    obtain ⟨x2_16, e_17, h⟩ := ix_lt_ex h
    refine ix_nmi e_17 ?_
    refine ix_istore_n (i := 2) (L1 := [(2, .int x2_16), (0, .ref (K.2.2.1 + a0)), (1, .int x1)]) X (ix_tb_at tb_X12_writeNumber 9 rfl) rfl (Nat.le_of_ble_eq_true rfl) rfl (pc1 := 15) rfl ?_
    refine ix_sub (L1 := [(0, .ref (K.2.2.1 + a0)), (2, .int x2_16)]) [1, 0] rfl ?_
    exact t_X12_writeNumber_15 hKp X hr hlk  h
def tab_X12_writeWord : List (Nat × Instr × Nat) := [(0, .iload_n 1, 1), (1, .istore_n 2, 1), (2, .aload_n 0, 1), (3, .getfield 110, 3), (6, .iload_n 2, 1), (7, .iaload, 1), (8, .ifCond .eq 19, 3), (11, .aload_n 0, 1), (12, .aload_n 0, 1), (13, .getfield 110, 3), (16, .iload_n 2, 1), (17, .iaload, 1), (18, .invokevirtual 415, 3), (21, .iinc 2 1, 3), (24, .goto (-22), 3), (27, .return_, 1)]
theorem tb_X12_writeWord : ix_tab cX12_writeWord tab_X12_writeWord := by
  unfold ix_tab
  decide +kernel
noncomputable def b_X12_writeWord_2 (n : Nat) (z : ix_Z)  (a0 : Nat) (rec2 : Int32 → ix_D2 → Option (ix_D2)) (x2 : Int32) (d : ix_D2) : Option (ix_D2) :=
  ix_ck (ix_ok z [11] a0) (ix_bd1 (z.1 a0 56) (fun b_2 => ix_ck (ix_ix z 20 b_2 x2) (ix_if (d.1 b_2 (ix_n x2) = 0) (some d) (ix_bd1 (f_X12_write n z a0 (d.1 b_2 (ix_n x2)) d) (fun d_6 => ix_lt (x2 + 1) (fun x2_8 => rec2 x2_8 d_6))))))
noncomputable def f_X12_writeWord_2 (n : Nat) (z : ix_Z)  (a0 : Nat) (x2 : Int32) (d : ix_D2) : Option (ix_D2) := ix_fix (b_X12_writeWord_2 n z  a0) (fun _ _ => none) n x2 d
noncomputable def f_X12_writeWord (n : Nat) (z : ix_Z) (a0 : Nat) (x1 : Int32) (d : ix_D2) : Option (ix_D2) :=
  f_X12_writeWord_2 n z  a0 x1 d
set_option maxRecDepth 20000 in
theorem tb_X12_writeWord_2 {l : Launch} {p : Program} {e : Env} {s : State} {m : MethodId} {args : Array Value} {below : List Frame} {meth : Method} {c : Code} {K : ix_Cx} (hKp : ix_Kp K) {n : Nat} {z : ix_Z} (X : ix_X p s m args c K cX12_writeWord RX12 3) (hr : meth.sig.returnType = (none : Option Jvm.ClassFile.FieldType)) (hlk : meth.locks = false)  {a0 : Nat} {rec2 : Int32 → ix_D2 → Option (ix_D2)} {d1 : ix_D2} (hrec2 : ∀ (x2 : Int32) (d : ix_D2), rec2 x2 d = some d1 → ix_G p l e (ix_rm 1 21 0 0) s m args below meth c (MQ below (ix_Post K none (ix_w z d1)) args s 0 0 (ix_A K)) K 3 0 0 2 [(0, .ref (K.2.2.1 + a0)), (2, .int x2)] [] (ix_w z d)) {x2 : Int32} {d : ix_D2} (h : b_X12_writeWord_2 n z  a0 rec2 x2 d = some d1) : ix_G p l e (ix_rm 1 21 0 0) s m args below meth c (MQ below (ix_Post K none (ix_w z d1)) args s 0 0 (ix_A K)) K 3 0 0 2 [(0, .ref (K.2.2.1 + a0)), (2, .int x2)] [] (ix_w z d) := by
  unfold b_X12_writeWord_2 at h
  refine ix_aload_n (i := 0) (j := 0) X (ix_tb_at tb_X12_writeWord 2 rfl) rfl rfl (pc1 := 3) rfl ?_
  obtain ⟨k_1, h⟩ := ix_ck_some h
  obtain ⟨b_2, q_3, h⟩ := ix_bd1_ex h
  refine iz_getR X fl_RX12_110 k_1 q_3 (ix_tb_at tb_X12_writeWord 3 rfl) (pc1 := 6) rfl ?_
  refine ix_iload_n (i := 2) (j := 1) X (ix_tb_at tb_X12_writeWord 4 rfl) rfl rfl (pc1 := 7) rfl ?_
  obtain ⟨k_4, h⟩ := ix_ck_some h
  refine iz_iald X k_4 (ix_tb_at tb_X12_writeWord 5 rfl) (pc1 := 8) rfl ?_
  refine ix_if_eq (tgt := 27) X (ix_tb_at tb_X12_writeWord 6 rfl) (by decide) (pc1 := 11) rfl (fun q_5 => ?_) (fun q_5 => ?_)
  · have h := ix_ift q_5 h
    exact ix_vret X hr hlk (ix_r1 (g := ix_w z) h) (ix_tb_at tb_X12_writeWord 15 rfl)
  · have h := ix_iff q_5 h
    refine ix_aload_n (i := 0) (j := 0) X (ix_tb_at tb_X12_writeWord 7 rfl) rfl rfl (pc1 := 12) rfl ?_
    refine ix_aload_n (i := 0) (j := 0) X (ix_tb_at tb_X12_writeWord 8 rfl) rfl rfl (pc1 := 13) rfl ?_
    refine iz_getR X fl_RX12_110 k_1 q_3 (ix_tb_at tb_X12_writeWord 9 rfl) (pc1 := 16) rfl ?_
    refine ix_iload_n (i := 2) (j := 1) X (ix_tb_at tb_X12_writeWord 10 rfl) rfl rfl (pc1 := 17) rfl ?_
    refine iz_iald X k_4 (ix_tb_at tb_X12_writeWord 11 rfl) (pc1 := 18) rfl ?_
    obtain ⟨d_6, h_7, h⟩ := ix_bd1_ex h
    refine ix_callV (As := [.int (d.1 b_2 (ix_n x2))]) (rest := []) (ci := 11) (T := TX12) (nf := 116) X mf_X12_write mi_X12_write ms_X12_write rfl (Nat.le_of_ble_eq_true rfl) ml_RX12_415 ⟨Nat.le_of_ble_eq_true rfl, Nat.le_of_ble_eq_true rfl⟩ ⟨Nat.le_of_ble_eq_true rfl, Nat.le_of_ble_eq_true rfl⟩ rfl (Nat.le_of_ble_eq_true rfl) (ix_tb_at tb_X12_writeWord 12 rfl) ⟨k_1.1, List.mem_singleton.mp k_1.2⟩ (c_X12_write hKp h_7) rfl (pc1 := 21) rfl ?_
    obtain ⟨x2_8, e_9, h⟩ := ix_lt_ex h
    refine ix_iinc (i := 2) (j := 1) (v := x2_8) (L1 := [(2, .int x2_8), (0, .ref (K.2.2.1 + a0))]) X (ix_tb_at tb_X12_writeWord 13 rfl) rfl (by rw [oi_1]; exact e_9.symm) (Nat.le_of_ble_eq_true rfl) rfl (pc1 := 24) rfl ?_
    refine ix_goto (tgt := 2) X (ix_tb_at tb_X12_writeWord 14 rfl) (by decide) ?_
    refine ix_sub (L1 := [(0, .ref (K.2.2.1 + a0)), (2, .int x2_8)]) [1, 0] rfl ?_
    exact hrec2 x2_8 d_6 h
theorem t_X12_writeWord_2 {l : Launch} {p : Program} {e : Env} {s : State} {m : MethodId} {args : Array Value} {below : List Frame} {meth : Method} {c : Code} {K : ix_Cx} (hKp : ix_Kp K) {n : Nat} {z : ix_Z} (X : ix_X p s m args c K cX12_writeWord RX12 3) (hr : meth.sig.returnType = (none : Option Jvm.ClassFile.FieldType)) (hlk : meth.locks = false)  {a0 : Nat} {d1 : ix_D2}  {x2 : Int32} {d : ix_D2} (h : f_X12_writeWord_2 n z  a0 x2 d = some d1) : ix_G p l e (ix_rm 1 21 0 0) s m args below meth c (MQ below (ix_Post K none (ix_w z d1)) args s 0 0 (ix_A K)) K 3 0 0 2 [(0, .ref (K.2.2.1 + a0)), (2, .int x2)] [] (ix_w z d) := by
  have key : ∀ (f : Nat) (x2 : Int32) (d : ix_D2), ix_fix (b_X12_writeWord_2 n z  a0) (fun _ _ => none) f x2 d = some d1 → ix_G p l e (ix_rm 1 21 0 0) s m args below meth c (MQ below (ix_Post K none (ix_w z d1)) args s 0 0 (ix_A K)) K 3 0 0 2 [(0, .ref (K.2.2.1 + a0)), (2, .int x2)] [] (ix_w z d) := by
    intro f
    induction f with
    | zero =>
      intro x2 d h
      have h : (none : Option (ix_D2)) = some d1 := h
      cases h
    | succ f ih =>
      intro x2 d h
      exact tb_X12_writeWord_2 hKp X hr hlk (rec2 := ix_fix (b_X12_writeWord_2 n z  a0) (fun _ _ => none) f)  ih h
  exact key n x2 d h
set_option maxRecDepth 20000 in
theorem c_X12_writeWord {l : Launch} {K : ix_Cx} (hKp : ix_Kp K) {n : Nat} {z : ix_Z} {a0 : Nat} {x1 : Int32} {d : ix_D2} {d1 : ix_D2} (h : f_X12_writeWord n z a0 x1 d = some d1) : ix_M l K yX12_writeWord cX12_writeWord 3 (none : Option Jvm.ClassFile.FieldType) 1 21 0 0 [.ref (K.2.2.1 + a0), .int x1] (ix_w z d) none (ix_w z d1) := by
  refine ix_met mf_X12_writeWord hKp (Nat.le_of_ble_eq_true rfl) ?_
  intro p e s m args below meth c hr hlk hnm X
  have X : ix_X p s m args c K cX12_writeWord RX12 3 := X
  show ix_G p l e (ix_rm 1 21 0 0) s m args below meth c (MQ below (ix_Post K none (ix_w z d1)) args s 0 0 (ix_A K)) K 3 0 0 0 [(0, .ref (K.2.2.1 + a0)), (1, .int x1)] [] (ix_w z d)
  unfold f_X12_writeWord at h
  refine ix_iload_n (i := 1) (j := 1) X (ix_tb_at tb_X12_writeWord 0 rfl) rfl rfl (pc1 := 1) rfl ?_
  refine ix_istore_n (i := 2) (L1 := [(2, .int x1), (0, .ref (K.2.2.1 + a0)), (1, .int x1)]) X (ix_tb_at tb_X12_writeWord 1 rfl) rfl (Nat.le_of_ble_eq_true rfl) rfl (pc1 := 2) rfl ?_
  refine ix_sub (L1 := [(0, .ref (K.2.2.1 + a0)), (2, .int x1)]) [1, 0] rfl ?_
  exact t_X12_writeWord_2 hKp X hr hlk  h
def tab_X12_writeList : List (Nat × Instr × Nat) := [(0, .aload_n 0, 1), (1, .bipush 64, 2), (3, .invokevirtual 391, 3), (6, .aload_n 0, 1), (7, .bipush 40, 2), (9, .invokevirtual 415, 3), (12, .iconst 0, 1), (13, .istore_n 2, 1), (14, .iload_n 2, 1), (15, .aload_n 0, 1), (16, .getfield 38, 3), (19, .iload_n 1, 1), (20, .iaload, 1), (21, .if_icmp .ge 34, 3), (24, .iload_n 2, 1), (25, .ifCond .le 9, 3), (28, .aload_n 0, 1), (29, .bipush 44, 2), (31, .invokevirtual 415, 3), (34, .aload_n 0, 1), (35, .aload_n 0, 1), (36, .getfield 41, 3), (39, .bipush 30, 2), (41, .iload_n 1, 1), (42, .imul, 1), (43, .iload_n 2, 1), (44, .iadd, 1), (45, .iaload, 1), (46, .invokevirtual 418, 3), (49, .iinc 2 1, 3), (52, .goto (-38), 3), (55, .aload_n 0, 1), (56, .bipush 41, 2), (58, .invokevirtual 415, 3), (61, .return_, 1)]
theorem tb_X12_writeList : ix_tab cX12_writeList tab_X12_writeList := by
  unfold ix_tab
  decide +kernel
noncomputable def f_X12_writeList_34 (n : Nat) (z : ix_Z) (rec14 : Int32 → ix_D2 → Option (ix_D2)) (a0 : Nat) (x1 : Int32) (x2 : Int32) (d : ix_D2) : Option (ix_D2) :=
  ix_ck (ix_ok z [11] a0) (ix_bd1 (z.1 a0 16) (fun b_15 => ix_ck (ix_ix z 20 b_15 ((30 * x1) + x2)) (ix_bd1 (f_X12_writeNumber n z a0 (d.1 b_15 (ix_n ((30 * x1) + x2))) d) (fun d_18 => ix_lt (x2 + 1) (fun x2_20 => rec14 x2_20 d_18)))))
noncomputable def b_X12_writeList_14 (n : Nat) (z : ix_Z)  (a0 : Nat) (x1 : Int32) (rec14 : Int32 → ix_D2 → Option (ix_D2)) (x2 : Int32) (d : ix_D2) : Option (ix_D2) :=
  ix_ck (ix_ok z [11] a0) (ix_bd1 (z.1 a0 15) (fun b_7 => ix_ck (ix_ix z 20 b_7 x1) (ix_if (d.1 b_7 (ix_n x1) ≤ x2) (ix_bd1 (f_X12_write n z a0 41 d) (fun d_11 => some d_11)) (ix_if (x2 ≤ 0) (f_X12_writeList_34 n z rec14 a0 x1 x2 d) (ix_bd1 (f_X12_write n z a0 44 d) (fun d_22 => f_X12_writeList_34 n z rec14 a0 x1 x2 d_22))))))
noncomputable def f_X12_writeList_14 (n : Nat) (z : ix_Z)  (a0 : Nat) (x1 : Int32) (x2 : Int32) (d : ix_D2) : Option (ix_D2) := ix_fix (b_X12_writeList_14 n z  a0 x1) (fun _ _ => none) n x2 d
noncomputable def f_X12_writeList (n : Nat) (z : ix_Z) (a0 : Nat) (x1 : Int32) (d : ix_D2) : Option (ix_D2) :=
  ix_ck (ix_ok z [11] a0) (ix_bd1 (f_X12_mark n z a0 64 d) (fun d_1 => ix_bd1 (f_X12_write n z a0 40 d_1) (fun d_4 => f_X12_writeList_14 n z  a0 x1 0 d_4)))
set_option maxRecDepth 20000 in
theorem t_X12_writeList_34 {l : Launch} {p : Program} {e : Env} {s : State} {m : MethodId} {args : Array Value} {below : List Frame} {meth : Method} {c : Code} {K : ix_Cx} (hKp : ix_Kp K) {n : Nat} {z : ix_Z} (X : ix_X p s m args c K cX12_writeList RX12 3) (hr : meth.sig.returnType = (none : Option Jvm.ClassFile.FieldType)) (hlk : meth.locks = false) {rec14 : Int32 → ix_D2 → Option (ix_D2)} {a0 : Nat} {x1 : Int32} {x2 : Int32} {d1 : ix_D2} (hrec14 : ∀ (x2 : Int32) (d : ix_D2), rec14 x2 d = some d1 → ix_G p l e (ix_rm 2 43 0 0) s m args below meth c (MQ below (ix_Post K none (ix_w z d1)) args s 0 0 (ix_A K)) K 3 0 0 14 [(0, .ref (K.2.2.1 + a0)), (1, .int x1), (2, .int x2)] [] (ix_w z d)) {d : ix_D2} (h : f_X12_writeList_34 n z rec14 a0 x1 x2 d = some d1) : ix_G p l e (ix_rm 2 43 0 0) s m args below meth c (MQ below (ix_Post K none (ix_w z d1)) args s 0 0 (ix_A K)) K 3 0 0 34 [(0, .ref (K.2.2.1 + a0)), (1, .int x1), (2, .int x2)] [] (ix_w z d) := by
  unfold f_X12_writeList_34 at h
  refine ix_aload_n (i := 0) (j := 0) X (ix_tb_at tb_X12_writeList 19 rfl) rfl rfl (pc1 := 35) rfl ?_
  refine ix_aload_n (i := 0) (j := 0) X (ix_tb_at tb_X12_writeList 20 rfl) rfl rfl (pc1 := 36) rfl ?_
  obtain ⟨k_14, h⟩ := ix_ck_some h
  obtain ⟨b_15, q_16, h⟩ := ix_bd1_ex h
  refine iz_getR X fl_RX12_41 k_14 q_16 (ix_tb_at tb_X12_writeList 21 rfl) (pc1 := 39) rfl ?_
  refine ix_bipush (v := 30) X (ix_tb_at tb_X12_writeList 22 rfl) (by decide) (pc1 := 41) rfl ?_
  refine ix_iload_n (i := 1) (j := 1) X (ix_tb_at tb_X12_writeList 23 rfl) rfl rfl (pc1 := 42) rfl ?_
  refine ix_imul X (ix_tb_at tb_X12_writeList 24 rfl) (pc1 := 43) rfl ?_
  refine ix_iload_n (i := 2) (j := 2) X (ix_tb_at tb_X12_writeList 25 rfl) rfl rfl (pc1 := 44) rfl ?_
  refine ix_iadd X (ix_tb_at tb_X12_writeList 26 rfl) (pc1 := 45) rfl ?_
  obtain ⟨k_17, h⟩ := ix_ck_some h
  refine iz_iald X k_17 (ix_tb_at tb_X12_writeList 27 rfl) (pc1 := 46) rfl ?_
  obtain ⟨d_18, h_19, h⟩ := ix_bd1_ex h
  refine ix_callV (As := [.int (d.1 b_15 (ix_n ((30 * x1) + x2)))]) (rest := []) (ci := 11) (T := TX12) (nf := 116) X mf_X12_writeNumber mi_X12_writeNumber ms_X12_writeNumber rfl (Nat.le_of_ble_eq_true rfl) ml_RX12_418 ⟨Nat.le_of_ble_eq_true rfl, Nat.le_of_ble_eq_true rfl⟩ ⟨Nat.le_of_ble_eq_true rfl, Nat.le_of_ble_eq_true rfl⟩ rfl (Nat.le_of_ble_eq_true rfl) (ix_tb_at tb_X12_writeList 28 rfl) ⟨k_14.1, List.mem_singleton.mp k_14.2⟩ (c_X12_writeNumber hKp h_19) rfl (pc1 := 49) rfl ?_
  obtain ⟨x2_20, e_21, h⟩ := ix_lt_ex h
  refine ix_iinc (i := 2) (j := 2) (v := x2_20) (L1 := [(2, .int x2_20), (0, .ref (K.2.2.1 + a0)), (1, .int x1)]) X (ix_tb_at tb_X12_writeList 29 rfl) rfl (by rw [oi_1]; exact e_21.symm) (Nat.le_of_ble_eq_true rfl) rfl (pc1 := 52) rfl ?_
  refine ix_goto (tgt := 14) X (ix_tb_at tb_X12_writeList 30 rfl) (by decide) ?_
  refine ix_sub (L1 := [(0, .ref (K.2.2.1 + a0)), (1, .int x1), (2, .int x2_20)]) [1, 2, 0] rfl ?_
  exact hrec14 x2_20 d_18 h
set_option maxRecDepth 20000 in
theorem tb_X12_writeList_14 {l : Launch} {p : Program} {e : Env} {s : State} {m : MethodId} {args : Array Value} {below : List Frame} {meth : Method} {c : Code} {K : ix_Cx} (hKp : ix_Kp K) {n : Nat} {z : ix_Z} (X : ix_X p s m args c K cX12_writeList RX12 3) (hr : meth.sig.returnType = (none : Option Jvm.ClassFile.FieldType)) (hlk : meth.locks = false)  {a0 : Nat} {x1 : Int32} {rec14 : Int32 → ix_D2 → Option (ix_D2)} {d1 : ix_D2} (hrec14 : ∀ (x2 : Int32) (d : ix_D2), rec14 x2 d = some d1 → ix_G p l e (ix_rm 2 43 0 0) s m args below meth c (MQ below (ix_Post K none (ix_w z d1)) args s 0 0 (ix_A K)) K 3 0 0 14 [(0, .ref (K.2.2.1 + a0)), (1, .int x1), (2, .int x2)] [] (ix_w z d)) {x2 : Int32} {d : ix_D2} (h : b_X12_writeList_14 n z  a0 x1 rec14 x2 d = some d1) : ix_G p l e (ix_rm 2 43 0 0) s m args below meth c (MQ below (ix_Post K none (ix_w z d1)) args s 0 0 (ix_A K)) K 3 0 0 14 [(0, .ref (K.2.2.1 + a0)), (1, .int x1), (2, .int x2)] [] (ix_w z d) := by
  unfold b_X12_writeList_14 at h
  refine ix_iload_n (i := 2) (j := 2) X (ix_tb_at tb_X12_writeList 8 rfl) rfl rfl (pc1 := 15) rfl ?_
  refine ix_aload_n (i := 0) (j := 0) X (ix_tb_at tb_X12_writeList 9 rfl) rfl rfl (pc1 := 16) rfl ?_
  obtain ⟨k_6, h⟩ := ix_ck_some h
  obtain ⟨b_7, q_8, h⟩ := ix_bd1_ex h
  refine iz_getR X fl_RX12_38 k_6 q_8 (ix_tb_at tb_X12_writeList 10 rfl) (pc1 := 19) rfl ?_
  refine ix_iload_n (i := 1) (j := 1) X (ix_tb_at tb_X12_writeList 11 rfl) rfl rfl (pc1 := 20) rfl ?_
  obtain ⟨k_9, h⟩ := ix_ck_some h
  refine iz_iald X k_9 (ix_tb_at tb_X12_writeList 12 rfl) (pc1 := 21) rfl ?_
  refine ix_icmp_ge (tgt := 55) X (ix_tb_at tb_X12_writeList 13 rfl) (by decide) (pc1 := 24) rfl (fun q_10 => ?_) (fun q_10 => ?_)
  · have h := ix_ift q_10 h
    refine ix_aload_n (i := 0) (j := 0) X (ix_tb_at tb_X12_writeList 31 rfl) rfl rfl (pc1 := 56) rfl ?_
    refine ix_bipush (v := 41) X (ix_tb_at tb_X12_writeList 32 rfl) (by decide) (pc1 := 58) rfl ?_
    obtain ⟨d_11, h_12, h⟩ := ix_bd1_ex h
    refine ix_callV (As := [.int 41]) (rest := []) (ci := 11) (T := TX12) (nf := 116) X mf_X12_write mi_X12_write ms_X12_write rfl (Nat.le_of_ble_eq_true rfl) ml_RX12_415 ⟨Nat.le_of_ble_eq_true rfl, Nat.le_of_ble_eq_true rfl⟩ ⟨Nat.le_of_ble_eq_true rfl, Nat.le_of_ble_eq_true rfl⟩ rfl (Nat.le_of_ble_eq_true rfl) (ix_tb_at tb_X12_writeList 33 rfl) ⟨k_6.1, List.mem_singleton.mp k_6.2⟩ (c_X12_write hKp h_12) rfl (pc1 := 61) rfl ?_
    exact ix_vret X hr hlk (ix_r1 (g := ix_w z) h) (ix_tb_at tb_X12_writeList 34 rfl)
  · have h := ix_iff q_10 h
    refine ix_iload_n (i := 2) (j := 2) X (ix_tb_at tb_X12_writeList 14 rfl) rfl rfl (pc1 := 25) rfl ?_
    refine ix_if_le (tgt := 34) X (ix_tb_at tb_X12_writeList 15 rfl) (by decide) (pc1 := 28) rfl (fun q_13 => ?_) (fun q_13 => ?_)
    · have h := ix_ift q_13 h
      refine ix_sub (L1 := [(0, .ref (K.2.2.1 + a0)), (1, .int x1), (2, .int x2)]) [0, 1, 2] rfl ?_
      exact t_X12_writeList_34 hKp X hr hlk hrec14 h
    · have h := ix_iff q_13 h
      refine ix_aload_n (i := 0) (j := 0) X (ix_tb_at tb_X12_writeList 16 rfl) rfl rfl (pc1 := 29) rfl ?_
      refine ix_bipush (v := 44) X (ix_tb_at tb_X12_writeList 17 rfl) (by decide) (pc1 := 31) rfl ?_
      obtain ⟨d_22, h_23, h⟩ := ix_bd1_ex h
      refine ix_callV (As := [.int 44]) (rest := []) (ci := 11) (T := TX12) (nf := 116) X mf_X12_write mi_X12_write ms_X12_write rfl (Nat.le_of_ble_eq_true rfl) ml_RX12_415 ⟨Nat.le_of_ble_eq_true rfl, Nat.le_of_ble_eq_true rfl⟩ ⟨Nat.le_of_ble_eq_true rfl, Nat.le_of_ble_eq_true rfl⟩ rfl (Nat.le_of_ble_eq_true rfl) (ix_tb_at tb_X12_writeList 18 rfl) ⟨k_6.1, List.mem_singleton.mp k_6.2⟩ (c_X12_write hKp h_23) rfl (pc1 := 34) rfl ?_
      refine ix_sub (L1 := [(0, .ref (K.2.2.1 + a0)), (1, .int x1), (2, .int x2)]) [0, 1, 2] rfl ?_
      exact t_X12_writeList_34 hKp X hr hlk hrec14 h
theorem t_X12_writeList_14 {l : Launch} {p : Program} {e : Env} {s : State} {m : MethodId} {args : Array Value} {below : List Frame} {meth : Method} {c : Code} {K : ix_Cx} (hKp : ix_Kp K) {n : Nat} {z : ix_Z} (X : ix_X p s m args c K cX12_writeList RX12 3) (hr : meth.sig.returnType = (none : Option Jvm.ClassFile.FieldType)) (hlk : meth.locks = false)  {a0 : Nat} {x1 : Int32} {d1 : ix_D2}  {x2 : Int32} {d : ix_D2} (h : f_X12_writeList_14 n z  a0 x1 x2 d = some d1) : ix_G p l e (ix_rm 2 43 0 0) s m args below meth c (MQ below (ix_Post K none (ix_w z d1)) args s 0 0 (ix_A K)) K 3 0 0 14 [(0, .ref (K.2.2.1 + a0)), (1, .int x1), (2, .int x2)] [] (ix_w z d) := by
  have key : ∀ (f : Nat) (x2 : Int32) (d : ix_D2), ix_fix (b_X12_writeList_14 n z  a0 x1) (fun _ _ => none) f x2 d = some d1 → ix_G p l e (ix_rm 2 43 0 0) s m args below meth c (MQ below (ix_Post K none (ix_w z d1)) args s 0 0 (ix_A K)) K 3 0 0 14 [(0, .ref (K.2.2.1 + a0)), (1, .int x1), (2, .int x2)] [] (ix_w z d) := by
    intro f
    induction f with
    | zero =>
      intro x2 d h
      have h : (none : Option (ix_D2)) = some d1 := h
      cases h
    | succ f ih =>
      intro x2 d h
      exact tb_X12_writeList_14 hKp X hr hlk (rec14 := ix_fix (b_X12_writeList_14 n z  a0 x1) (fun _ _ => none) f)  ih h
  exact key n x2 d h
set_option maxRecDepth 20000 in
theorem c_X12_writeList {l : Launch} {K : ix_Cx} (hKp : ix_Kp K) {n : Nat} {z : ix_Z} {a0 : Nat} {x1 : Int32} {d : ix_D2} {d1 : ix_D2} (h : f_X12_writeList n z a0 x1 d = some d1) : ix_M l K yX12_writeList cX12_writeList 3 (none : Option Jvm.ClassFile.FieldType) 2 43 0 0 [.ref (K.2.2.1 + a0), .int x1] (ix_w z d) none (ix_w z d1) := by
  refine ix_met mf_X12_writeList hKp (Nat.le_of_ble_eq_true rfl) ?_
  intro p e s m args below meth c hr hlk hnm X
  have X : ix_X p s m args c K cX12_writeList RX12 3 := X
  show ix_G p l e (ix_rm 2 43 0 0) s m args below meth c (MQ below (ix_Post K none (ix_w z d1)) args s 0 0 (ix_A K)) K 3 0 0 0 [(0, .ref (K.2.2.1 + a0)), (1, .int x1)] [] (ix_w z d)
  unfold f_X12_writeList at h
  refine ix_aload_n (i := 0) (j := 0) X (ix_tb_at tb_X12_writeList 0 rfl) rfl rfl (pc1 := 1) rfl ?_
  refine ix_bipush (v := 64) X (ix_tb_at tb_X12_writeList 1 rfl) (by decide) (pc1 := 3) rfl ?_
  obtain ⟨k_3, h⟩ := ix_ck_some h
  obtain ⟨d_1, h_2, h⟩ := ix_bd1_ex h
  refine ix_callV (As := [.int 64]) (rest := []) (ci := 11) (T := TX12) (nf := 116) X mf_X12_mark mi_X12_mark ms_X12_mark rfl (Nat.le_of_ble_eq_true rfl) ml_RX12_391 ⟨Nat.le_of_ble_eq_true rfl, Nat.le_of_ble_eq_true rfl⟩ ⟨Nat.le_of_ble_eq_true rfl, Nat.le_of_ble_eq_true rfl⟩ rfl (Nat.le_of_ble_eq_true rfl) (ix_tb_at tb_X12_writeList 2 rfl) ⟨k_3.1, List.mem_singleton.mp k_3.2⟩ (c_X12_mark hKp h_2) rfl (pc1 := 6) rfl ?_
  refine ix_aload_n (i := 0) (j := 0) X (ix_tb_at tb_X12_writeList 3 rfl) rfl rfl (pc1 := 7) rfl ?_
  refine ix_bipush (v := 40) X (ix_tb_at tb_X12_writeList 4 rfl) (by decide) (pc1 := 9) rfl ?_
  obtain ⟨d_4, h_5, h⟩ := ix_bd1_ex h
  refine ix_callV (As := [.int 40]) (rest := []) (ci := 11) (T := TX12) (nf := 116) X mf_X12_write mi_X12_write ms_X12_write rfl (Nat.le_of_ble_eq_true rfl) ml_RX12_415 ⟨Nat.le_of_ble_eq_true rfl, Nat.le_of_ble_eq_true rfl⟩ ⟨Nat.le_of_ble_eq_true rfl, Nat.le_of_ble_eq_true rfl⟩ rfl (Nat.le_of_ble_eq_true rfl) (ix_tb_at tb_X12_writeList 5 rfl) ⟨k_3.1, List.mem_singleton.mp k_3.2⟩ (c_X12_write hKp h_5) rfl (pc1 := 12) rfl ?_
  refine ix_iconst (v := 0) X (ix_tb_at tb_X12_writeList 6 rfl) (by decide) (pc1 := 13) rfl ?_
  refine ix_istore_n (i := 2) (L1 := [(2, .int 0), (0, .ref (K.2.2.1 + a0)), (1, .int x1)]) X (ix_tb_at tb_X12_writeList 7 rfl) rfl (Nat.le_of_ble_eq_true rfl) rfl (pc1 := 14) rfl ?_
  refine ix_sub (L1 := [(0, .ref (K.2.2.1 + a0)), (1, .int x1), (2, .int 0)]) [1, 2, 0] rfl ?_
  exact t_X12_writeList_14 hKp X hr hlk  h
def tab_X12_print : List (Nat × Instr × Nat) := [(0, .aload_n 0, 1), (1, .iload_n 1, 1), (2, .invokevirtual 371, 3), (5, .ifCond .ne 11, 3), (8, .aload_n 0, 1), (9, .sipush (-1001), 3), (12, .invokevirtual 242, 3), (15, .ireturn, 1), (16, .aload_n 0, 1), (17, .iconst 0, 1), (18, .putfield 412, 3), (21, .aload_n 0, 1), (22, .getfield 29, 3), (25, .iload_n 1, 1), (26, .iaload, 1), (27, .istore_n 2, 1), (28, .aload_n 0, 1), (29, .bipush 10, 2), (31, .iload_n 2, 1), (32, .imul, 1), (33, .iconst 4, 1), (34, .iadd, 1), (35, .invokevirtual 391, 3), (38, .iload_n 2, 1), (39, .iconst 4, 1), (40, .if_icmp .ne 41, 3), (43, .iconst 0, 1), (44, .istore_n 3, 1), (45, .iload_n 3, 1), (46, .aload_n 0, 1), (47, .getfield 53, 3), (50, .iload_n 1, 1), (51, .iaload, 1), (52, .if_icmp .ge 24, 3), (55, .aload_n 0, 1), (56, .aload_n 0, 1), (57, .getfield 50, 3), (60, .bipush 60, 2), (62, .iload_n 1, 1), (63, .imul, 1), (64, .iload_n 3, 1), (65, .iadd, 1), (66, .iaload, 1), (67, .invokevirtual 415, 3), (70, .iinc 3 1, 3), (73, .goto (-28), 3), (76, .aload_n 0, 1), (77, .getfield 412, 3), (80, .ireturn, 1), (81, .iload_n 2, 1), (82, .iconst 2, 1), (83, .if_icmp .ne 15, 3), (86, .aload_n 0, 1), (87, .bipush 11, 2), (89, .invokevirtual 421, 3), (92, .aload_n 0, 1), (93, .bipush 14, 2), (95, .invokevirtual 391, 3), (98, .iload_n 2, 1), (99, .iconst 1, 1), (100, .if_icmp .eq 8, 3), (103, .iload_n 2, 1), (104, .iconst 2, 1), (105, .if_icmp .ne 21, 3), (108, .aload_n 0, 1), (109, .iconst 5, 1), (110, .invokevirtual 421, 3), (113, .aload_n 0, 1), (114, .aload_n 0, 1), (115, .getfield 32, 3), (118, .iload_n 1, 1), (119, .iaload, 1), (120, .invokevirtual 418, 3), (123, .goto 31, 3), (126, .aload_n 0, 1), (127, .iload_n 2, 1), (128, .ifCond .ne 7, 3), (131, .iconst 0, 1), (132, .goto 19, 3), (135, .aload_n 0, 1), (136, .getfield 35, 3), (139, .iload_n 1, 1), (140, .baload, 1), (141, .ifCond .eq 8, 3), (144, .bipush 17, 2), (146, .goto 5, 3), (149, .bipush 21, 2), (151, .invokevirtual 421, 3), (154, .aload_n 0, 1), (155, .iload_n 1, 1), (156, .invokevirtual 424, 3), (159, .aload_n 0, 1), (160, .getfield 412, 3), (163, .ireturn, 1)]
theorem tb_X12_print : ix_tab cX12_print tab_X12_print := by
  unfold ix_tab
  decide +kernel
noncomputable def f_X12_print_154 (n : Nat) (z : ix_Z)  (a0 : Nat) (x1 : Int32) (d : ix_D2) : Option (Int32 × ix_D2) :=
  ix_ck (ix_ok z [11] a0) (ix_bd1 (f_X12_writeList n z a0 x1 d) (fun d_26 => some (d_26.1 a0 10, d_26)))
noncomputable def f_X12_print_108 (n : Nat) (z : ix_Z)  (a0 : Nat) (x1 : Int32) (d : ix_D2) : Option (Int32 × ix_D2) :=
  ix_ck (ix_ok z [11] a0) (ix_bd1 (f_X12_writeWord n z a0 5 d) (fun d_18 => ix_bd1 (z.1 a0 13) (fun b_21 => ix_ck (ix_ix z 20 b_21 x1) (ix_bd1 (f_X12_writeNumber n z a0 (d_18.1 b_21 (ix_n x1)) d_18) (fun d_24 => f_X12_print_154 n z  a0 x1 d_24)))))
noncomputable def f_X12_print_151 (n : Nat) (z : ix_Z)  (a0 : Nat) (x1 : Int32) (s0 : Int32) (s1 : Nat) (d : ix_D2) : Option (Int32 × ix_D2) :=
  ix_ck (ix_ok z [11] s1) (ix_bd1 (f_X12_writeWord n z s1 s0 d) (fun d_36 => f_X12_print_154 n z  a0 x1 d_36))
noncomputable def f_X12_print_98 (n : Nat) (z : ix_Z)  (a0 : Nat) (x1 : Int32) (x2 : Int32) (d : ix_D2) : Option (Int32 × ix_D2) :=
  ix_if (x2 = 1) (f_X12_print_108 n z  a0 x1 d) (ix_if (x2 = 2) (f_X12_print_108 n z  a0 x1 d) (ix_if (x2 = 0) (f_X12_print_151 n z  a0 x1 0 a0 d) (ix_ck (ix_ok z [11] a0) (ix_bd1 (z.1 a0 14) (fun b_32 => ix_ck (ix_ix z 22 b_32 x1) (ix_if (d.1 b_32 (ix_n x1) = 0) (f_X12_print_151 n z  a0 x1 21 a0 d) (f_X12_print_151 n z  a0 x1 17 a0 d)))))))
noncomputable def b_X12_print_45 (n : Nat) (z : ix_Z)  (a0 : Nat) (x1 : Int32) (rec45 : Int32 → ix_D2 → Option (Int32 × ix_D2)) (x3 : Int32) (d : ix_D2) : Option (Int32 × ix_D2) :=
  ix_ck (ix_ok z [11] a0) (ix_bd1 (z.1 a0 20) (fun b_44 => ix_ck (ix_ix z 20 b_44 x1) (ix_if (d.1 b_44 (ix_n x1) ≤ x3) (some (d.1 a0 10, d)) (ix_bd1 (z.1 a0 19) (fun b_48 => ix_ck (ix_ix z 20 b_48 ((60 * x1) + x3)) (ix_bd1 (f_X12_write n z a0 (d.1 b_48 (ix_n ((60 * x1) + x3))) d) (fun d_51 => ix_lt (x3 + 1) (fun x3_53 => rec45 x3_53 d_51))))))))
noncomputable def f_X12_print_45 (n : Nat) (z : ix_Z)  (a0 : Nat) (x1 : Int32) (x3 : Int32) (d : ix_D2) : Option (Int32 × ix_D2) := ix_fix (b_X12_print_45 n z  a0 x1) (fun _ _ => none) n x3 d
noncomputable def f_X12_print (n : Nat) (z : ix_Z) (a0 : Nat) (x1 : Int32) (d : ix_D2) : Option (Int32 × ix_D2) :=
  ix_ck (ix_ok z [11] a0) (ix_bd2 (f_X12_isRule n z a0 x1 d) (fun r_4 d_1 => ix_if (r_4 = 0) (ix_bd2 (f_X12_fail n z a0 ((-1001)) d_1) (fun r_57 d_55 => some (r_57, d_55))) (ix_lt (ix_di d_1 a0 10 0) (fun d_6 => ix_bd1 (z.1 a0 12) (fun b_8 => ix_ck (ix_ix z 20 b_8 x1) (ix_lt (d_6.1 b_8 (ix_n x1)) (fun x2_11 => ix_bd1 (f_X12_mark n z a0 ((10 * x2_11) + 4) d_6) (fun d_13 => ix_if (x2_11 = 4) (f_X12_print_45 n z  a0 x1 0 d_13) (ix_if (x2_11 = 2) (ix_bd1 (f_X12_writeWord n z a0 11 d_13) (fun d_39 => ix_bd1 (f_X12_mark n z a0 14 d_39) (fun d_41 => f_X12_print_98 n z  a0 x1 x2_11 d_41))) (f_X12_print_98 n z  a0 x1 x2_11 d_13))))))))))
set_option maxRecDepth 20000 in
theorem t_X12_print_154 {l : Launch} {p : Program} {e : Env} {s : State} {m : MethodId} {args : Array Value} {below : List Frame} {meth : Method} {c : Code} {K : ix_Cx} (hKp : ix_Kp K) {n : Nat} {z : ix_Z} (X : ix_X p s m args c K cX12_print RX12 4) (hr : meth.sig.returnType = (some .int)) (hlk : meth.locks = false)  {a0 : Nat} {x1 : Int32} {r : Int32} {d1 : ix_D2}  {d : ix_D2} (h : f_X12_print_154 n z  a0 x1 d = some (r, d1)) : ix_G p l e (ix_rm 3 65 0 0) s m args below meth c (MQ below (ix_Post K (some (.int r)) (ix_w z d1)) args s 0 0 (ix_A K)) K 4 0 0 154 [(0, .ref (K.2.2.1 + a0)), (1, .int x1)] [] (ix_w z d) := by
  unfold f_X12_print_154 at h
  refine ix_aload_n (i := 0) (j := 0) X (ix_tb_at tb_X12_print 88 rfl) rfl rfl (pc1 := 155) rfl ?_
  refine ix_iload_n (i := 1) (j := 1) X (ix_tb_at tb_X12_print 89 rfl) rfl rfl (pc1 := 156) rfl ?_
  obtain ⟨k_28, h⟩ := ix_ck_some h
  obtain ⟨d_26, h_27, h⟩ := ix_bd1_ex h
  refine ix_callV (As := [.int x1]) (rest := []) (ci := 11) (T := TX12) (nf := 116) X mf_X12_writeList mi_X12_writeList ms_X12_writeList rfl (Nat.le_of_ble_eq_true rfl) ml_RX12_424 ⟨Nat.le_of_ble_eq_true rfl, Nat.le_of_ble_eq_true rfl⟩ ⟨Nat.le_of_ble_eq_true rfl, Nat.le_of_ble_eq_true rfl⟩ rfl (Nat.le_of_ble_eq_true rfl) (ix_tb_at tb_X12_print 90 rfl) ⟨k_28.1, List.mem_singleton.mp k_28.2⟩ (c_X12_writeList hKp h_27) rfl (pc1 := 159) rfl ?_
  refine ix_aload_n (i := 0) (j := 0) X (ix_tb_at tb_X12_print 91 rfl) rfl rfl (pc1 := 160) rfl ?_
  refine iz_getI X fl_RX12_412 k_28 (ix_tb_at tb_X12_print 92 rfl) (pc1 := 163) rfl ?_
  exact ix_iret X hr hlk (ix_r2 (f := fun r => some (.int r)) (g := ix_w z) h) (ix_tb_at tb_X12_print 93 rfl)
set_option maxRecDepth 20000 in
theorem t_X12_print_108 {l : Launch} {p : Program} {e : Env} {s : State} {m : MethodId} {args : Array Value} {below : List Frame} {meth : Method} {c : Code} {K : ix_Cx} (hKp : ix_Kp K) {n : Nat} {z : ix_Z} (X : ix_X p s m args c K cX12_print RX12 4) (hr : meth.sig.returnType = (some .int)) (hlk : meth.locks = false)  {a0 : Nat} {x1 : Int32} {r : Int32} {d1 : ix_D2}  {d : ix_D2} (h : f_X12_print_108 n z  a0 x1 d = some (r, d1)) : ix_G p l e (ix_rm 3 65 0 0) s m args below meth c (MQ below (ix_Post K (some (.int r)) (ix_w z d1)) args s 0 0 (ix_A K)) K 4 0 0 108 [(0, .ref (K.2.2.1 + a0)), (1, .int x1)] [] (ix_w z d) := by
  unfold f_X12_print_108 at h
  refine ix_aload_n (i := 0) (j := 0) X (ix_tb_at tb_X12_print 64 rfl) rfl rfl (pc1 := 109) rfl ?_
  refine ix_iconst (v := 5) X (ix_tb_at tb_X12_print 65 rfl) (by decide) (pc1 := 110) rfl ?_
  obtain ⟨k_20, h⟩ := ix_ck_some h
  obtain ⟨d_18, h_19, h⟩ := ix_bd1_ex h
  refine ix_callV (As := [.int 5]) (rest := []) (ci := 11) (T := TX12) (nf := 116) X mf_X12_writeWord mi_X12_writeWord ms_X12_writeWord rfl (Nat.le_of_ble_eq_true rfl) ml_RX12_421 ⟨Nat.le_of_ble_eq_true rfl, Nat.le_of_ble_eq_true rfl⟩ ⟨Nat.le_of_ble_eq_true rfl, Nat.le_of_ble_eq_true rfl⟩ rfl (Nat.le_of_ble_eq_true rfl) (ix_tb_at tb_X12_print 66 rfl) ⟨k_20.1, List.mem_singleton.mp k_20.2⟩ (c_X12_writeWord hKp h_19) rfl (pc1 := 113) rfl ?_
  refine ix_aload_n (i := 0) (j := 0) X (ix_tb_at tb_X12_print 67 rfl) rfl rfl (pc1 := 114) rfl ?_
  refine ix_aload_n (i := 0) (j := 0) X (ix_tb_at tb_X12_print 68 rfl) rfl rfl (pc1 := 115) rfl ?_
  obtain ⟨b_21, q_22, h⟩ := ix_bd1_ex h
  refine iz_getR X fl_RX12_32 k_20 q_22 (ix_tb_at tb_X12_print 69 rfl) (pc1 := 118) rfl ?_
  refine ix_iload_n (i := 1) (j := 1) X (ix_tb_at tb_X12_print 70 rfl) rfl rfl (pc1 := 119) rfl ?_
  obtain ⟨k_23, h⟩ := ix_ck_some h
  refine iz_iald X k_23 (ix_tb_at tb_X12_print 71 rfl) (pc1 := 120) rfl ?_
  obtain ⟨d_24, h_25, h⟩ := ix_bd1_ex h
  refine ix_callV (As := [.int (d_18.1 b_21 (ix_n x1))]) (rest := []) (ci := 11) (T := TX12) (nf := 116) X mf_X12_writeNumber mi_X12_writeNumber ms_X12_writeNumber rfl (Nat.le_of_ble_eq_true rfl) ml_RX12_418 ⟨Nat.le_of_ble_eq_true rfl, Nat.le_of_ble_eq_true rfl⟩ ⟨Nat.le_of_ble_eq_true rfl, Nat.le_of_ble_eq_true rfl⟩ rfl (Nat.le_of_ble_eq_true rfl) (ix_tb_at tb_X12_print 72 rfl) ⟨k_20.1, List.mem_singleton.mp k_20.2⟩ (c_X12_writeNumber hKp h_25) rfl (pc1 := 123) rfl ?_
  refine ix_goto (tgt := 154) X (ix_tb_at tb_X12_print 73 rfl) (by decide) ?_
  refine ix_sub (L1 := [(0, .ref (K.2.2.1 + a0)), (1, .int x1)]) [0, 1] rfl ?_
  exact t_X12_print_154 hKp X hr hlk  h
set_option maxRecDepth 20000 in
theorem t_X12_print_151 {l : Launch} {p : Program} {e : Env} {s : State} {m : MethodId} {args : Array Value} {below : List Frame} {meth : Method} {c : Code} {K : ix_Cx} (hKp : ix_Kp K) {n : Nat} {z : ix_Z} (X : ix_X p s m args c K cX12_print RX12 4) (hr : meth.sig.returnType = (some .int)) (hlk : meth.locks = false)  {a0 : Nat} {x1 : Int32} {s0 : Int32} {s1 : Nat} {r : Int32} {d1 : ix_D2}  {d : ix_D2} (h : f_X12_print_151 n z  a0 x1 s0 s1 d = some (r, d1)) : ix_G p l e (ix_rm 3 65 0 0) s m args below meth c (MQ below (ix_Post K (some (.int r)) (ix_w z d1)) args s 0 0 (ix_A K)) K 4 0 0 151 [(0, .ref (K.2.2.1 + a0)), (1, .int x1)] [.int s0, .ref (K.2.2.1 + s1)] (ix_w z d) := by
  unfold f_X12_print_151 at h
  obtain ⟨k_38, h⟩ := ix_ck_some h
  obtain ⟨d_36, h_37, h⟩ := ix_bd1_ex h
  refine ix_callV (As := [.int s0]) (rest := []) (ci := 11) (T := TX12) (nf := 116) X mf_X12_writeWord mi_X12_writeWord ms_X12_writeWord rfl (Nat.le_of_ble_eq_true rfl) ml_RX12_421 ⟨Nat.le_of_ble_eq_true rfl, Nat.le_of_ble_eq_true rfl⟩ ⟨Nat.le_of_ble_eq_true rfl, Nat.le_of_ble_eq_true rfl⟩ rfl (Nat.le_of_ble_eq_true rfl) (ix_tb_at tb_X12_print 87 rfl) ⟨k_38.1, List.mem_singleton.mp k_38.2⟩ (c_X12_writeWord hKp h_37) rfl (pc1 := 154) rfl ?_
  refine ix_sub (L1 := [(0, .ref (K.2.2.1 + a0)), (1, .int x1)]) [0, 1] rfl ?_
  exact t_X12_print_154 hKp X hr hlk  h
set_option maxRecDepth 20000 in
theorem t_X12_print_98 {l : Launch} {p : Program} {e : Env} {s : State} {m : MethodId} {args : Array Value} {below : List Frame} {meth : Method} {c : Code} {K : ix_Cx} (hKp : ix_Kp K) {n : Nat} {z : ix_Z} (X : ix_X p s m args c K cX12_print RX12 4) (hr : meth.sig.returnType = (some .int)) (hlk : meth.locks = false)  {a0 : Nat} {x1 : Int32} {x2 : Int32} {r : Int32} {d1 : ix_D2}  {d : ix_D2} (h : f_X12_print_98 n z  a0 x1 x2 d = some (r, d1)) : ix_G p l e (ix_rm 3 65 0 0) s m args below meth c (MQ below (ix_Post K (some (.int r)) (ix_w z d1)) args s 0 0 (ix_A K)) K 4 0 0 98 [(0, .ref (K.2.2.1 + a0)), (1, .int x1), (2, .int x2)] [] (ix_w z d) := by
  unfold f_X12_print_98 at h
  refine ix_iload_n (i := 2) (j := 2) X (ix_tb_at tb_X12_print 58 rfl) rfl rfl (pc1 := 99) rfl ?_
  refine ix_iconst (v := 1) X (ix_tb_at tb_X12_print 59 rfl) (by decide) (pc1 := 100) rfl ?_
  refine ix_icmp_eq (tgt := 108) X (ix_tb_at tb_X12_print 60 rfl) (by decide) (pc1 := 103) rfl (fun q_17 => ?_) (fun q_17 => ?_)
  · have h := ix_ift q_17 h
    refine ix_sub (L1 := [(0, .ref (K.2.2.1 + a0)), (1, .int x1)]) [0, 1] rfl ?_
    exact t_X12_print_108 hKp X hr hlk  h
  · have h := ix_iff q_17 h
    refine ix_iload_n (i := 2) (j := 2) X (ix_tb_at tb_X12_print 61 rfl) rfl rfl (pc1 := 104) rfl ?_
    refine ix_iconst (v := 2) X (ix_tb_at tb_X12_print 62 rfl) (by decide) (pc1 := 105) rfl ?_
    refine ix_icmp_ne (tgt := 126) X (ix_tb_at tb_X12_print 63 rfl) (by decide) (pc1 := 108) rfl (fun q_29 => ?_) (fun q_29 => ?_)
    · have h := ix_iff q_29 h
      refine ix_aload_n (i := 0) (j := 0) X (ix_tb_at tb_X12_print 74 rfl) rfl rfl (pc1 := 127) rfl ?_
      refine ix_iload_n (i := 2) (j := 2) X (ix_tb_at tb_X12_print 75 rfl) rfl rfl (pc1 := 128) rfl ?_
      refine ix_if_ne (tgt := 135) X (ix_tb_at tb_X12_print 76 rfl) (by decide) (pc1 := 131) rfl (fun q_30 => ?_) (fun q_30 => ?_)
      · have h := ix_iff q_30 h
        refine ix_aload_n (i := 0) (j := 0) X (ix_tb_at tb_X12_print 79 rfl) rfl rfl (pc1 := 136) rfl ?_
        obtain ⟨k_31, h⟩ := ix_ck_some h
        obtain ⟨b_32, q_33, h⟩ := ix_bd1_ex h
        refine iz_getR X fl_RX12_35 k_31 q_33 (ix_tb_at tb_X12_print 80 rfl) (pc1 := 139) rfl ?_
        refine ix_iload_n (i := 1) (j := 1) X (ix_tb_at tb_X12_print 81 rfl) rfl rfl (pc1 := 140) rfl ?_
        obtain ⟨k_34, h⟩ := ix_ck_some h
        refine iz_zald X k_34 (ix_tb_at tb_X12_print 82 rfl) (pc1 := 141) rfl ?_
        refine ix_if_eq (tgt := 149) X (ix_tb_at tb_X12_print 83 rfl) (by decide) (pc1 := 144) rfl (fun q_35 => ?_) (fun q_35 => ?_)
        · have h := ix_ift q_35 h
          refine ix_bipush (v := 21) X (ix_tb_at tb_X12_print 86 rfl) (by decide) (pc1 := 151) rfl ?_
          refine ix_sub (L1 := [(0, .ref (K.2.2.1 + a0)), (1, .int x1)]) [0, 1] rfl ?_
          exact t_X12_print_151 hKp X hr hlk  h
        · have h := ix_iff q_35 h
          refine ix_bipush (v := 17) X (ix_tb_at tb_X12_print 84 rfl) (by decide) (pc1 := 146) rfl ?_
          refine ix_goto (tgt := 151) X (ix_tb_at tb_X12_print 85 rfl) (by decide) ?_
          refine ix_sub (L1 := [(0, .ref (K.2.2.1 + a0)), (1, .int x1)]) [0, 1] rfl ?_
          exact t_X12_print_151 hKp X hr hlk  h
      · have h := ix_ift q_30 h
        refine ix_iconst (v := 0) X (ix_tb_at tb_X12_print 77 rfl) (by decide) (pc1 := 132) rfl ?_
        refine ix_goto (tgt := 151) X (ix_tb_at tb_X12_print 78 rfl) (by decide) ?_
        refine ix_sub (L1 := [(0, .ref (K.2.2.1 + a0)), (1, .int x1)]) [0, 1] rfl ?_
        exact t_X12_print_151 hKp X hr hlk  h
    · have h := ix_ift q_29 h
      refine ix_sub (L1 := [(0, .ref (K.2.2.1 + a0)), (1, .int x1)]) [0, 1] rfl ?_
      exact t_X12_print_108 hKp X hr hlk  h
set_option maxRecDepth 20000 in
theorem tb_X12_print_45 {l : Launch} {p : Program} {e : Env} {s : State} {m : MethodId} {args : Array Value} {below : List Frame} {meth : Method} {c : Code} {K : ix_Cx} (hKp : ix_Kp K) {n : Nat} {z : ix_Z} (X : ix_X p s m args c K cX12_print RX12 4) (hr : meth.sig.returnType = (some .int)) (hlk : meth.locks = false)  {a0 : Nat} {x1 : Int32} {rec45 : Int32 → ix_D2 → Option (Int32 × ix_D2)} {r : Int32} {d1 : ix_D2} (hrec45 : ∀ (x3 : Int32) (d : ix_D2), rec45 x3 d = some (r, d1) → ix_G p l e (ix_rm 3 65 0 0) s m args below meth c (MQ below (ix_Post K (some (.int r)) (ix_w z d1)) args s 0 0 (ix_A K)) K 4 0 0 45 [(0, .ref (K.2.2.1 + a0)), (1, .int x1), (3, .int x3)] [] (ix_w z d)) {x3 : Int32} {d : ix_D2} (h : b_X12_print_45 n z  a0 x1 rec45 x3 d = some (r, d1)) : ix_G p l e (ix_rm 3 65 0 0) s m args below meth c (MQ below (ix_Post K (some (.int r)) (ix_w z d1)) args s 0 0 (ix_A K)) K 4 0 0 45 [(0, .ref (K.2.2.1 + a0)), (1, .int x1), (3, .int x3)] [] (ix_w z d) := by
  unfold b_X12_print_45 at h
  refine ix_iload_n (i := 3) (j := 2) X (ix_tb_at tb_X12_print 28 rfl) rfl rfl (pc1 := 46) rfl ?_
  refine ix_aload_n (i := 0) (j := 0) X (ix_tb_at tb_X12_print 29 rfl) rfl rfl (pc1 := 47) rfl ?_
  obtain ⟨k_43, h⟩ := ix_ck_some h
  obtain ⟨b_44, q_45, h⟩ := ix_bd1_ex h
  refine iz_getR X fl_RX12_53 k_43 q_45 (ix_tb_at tb_X12_print 30 rfl) (pc1 := 50) rfl ?_
  refine ix_iload_n (i := 1) (j := 1) X (ix_tb_at tb_X12_print 31 rfl) rfl rfl (pc1 := 51) rfl ?_
  obtain ⟨k_46, h⟩ := ix_ck_some h
  refine iz_iald X k_46 (ix_tb_at tb_X12_print 32 rfl) (pc1 := 52) rfl ?_
  refine ix_icmp_ge (tgt := 76) X (ix_tb_at tb_X12_print 33 rfl) (by decide) (pc1 := 55) rfl (fun q_47 => ?_) (fun q_47 => ?_)
  · have h := ix_ift q_47 h
    refine ix_aload_n (i := 0) (j := 0) X (ix_tb_at tb_X12_print 46 rfl) rfl rfl (pc1 := 77) rfl ?_
    refine iz_getI X fl_RX12_412 k_43 (ix_tb_at tb_X12_print 47 rfl) (pc1 := 80) rfl ?_
    exact ix_iret X hr hlk (ix_r2 (f := fun r => some (.int r)) (g := ix_w z) h) (ix_tb_at tb_X12_print 48 rfl)
  · have h := ix_iff q_47 h
    refine ix_aload_n (i := 0) (j := 0) X (ix_tb_at tb_X12_print 34 rfl) rfl rfl (pc1 := 56) rfl ?_
    refine ix_aload_n (i := 0) (j := 0) X (ix_tb_at tb_X12_print 35 rfl) rfl rfl (pc1 := 57) rfl ?_
    obtain ⟨b_48, q_49, h⟩ := ix_bd1_ex h
    refine iz_getR X fl_RX12_50 k_43 q_49 (ix_tb_at tb_X12_print 36 rfl) (pc1 := 60) rfl ?_
    refine ix_bipush (v := 60) X (ix_tb_at tb_X12_print 37 rfl) (by decide) (pc1 := 62) rfl ?_
    refine ix_iload_n (i := 1) (j := 1) X (ix_tb_at tb_X12_print 38 rfl) rfl rfl (pc1 := 63) rfl ?_
    refine ix_imul X (ix_tb_at tb_X12_print 39 rfl) (pc1 := 64) rfl ?_
    refine ix_iload_n (i := 3) (j := 2) X (ix_tb_at tb_X12_print 40 rfl) rfl rfl (pc1 := 65) rfl ?_
    refine ix_iadd X (ix_tb_at tb_X12_print 41 rfl) (pc1 := 66) rfl ?_
    obtain ⟨k_50, h⟩ := ix_ck_some h
    refine iz_iald X k_50 (ix_tb_at tb_X12_print 42 rfl) (pc1 := 67) rfl ?_
    obtain ⟨d_51, h_52, h⟩ := ix_bd1_ex h
    refine ix_callV (As := [.int (d.1 b_48 (ix_n ((60 * x1) + x3)))]) (rest := []) (ci := 11) (T := TX12) (nf := 116) X mf_X12_write mi_X12_write ms_X12_write rfl (Nat.le_of_ble_eq_true rfl) ml_RX12_415 ⟨Nat.le_of_ble_eq_true rfl, Nat.le_of_ble_eq_true rfl⟩ ⟨Nat.le_of_ble_eq_true rfl, Nat.le_of_ble_eq_true rfl⟩ rfl (Nat.le_of_ble_eq_true rfl) (ix_tb_at tb_X12_print 43 rfl) ⟨k_43.1, List.mem_singleton.mp k_43.2⟩ (c_X12_write hKp h_52) rfl (pc1 := 70) rfl ?_
    obtain ⟨x3_53, e_54, h⟩ := ix_lt_ex h
    refine ix_iinc (i := 3) (j := 2) (v := x3_53) (L1 := [(3, .int x3_53), (0, .ref (K.2.2.1 + a0)), (1, .int x1)]) X (ix_tb_at tb_X12_print 44 rfl) rfl (by rw [oi_1]; exact e_54.symm) (Nat.le_of_ble_eq_true rfl) rfl (pc1 := 73) rfl ?_
    refine ix_goto (tgt := 45) X (ix_tb_at tb_X12_print 45 rfl) (by decide) ?_
    refine ix_sub (L1 := [(0, .ref (K.2.2.1 + a0)), (1, .int x1), (3, .int x3_53)]) [1, 2, 0] rfl ?_
    exact hrec45 x3_53 d_51 h
theorem t_X12_print_45 {l : Launch} {p : Program} {e : Env} {s : State} {m : MethodId} {args : Array Value} {below : List Frame} {meth : Method} {c : Code} {K : ix_Cx} (hKp : ix_Kp K) {n : Nat} {z : ix_Z} (X : ix_X p s m args c K cX12_print RX12 4) (hr : meth.sig.returnType = (some .int)) (hlk : meth.locks = false)  {a0 : Nat} {x1 : Int32} {r : Int32} {d1 : ix_D2}  {x3 : Int32} {d : ix_D2} (h : f_X12_print_45 n z  a0 x1 x3 d = some (r, d1)) : ix_G p l e (ix_rm 3 65 0 0) s m args below meth c (MQ below (ix_Post K (some (.int r)) (ix_w z d1)) args s 0 0 (ix_A K)) K 4 0 0 45 [(0, .ref (K.2.2.1 + a0)), (1, .int x1), (3, .int x3)] [] (ix_w z d) := by
  have key : ∀ (f : Nat) (x3 : Int32) (d : ix_D2), ix_fix (b_X12_print_45 n z  a0 x1) (fun _ _ => none) f x3 d = some (r, d1) → ix_G p l e (ix_rm 3 65 0 0) s m args below meth c (MQ below (ix_Post K (some (.int r)) (ix_w z d1)) args s 0 0 (ix_A K)) K 4 0 0 45 [(0, .ref (K.2.2.1 + a0)), (1, .int x1), (3, .int x3)] [] (ix_w z d) := by
    intro f
    induction f with
    | zero =>
      intro x3 d h
      have h : (none : Option (Int32 × ix_D2)) = some (r, d1) := h
      cases h
    | succ f ih =>
      intro x3 d h
      exact tb_X12_print_45 hKp X hr hlk (rec45 := ix_fix (b_X12_print_45 n z  a0 x1) (fun _ _ => none) f)  ih h
  exact key n x3 d h
set_option maxRecDepth 20000 in
theorem c_X12_print {l : Launch} {K : ix_Cx} (hKp : ix_Kp K) {n : Nat} {z : ix_Z} {a0 : Nat} {x1 : Int32} {d : ix_D2} {r : Int32} {d1 : ix_D2} (h : f_X12_print n z a0 x1 d = some (r, d1)) : ix_M l K yX12_print cX12_print 4 (some .int) 3 65 0 0 [.ref (K.2.2.1 + a0), .int x1] (ix_w z d) (some (.int r)) (ix_w z d1) := by
  refine ix_met mf_X12_print hKp (Nat.le_of_ble_eq_true rfl) ?_
  intro p e s m args below meth c hr hlk hnm X
  have X : ix_X p s m args c K cX12_print RX12 4 := X
  show ix_G p l e (ix_rm 3 65 0 0) s m args below meth c (MQ below (ix_Post K (some (.int r)) (ix_w z d1)) args s 0 0 (ix_A K)) K 4 0 0 0 [(0, .ref (K.2.2.1 + a0)), (1, .int x1)] [] (ix_w z d)
  unfold f_X12_print at h
  refine ix_aload_n (i := 0) (j := 0) X (ix_tb_at tb_X12_print 0 rfl) rfl rfl (pc1 := 1) rfl ?_
  refine ix_iload_n (i := 1) (j := 1) X (ix_tb_at tb_X12_print 1 rfl) rfl rfl (pc1 := 2) rfl ?_
  obtain ⟨k_3, h⟩ := ix_ck_some h
  obtain ⟨r_4, d_1, h_2, h⟩ := ix_bd2_ex h
  refine ix_callV (As := [.int x1]) (rest := []) (ci := 11) (T := TX12) (nf := 116) X mf_X12_isRule mi_X12_isRule ms_X12_isRule rfl (Nat.le_of_ble_eq_true rfl) ml_RX12_371 ⟨Nat.le_of_ble_eq_true rfl, Nat.le_of_ble_eq_true rfl⟩ ⟨Nat.le_of_ble_eq_true rfl, Nat.le_of_ble_eq_true rfl⟩ rfl (Nat.le_of_ble_eq_true rfl) (ix_tb_at tb_X12_print 2 rfl) ⟨k_3.1, List.mem_singleton.mp k_3.2⟩ (c_X12_isRule hKp h_2) rfl (pc1 := 5) rfl ?_
  refine ix_if_ne (tgt := 16) X (ix_tb_at tb_X12_print 3 rfl) (by decide) (pc1 := 8) rfl (fun q_5 => ?_) (fun q_5 => ?_)
  · have h := ix_iff q_5 h
    refine ix_aload_n (i := 0) (j := 0) X (ix_tb_at tb_X12_print 8 rfl) rfl rfl (pc1 := 17) rfl ?_
    refine ix_iconst (v := 0) X (ix_tb_at tb_X12_print 9 rfl) (by decide) (pc1 := 18) rfl ?_
    obtain ⟨d_6, e_7, h⟩ := ix_lt_ex h
    refine iz_putI X fp_RX12_412 k_3 (ix_tb_at tb_X12_print 10 rfl) e_7 (pc1 := 21) rfl ?_
    refine ix_aload_n (i := 0) (j := 0) X (ix_tb_at tb_X12_print 11 rfl) rfl rfl (pc1 := 22) rfl ?_
    obtain ⟨b_8, q_9, h⟩ := ix_bd1_ex h
    refine iz_getR X fl_RX12_29 k_3 q_9 (ix_tb_at tb_X12_print 12 rfl) (pc1 := 25) rfl ?_
    refine ix_iload_n (i := 1) (j := 1) X (ix_tb_at tb_X12_print 13 rfl) rfl rfl (pc1 := 26) rfl ?_
    obtain ⟨k_10, h⟩ := ix_ck_some h
    refine iz_iald X k_10 (ix_tb_at tb_X12_print 14 rfl) (pc1 := 27) rfl ?_
    obtain ⟨x2_11, e_12, h⟩ := ix_lt_ex h
    refine ix_nmi e_12 ?_
    refine ix_istore_n (i := 2) (L1 := [(2, .int x2_11), (0, .ref (K.2.2.1 + a0)), (1, .int x1)]) X (ix_tb_at tb_X12_print 15 rfl) rfl (Nat.le_of_ble_eq_true rfl) rfl (pc1 := 28) rfl ?_
    refine ix_aload_n (i := 0) (j := 1) X (ix_tb_at tb_X12_print 16 rfl) rfl rfl (pc1 := 29) rfl ?_
    refine ix_bipush (v := 10) X (ix_tb_at tb_X12_print 17 rfl) (by decide) (pc1 := 31) rfl ?_
    refine ix_iload_n (i := 2) (j := 0) X (ix_tb_at tb_X12_print 18 rfl) rfl rfl (pc1 := 32) rfl ?_
    refine ix_imul X (ix_tb_at tb_X12_print 19 rfl) (pc1 := 33) rfl ?_
    refine ix_iconst (v := 4) X (ix_tb_at tb_X12_print 20 rfl) (by decide) (pc1 := 34) rfl ?_
    refine ix_iadd X (ix_tb_at tb_X12_print 21 rfl) (pc1 := 35) rfl ?_
    obtain ⟨d_13, h_14, h⟩ := ix_bd1_ex h
    refine ix_callV (As := [.int ((10 * x2_11) + 4)]) (rest := []) (ci := 11) (T := TX12) (nf := 116) X mf_X12_mark mi_X12_mark ms_X12_mark rfl (Nat.le_of_ble_eq_true rfl) ml_RX12_391 ⟨Nat.le_of_ble_eq_true rfl, Nat.le_of_ble_eq_true rfl⟩ ⟨Nat.le_of_ble_eq_true rfl, Nat.le_of_ble_eq_true rfl⟩ rfl (Nat.le_of_ble_eq_true rfl) (ix_tb_at tb_X12_print 22 rfl) ⟨k_3.1, List.mem_singleton.mp k_3.2⟩ (c_X12_mark hKp h_14) rfl (pc1 := 38) rfl ?_
    refine ix_iload_n (i := 2) (j := 0) X (ix_tb_at tb_X12_print 23 rfl) rfl rfl (pc1 := 39) rfl ?_
    refine ix_iconst (v := 4) X (ix_tb_at tb_X12_print 24 rfl) (by decide) (pc1 := 40) rfl ?_
    refine ix_icmp_ne (tgt := 81) X (ix_tb_at tb_X12_print 25 rfl) (by decide) (pc1 := 43) rfl (fun q_15 => ?_) (fun q_15 => ?_)
    · have h := ix_iff q_15 h
      refine ix_iload_n (i := 2) (j := 0) X (ix_tb_at tb_X12_print 49 rfl) rfl rfl (pc1 := 82) rfl ?_
      refine ix_iconst (v := 2) X (ix_tb_at tb_X12_print 50 rfl) (by decide) (pc1 := 83) rfl ?_
      refine ix_icmp_ne (tgt := 98) X (ix_tb_at tb_X12_print 51 rfl) (by decide) (pc1 := 86) rfl (fun q_16 => ?_) (fun q_16 => ?_)
      · have h := ix_iff q_16 h
        refine ix_sub (L1 := [(0, .ref (K.2.2.1 + a0)), (1, .int x1), (2, .int x2_11)]) [1, 2, 0] rfl ?_
        exact t_X12_print_98 hKp X hr hlk  h
      · have h := ix_ift q_16 h
        refine ix_aload_n (i := 0) (j := 1) X (ix_tb_at tb_X12_print 52 rfl) rfl rfl (pc1 := 87) rfl ?_
        refine ix_bipush (v := 11) X (ix_tb_at tb_X12_print 53 rfl) (by decide) (pc1 := 89) rfl ?_
        obtain ⟨d_39, h_40, h⟩ := ix_bd1_ex h
        refine ix_callV (As := [.int 11]) (rest := []) (ci := 11) (T := TX12) (nf := 116) X mf_X12_writeWord mi_X12_writeWord ms_X12_writeWord rfl (Nat.le_of_ble_eq_true rfl) ml_RX12_421 ⟨Nat.le_of_ble_eq_true rfl, Nat.le_of_ble_eq_true rfl⟩ ⟨Nat.le_of_ble_eq_true rfl, Nat.le_of_ble_eq_true rfl⟩ rfl (Nat.le_of_ble_eq_true rfl) (ix_tb_at tb_X12_print 54 rfl) ⟨k_3.1, List.mem_singleton.mp k_3.2⟩ (c_X12_writeWord hKp h_40) rfl (pc1 := 92) rfl ?_
        refine ix_aload_n (i := 0) (j := 1) X (ix_tb_at tb_X12_print 55 rfl) rfl rfl (pc1 := 93) rfl ?_
        refine ix_bipush (v := 14) X (ix_tb_at tb_X12_print 56 rfl) (by decide) (pc1 := 95) rfl ?_
        obtain ⟨d_41, h_42, h⟩ := ix_bd1_ex h
        refine ix_callV (As := [.int 14]) (rest := []) (ci := 11) (T := TX12) (nf := 116) X mf_X12_mark mi_X12_mark ms_X12_mark rfl (Nat.le_of_ble_eq_true rfl) ml_RX12_391 ⟨Nat.le_of_ble_eq_true rfl, Nat.le_of_ble_eq_true rfl⟩ ⟨Nat.le_of_ble_eq_true rfl, Nat.le_of_ble_eq_true rfl⟩ rfl (Nat.le_of_ble_eq_true rfl) (ix_tb_at tb_X12_print 57 rfl) ⟨k_3.1, List.mem_singleton.mp k_3.2⟩ (c_X12_mark hKp h_42) rfl (pc1 := 98) rfl ?_
        refine ix_sub (L1 := [(0, .ref (K.2.2.1 + a0)), (1, .int x1), (2, .int x2_11)]) [1, 2, 0] rfl ?_
        exact t_X12_print_98 hKp X hr hlk  h
    · have h := ix_ift q_15 h
      refine ix_iconst (v := 0) X (ix_tb_at tb_X12_print 26 rfl) (by decide) (pc1 := 44) rfl ?_
      refine ix_istore_n (i := 3) (L1 := [(3, .int 0), (2, .int x2_11), (0, .ref (K.2.2.1 + a0)), (1, .int x1)]) X (ix_tb_at tb_X12_print 27 rfl) rfl (Nat.le_of_ble_eq_true rfl) rfl (pc1 := 45) rfl ?_
      refine ix_sub (L1 := [(0, .ref (K.2.2.1 + a0)), (1, .int x1), (3, .int 0)]) [2, 3, 0] rfl ?_
      exact t_X12_print_45 hKp X hr hlk  h
  · have h := ix_ift q_5 h
    refine ix_aload_n (i := 0) (j := 0) X (ix_tb_at tb_X12_print 4 rfl) rfl rfl (pc1 := 9) rfl ?_
    refine ix_sipush (v := (-1001)) X (ix_tb_at tb_X12_print 5 rfl) (by decide) (pc1 := 12) rfl ?_
    obtain ⟨r_57, d_55, h_56, h⟩ := ix_bd2_ex h
    refine ix_callV (As := [.int ((-1001))]) (rest := []) (ci := 11) (T := TX12) (nf := 116) X mf_X12_fail mi_X12_fail ms_X12_fail rfl (Nat.le_of_ble_eq_true rfl) ml_RX12_242 ⟨Nat.le_of_ble_eq_true rfl, Nat.le_of_ble_eq_true rfl⟩ ⟨Nat.le_of_ble_eq_true rfl, Nat.le_of_ble_eq_true rfl⟩ rfl (Nat.le_of_ble_eq_true rfl) (ix_tb_at tb_X12_print 6 rfl) ⟨k_3.1, List.mem_singleton.mp k_3.2⟩ (c_X12_fail hKp h_56) rfl (pc1 := 15) rfl ?_
    exact ix_iret X hr hlk (ix_r2 (f := fun r => some (.int r)) (g := ix_w z) h) (ix_tb_at tb_X12_print 7 rfl)
def tab_X12_export : List (Nat × Instr × Nat) := [(0, .aload_n 0, 1), (1, .iconst 0, 1), (2, .putfield 412, 3), (5, .iconst 0, 1), (6, .istore_n 1, 1), (7, .iload_n 1, 1), (8, .aload_n 0, 1), (9, .getfield 273, 3), (12, .if_icmp .ge 62, 3), (15, .aload_n 0, 1), (16, .getfield 62, 3), (19, .iload_n 1, 1), (20, .iaload, 1), (21, .istore_n 2, 1), (22, .iload_n 2, 1), (23, .aload_n 0, 1), (24, .getfield 62, 3), (27, .iload_n 1, 1), (28, .iconst 1, 1), (29, .iadd, 1), (30, .iaload, 1), (31, .if_icmp .ge 25, 3), (34, .aload_n 0, 1), (35, .aload_n 0, 1), (36, .getfield 65, 3), (39, .iload_n 2, 1), (40, .iaload, 1), (41, .invokevirtual 418, 3), (44, .aload_n 0, 1), (45, .bipush 32, 2), (47, .invokevirtual 415, 3), (50, .iinc 2 1, 3), (53, .goto (-31), 3), (56, .aload_n 0, 1), (57, .bipush 48, 2), (59, .invokevirtual 415, 3), (62, .aload_n 0, 1), (63, .bipush 10, 2), (65, .invokevirtual 415, 3), (68, .iinc 1 1, 3), (71, .goto (-64), 3), (74, .aload_n 0, 1), (75, .getfield 412, 3), (78, .ireturn, 1)]
theorem tb_X12_export : ix_tab cX12_export tab_X12_export := by
  unfold ix_tab
  decide +kernel
noncomputable def b_X12_export_22 (n : Nat) (z : ix_Z) (rec7 : Int32 → ix_D2 → Option (Int32 × ix_D2)) (a0 : Nat) (x1 : Int32) (rec22 : Int32 → ix_D2 → Option (Int32 × ix_D2)) (x2 : Int32) (d : ix_D2) : Option (Int32 × ix_D2) :=
  ix_ck (ix_ok z [11] a0) (ix_bd1 (z.1 a0 24) (fun b_12 => ix_ck (ix_ix z 20 b_12 (x1 + 1)) (ix_if (d.1 b_12 (ix_n (x1 + 1)) ≤ x2) (ix_bd1 (f_X12_write n z a0 48 d) (fun d_16 => ix_bd1 (f_X12_write n z a0 10 d_16) (fun d_18 => ix_lt (x1 + 1) (fun x1_20 => rec7 x1_20 d_18)))) (ix_bd1 (z.1 a0 25) (fun b_22 => ix_ck (ix_ix z 20 b_22 x2) (ix_bd1 (f_X12_writeNumber n z a0 (d.1 b_22 (ix_n x2)) d) (fun d_25 => ix_bd1 (f_X12_write n z a0 32 d_25) (fun d_27 => ix_lt (x2 + 1) (fun x2_29 => rec22 x2_29 d_27)))))))))
noncomputable def f_X12_export_22 (n : Nat) (z : ix_Z) (rec7 : Int32 → ix_D2 → Option (Int32 × ix_D2)) (a0 : Nat) (x1 : Int32) (x2 : Int32) (d : ix_D2) : Option (Int32 × ix_D2) := ix_fix (b_X12_export_22 n z rec7 a0 x1) (fun _ _ => none) n x2 d
noncomputable def b_X12_export_7 (n : Nat) (z : ix_Z)  (a0 : Nat) (rec7 : Int32 → ix_D2 → Option (Int32 × ix_D2)) (x1 : Int32) (d : ix_D2) : Option (Int32 × ix_D2) :=
  ix_ck (ix_ok z [11] a0) (ix_if (d.1 a0 23 ≤ x1) (some (d.1 a0 10, d)) (ix_bd1 (z.1 a0 24) (fun b_6 => ix_ck (ix_ix z 20 b_6 x1) (ix_lt (d.1 b_6 (ix_n x1)) (fun x2_9 => f_X12_export_22 n z rec7 a0 x1 x2_9 d)))))
noncomputable def f_X12_export_7 (n : Nat) (z : ix_Z)  (a0 : Nat) (x1 : Int32) (d : ix_D2) : Option (Int32 × ix_D2) := ix_fix (b_X12_export_7 n z  a0) (fun _ _ => none) n x1 d
noncomputable def f_X12_export (n : Nat) (z : ix_Z) (a0 : Nat) (d : ix_D2) : Option (Int32 × ix_D2) :=
  ix_ck (ix_ok z [11] a0) (ix_lt (ix_di d a0 10 0) (fun d_2 => f_X12_export_7 n z  a0 0 d_2))
set_option maxRecDepth 20000 in
theorem tb_X12_export_22 {l : Launch} {p : Program} {e : Env} {s : State} {m : MethodId} {args : Array Value} {below : List Frame} {meth : Method} {c : Code} {K : ix_Cx} (hKp : ix_Kp K) {n : Nat} {z : ix_Z} (X : ix_X p s m args c K cX12_export RX12 3) (hr : meth.sig.returnType = (some .int)) (hlk : meth.locks = false) {rec7 : Int32 → ix_D2 → Option (Int32 × ix_D2)} {a0 : Nat} {x1 : Int32} {rec22 : Int32 → ix_D2 → Option (Int32 × ix_D2)} {r : Int32} {d1 : ix_D2} (hrec7 : ∀ (x1 : Int32) (d : ix_D2), rec7 x1 d = some (r, d1) → ix_G p l e (ix_rm 2 43 0 0) s m args below meth c (MQ below (ix_Post K (some (.int r)) (ix_w z d1)) args s 0 0 (ix_A K)) K 3 0 0 7 [(0, .ref (K.2.2.1 + a0)), (1, .int x1)] [] (ix_w z d)) (hrec22 : ∀ (x2 : Int32) (d : ix_D2), rec22 x2 d = some (r, d1) → ix_G p l e (ix_rm 2 43 0 0) s m args below meth c (MQ below (ix_Post K (some (.int r)) (ix_w z d1)) args s 0 0 (ix_A K)) K 3 0 0 22 [(0, .ref (K.2.2.1 + a0)), (1, .int x1), (2, .int x2)] [] (ix_w z d)) {x2 : Int32} {d : ix_D2} (h : b_X12_export_22 n z rec7 a0 x1 rec22 x2 d = some (r, d1)) : ix_G p l e (ix_rm 2 43 0 0) s m args below meth c (MQ below (ix_Post K (some (.int r)) (ix_w z d1)) args s 0 0 (ix_A K)) K 3 0 0 22 [(0, .ref (K.2.2.1 + a0)), (1, .int x1), (2, .int x2)] [] (ix_w z d) := by
  unfold b_X12_export_22 at h
  refine ix_iload_n (i := 2) (j := 2) X (ix_tb_at tb_X12_export 14 rfl) rfl rfl (pc1 := 23) rfl ?_
  refine ix_aload_n (i := 0) (j := 0) X (ix_tb_at tb_X12_export 15 rfl) rfl rfl (pc1 := 24) rfl ?_
  obtain ⟨k_11, h⟩ := ix_ck_some h
  obtain ⟨b_12, q_13, h⟩ := ix_bd1_ex h
  refine iz_getR X fl_RX12_62 k_11 q_13 (ix_tb_at tb_X12_export 16 rfl) (pc1 := 27) rfl ?_
  refine ix_iload_n (i := 1) (j := 1) X (ix_tb_at tb_X12_export 17 rfl) rfl rfl (pc1 := 28) rfl ?_
  refine ix_iconst (v := 1) X (ix_tb_at tb_X12_export 18 rfl) (by decide) (pc1 := 29) rfl ?_
  refine ix_iadd X (ix_tb_at tb_X12_export 19 rfl) (pc1 := 30) rfl ?_
  obtain ⟨k_14, h⟩ := ix_ck_some h
  refine iz_iald X k_14 (ix_tb_at tb_X12_export 20 rfl) (pc1 := 31) rfl ?_
  refine ix_icmp_ge (tgt := 56) X (ix_tb_at tb_X12_export 21 rfl) (by decide) (pc1 := 34) rfl (fun q_15 => ?_) (fun q_15 => ?_)
  · have h := ix_ift q_15 h
    refine ix_aload_n (i := 0) (j := 0) X (ix_tb_at tb_X12_export 33 rfl) rfl rfl (pc1 := 57) rfl ?_
    refine ix_bipush (v := 48) X (ix_tb_at tb_X12_export 34 rfl) (by decide) (pc1 := 59) rfl ?_
    obtain ⟨d_16, h_17, h⟩ := ix_bd1_ex h
    refine ix_callV (As := [.int 48]) (rest := []) (ci := 11) (T := TX12) (nf := 116) X mf_X12_write mi_X12_write ms_X12_write rfl (Nat.le_of_ble_eq_true rfl) ml_RX12_415 ⟨Nat.le_of_ble_eq_true rfl, Nat.le_of_ble_eq_true rfl⟩ ⟨Nat.le_of_ble_eq_true rfl, Nat.le_of_ble_eq_true rfl⟩ rfl (Nat.le_of_ble_eq_true rfl) (ix_tb_at tb_X12_export 35 rfl) ⟨k_11.1, List.mem_singleton.mp k_11.2⟩ (c_X12_write hKp h_17) rfl (pc1 := 62) rfl ?_
    refine ix_aload_n (i := 0) (j := 0) X (ix_tb_at tb_X12_export 36 rfl) rfl rfl (pc1 := 63) rfl ?_
    refine ix_bipush (v := 10) X (ix_tb_at tb_X12_export 37 rfl) (by decide) (pc1 := 65) rfl ?_
    obtain ⟨d_18, h_19, h⟩ := ix_bd1_ex h
    refine ix_callV (As := [.int 10]) (rest := []) (ci := 11) (T := TX12) (nf := 116) X mf_X12_write mi_X12_write ms_X12_write rfl (Nat.le_of_ble_eq_true rfl) ml_RX12_415 ⟨Nat.le_of_ble_eq_true rfl, Nat.le_of_ble_eq_true rfl⟩ ⟨Nat.le_of_ble_eq_true rfl, Nat.le_of_ble_eq_true rfl⟩ rfl (Nat.le_of_ble_eq_true rfl) (ix_tb_at tb_X12_export 38 rfl) ⟨k_11.1, List.mem_singleton.mp k_11.2⟩ (c_X12_write hKp h_19) rfl (pc1 := 68) rfl ?_
    obtain ⟨x1_20, e_21, h⟩ := ix_lt_ex h
    refine ix_iinc (i := 1) (j := 1) (v := x1_20) (L1 := [(1, .int x1_20), (0, .ref (K.2.2.1 + a0)), (2, .int x2)]) X (ix_tb_at tb_X12_export 39 rfl) rfl (by rw [oi_1]; exact e_21.symm) (Nat.le_of_ble_eq_true rfl) rfl (pc1 := 71) rfl ?_
    refine ix_goto (tgt := 7) X (ix_tb_at tb_X12_export 40 rfl) (by decide) ?_
    refine ix_sub (L1 := [(0, .ref (K.2.2.1 + a0)), (1, .int x1_20)]) [1, 0] rfl ?_
    exact hrec7 x1_20 d_18 h
  · have h := ix_iff q_15 h
    refine ix_aload_n (i := 0) (j := 0) X (ix_tb_at tb_X12_export 22 rfl) rfl rfl (pc1 := 35) rfl ?_
    refine ix_aload_n (i := 0) (j := 0) X (ix_tb_at tb_X12_export 23 rfl) rfl rfl (pc1 := 36) rfl ?_
    obtain ⟨b_22, q_23, h⟩ := ix_bd1_ex h
    refine iz_getR X fl_RX12_65 k_11 q_23 (ix_tb_at tb_X12_export 24 rfl) (pc1 := 39) rfl ?_
    refine ix_iload_n (i := 2) (j := 2) X (ix_tb_at tb_X12_export 25 rfl) rfl rfl (pc1 := 40) rfl ?_
    obtain ⟨k_24, h⟩ := ix_ck_some h
    refine iz_iald X k_24 (ix_tb_at tb_X12_export 26 rfl) (pc1 := 41) rfl ?_
    obtain ⟨d_25, h_26, h⟩ := ix_bd1_ex h
    refine ix_callV (As := [.int (d.1 b_22 (ix_n x2))]) (rest := []) (ci := 11) (T := TX12) (nf := 116) X mf_X12_writeNumber mi_X12_writeNumber ms_X12_writeNumber rfl (Nat.le_of_ble_eq_true rfl) ml_RX12_418 ⟨Nat.le_of_ble_eq_true rfl, Nat.le_of_ble_eq_true rfl⟩ ⟨Nat.le_of_ble_eq_true rfl, Nat.le_of_ble_eq_true rfl⟩ rfl (Nat.le_of_ble_eq_true rfl) (ix_tb_at tb_X12_export 27 rfl) ⟨k_11.1, List.mem_singleton.mp k_11.2⟩ (c_X12_writeNumber hKp h_26) rfl (pc1 := 44) rfl ?_
    refine ix_aload_n (i := 0) (j := 0) X (ix_tb_at tb_X12_export 28 rfl) rfl rfl (pc1 := 45) rfl ?_
    refine ix_bipush (v := 32) X (ix_tb_at tb_X12_export 29 rfl) (by decide) (pc1 := 47) rfl ?_
    obtain ⟨d_27, h_28, h⟩ := ix_bd1_ex h
    refine ix_callV (As := [.int 32]) (rest := []) (ci := 11) (T := TX12) (nf := 116) X mf_X12_write mi_X12_write ms_X12_write rfl (Nat.le_of_ble_eq_true rfl) ml_RX12_415 ⟨Nat.le_of_ble_eq_true rfl, Nat.le_of_ble_eq_true rfl⟩ ⟨Nat.le_of_ble_eq_true rfl, Nat.le_of_ble_eq_true rfl⟩ rfl (Nat.le_of_ble_eq_true rfl) (ix_tb_at tb_X12_export 30 rfl) ⟨k_11.1, List.mem_singleton.mp k_11.2⟩ (c_X12_write hKp h_28) rfl (pc1 := 50) rfl ?_
    obtain ⟨x2_29, e_30, h⟩ := ix_lt_ex h
    refine ix_iinc (i := 2) (j := 2) (v := x2_29) (L1 := [(2, .int x2_29), (0, .ref (K.2.2.1 + a0)), (1, .int x1)]) X (ix_tb_at tb_X12_export 31 rfl) rfl (by rw [oi_1]; exact e_30.symm) (Nat.le_of_ble_eq_true rfl) rfl (pc1 := 53) rfl ?_
    refine ix_goto (tgt := 22) X (ix_tb_at tb_X12_export 32 rfl) (by decide) ?_
    refine ix_sub (L1 := [(0, .ref (K.2.2.1 + a0)), (1, .int x1), (2, .int x2_29)]) [1, 2, 0] rfl ?_
    exact hrec22 x2_29 d_27 h
theorem t_X12_export_22 {l : Launch} {p : Program} {e : Env} {s : State} {m : MethodId} {args : Array Value} {below : List Frame} {meth : Method} {c : Code} {K : ix_Cx} (hKp : ix_Kp K) {n : Nat} {z : ix_Z} (X : ix_X p s m args c K cX12_export RX12 3) (hr : meth.sig.returnType = (some .int)) (hlk : meth.locks = false) {rec7 : Int32 → ix_D2 → Option (Int32 × ix_D2)} {a0 : Nat} {x1 : Int32} {r : Int32} {d1 : ix_D2} (hrec7 : ∀ (x1 : Int32) (d : ix_D2), rec7 x1 d = some (r, d1) → ix_G p l e (ix_rm 2 43 0 0) s m args below meth c (MQ below (ix_Post K (some (.int r)) (ix_w z d1)) args s 0 0 (ix_A K)) K 3 0 0 7 [(0, .ref (K.2.2.1 + a0)), (1, .int x1)] [] (ix_w z d)) {x2 : Int32} {d : ix_D2} (h : f_X12_export_22 n z rec7 a0 x1 x2 d = some (r, d1)) : ix_G p l e (ix_rm 2 43 0 0) s m args below meth c (MQ below (ix_Post K (some (.int r)) (ix_w z d1)) args s 0 0 (ix_A K)) K 3 0 0 22 [(0, .ref (K.2.2.1 + a0)), (1, .int x1), (2, .int x2)] [] (ix_w z d) := by
  have key : ∀ (f : Nat) (x2 : Int32) (d : ix_D2), ix_fix (b_X12_export_22 n z rec7 a0 x1) (fun _ _ => none) f x2 d = some (r, d1) → ix_G p l e (ix_rm 2 43 0 0) s m args below meth c (MQ below (ix_Post K (some (.int r)) (ix_w z d1)) args s 0 0 (ix_A K)) K 3 0 0 22 [(0, .ref (K.2.2.1 + a0)), (1, .int x1), (2, .int x2)] [] (ix_w z d) := by
    intro f
    induction f with
    | zero =>
      intro x2 d h
      have h : (none : Option (Int32 × ix_D2)) = some (r, d1) := h
      cases h
    | succ f ih =>
      intro x2 d h
      exact tb_X12_export_22 hKp X hr hlk (rec22 := ix_fix (b_X12_export_22 n z rec7 a0 x1) (fun _ _ => none) f) hrec7 ih h
  exact key n x2 d h
set_option maxRecDepth 20000 in
theorem tb_X12_export_7 {l : Launch} {p : Program} {e : Env} {s : State} {m : MethodId} {args : Array Value} {below : List Frame} {meth : Method} {c : Code} {K : ix_Cx} (hKp : ix_Kp K) {n : Nat} {z : ix_Z} (X : ix_X p s m args c K cX12_export RX12 3) (hr : meth.sig.returnType = (some .int)) (hlk : meth.locks = false)  {a0 : Nat} {rec7 : Int32 → ix_D2 → Option (Int32 × ix_D2)} {r : Int32} {d1 : ix_D2} (hrec7 : ∀ (x1 : Int32) (d : ix_D2), rec7 x1 d = some (r, d1) → ix_G p l e (ix_rm 2 43 0 0) s m args below meth c (MQ below (ix_Post K (some (.int r)) (ix_w z d1)) args s 0 0 (ix_A K)) K 3 0 0 7 [(0, .ref (K.2.2.1 + a0)), (1, .int x1)] [] (ix_w z d)) {x1 : Int32} {d : ix_D2} (h : b_X12_export_7 n z  a0 rec7 x1 d = some (r, d1)) : ix_G p l e (ix_rm 2 43 0 0) s m args below meth c (MQ below (ix_Post K (some (.int r)) (ix_w z d1)) args s 0 0 (ix_A K)) K 3 0 0 7 [(0, .ref (K.2.2.1 + a0)), (1, .int x1)] [] (ix_w z d) := by
  unfold b_X12_export_7 at h
  refine ix_iload_n (i := 1) (j := 1) X (ix_tb_at tb_X12_export 5 rfl) rfl rfl (pc1 := 8) rfl ?_
  refine ix_aload_n (i := 0) (j := 0) X (ix_tb_at tb_X12_export 6 rfl) rfl rfl (pc1 := 9) rfl ?_
  obtain ⟨k_4, h⟩ := ix_ck_some h
  refine iz_getI X fl_RX12_273 k_4 (ix_tb_at tb_X12_export 7 rfl) (pc1 := 12) rfl ?_
  refine ix_icmp_ge (tgt := 74) X (ix_tb_at tb_X12_export 8 rfl) (by decide) (pc1 := 15) rfl (fun q_5 => ?_) (fun q_5 => ?_)
  · have h := ix_ift q_5 h
    refine ix_aload_n (i := 0) (j := 0) X (ix_tb_at tb_X12_export 41 rfl) rfl rfl (pc1 := 75) rfl ?_
    refine iz_getI X fl_RX12_412 k_4 (ix_tb_at tb_X12_export 42 rfl) (pc1 := 78) rfl ?_
    exact ix_iret X hr hlk (ix_r2 (f := fun r => some (.int r)) (g := ix_w z) h) (ix_tb_at tb_X12_export 43 rfl)
  · have h := ix_iff q_5 h
    refine ix_aload_n (i := 0) (j := 0) X (ix_tb_at tb_X12_export 9 rfl) rfl rfl (pc1 := 16) rfl ?_
    obtain ⟨b_6, q_7, h⟩ := ix_bd1_ex h
    refine iz_getR X fl_RX12_62 k_4 q_7 (ix_tb_at tb_X12_export 10 rfl) (pc1 := 19) rfl ?_
    refine ix_iload_n (i := 1) (j := 1) X (ix_tb_at tb_X12_export 11 rfl) rfl rfl (pc1 := 20) rfl ?_
    obtain ⟨k_8, h⟩ := ix_ck_some h
    refine iz_iald X k_8 (ix_tb_at tb_X12_export 12 rfl) (pc1 := 21) rfl ?_
    obtain ⟨x2_9, e_10, h⟩ := ix_lt_ex h
    refine ix_nmi e_10 ?_
    refine ix_istore_n (i := 2) (L1 := [(2, .int x2_9), (0, .ref (K.2.2.1 + a0)), (1, .int x1)]) X (ix_tb_at tb_X12_export 13 rfl) rfl (Nat.le_of_ble_eq_true rfl) rfl (pc1 := 22) rfl ?_
    refine ix_sub (L1 := [(0, .ref (K.2.2.1 + a0)), (1, .int x1), (2, .int x2_9)]) [1, 2, 0] rfl ?_
    exact t_X12_export_22 hKp X hr hlk hrec7 h
theorem t_X12_export_7 {l : Launch} {p : Program} {e : Env} {s : State} {m : MethodId} {args : Array Value} {below : List Frame} {meth : Method} {c : Code} {K : ix_Cx} (hKp : ix_Kp K) {n : Nat} {z : ix_Z} (X : ix_X p s m args c K cX12_export RX12 3) (hr : meth.sig.returnType = (some .int)) (hlk : meth.locks = false)  {a0 : Nat} {r : Int32} {d1 : ix_D2}  {x1 : Int32} {d : ix_D2} (h : f_X12_export_7 n z  a0 x1 d = some (r, d1)) : ix_G p l e (ix_rm 2 43 0 0) s m args below meth c (MQ below (ix_Post K (some (.int r)) (ix_w z d1)) args s 0 0 (ix_A K)) K 3 0 0 7 [(0, .ref (K.2.2.1 + a0)), (1, .int x1)] [] (ix_w z d) := by
  have key : ∀ (f : Nat) (x1 : Int32) (d : ix_D2), ix_fix (b_X12_export_7 n z  a0) (fun _ _ => none) f x1 d = some (r, d1) → ix_G p l e (ix_rm 2 43 0 0) s m args below meth c (MQ below (ix_Post K (some (.int r)) (ix_w z d1)) args s 0 0 (ix_A K)) K 3 0 0 7 [(0, .ref (K.2.2.1 + a0)), (1, .int x1)] [] (ix_w z d) := by
    intro f
    induction f with
    | zero =>
      intro x1 d h
      have h : (none : Option (Int32 × ix_D2)) = some (r, d1) := h
      cases h
    | succ f ih =>
      intro x1 d h
      exact tb_X12_export_7 hKp X hr hlk (rec7 := ix_fix (b_X12_export_7 n z  a0) (fun _ _ => none) f)  ih h
  exact key n x1 d h
set_option maxRecDepth 20000 in
theorem c_X12_export {l : Launch} {K : ix_Cx} (hKp : ix_Kp K) {n : Nat} {z : ix_Z} {a0 : Nat} {d : ix_D2} {r : Int32} {d1 : ix_D2} (h : f_X12_export n z a0 d = some (r, d1)) : ix_M l K yX12_export cX12_export 3 (some .int) 2 43 0 0 [.ref (K.2.2.1 + a0)] (ix_w z d) (some (.int r)) (ix_w z d1) := by
  refine ix_met mf_X12_export hKp (Nat.le_of_ble_eq_true rfl) ?_
  intro p e s m args below meth c hr hlk hnm X
  have X : ix_X p s m args c K cX12_export RX12 3 := X
  show ix_G p l e (ix_rm 2 43 0 0) s m args below meth c (MQ below (ix_Post K (some (.int r)) (ix_w z d1)) args s 0 0 (ix_A K)) K 3 0 0 0 [(0, .ref (K.2.2.1 + a0))] [] (ix_w z d)
  unfold f_X12_export at h
  refine ix_aload_n (i := 0) (j := 0) X (ix_tb_at tb_X12_export 0 rfl) rfl rfl (pc1 := 1) rfl ?_
  refine ix_iconst (v := 0) X (ix_tb_at tb_X12_export 1 rfl) (by decide) (pc1 := 2) rfl ?_
  obtain ⟨k_1, h⟩ := ix_ck_some h
  obtain ⟨d_2, e_3, h⟩ := ix_lt_ex h
  refine iz_putI X fp_RX12_412 k_1 (ix_tb_at tb_X12_export 2 rfl) e_3 (pc1 := 5) rfl ?_
  refine ix_iconst (v := 0) X (ix_tb_at tb_X12_export 3 rfl) (by decide) (pc1 := 6) rfl ?_
  refine ix_istore_n (i := 1) (L1 := [(1, .int 0), (0, .ref (K.2.2.1 + a0))]) X (ix_tb_at tb_X12_export 4 rfl) rfl (Nat.le_of_ble_eq_true rfl) rfl (pc1 := 7) rfl ?_
  refine ix_sub (L1 := [(0, .ref (K.2.2.1 + a0)), (1, .int 0)]) [1, 0] rfl ?_
  exact t_X12_export_7 hKp X hr hlk  h
def tab_X12_out : List (Nat × Instr × Nat) := [(0, .iload_n 1, 1), (1, .iconst 0, 1), (2, .aload_n 0, 1), (3, .getfield 412, 3), (6, .iconst 1, 1), (7, .isub, 1), (8, .invokestatic 238, 3), (11, .ifCond .eq 12, 3), (14, .aload_n 0, 1), (15, .getfield 26, 3), (18, .iload_n 1, 1), (19, .iaload, 1), (20, .goto 6, 3), (23, .sipush (-1005), 3), (26, .ireturn, 1)]
theorem tb_X12_out : ix_tab cX12_out tab_X12_out := by
  unfold ix_tab
  decide +kernel
noncomputable def f_X12_out (n : Nat) (z : ix_Z) (a0 : Nat) (x1 : Int32) (d : ix_D2) : Option (Int32 × ix_D2) :=
  ix_ck (ix_ok z [11] a0) (ix_bd2 (f_X12_in n z x1 0 ((d.1 a0 10) - 1) d) (fun r_4 d_2 => ix_if (r_4 = 0) (some ((-1005), d_2)) (ix_bd1 (z.1 a0 9) (fun b_6 => ix_ck (ix_ix z 20 b_6 x1) (some (d_2.1 b_6 (ix_n x1), d_2))))))
set_option maxRecDepth 20000 in
theorem c_X12_out {l : Launch} {K : ix_Cx} (hKp : ix_Kp K) {n : Nat} {z : ix_Z} {a0 : Nat} {x1 : Int32} {d : ix_D2} {r : Int32} {d1 : ix_D2} (h : f_X12_out n z a0 x1 d = some (r, d1)) : ix_M l K yX12_out cX12_out 2 (some .int) 1 22 0 0 [.ref (K.2.2.1 + a0), .int x1] (ix_w z d) (some (.int r)) (ix_w z d1) := by
  refine ix_met mf_X12_out hKp (Nat.le_of_ble_eq_true rfl) ?_
  intro p e s m args below meth c hr hlk hnm X
  have X : ix_X p s m args c K cX12_out RX12 2 := X
  show ix_G p l e (ix_rm 1 22 0 0) s m args below meth c (MQ below (ix_Post K (some (.int r)) (ix_w z d1)) args s 0 0 (ix_A K)) K 2 0 0 0 [(0, .ref (K.2.2.1 + a0)), (1, .int x1)] [] (ix_w z d)
  unfold f_X12_out at h
  refine ix_iload_n (i := 1) (j := 1) X (ix_tb_at tb_X12_out 0 rfl) rfl rfl (pc1 := 1) rfl ?_
  refine ix_iconst (v := 0) X (ix_tb_at tb_X12_out 1 rfl) (by decide) (pc1 := 2) rfl ?_
  refine ix_aload_n (i := 0) (j := 0) X (ix_tb_at tb_X12_out 2 rfl) rfl rfl (pc1 := 3) rfl ?_
  obtain ⟨k_1, h⟩ := ix_ck_some h
  refine iz_getI X fl_RX12_412 k_1 (ix_tb_at tb_X12_out 3 rfl) (pc1 := 6) rfl ?_
  refine ix_iconst (v := 1) X (ix_tb_at tb_X12_out 4 rfl) (by decide) (pc1 := 7) rfl ?_
  refine ix_isub X (ix_tb_at tb_X12_out 5 rfl) (pc1 := 8) rfl ?_
  obtain ⟨r_4, d_2, h_3, h⟩ := ix_bd2_ex h
  refine ix_callS (As := [.int x1, .int 0, .int ((d.1 a0 10) - 1)]) (rest := []) X mf_X12_in st_X12_in ml_RX12_238 ⟨Nat.le_of_ble_eq_true rfl, Nat.le_of_ble_eq_true rfl⟩ ⟨Nat.le_of_ble_eq_true rfl, Nat.le_of_ble_eq_true rfl⟩ rfl (Nat.le_of_ble_eq_true rfl) (ix_tb_at tb_X12_out 6 rfl) (c_X12_in hKp h_3) rfl (pc1 := 11) rfl ?_
  refine ix_if_eq (tgt := 23) X (ix_tb_at tb_X12_out 7 rfl) (by decide) (pc1 := 14) rfl (fun q_5 => ?_) (fun q_5 => ?_)
  · have h := ix_ift q_5 h
    refine ix_sipush (v := (-1005)) X (ix_tb_at tb_X12_out 13 rfl) (by decide) (pc1 := 26) rfl ?_
    exact ix_iret X hr hlk (ix_r2 (f := fun r => some (.int r)) (g := ix_w z) h) (ix_tb_at tb_X12_out 14 rfl)
  · have h := ix_iff q_5 h
    refine ix_aload_n (i := 0) (j := 0) X (ix_tb_at tb_X12_out 8 rfl) rfl rfl (pc1 := 15) rfl ?_
    obtain ⟨b_6, q_7, h⟩ := ix_bd1_ex h
    refine iz_getR X fl_RX12_26 k_1 q_7 (ix_tb_at tb_X12_out 9 rfl) (pc1 := 18) rfl ?_
    refine ix_iload_n (i := 1) (j := 1) X (ix_tb_at tb_X12_out 10 rfl) rfl rfl (pc1 := 19) rfl ?_
    obtain ⟨k_8, h⟩ := ix_ck_some h
    refine iz_iald X k_8 (ix_tb_at tb_X12_out 11 rfl) (pc1 := 20) rfl ?_
    refine ix_goto (tgt := 26) X (ix_tb_at tb_X12_out 12 rfl) (by decide) ?_
    exact ix_iret X hr hlk (ix_r2 (f := fun r => some (.int r)) (g := ix_w z) h) (ix_tb_at tb_X12_out 14 rfl)
def tab_X12_trace : List (Nat × Instr × Nat) := [(0, .iload_n 1, 1), (1, .iconst 0, 1), (2, .aload_n 0, 1), (3, .getfield 385, 3), (6, .bipush 100, 2), (8, .if_icmp .ge 10, 3), (11, .aload_n 0, 1), (12, .getfield 385, 3), (15, .goto 5, 3), (18, .bipush 100, 2), (20, .iconst 1, 1), (21, .isub, 1), (22, .invokestatic 238, 3), (25, .ifCond .eq 22, 3), (28, .aload_n 0, 1), (29, .getfield 68, 3), (32, .aload_n 0, 1), (33, .getfield 385, 3), (36, .iconst 1, 1), (37, .isub, 1), (38, .iload_n 1, 1), (39, .isub, 1), (40, .bipush 100, 2), (42, .irem, 1), (43, .iaload, 1), (44, .goto 6, 3), (47, .sipush (-1005), 3), (50, .ireturn, 1)]
theorem tb_X12_trace : ix_tab cX12_trace tab_X12_trace := by
  unfold ix_tab
  decide +kernel
noncomputable def f_X12_trace_20 (n : Nat) (z : ix_Z)  (a0 : Nat) (x1 : Int32) (s0 : Int32) (s1 : Int32) (s2 : Int32) (d : ix_D2) : Option (Int32 × ix_D2) :=
  ix_bd2 (f_X12_in n z s2 s1 (s0 - 1) d) (fun r_5 d_3 => ix_if (r_5 = 0) (some ((-1005), d_3)) (ix_ck (ix_ok z [11] a0) (ix_bd1 (z.1 a0 26) (fun b_8 => ix_ck (ix_ix z 20 b_8 ((((d_3.1 a0 27) - 1) - x1) - (((d_3.1 a0 27) - 1) - x1) / 100 * 100)) (some (d_3.1 b_8 (ix_n ((((d_3.1 a0 27) - 1) - x1) - (((d_3.1 a0 27) - 1) - x1) / 100 * 100)), d_3))))))
noncomputable def f_X12_trace (n : Nat) (z : ix_Z) (a0 : Nat) (x1 : Int32) (d : ix_D2) : Option (Int32 × ix_D2) :=
  ix_ck (ix_ok z [11] a0) (ix_if (100 ≤ d.1 a0 27) (f_X12_trace_20 n z  a0 x1 100 0 x1 d) (f_X12_trace_20 n z  a0 x1 (d.1 a0 27) 0 x1 d))
set_option maxRecDepth 20000 in
theorem t_X12_trace_20 {l : Launch} {p : Program} {e : Env} {s : State} {m : MethodId} {args : Array Value} {below : List Frame} {meth : Method} {c : Code} {K : ix_Cx} (hKp : ix_Kp K) {n : Nat} {z : ix_Z} (X : ix_X p s m args c K cX12_trace RX12 2) (hr : meth.sig.returnType = (some .int)) (hlk : meth.locks = false)  {a0 : Nat} {x1 : Int32} {s0 : Int32} {s1 : Int32} {s2 : Int32} {r : Int32} {d1 : ix_D2}  {d : ix_D2} (h : f_X12_trace_20 n z  a0 x1 s0 s1 s2 d = some (r, d1)) : ix_G p l e (ix_rm 1 22 0 0) s m args below meth c (MQ below (ix_Post K (some (.int r)) (ix_w z d1)) args s 0 0 (ix_A K)) K 2 0 0 20 [(0, .ref (K.2.2.1 + a0)), (1, .int x1)] [.int s0, .int s1, .int s2] (ix_w z d) := by
  unfold f_X12_trace_20 at h
  refine ix_iconst (v := 1) X (ix_tb_at tb_X12_trace 10 rfl) (by decide) (pc1 := 21) rfl ?_
  refine ix_isub X (ix_tb_at tb_X12_trace 11 rfl) (pc1 := 22) rfl ?_
  obtain ⟨r_5, d_3, h_4, h⟩ := ix_bd2_ex h
  refine ix_callS (As := [.int s2, .int s1, .int (s0 - 1)]) (rest := []) X mf_X12_in st_X12_in ml_RX12_238 ⟨Nat.le_of_ble_eq_true rfl, Nat.le_of_ble_eq_true rfl⟩ ⟨Nat.le_of_ble_eq_true rfl, Nat.le_of_ble_eq_true rfl⟩ rfl (Nat.le_of_ble_eq_true rfl) (ix_tb_at tb_X12_trace 12 rfl) (c_X12_in hKp h_4) rfl (pc1 := 25) rfl ?_
  refine ix_if_eq (tgt := 47) X (ix_tb_at tb_X12_trace 13 rfl) (by decide) (pc1 := 28) rfl (fun q_6 => ?_) (fun q_6 => ?_)
  · have h := ix_ift q_6 h
    refine ix_sipush (v := (-1005)) X (ix_tb_at tb_X12_trace 26 rfl) (by decide) (pc1 := 50) rfl ?_
    exact ix_iret X hr hlk (ix_r2 (f := fun r => some (.int r)) (g := ix_w z) h) (ix_tb_at tb_X12_trace 27 rfl)
  · have h := ix_iff q_6 h
    refine ix_aload_n (i := 0) (j := 0) X (ix_tb_at tb_X12_trace 14 rfl) rfl rfl (pc1 := 29) rfl ?_
    obtain ⟨k_7, h⟩ := ix_ck_some h
    obtain ⟨b_8, q_9, h⟩ := ix_bd1_ex h
    refine iz_getR X fl_RX12_68 k_7 q_9 (ix_tb_at tb_X12_trace 15 rfl) (pc1 := 32) rfl ?_
    refine ix_aload_n (i := 0) (j := 0) X (ix_tb_at tb_X12_trace 16 rfl) rfl rfl (pc1 := 33) rfl ?_
    refine iz_getI X fl_RX12_385 k_7 (ix_tb_at tb_X12_trace 17 rfl) (pc1 := 36) rfl ?_
    refine ix_iconst (v := 1) X (ix_tb_at tb_X12_trace 18 rfl) (by decide) (pc1 := 37) rfl ?_
    refine ix_isub X (ix_tb_at tb_X12_trace 19 rfl) (pc1 := 38) rfl ?_
    refine ix_iload_n (i := 1) (j := 1) X (ix_tb_at tb_X12_trace 20 rfl) rfl rfl (pc1 := 39) rfl ?_
    refine ix_isub X (ix_tb_at tb_X12_trace 21 rfl) (pc1 := 40) rfl ?_
    refine ix_bipush (v := 100) X (ix_tb_at tb_X12_trace 22 rfl) (by decide) (pc1 := 42) rfl ?_
    refine ix_irem X (ix_tb_at tb_X12_trace 23 rfl) (by decide) (pc1 := 43) rfl ?_
    obtain ⟨k_10, h⟩ := ix_ck_some h
    refine iz_iald X k_10 (ix_tb_at tb_X12_trace 24 rfl) (pc1 := 44) rfl ?_
    refine ix_goto (tgt := 50) X (ix_tb_at tb_X12_trace 25 rfl) (by decide) ?_
    exact ix_iret X hr hlk (ix_r2 (f := fun r => some (.int r)) (g := ix_w z) h) (ix_tb_at tb_X12_trace 27 rfl)
set_option maxRecDepth 20000 in
theorem c_X12_trace {l : Launch} {K : ix_Cx} (hKp : ix_Kp K) {n : Nat} {z : ix_Z} {a0 : Nat} {x1 : Int32} {d : ix_D2} {r : Int32} {d1 : ix_D2} (h : f_X12_trace n z a0 x1 d = some (r, d1)) : ix_M l K yX12_trace cX12_trace 2 (some .int) 1 22 0 0 [.ref (K.2.2.1 + a0), .int x1] (ix_w z d) (some (.int r)) (ix_w z d1) := by
  refine ix_met mf_X12_trace hKp (Nat.le_of_ble_eq_true rfl) ?_
  intro p e s m args below meth c hr hlk hnm X
  have X : ix_X p s m args c K cX12_trace RX12 2 := X
  show ix_G p l e (ix_rm 1 22 0 0) s m args below meth c (MQ below (ix_Post K (some (.int r)) (ix_w z d1)) args s 0 0 (ix_A K)) K 2 0 0 0 [(0, .ref (K.2.2.1 + a0)), (1, .int x1)] [] (ix_w z d)
  unfold f_X12_trace at h
  refine ix_iload_n (i := 1) (j := 1) X (ix_tb_at tb_X12_trace 0 rfl) rfl rfl (pc1 := 1) rfl ?_
  refine ix_iconst (v := 0) X (ix_tb_at tb_X12_trace 1 rfl) (by decide) (pc1 := 2) rfl ?_
  refine ix_aload_n (i := 0) (j := 0) X (ix_tb_at tb_X12_trace 2 rfl) rfl rfl (pc1 := 3) rfl ?_
  obtain ⟨k_1, h⟩ := ix_ck_some h
  refine iz_getI X fl_RX12_385 k_1 (ix_tb_at tb_X12_trace 3 rfl) (pc1 := 6) rfl ?_
  refine ix_bipush (v := 100) X (ix_tb_at tb_X12_trace 4 rfl) (by decide) (pc1 := 8) rfl ?_
  refine ix_icmp_ge (tgt := 18) X (ix_tb_at tb_X12_trace 5 rfl) (by decide) (pc1 := 11) rfl (fun q_2 => ?_) (fun q_2 => ?_)
  · have h := ix_ift q_2 h
    refine ix_bipush (v := 100) X (ix_tb_at tb_X12_trace 9 rfl) (by decide) (pc1 := 20) rfl ?_
    refine ix_sub (L1 := [(0, .ref (K.2.2.1 + a0)), (1, .int x1)]) [0, 1] rfl ?_
    exact t_X12_trace_20 hKp X hr hlk  h
  · have h := ix_iff q_2 h
    refine ix_aload_n (i := 0) (j := 0) X (ix_tb_at tb_X12_trace 6 rfl) rfl rfl (pc1 := 12) rfl ?_
    refine iz_getI X fl_RX12_385 k_1 (ix_tb_at tb_X12_trace 7 rfl) (pc1 := 15) rfl ?_
    refine ix_goto (tgt := 20) X (ix_tb_at tb_X12_trace 8 rfl) (by decide) ?_
    refine ix_sub (L1 := [(0, .ref (K.2.2.1 + a0)), (1, .int x1)]) [0, 1] rfl ?_
    exact t_X12_trace_20 hKp X hr hlk  h

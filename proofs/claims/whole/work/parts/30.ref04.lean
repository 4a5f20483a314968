theorem fp_RX12_533 : ix_fpb 1655 0 false RX12 533 "ClauseCourtModel" [11] 91 "Z" false = true := by decide +kernel
theorem fl_RX12_198 : ix_flb 1656 0 false RX12 198 "ClauseCourtModel" [11] 92 2 = true := by decide +kernel
theorem mf_X12_tellQuarrel : ix_mf yX12_tellQuarrel cX12_tellQuarrel 6 (none : Option Jvm.ClassFile.FieldType) 5 := ⟨ix_wm (i := 2270) (by decide +kernel), ix_wm (i := 8) (by decide +kernel), ⟨by decide +kernel, by decide +kernel⟩, by decide +kernel, by decide +kernel⟩
theorem mi_X12_tellQuarrel : Cond.instanceMethod yX12_tellQuarrel ∈ lw_tbl := ix_wm (i := 2269) (by decide +kernel)
theorem ms_X12_hasRoom : Cond.selects yX12_hasRoom.cls yX12_hasRoom yX12_hasRoom ∈ lw_tbl := List.mem_append_left _ (List.mem_of_getElem? (i := 108) (by decide +kernel))
theorem ml_RX12_517 : tables_1[2255]? = some (Cond.methodLink RX12 517 yX12_hasRoom) := by decide +kernel
theorem fl_RX12_460 : ix_flb 1662 0 false RX12 460 "ClauseCourtModel" [11] 98 0 = true := by decide +kernel
theorem ms_X12_record : Cond.selects yX12_record.cls yX12_record yX12_record ∈ lw_tbl := List.mem_append_left _ (List.mem_of_getElem? (i := 109) (by decide +kernel))
theorem ml_RX12_520 : tables_1[2259]? = some (Cond.methodLink RX12 520 yX12_record) := by decide +kernel
theorem ms_X12_keepCore : Cond.selects yX12_keepCore.cls yX12_keepCore yX12_keepCore ∈ lw_tbl := List.mem_append_left _ (List.mem_of_getElem? (i := 110) (by decide +kernel))
theorem ml_RX12_523 : tables_1[2263]? = some (Cond.methodLink RX12 523 yX12_keepCore) := by decide +kernel
theorem fp_RX12_526 : ix_fpb 1660 0 false RX12 526 "ClauseCourtModel" [11] 96 "I" false = true := by decide +kernel
theorem ms_X12_tellQuarrel : Cond.selects yX12_tellQuarrel.cls yX12_tellQuarrel yX12_tellQuarrel ∈ lw_tbl := List.mem_append_left _ (List.mem_of_getElem? (i := 111) (by decide +kernel))
theorem ml_RX12_529 : tables_1[2267]? = some (Cond.methodLink RX12 529 yX12_tellQuarrel) := by decide +kernel
theorem mf_X12_endLow : ix_mf yX12_endLow cX12_endLow 2 (some .int) 1 := ⟨ix_wm (i := 2254) (by decide +kernel), ix_wm (i := 8) (by decide +kernel), ⟨by decide +kernel, by decide +kernel⟩, by decide +kernel, by decide +kernel⟩
theorem mi_X12_endLow : Cond.instanceMethod yX12_endLow ∈ lw_tbl := ix_wm (i := 2253) (by decide +kernel)
theorem fl_RX12_210 : ix_flb 1666 0 false RX12 210 "ClauseCourtModel" [11] 102 2 = true := by decide +kernel
theorem fl_RX12_213 : ix_flb 1667 0 false RX12 213 "ClauseCourtModel" [11] 103 2 = true := by decide +kernel
theorem mf_X12_clearMarks : ix_mf yX12_clearMarks cX12_clearMarks 2 (none : Option Jvm.ClassFile.FieldType) 0 := ⟨ix_wm (i := 2278) (by decide +kernel), ix_wm (i := 8) (by decide +kernel), ⟨by decide +kernel, by decide +kernel⟩, by decide +kernel, by decide +kernel⟩
theorem mi_X12_clearMarks : Cond.instanceMethod yX12_clearMarks ∈ lw_tbl := ix_wm (i := 2277) (by decide +kernel)
theorem fl_RX12_216 : ix_flb 1669 0 false RX12 216 "ClauseCourtModel" [11] 105 2 = true := by decide +kernel
theorem fl_RX12_542 : ix_flb 1670 0 false RX12 542 "ClauseCourtModel" [11] 106 0 = true := by decide +kernel
theorem fp_RX12_542 : ix_fpb 1670 0 false RX12 542 "ClauseCourtModel" [11] 106 "I" false = true := by decide +kernel
theorem fl_RX12_545 : ix_flb 1668 0 false RX12 545 "ClauseCourtModel" [11] 104 0 = true := by decide +kernel
theorem fp_RX12_545 : ix_fpb 1668 0 false RX12 545 "ClauseCourtModel" [11] 104 "I" false = true := by decide +kernel
theorem mf_X12_useRow : ix_mf yX12_useRow cX12_useRow 7 (none : Option Jvm.ClassFile.FieldType) 3 := ⟨ix_wm (i := 2282) (by decide +kernel), ix_wm (i := 8) (by decide +kernel), ⟨by decide +kernel, by decide +kernel⟩, by decide +kernel, by decide +kernel⟩
theorem mi_X12_useRow : Cond.instanceMethod yX12_useRow ∈ lw_tbl := ix_wm (i := 2281) (by decide +kernel)
theorem ms_X12_useRow : Cond.selects yX12_useRow.cls yX12_useRow yX12_useRow ∈ lw_tbl := List.mem_append_left _ (List.mem_of_getElem? (i := 114) (by decide +kernel))
theorem ml_RX12_548 : tables_1[2279]? = some (Cond.methodLink RX12 548 yX12_useRow) := by decide +kernel
theorem mf_X12_lastOne : ix_mf yX12_lastOne cX12_lastOne 6 (some .int) 1 := ⟨ix_wm (i := 2286) (by decide +kernel), ix_wm (i := 8) (by decide +kernel), ⟨by decide +kernel, by decide +kernel⟩, by decide +kernel, by decide +kernel⟩
theorem mi_X12_lastOne : Cond.instanceMethod yX12_lastOne ∈ lw_tbl := ix_wm (i := 2285) (by decide +kernel)
theorem mf_X12_raise : ix_mf yX12_raise cX12_raise 5 (some .int) 1 := ⟨ix_wm (i := 2290) (by decide +kernel), ix_wm (i := 8) (by decide +kernel), ⟨by decide +kernel, by decide +kernel⟩, by decide +kernel, by decide +kernel⟩
theorem mi_X12_raise : Cond.instanceMethod yX12_raise ∈ lw_tbl := ix_wm (i := 2289) (by decide +kernel)
theorem mf_X12_partOfRow : ix_mf yX12_partOfRow cX12_partOfRow 3 (some .int) 1 := ⟨ix_wm (i := 2300) (by decide +kernel), ix_wm (i := 8) (by decide +kernel), ⟨by decide +kernel, by decide +kernel⟩, by decide +kernel, by decide +kernel⟩
theorem st_X12_partOfRow : Cond.static yX12_partOfRow ∈ lw_tbl := ix_wm (i := 2299) (by decide +kernel)
theorem mf_X12_thereOf : ix_mf yX12_thereOf cX12_thereOf 4 (some .int) 1 := ⟨ix_wm (i := 2308) (by decide +kernel), ix_wm (i := 8) (by decide +kernel), ⟨by decide +kernel, by decide +kernel⟩, by decide +kernel, by decide +kernel⟩
theorem mi_X12_thereOf : Cond.instanceMethod yX12_thereOf ∈ lw_tbl := ix_wm (i := 2307) (by decide +kernel)
theorem fl_RX12_219 : ix_flb 1671 0 false RX12 219 "ClauseCourtModel" [11] 107 2 = true := by decide +kernel
theorem mf_X12_mayGo : ix_mf yX12_mayGo cX12_mayGo 3 (some .boolean) 2 := ⟨ix_wm (i := 2312) (by decide +kernel), ix_wm (i := 8) (by decide +kernel), ⟨by decide +kernel, by decide +kernel⟩, by decide +kernel, by decide +kernel⟩
theorem mi_X12_mayGo : Cond.instanceMethod yX12_mayGo ∈ lw_tbl := ix_wm (i := 2311) (by decide +kernel)
theorem ms_X12_thereOf : Cond.selects yX12_thereOf.cls yX12_thereOf yX12_thereOf ∈ lw_tbl := List.mem_append_left _ (List.mem_of_getElem? (i := 119) (by decide +kernel))
theorem ml_RX12_572 : tables_1[2305]? = some (Cond.methodLink RX12 572 yX12_thereOf) := by decide +kernel
theorem fl_RX12_177 : ix_flb 1647 0 false RX12 177 "ClauseCourtModel" [11] 83 2 = true := by decide +kernel
theorem ms_X12_mayGo : Cond.selects yX12_mayGo.cls yX12_mayGo yX12_mayGo ∈ lw_tbl := List.mem_append_left _ (List.mem_of_getElem? (i := 120) (by decide +kernel))
theorem ml_RX12_575 : tables_1[2309]? = some (Cond.methodLink RX12 575 yX12_mayGo) := by decide +kernel
theorem mf_X12_forgetSome : ix_mf yX12_forgetSome cX12_forgetSome 7 (none : Option Jvm.ClassFile.FieldType) 1 := ⟨ix_wm (i := 2304) (by decide +kernel), ix_wm (i := 8) (by decide +kernel), ⟨by decide +kernel, by decide +kernel⟩, by decide +kernel, by decide +kernel⟩
theorem mi_X12_forgetSome : Cond.instanceMethod yX12_forgetSome ∈ lw_tbl := ix_wm (i := 2303) (by decide +kernel)
theorem ms_X12_clearMarks : Cond.selects yX12_clearMarks.cls yX12_clearMarks yX12_clearMarks ∈ lw_tbl := List.mem_append_left _ (List.mem_of_getElem? (i := 113) (by decide +kernel))
theorem ml_RX12_536 : tables_1[2275]? = some (Cond.methodLink RX12 536 yX12_clearMarks) := by decide +kernel
theorem ms_X12_lastOne : Cond.selects yX12_lastOne.cls yX12_lastOne yX12_lastOne ∈ lw_tbl := List.mem_append_left _ (List.mem_of_getElem? (i := 115) (by decide +kernel))
theorem ml_RX12_551 : tables_1[2283]? = some (Cond.methodLink RX12 551 yX12_lastOne) := by decide +kernel
theorem ms_X12_takesStep : Cond.selects yX12_takesStep.cls yX12_takesStep yX12_takesStep ∈ lw_tbl := List.mem_append_left _ (List.mem_of_getElem? (i := 101) (by decide +kernel))
theorem ml_RX12_496 : tables_1[2227]? = some (Cond.methodLink RX12 496 yX12_takesStep) := by decide +kernel
theorem ms_X12_raise : Cond.selects yX12_raise.cls yX12_raise yX12_raise ∈ lw_tbl := List.mem_append_left _ (List.mem_of_getElem? (i := 116) (by decide +kernel))
theorem ml_RX12_554 : tables_1[2287]? = some (Cond.methodLink RX12 554 yX12_raise) := by decide +kernel
theorem ms_X12_goBack : Cond.selects yX12_goBack.cls yX12_goBack yX12_goBack ∈ lw_tbl := List.mem_append_left _ (List.mem_of_getElem? (i := 117) (by decide +kernel))
theorem ml_RX12_557 : tables_1[2294]? = some (Cond.methodLink RX12 557 yX12_goBack) := by decide +kernel
theorem ms_X12_forgetSome : Cond.selects yX12_forgetSome.cls yX12_forgetSome yX12_forgetSome ∈ lw_tbl := List.mem_append_left _ (List.mem_of_getElem? (i := 118) (by decide +kernel))
theorem ml_RX12_563 : tables_1[2301]? = some (Cond.methodLink RX12 563 yX12_forgetSome) := by decide +kernel
theorem ml_RX12_560 : tables_1[2298]? = some (Cond.methodLink RX12 560 yX12_partOfRow) := by decide +kernel
theorem mf_X12_learn : ix_mf yX12_learn cX12_learn 10 (some .int) 1 := ⟨ix_wm (i := 2274) (by decide +kernel), ix_wm (i := 8) (by decide +kernel), ⟨by decide +kernel, by decide +kernel⟩, by decide +kernel, by decide +kernel⟩
theorem mi_X12_learn : Cond.instanceMethod yX12_learn ∈ lw_tbl := ix_wm (i := 2273) (by decide +kernel)
theorem mf_X12_markRow : ix_mf yX12_markRow cX12_markRow 5 (none : Option Jvm.ClassFile.FieldType) 2 := ⟨ix_wm (i := 2320) (by decide +kernel), ix_wm (i := 8) (by decide +kernel), ⟨by decide +kernel, by decide +kernel⟩, by decide +kernel, by decide +kernel⟩
theorem mi_X12_markRow : Cond.instanceMethod yX12_markRow ∈ lw_tbl := ix_wm (i := 2319) (by decide +kernel)
theorem fl_RX12_204 : ix_flb 1659 0 false RX12 204 "ClauseCourtModel" [11] 95 2 = true := by decide +kernel
theorem ms_X12_markRow : Cond.selects yX12_markRow.cls yX12_markRow yX12_markRow ∈ lw_tbl := List.mem_append_left _ (List.mem_of_getElem? (i := 122) (by decide +kernel))
theorem ml_RX12_539 : tables_1[2317]? = some (Cond.methodLink RX12 539 yX12_markRow) := by decide +kernel
theorem mf_X12_endAsked : ix_mf yX12_endAsked cX12_endAsked 6 (some .int) 2 := ⟨ix_wm (i := 2316) (by decide +kernel), ix_wm (i := 8) (by decide +kernel), ⟨by decide +kernel, by decide +kernel⟩, by decide +kernel, by decide +kernel⟩
theorem mi_X12_endAsked : Cond.instanceMethod yX12_endAsked ∈ lw_tbl := ix_wm (i := 2315) (by decide +kernel)
def tab_X12_tellQuarrel : List (Nat × Instr × Nat) := [(0, .aload_n 0, 1), (1, .iconst 1, 1), (2, .putfield 533, 3), (5, .aload_n 0, 1), (6, .getfield 198, 3), (9, .iconst 0, 1), (10, .iload_n 1, 1), (11, .iastore, 1), (12, .aload_n 0, 1), (13, .getfield 198, 3), (16, .iconst 1, 1), (17, .iload_n 2, 1), (18, .iastore, 1), (19, .aload_n 0, 1), (20, .getfield 198, 3), (23, .iconst 2, 1), (24, .iload_n 3, 1), (25, .iastore, 1), (26, .aload_n 0, 1), (27, .getfield 198, 3), (30, .iconst 3, 1), (31, .iload 4, 2), (33, .iastore, 1), (34, .aload_n 0, 1), (35, .getfield 198, 3), (38, .iconst 4, 1), (39, .iload 5, 2), (41, .iastore, 1), (42, .return_, 1)]
theorem tb_X12_tellQuarrel : ix_tab cX12_tellQuarrel tab_X12_tellQuarrel := by
  unfold ix_tab
  decide +kernel
noncomputable def f_X12_tellQuarrel (n : Nat) (z : ix_Z) (a0 : Nat) (x1 : Int32) (x2 : Int32) (x3 : Int32) (x4 : Int32) (x5 : Int32) (d : ix_D2) : Option (ix_D2) :=
  ix_ck (ix_ok z [11] a0) (ix_lt (ix_di d a0 91 1) (fun d_2 => ix_bd1 (z.1 a0 92) (fun b_4 => ix_ck (ix_ix z 20 b_4 0) (ix_lt (ix_di d_2 b_4 (ix_n 0) x1) (fun d_7 => ix_ck (ix_ix z 20 b_4 1) (ix_lt (ix_di d_7 b_4 (ix_n 1) x2) (fun d_10 => ix_ck (ix_ix z 20 b_4 2) (ix_lt (ix_di d_10 b_4 (ix_n 2) x3) (fun d_13 => ix_ck (ix_ix z 20 b_4 3) (ix_lt (ix_di d_13 b_4 (ix_n 3) x4) (fun d_16 => ix_ck (ix_ix z 20 b_4 4) (ix_lt (ix_di d_16 b_4 (ix_n 4) x5) (fun d_19 => some d_19)))))))))))))
set_option maxRecDepth 20000 in
theorem c_X12_tellQuarrel {l : Launch} {K : ix_Cx} (hKp : ix_Kp K) {n : Nat} {z : ix_Z} {a0 : Nat} {x1 : Int32} {x2 : Int32} {x3 : Int32} {x4 : Int32} {x5 : Int32} {d : ix_D2} {d1 : ix_D2} (h : f_X12_tellQuarrel n z a0 x1 x2 x3 x4 x5 d = some d1) : ix_M l K yX12_tellQuarrel cX12_tellQuarrel 6 (none : Option Jvm.ClassFile.FieldType) 0 0 0 0 [.ref (K.2.2.1 + a0), .int x1, .int x2, .int x3, .int x4, .int x5] (ix_w z d) none (ix_w z d1) := by
  refine ix_met mf_X12_tellQuarrel hKp (Nat.le_of_ble_eq_true rfl) ?_
  intro p e s m args below meth c hr hlk hnm X
  have X : ix_X p s m args c K cX12_tellQuarrel RX12 6 := X
  show ix_G p l e (ix_rm 0 0 0 0) s m args below meth c (MQ below (ix_Post K none (ix_w z d1)) args s 0 0 (ix_A K)) K 6 0 0 0 [(0, .ref (K.2.2.1 + a0)), (1, .int x1), (2, .int x2), (3, .int x3), (4, .int x4), (5, .int x5)] [] (ix_w z d)
  unfold f_X12_tellQuarrel at h
  refine ix_aload_n (i := 0) (j := 0) X (ix_tb_at tb_X12_tellQuarrel 0 rfl) rfl rfl (pc1 := 1) rfl ?_
  refine ix_iconst (v := 1) X (ix_tb_at tb_X12_tellQuarrel 1 rfl) (by decide) (pc1 := 2) rfl ?_
  obtain ⟨k_1, h⟩ := ix_ck_some h
  obtain ⟨d_2, e_3, h⟩ := ix_lt_ex h
  refine iz_putZ X fp_RX12_533 k_1 (ix_tb_at tb_X12_tellQuarrel 2 rfl) (by decide) e_3 (pc1 := 5) rfl ?_
  refine ix_aload_n (i := 0) (j := 0) X (ix_tb_at tb_X12_tellQuarrel 3 rfl) rfl rfl (pc1 := 6) rfl ?_
  obtain ⟨b_4, q_5, h⟩ := ix_bd1_ex h
  refine iz_getR X fl_RX12_198 k_1 q_5 (ix_tb_at tb_X12_tellQuarrel 4 rfl) (pc1 := 9) rfl ?_
  refine ix_iconst (v := 0) X (ix_tb_at tb_X12_tellQuarrel 5 rfl) (by decide) (pc1 := 10) rfl ?_
  refine ix_iload_n (i := 1) (j := 1) X (ix_tb_at tb_X12_tellQuarrel 6 rfl) rfl rfl (pc1 := 11) rfl ?_
  obtain ⟨k_6, h⟩ := ix_ck_some h
  obtain ⟨d_7, e_8, h⟩ := ix_lt_ex h
  refine iz_iast X k_6 (ix_tb_at tb_X12_tellQuarrel 7 rfl) e_8 (pc1 := 12) rfl ?_
  refine ix_aload_n (i := 0) (j := 0) X (ix_tb_at tb_X12_tellQuarrel 8 rfl) rfl rfl (pc1 := 13) rfl ?_
  refine iz_getR X fl_RX12_198 k_1 q_5 (ix_tb_at tb_X12_tellQuarrel 9 rfl) (pc1 := 16) rfl ?_
  refine ix_iconst (v := 1) X (ix_tb_at tb_X12_tellQuarrel 10 rfl) (by decide) (pc1 := 17) rfl ?_
  refine ix_iload_n (i := 2) (j := 2) X (ix_tb_at tb_X12_tellQuarrel 11 rfl) rfl rfl (pc1 := 18) rfl ?_
  obtain ⟨k_9, h⟩ := ix_ck_some h
  obtain ⟨d_10, e_11, h⟩ := ix_lt_ex h
  refine iz_iast X k_9 (ix_tb_at tb_X12_tellQuarrel 12 rfl) e_11 (pc1 := 19) rfl ?_
  refine ix_aload_n (i := 0) (j := 0) X (ix_tb_at tb_X12_tellQuarrel 13 rfl) rfl rfl (pc1 := 20) rfl ?_
  refine iz_getR X fl_RX12_198 k_1 q_5 (ix_tb_at tb_X12_tellQuarrel 14 rfl) (pc1 := 23) rfl ?_
  refine ix_iconst (v := 2) X (ix_tb_at tb_X12_tellQuarrel 15 rfl) (by decide) (pc1 := 24) rfl ?_
  refine ix_iload_n (i := 3) (j := 3) X (ix_tb_at tb_X12_tellQuarrel 16 rfl) rfl rfl (pc1 := 25) rfl ?_
  obtain ⟨k_12, h⟩ := ix_ck_some h
  obtain ⟨d_13, e_14, h⟩ := ix_lt_ex h
  refine iz_iast X k_12 (ix_tb_at tb_X12_tellQuarrel 17 rfl) e_14 (pc1 := 26) rfl ?_
  refine ix_aload_n (i := 0) (j := 0) X (ix_tb_at tb_X12_tellQuarrel 18 rfl) rfl rfl (pc1 := 27) rfl ?_
  refine iz_getR X fl_RX12_198 k_1 q_5 (ix_tb_at tb_X12_tellQuarrel 19 rfl) (pc1 := 30) rfl ?_
  refine ix_iconst (v := 3) X (ix_tb_at tb_X12_tellQuarrel 20 rfl) (by decide) (pc1 := 31) rfl ?_
  refine ix_iload (i := 4) (j := 4) X (ix_tb_at tb_X12_tellQuarrel 21 rfl) rfl (pc1 := 33) rfl ?_
  obtain ⟨k_15, h⟩ := ix_ck_some h
  obtain ⟨d_16, e_17, h⟩ := ix_lt_ex h
  refine iz_iast X k_15 (ix_tb_at tb_X12_tellQuarrel 22 rfl) e_17 (pc1 := 34) rfl ?_
  refine ix_aload_n (i := 0) (j := 0) X (ix_tb_at tb_X12_tellQuarrel 23 rfl) rfl rfl (pc1 := 35) rfl ?_
  refine iz_getR X fl_RX12_198 k_1 q_5 (ix_tb_at tb_X12_tellQuarrel 24 rfl) (pc1 := 38) rfl ?_
  refine ix_iconst (v := 4) X (ix_tb_at tb_X12_tellQuarrel 25 rfl) (by decide) (pc1 := 39) rfl ?_
  refine ix_iload (i := 5) (j := 5) X (ix_tb_at tb_X12_tellQuarrel 26 rfl) rfl (pc1 := 41) rfl ?_
  obtain ⟨k_18, h⟩ := ix_ck_some h
  obtain ⟨d_19, e_20, h⟩ := ix_lt_ex h
  refine iz_iast X k_18 (ix_tb_at tb_X12_tellQuarrel 27 rfl) e_20 (pc1 := 42) rfl ?_
  exact ix_vret X hr hlk (ix_r1 (g := ix_w z) h) (ix_tb_at tb_X12_tellQuarrel 28 rfl)
def tab_X12_endLow : List (Nat × Instr × Nat) := [(0, .aload_n 0, 1), (1, .iload_n 1, 1), (2, .iconst 0, 1), (3, .invokevirtual 517, 3), (6, .ifCond .ne 7, 3), (9, .sipush (-1003), 3), (12, .ireturn, 1), (13, .aload_n 0, 1), (14, .invokevirtual 476, 3), (17, .aload_n 0, 1), (18, .iload_n 1, 1), (19, .aload_n 0, 1), (20, .getfield 460, 3), (23, .invokevirtual 479, 3), (26, .aload_n 0, 1), (27, .iload_n 1, 1), (28, .aload_n 0, 1), (29, .getfield 460, 3), (32, .iconst 0, 1), (33, .invokevirtual 482, 3), (36, .aload_n 0, 1), (37, .iload_n 1, 1), (38, .iconst 0, 1), (39, .invokevirtual 520, 3), (42, .aload_n 0, 1), (43, .iload_n 1, 1), (44, .invokevirtual 523, 3), (47, .iload_n 1, 1), (48, .ifCond .ne 20, 3), (51, .aload_n 0, 1), (52, .iconst 0, 1), (53, .putfield 526, 3), (56, .aload_n 0, 1), (57, .aload_n 0, 1), (58, .getfield 460, 3), (61, .iconst 0, 1), (62, .iconst 0, 1), (63, .iconst 0, 1), (64, .iconst 0, 1), (65, .invokevirtual 529, 3), (68, .iconst 0, 1), (69, .ireturn, 1)]
theorem tb_X12_endLow : ix_tab cX12_endLow tab_X12_endLow := by
  unfold ix_tab
  decide +kernel
noncomputable def f_X12_endLow (n : Nat) (z : ix_Z) (a0 : Nat) (x1 : Int32) (d : ix_D2) : Option (Int32 × ix_D2) :=
  ix_ck (ix_ok z [11] a0) (ix_bd2 (f_X12_hasRoom n z a0 x1 0 d) (fun r_4 d_1 => ix_if (r_4 = 0) (some ((-1003), d_1)) (ix_bd1 (f_X12_clearSources n z a0 d_1) (fun d_6 => ix_bd1 (f_X12_addSources n z a0 x1 (d_6.1 a0 98) d_6) (fun d_8 => ix_bd1 (f_X12_addLowest n z a0 x1 (d_8.1 a0 98) 0 d_8) (fun d_10 => ix_bd1 (f_X12_record n z a0 x1 0 d_10) (fun d_12 => ix_bd1 (f_X12_keepCore n z a0 x1 d_12) (fun d_14 => ix_if (x1 = 0) (ix_lt (ix_di d_14 a0 96 0) (fun d_17 => ix_bd1 (f_X12_tellQuarrel n z a0 (d_17.1 a0 98) 0 0 0 0 d_17) (fun d_19 => some (0, d_19)))) (some (0, d_14))))))))))
set_option maxRecDepth 20000 in
theorem c_X12_endLow {l : Launch} {K : ix_Cx} (hKp : ix_Kp K) {n : Nat} {z : ix_Z} {a0 : Nat} {x1 : Int32} {d : ix_D2} {r : Int32} {d1 : ix_D2} (h : f_X12_endLow n z a0 x1 d = some (r, d1)) : ix_M l K yX12_endLow cX12_endLow 2 (some .int) 2 49 0 0 [.ref (K.2.2.1 + a0), .int x1] (ix_w z d) (some (.int r)) (ix_w z d1) := by
  refine ix_met mf_X12_endLow hKp (Nat.le_of_ble_eq_true rfl) ?_
  intro p e s m args below meth c hr hlk hnm X
  have X : ix_X p s m args c K cX12_endLow RX12 2 := X
  show ix_G p l e (ix_rm 2 49 0 0) s m args below meth c (MQ below (ix_Post K (some (.int r)) (ix_w z d1)) args s 0 0 (ix_A K)) K 2 0 0 0 [(0, .ref (K.2.2.1 + a0)), (1, .int x1)] [] (ix_w z d)
  unfold f_X12_endLow at h
  refine ix_aload_n (i := 0) (j := 0) X (ix_tb_at tb_X12_endLow 0 rfl) rfl rfl (pc1 := 1) rfl ?_
  refine ix_iload_n (i := 1) (j := 1) X (ix_tb_at tb_X12_endLow 1 rfl) rfl rfl (pc1 := 2) rfl ?_
  refine ix_iconst (v := 0) X (ix_tb_at tb_X12_endLow 2 rfl) (by decide) (pc1 := 3) rfl ?_
  obtain ⟨k_3, h⟩ := ix_ck_some h
  obtain ⟨r_4, d_1, h_2, h⟩ := ix_bd2_ex h
  refine ix_callV (As := [.int x1, .int 0]) (rest := []) (ci := 11) (T := TX12) (nf := 116) X mf_X12_hasRoom mi_X12_hasRoom ms_X12_hasRoom rfl (Nat.le_of_ble_eq_true rfl) ml_RX12_517 ⟨Nat.le_of_ble_eq_true rfl, Nat.le_of_ble_eq_true rfl⟩ ⟨Nat.le_of_ble_eq_true rfl, Nat.le_of_ble_eq_true rfl⟩ rfl (Nat.le_of_ble_eq_true rfl) (ix_tb_at tb_X12_endLow 3 rfl) ⟨k_3.1, List.mem_singleton.mp k_3.2⟩ (c_X12_hasRoom hKp h_2) rfl (pc1 := 6) rfl ?_
  refine ix_if_ne (tgt := 13) X (ix_tb_at tb_X12_endLow 4 rfl) (by decide) (pc1 := 9) rfl (fun q_5 => ?_) (fun q_5 => ?_)
  · have h := ix_iff q_5 h
    refine ix_aload_n (i := 0) (j := 0) X (ix_tb_at tb_X12_endLow 7 rfl) rfl rfl (pc1 := 14) rfl ?_
    obtain ⟨d_6, h_7, h⟩ := ix_bd1_ex h
    refine ix_callV (As := []) (rest := []) (ci := 11) (T := TX12) (nf := 116) X mf_X12_clearSources mi_X12_clearSources ms_X12_clearSources rfl (Nat.le_of_ble_eq_true rfl) ml_RX12_476 ⟨Nat.le_of_ble_eq_true rfl, Nat.le_of_ble_eq_true rfl⟩ ⟨Nat.le_of_ble_eq_true rfl, Nat.le_of_ble_eq_true rfl⟩ rfl (Nat.le_of_ble_eq_true rfl) (ix_tb_at tb_X12_endLow 8 rfl) ⟨k_3.1, List.mem_singleton.mp k_3.2⟩ (c_X12_clearSources hKp h_7) rfl (pc1 := 17) rfl ?_
    refine ix_aload_n (i := 0) (j := 0) X (ix_tb_at tb_X12_endLow 9 rfl) rfl rfl (pc1 := 18) rfl ?_
    refine ix_iload_n (i := 1) (j := 1) X (ix_tb_at tb_X12_endLow 10 rfl) rfl rfl (pc1 := 19) rfl ?_
    refine ix_aload_n (i := 0) (j := 0) X (ix_tb_at tb_X12_endLow 11 rfl) rfl rfl (pc1 := 20) rfl ?_
    refine iz_getI X fl_RX12_460 k_3 (ix_tb_at tb_X12_endLow 12 rfl) (pc1 := 23) rfl ?_
    obtain ⟨d_8, h_9, h⟩ := ix_bd1_ex h
    refine ix_callV (As := [.int x1, .int (d_6.1 a0 98)]) (rest := []) (ci := 11) (T := TX12) (nf := 116) X mf_X12_addSources mi_X12_addSources ms_X12_addSources rfl (Nat.le_of_ble_eq_true rfl) ml_RX12_479 ⟨Nat.le_of_ble_eq_true rfl, Nat.le_of_ble_eq_true rfl⟩ ⟨Nat.le_of_ble_eq_true rfl, Nat.le_of_ble_eq_true rfl⟩ rfl (Nat.le_of_ble_eq_true rfl) (ix_tb_at tb_X12_endLow 13 rfl) ⟨k_3.1, List.mem_singleton.mp k_3.2⟩ (c_X12_addSources hKp h_9) rfl (pc1 := 26) rfl ?_
    refine ix_aload_n (i := 0) (j := 0) X (ix_tb_at tb_X12_endLow 14 rfl) rfl rfl (pc1 := 27) rfl ?_
    refine ix_iload_n (i := 1) (j := 1) X (ix_tb_at tb_X12_endLow 15 rfl) rfl rfl (pc1 := 28) rfl ?_
    refine ix_aload_n (i := 0) (j := 0) X (ix_tb_at tb_X12_endLow 16 rfl) rfl rfl (pc1 := 29) rfl ?_
    refine iz_getI X fl_RX12_460 k_3 (ix_tb_at tb_X12_endLow 17 rfl) (pc1 := 32) rfl ?_
    refine ix_iconst (v := 0) X (ix_tb_at tb_X12_endLow 18 rfl) (by decide) (pc1 := 33) rfl ?_
    obtain ⟨d_10, h_11, h⟩ := ix_bd1_ex h
    refine ix_callV (As := [.int x1, .int (d_8.1 a0 98), .int 0]) (rest := []) (ci := 11) (T := TX12) (nf := 116) X mf_X12_addLowest mi_X12_addLowest ms_X12_addLowest rfl (Nat.le_of_ble_eq_true rfl) ml_RX12_482 ⟨Nat.le_of_ble_eq_true rfl, Nat.le_of_ble_eq_true rfl⟩ ⟨Nat.le_of_ble_eq_true rfl, Nat.le_of_ble_eq_true rfl⟩ rfl (Nat.le_of_ble_eq_true rfl) (ix_tb_at tb_X12_endLow 19 rfl) ⟨k_3.1, List.mem_singleton.mp k_3.2⟩ (c_X12_addLowest hKp h_11) rfl (pc1 := 36) rfl ?_
    refine ix_aload_n (i := 0) (j := 0) X (ix_tb_at tb_X12_endLow 20 rfl) rfl rfl (pc1 := 37) rfl ?_
    refine ix_iload_n (i := 1) (j := 1) X (ix_tb_at tb_X12_endLow 21 rfl) rfl rfl (pc1 := 38) rfl ?_
    refine ix_iconst (v := 0) X (ix_tb_at tb_X12_endLow 22 rfl) (by decide) (pc1 := 39) rfl ?_
    obtain ⟨d_12, h_13, h⟩ := ix_bd1_ex h
    refine ix_callV (As := [.int x1, .int 0]) (rest := []) (ci := 11) (T := TX12) (nf := 116) X mf_X12_record mi_X12_record ms_X12_record rfl (Nat.le_of_ble_eq_true rfl) ml_RX12_520 ⟨Nat.le_of_ble_eq_true rfl, Nat.le_of_ble_eq_true rfl⟩ ⟨Nat.le_of_ble_eq_true rfl, Nat.le_of_ble_eq_true rfl⟩ rfl (Nat.le_of_ble_eq_true rfl) (ix_tb_at tb_X12_endLow 23 rfl) ⟨k_3.1, List.mem_singleton.mp k_3.2⟩ (c_X12_record hKp h_13) rfl (pc1 := 42) rfl ?_
    refine ix_aload_n (i := 0) (j := 0) X (ix_tb_at tb_X12_endLow 24 rfl) rfl rfl (pc1 := 43) rfl ?_
    refine ix_iload_n (i := 1) (j := 1) X (ix_tb_at tb_X12_endLow 25 rfl) rfl rfl (pc1 := 44) rfl ?_
    obtain ⟨d_14, h_15, h⟩ := ix_bd1_ex h
    refine ix_callV (As := [.int x1]) (rest := []) (ci := 11) (T := TX12) (nf := 116) X mf_X12_keepCore mi_X12_keepCore ms_X12_keepCore rfl (Nat.le_of_ble_eq_true rfl) ml_RX12_523 ⟨Nat.le_of_ble_eq_true rfl, Nat.le_of_ble_eq_true rfl⟩ ⟨Nat.le_of_ble_eq_true rfl, Nat.le_of_ble_eq_true rfl⟩ rfl (Nat.le_of_ble_eq_true rfl) (ix_tb_at tb_X12_endLow 26 rfl) ⟨k_3.1, List.mem_singleton.mp k_3.2⟩ (c_X12_keepCore hKp h_15) rfl (pc1 := 47) rfl ?_
    refine ix_iload_n (i := 1) (j := 1) X (ix_tb_at tb_X12_endLow 27 rfl) rfl rfl (pc1 := 48) rfl ?_
    refine ix_if_ne (tgt := 68) X (ix_tb_at tb_X12_endLow 28 rfl) (by decide) (pc1 := 51) rfl (fun q_16 => ?_) (fun q_16 => ?_)
    · have h := ix_iff q_16 h
      refine ix_iconst (v := 0) X (ix_tb_at tb_X12_endLow 40 rfl) (by decide) (pc1 := 69) rfl ?_
      exact ix_iret X hr hlk (ix_r2 (f := fun r => some (.int r)) (g := ix_w z) h) (ix_tb_at tb_X12_endLow 41 rfl)
    · have h := ix_ift q_16 h
      refine ix_aload_n (i := 0) (j := 0) X (ix_tb_at tb_X12_endLow 29 rfl) rfl rfl (pc1 := 52) rfl ?_
      refine ix_iconst (v := 0) X (ix_tb_at tb_X12_endLow 30 rfl) (by decide) (pc1 := 53) rfl ?_
      obtain ⟨d_17, e_18, h⟩ := ix_lt_ex h
      refine iz_putI X fp_RX12_526 k_3 (ix_tb_at tb_X12_endLow 31 rfl) e_18 (pc1 := 56) rfl ?_
      refine ix_aload_n (i := 0) (j := 0) X (ix_tb_at tb_X12_endLow 32 rfl) rfl rfl (pc1 := 57) rfl ?_
      refine ix_aload_n (i := 0) (j := 0) X (ix_tb_at tb_X12_endLow 33 rfl) rfl rfl (pc1 := 58) rfl ?_
      refine iz_getI X fl_RX12_460 k_3 (ix_tb_at tb_X12_endLow 34 rfl) (pc1 := 61) rfl ?_
      refine ix_iconst (v := 0) X (ix_tb_at tb_X12_endLow 35 rfl) (by decide) (pc1 := 62) rfl ?_
      refine ix_iconst (v := 0) X (ix_tb_at tb_X12_endLow 36 rfl) (by decide) (pc1 := 63) rfl ?_
      refine ix_iconst (v := 0) X (ix_tb_at tb_X12_endLow 37 rfl) (by decide) (pc1 := 64) rfl ?_
      refine ix_iconst (v := 0) X (ix_tb_at tb_X12_endLow 38 rfl) (by decide) (pc1 := 65) rfl ?_
      obtain ⟨d_19, h_20, h⟩ := ix_bd1_ex h
      refine ix_callV (As := [.int (d_17.1 a0 98), .int 0, .int 0, .int 0, .int 0]) (rest := []) (ci := 11) (T := TX12) (nf := 116) X mf_X12_tellQuarrel mi_X12_tellQuarrel ms_X12_tellQuarrel rfl (Nat.le_of_ble_eq_true rfl) ml_RX12_529 ⟨Nat.le_of_ble_eq_true rfl, Nat.le_of_ble_eq_true rfl⟩ ⟨Nat.le_of_ble_eq_true rfl, Nat.le_of_ble_eq_true rfl⟩ rfl (Nat.le_of_ble_eq_true rfl) (ix_tb_at tb_X12_endLow 39 rfl) ⟨k_3.1, List.mem_singleton.mp k_3.2⟩ (c_X12_tellQuarrel hKp h_20) rfl (pc1 := 68) rfl ?_
      refine ix_iconst (v := 0) X (ix_tb_at tb_X12_endLow 40 rfl) (by decide) (pc1 := 69) rfl ?_
      exact ix_iret X hr hlk (ix_r2 (f := fun r => some (.int r)) (g := ix_w z) h) (ix_tb_at tb_X12_endLow 41 rfl)
  · have h := ix_ift q_5 h
    refine ix_sipush (v := (-1003)) X (ix_tb_at tb_X12_endLow 5 rfl) (by decide) (pc1 := 12) rfl ?_
    exact ix_iret X hr hlk (ix_r2 (f := fun r => some (.int r)) (g := ix_w z) h) (ix_tb_at tb_X12_endLow 6 rfl)
def tab_X12_clearMarks : List (Nat × Instr × Nat) := [(0, .iconst 0, 1), (1, .istore_n 1, 1), (2, .iload_n 1, 1), (3, .sipush 300, 3), (6, .if_icmp .gt 23, 3), (9, .aload_n 0, 1), (10, .getfield 210, 3), (13, .iload_n 1, 1), (14, .iconst 0, 1), (15, .bastore, 1), (16, .aload_n 0, 1), (17, .getfield 213, 3), (20, .iload_n 1, 1), (21, .iconst 0, 1), (22, .bastore, 1), (23, .iinc 1 1, 3), (26, .goto (-24), 3), (29, .return_, 1)]
theorem tb_X12_clearMarks : ix_tab cX12_clearMarks tab_X12_clearMarks := by
  unfold ix_tab
  decide +kernel
noncomputable def b_X12_clearMarks_2 (n : Nat) (z : ix_Z)  (a0 : Nat) (rec2 : Int32 → ix_D2 → Option (ix_D2)) (x1 : Int32) (d : ix_D2) : Option (ix_D2) :=
  ix_if (300 < x1) (some d) (ix_ck (ix_ok z [11] a0) (ix_bd1 (z.1 a0 102) (fun b_3 => ix_ck (ix_ix z 22 b_3 x1) (ix_lt (ix_di d b_3 (ix_n x1) (vp_nar .boolean 0)) (fun d_6 => ix_bd1 (z.1 a0 103) (fun b_8 => ix_ck (ix_ix z 22 b_8 x1) (ix_lt (ix_di d_6 b_8 (ix_n x1) (vp_nar .boolean 0)) (fun d_11 => ix_lt (x1 + 1) (fun x1_13 => rec2 x1_13 d_11)))))))))
noncomputable def f_X12_clearMarks_2 (n : Nat) (z : ix_Z)  (a0 : Nat) (x1 : Int32) (d : ix_D2) : Option (ix_D2) := ix_fix (b_X12_clearMarks_2 n z  a0) (fun _ _ => none) n x1 d
noncomputable def f_X12_clearMarks (n : Nat) (z : ix_Z) (a0 : Nat) (d : ix_D2) : Option (ix_D2) :=
  f_X12_clearMarks_2 n z  a0 0 d
set_option maxRecDepth 20000 in
theorem tb_X12_clearMarks_2 {l : Launch} {p : Program} {e : Env} {s : State} {m : MethodId} {args : Array Value} {below : List Frame} {meth : Method} {c : Code} {K : ix_Cx} (hKp : ix_Kp K) {n : Nat} {z : ix_Z} (X : ix_X p s m args c K cX12_clearMarks RX12 2) (hr : meth.sig.returnType = (none : Option Jvm.ClassFile.FieldType)) (hlk : meth.locks = false)  {a0 : Nat} {rec2 : Int32 → ix_D2 → Option (ix_D2)} {d1 : ix_D2} (hrec2 : ∀ (x1 : Int32) (d : ix_D2), rec2 x1 d = some d1 → ix_G p l e (ix_rm 0 0 0 0) s m args below meth c (MQ below (ix_Post K none (ix_w z d1)) args s 0 0 (ix_A K)) K 2 0 0 2 [(0, .ref (K.2.2.1 + a0)), (1, .int x1)] [] (ix_w z d)) {x1 : Int32} {d : ix_D2} (h : b_X12_clearMarks_2 n z  a0 rec2 x1 d = some d1) : ix_G p l e (ix_rm 0 0 0 0) s m args below meth c (MQ below (ix_Post K none (ix_w z d1)) args s 0 0 (ix_A K)) K 2 0 0 2 [(0, .ref (K.2.2.1 + a0)), (1, .int x1)] [] (ix_w z d) := by
  unfold b_X12_clearMarks_2 at h
  refine ix_iload_n (i := 1) (j := 1) X (ix_tb_at tb_X12_clearMarks 2 rfl) rfl rfl (pc1 := 3) rfl ?_
  refine ix_sipush (v := 300) X (ix_tb_at tb_X12_clearMarks 3 rfl) (by decide) (pc1 := 6) rfl ?_
  refine ix_icmp_gt (tgt := 29) X (ix_tb_at tb_X12_clearMarks 4 rfl) (by decide) (pc1 := 9) rfl (fun q_1 => ?_) (fun q_1 => ?_)
  · have h := ix_ift q_1 h
    exact ix_vret X hr hlk (ix_r1 (g := ix_w z) h) (ix_tb_at tb_X12_clearMarks 17 rfl)
  · have h := ix_iff q_1 h
    refine ix_aload_n (i := 0) (j := 0) X (ix_tb_at tb_X12_clearMarks 5 rfl) rfl rfl (pc1 := 10) rfl ?_
    obtain ⟨k_2, h⟩ := ix_ck_some h
    obtain ⟨b_3, q_4, h⟩ := ix_bd1_ex h
    refine iz_getR X fl_RX12_210 k_2 q_4 (ix_tb_at tb_X12_clearMarks 6 rfl) (pc1 := 13) rfl ?_
    refine ix_iload_n (i := 1) (j := 1) X (ix_tb_at tb_X12_clearMarks 7 rfl) rfl rfl (pc1 := 14) rfl ?_
    refine ix_iconst (v := 0) X (ix_tb_at tb_X12_clearMarks 8 rfl) (by decide) (pc1 := 15) rfl ?_
    obtain ⟨k_5, h⟩ := ix_ck_some h
    obtain ⟨d_6, e_7, h⟩ := ix_lt_ex h
    refine iz_zast X k_5 (ix_tb_at tb_X12_clearMarks 9 rfl) e_7 (pc1 := 16) rfl ?_
    refine ix_aload_n (i := 0) (j := 0) X (ix_tb_at tb_X12_clearMarks 10 rfl) rfl rfl (pc1 := 17) rfl ?_
    obtain ⟨b_8, q_9, h⟩ := ix_bd1_ex h
    refine iz_getR X fl_RX12_213 k_2 q_9 (ix_tb_at tb_X12_clearMarks 11 rfl) (pc1 := 20) rfl ?_
    refine ix_iload_n (i := 1) (j := 1) X (ix_tb_at tb_X12_clearMarks 12 rfl) rfl rfl (pc1 := 21) rfl ?_
    refine ix_iconst (v := 0) X (ix_tb_at tb_X12_clearMarks 13 rfl) (by decide) (pc1 := 22) rfl ?_
    obtain ⟨k_10, h⟩ := ix_ck_some h
    obtain ⟨d_11, e_12, h⟩ := ix_lt_ex h
    refine iz_zast X k_10 (ix_tb_at tb_X12_clearMarks 14 rfl) e_12 (pc1 := 23) rfl ?_
    obtain ⟨x1_13, e_14, h⟩ := ix_lt_ex h
    refine ix_iinc (i := 1) (j := 1) (v := x1_13) (L1 := [(1, .int x1_13), (0, .ref (K.2.2.1 + a0))]) X (ix_tb_at tb_X12_clearMarks 15 rfl) rfl (by rw [oi_1]; exact e_14.symm) (Nat.le_of_ble_eq_true rfl) rfl (pc1 := 26) rfl ?_
    refine ix_goto (tgt := 2) X (ix_tb_at tb_X12_clearMarks 16 rfl) (by decide) ?_
    refine ix_sub (L1 := [(0, .ref (K.2.2.1 + a0)), (1, .int x1_13)]) [1, 0] rfl ?_
    exact hrec2 x1_13 d_11 h
theorem t_X12_clearMarks_2 {l : Launch} {p : Program} {e : Env} {s : State} {m : MethodId} {args : Array Value} {below : List Frame} {meth : Method} {c : Code} {K : ix_Cx} (hKp : ix_Kp K) {n : Nat} {z : ix_Z} (X : ix_X p s m args c K cX12_clearMarks RX12 2) (hr : meth.sig.returnType = (none : Option Jvm.ClassFile.FieldType)) (hlk : meth.locks = false)  {a0 : Nat} {d1 : ix_D2}  {x1 : Int32} {d : ix_D2} (h : f_X12_clearMarks_2 n z  a0 x1 d = some d1) : ix_G p l e (ix_rm 0 0 0 0) s m args below meth c (MQ below (ix_Post K none (ix_w z d1)) args s 0 0 (ix_A K)) K 2 0 0 2 [(0, .ref (K.2.2.1 + a0)), (1, .int x1)] [] (ix_w z d) := by
  have key : ∀ (f : Nat) (x1 : Int32) (d : ix_D2), ix_fix (b_X12_clearMarks_2 n z  a0) (fun _ _ => none) f x1 d = some d1 → ix_G p l e (ix_rm 0 0 0 0) s m args below meth c (MQ below (ix_Post K none (ix_w z d1)) args s 0 0 (ix_A K)) K 2 0 0 2 [(0, .ref (K.2.2.1 + a0)), (1, .int x1)] [] (ix_w z d) := by
    intro f
    induction f with
    | zero =>
      intro x1 d h
      have h : (none : Option (ix_D2)) = some d1 := h
      cases h
    | succ f ih =>
      intro x1 d h
      exact tb_X12_clearMarks_2 hKp X hr hlk (rec2 := ix_fix (b_X12_clearMarks_2 n z  a0) (fun _ _ => none) f)  ih h
  exact key n x1 d h
set_option maxRecDepth 20000 in
theorem c_X12_clearMarks {l : Launch} {K : ix_Cx} (hKp : ix_Kp K) {n : Nat} {z : ix_Z} {a0 : Nat} {d : ix_D2} {d1 : ix_D2} (h : f_X12_clearMarks n z a0 d = some d1) : ix_M l K yX12_clearMarks cX12_clearMarks 2 (none : Option Jvm.ClassFile.FieldType) 0 0 0 0 [.ref (K.2.2.1 + a0)] (ix_w z d) none (ix_w z d1) := by
  refine ix_met mf_X12_clearMarks hKp (Nat.le_of_ble_eq_true rfl) ?_
  intro p e s m args below meth c hr hlk hnm X
  have X : ix_X p s m args c K cX12_clearMarks RX12 2 := X
  show ix_G p l e (ix_rm 0 0 0 0) s m args below meth c (MQ below (ix_Post K none (ix_w z d1)) args s 0 0 (ix_A K)) K 2 0 0 0 [(0, .ref (K.2.2.1 + a0))] [] (ix_w z d)
  unfold f_X12_clearMarks at h
  refine ix_iconst (v := 0) X (ix_tb_at tb_X12_clearMarks 0 rfl) (by decide) (pc1 := 1) rfl ?_
  refine ix_istore_n (i := 1) (L1 := [(1, .int 0), (0, .ref (K.2.2.1 + a0))]) X (ix_tb_at tb_X12_clearMarks 1 rfl) rfl (Nat.le_of_ble_eq_true rfl) rfl (pc1 := 2) rfl ?_
  refine ix_sub (L1 := [(0, .ref (K.2.2.1 + a0)), (1, .int 0)]) [1, 0] rfl ?_
  exact t_X12_clearMarks_2 hKp X hr hlk  h
def tab_X12_useRow : List (Nat × Instr × Nat) := [(0, .aload_n 0, 1), (1, .getfield 216, 3), (4, .aload_n 0, 1), (5, .getfield 542, 3), (8, .iload_n 2, 1), (9, .iastore, 1), (10, .aload_n 0, 1), (11, .dup, 1), (12, .getfield 542, 3), (15, .iconst 1, 1), (16, .iadd, 1), (17, .putfield 542, 3), (20, .aload_n 0, 1), (21, .iload_n 1, 1), (22, .iload_n 2, 1), (23, .invokevirtual 377, 3), (26, .istore 4, 2), (28, .iconst 0, 1), (29, .istore 5, 2), (31, .iload 5, 2), (33, .iload 4, 2), (35, .if_icmp .ge 106, 3), (38, .aload_n 0, 1), (39, .iload_n 1, 1), (40, .iload_n 2, 1), (41, .iload 5, 2), (43, .invokevirtual 381, 3), (46, .invokestatic 289, 3), (49, .istore 6, 2), (51, .iload 6, 2), (53, .iload_n 3, 1), (54, .if_icmp .eq 81, 3), (57, .aload_n 0, 1), (58, .getfield 137, 3), (61, .sipush 301, 3), (64, .iload_n 1, 1), (65, .imul, 1), (66, .iload 6, 2), (68, .iadd, 1), (69, .iaload, 1), (70, .ifCond .le 65, 3), (73, .aload_n 0, 1), (74, .getfield 210, 3), (77, .iload 6, 2), (79, .baload, 1), (80, .ifCond .ne 55, 3), (83, .aload_n 0, 1), (84, .getfield 210, 3), (87, .iload 6, 2), (89, .iconst 1, 1), (90, .bastore, 1), (91, .aload_n 0, 1), (92, .getfield 213, 3), (95, .iload 6, 2), (97, .iconst 1, 1), (98, .bastore, 1), (99, .aload_n 0, 1), (100, .dup, 1), (101, .getfield 545, 3), (104, .aload_n 0, 1), (105, .getfield 137, 3), (108, .sipush 301, 3), (111, .iload_n 1, 1), (112, .imul, 1), (113, .iload 6, 2), (115, .iadd, 1), (116, .iaload, 1), (117, .aload_n 0, 1), (118, .getfield 159, 3), (121, .iload_n 1, 1), (122, .iaload, 1), (123, .if_icmp .ne 7, 3), (126, .iconst 1, 1), (127, .goto 4, 3), (130, .iconst 0, 1), (131, .iadd, 1), (132, .putfield 545, 3), (135, .iinc 5 1, 3), (138, .goto (-107), 3), (141, .return_, 1)]
theorem tb_X12_useRow : ix_tab cX12_useRow tab_X12_useRow := by
  unfold ix_tab
  decide +kernel
noncomputable def f_X12_useRow_135 (n : Nat) (z : ix_Z) (rec31 : Int32 → ix_D2 → Option (ix_D2)) (a0 : Nat) (x1 : Int32) (x2 : Int32) (x3 : Int32) (x4 : Int32) (x5 : Int32) (d : ix_D2) : Option (ix_D2) :=
  ix_lt (x5 + 1) (fun x5_21 => rec31 x5_21 d)
noncomputable def f_X12_useRow_131 (n : Nat) (z : ix_Z) (rec31 : Int32 → ix_D2 → Option (ix_D2)) (a0 : Nat) (x1 : Int32) (x2 : Int32) (x3 : Int32) (x4 : Int32) (x5 : Int32) (s0 : Int32) (s1 : Int32) (s2 : Nat) (d : ix_D2) : Option (ix_D2) :=
  ix_ck (ix_ok z [11] s2) (ix_lt (ix_di d s2 104 (s1 + s0)) (fun d_43 => f_X12_useRow_135 n z rec31 a0 x1 x2 x3 x4 x5 d_43))
noncomputable def b_X12_useRow_31 (n : Nat) (z : ix_Z)  (a0 : Nat) (x1 : Int32) (x2 : Int32) (x3 : Int32) (x4 : Int32) (rec31 : Int32 → ix_D2 → Option (ix_D2)) (x5 : Int32) (d : ix_D2) : Option (ix_D2) :=
  ix_if (x4 ≤ x5) (some d) (ix_ck (ix_ok z [11] a0) (ix_bd2 (f_X12_itemOf n z a0 x1 x2 x5 d) (fun r_16 d_13 => ix_bd2 (f_X12_nameOf n z r_16 d_13) (fun r_19 d_17 => ix_if (r_19 = x3) (f_X12_useRow_135 n z rec31 a0 x1 x2 x3 x4 x5 d_17) (ix_bd1 (z.1 a0 70) (fun b_23 => ix_ck (ix_ix z 20 b_23 ((301 * x1) + r_19)) (ix_if (d_17.1 b_23 (ix_n ((301 * x1) + r_19)) ≤ 0) (f_X12_useRow_135 n z rec31 a0 x1 x2 x3 x4 x5 d_17) (ix_bd1 (z.1 a0 102) (fun b_27 => ix_ck (ix_ix z 22 b_27 r_19) (ix_if (d_17.1 b_27 (ix_n r_19) = 0) (ix_lt (ix_di d_17 b_27 (ix_n r_19) (vp_nar .boolean 1)) (fun d_31 => ix_bd1 (z.1 a0 103) (fun b_33 => ix_ck (ix_ix z 22 b_33 r_19) (ix_lt (ix_di d_31 b_33 (ix_n r_19) (vp_nar .boolean 1)) (fun d_36 => ix_bd1 (z.1 a0 77) (fun b_38 => ix_ck (ix_ix z 20 b_38 x1) (ix_if (d_36.1 b_23 (ix_n ((301 * x1) + r_19)) = d_36.1 b_38 (ix_n x1)) (f_X12_useRow_131 n z rec31 a0 x1 x2 x3 x4 x5 1 (d_36.1 a0 104) a0 d_36) (f_X12_useRow_131 n z rec31 a0 x1 x2 x3 x4 x5 0 (d_36.1 a0 104) a0 d_36)))))))) (f_X12_useRow_135 n z rec31 a0 x1 x2 x3 x4 x5 d_17)))))))))))
noncomputable def f_X12_useRow_31 (n : Nat) (z : ix_Z)  (a0 : Nat) (x1 : Int32) (x2 : Int32) (x3 : Int32) (x4 : Int32) (x5 : Int32) (d : ix_D2) : Option (ix_D2) := ix_fix (b_X12_useRow_31 n z  a0 x1 x2 x3 x4) (fun _ _ => none) n x5 d
noncomputable def f_X12_useRow (n : Nat) (z : ix_Z) (a0 : Nat) (x1 : Int32) (x2 : Int32) (x3 : Int32) (d : ix_D2) : Option (ix_D2) :=
  ix_ck (ix_ok z [11] a0) (ix_bd1 (z.1 a0 105) (fun b_2 => ix_ck (ix_ix z 20 b_2 (d.1 a0 106)) (ix_lt (ix_di d b_2 (ix_n (d.1 a0 106)) x2) (fun d_5 => ix_lt (ix_di d_5 a0 106 ((d_5.1 a0 106) + 1)) (fun d_7 => ix_bd2 (f_X12_sizeOf n z a0 x1 x2 d_7) (fun r_11 d_9 => f_X12_useRow_31 n z  a0 x1 x2 x3 r_11 0 d_9))))))
set_option maxRecDepth 20000 in
theorem t_X12_useRow_135 {l : Launch} {p : Program} {e : Env} {s : State} {m : MethodId} {args : Array Value} {below : List Frame} {meth : Method} {c : Code} {K : ix_Cx} (hKp : ix_Kp K) {n : Nat} {z : ix_Z} (X : ix_X p s m args c K cX12_useRow RX12 7) (hr : meth.sig.returnType = (none : Option Jvm.ClassFile.FieldType)) (hlk : meth.locks = false) {rec31 : Int32 → ix_D2 → Option (ix_D2)} {a0 : Nat} {x1 : Int32} {x2 : Int32} {x3 : Int32} {x4 : Int32} {x5 : Int32} {d1 : ix_D2} (hrec31 : ∀ (x5 : Int32) (d : ix_D2), rec31 x5 d = some d1 → ix_G p l e (ix_rm 1 23 0 0) s m args below meth c (MQ below (ix_Post K none (ix_w z d1)) args s 0 0 (ix_A K)) K 7 0 0 31 [(0, .ref (K.2.2.1 + a0)), (1, .int x1), (2, .int x2), (3, .int x3), (4, .int x4), (5, .int x5)] [] (ix_w z d)) {d : ix_D2} (h : f_X12_useRow_135 n z rec31 a0 x1 x2 x3 x4 x5 d = some d1) : ix_G p l e (ix_rm 1 23 0 0) s m args below meth c (MQ below (ix_Post K none (ix_w z d1)) args s 0 0 (ix_A K)) K 7 0 0 135 [(0, .ref (K.2.2.1 + a0)), (1, .int x1), (2, .int x2), (3, .int x3), (4, .int x4), (5, .int x5)] [] (ix_w z d) := by
  unfold f_X12_useRow_135 at h
  obtain ⟨x5_21, e_22, h⟩ := ix_lt_ex h
  refine ix_iinc (i := 5) (j := 5) (v := x5_21) (L1 := [(5, .int x5_21), (0, .ref (K.2.2.1 + a0)), (1, .int x1), (2, .int x2), (3, .int x3), (4, .int x4)]) X (ix_tb_at tb_X12_useRow 77 rfl) rfl (by rw [oi_1]; exact e_22.symm) (Nat.le_of_ble_eq_true rfl) rfl (pc1 := 138) rfl ?_
  refine ix_goto (tgt := 31) X (ix_tb_at tb_X12_useRow 78 rfl) (by decide) ?_
  refine ix_sub (L1 := [(0, .ref (K.2.2.1 + a0)), (1, .int x1), (2, .int x2), (3, .int x3), (4, .int x4), (5, .int x5_21)]) [1, 2, 3, 4, 5, 0] rfl ?_
  exact hrec31 x5_21 d h
set_option maxRecDepth 20000 in
theorem t_X12_useRow_131 {l : Launch} {p : Program} {e : Env} {s : State} {m : MethodId} {args : Array Value} {below : List Frame} {meth : Method} {c : Code} {K : ix_Cx} (hKp : ix_Kp K) {n : Nat} {z : ix_Z} (X : ix_X p s m args c K cX12_useRow RX12 7) (hr : meth.sig.returnType = (none : Option Jvm.ClassFile.FieldType)) (hlk : meth.locks = false) {rec31 : Int32 → ix_D2 → Option (ix_D2)} {a0 : Nat} {x1 : Int32} {x2 : Int32} {x3 : Int32} {x4 : Int32} {x5 : Int32} {s0 : Int32} {s1 : Int32} {s2 : Nat} {d1 : ix_D2} (hrec31 : ∀ (x5 : Int32) (d : ix_D2), rec31 x5 d = some d1 → ix_G p l e (ix_rm 1 23 0 0) s m args below meth c (MQ below (ix_Post K none (ix_w z d1)) args s 0 0 (ix_A K)) K 7 0 0 31 [(0, .ref (K.2.2.1 + a0)), (1, .int x1), (2, .int x2), (3, .int x3), (4, .int x4), (5, .int x5)] [] (ix_w z d)) {d : ix_D2} (h : f_X12_useRow_131 n z rec31 a0 x1 x2 x3 x4 x5 s0 s1 s2 d = some d1) : ix_G p l e (ix_rm 1 23 0 0) s m args below meth c (MQ below (ix_Post K none (ix_w z d1)) args s 0 0 (ix_A K)) K 7 0 0 131 [(0, .ref (K.2.2.1 + a0)), (1, .int x1), (2, .int x2), (3, .int x3), (4, .int x4), (5, .int x5)] [.int s0, .int s1, .ref (K.2.2.1 + s2)] (ix_w z d) := by
  unfold f_X12_useRow_131 at h
  refine ix_iadd X (ix_tb_at tb_X12_useRow 75 rfl) (pc1 := 132) rfl ?_
  obtain ⟨k_42, h⟩ := ix_ck_some h
  obtain ⟨d_43, e_44, h⟩ := ix_lt_ex h
  refine iz_putI X fp_RX12_545 k_42 (ix_tb_at tb_X12_useRow 76 rfl) e_44 (pc1 := 135) rfl ?_
  refine ix_sub (L1 := [(0, .ref (K.2.2.1 + a0)), (1, .int x1), (2, .int x2), (3, .int x3), (4, .int x4), (5, .int x5)]) [0, 1, 2, 3, 4, 5] rfl ?_
  exact t_X12_useRow_135 hKp X hr hlk hrec31 h
set_option maxRecDepth 20000 in
theorem tb_X12_useRow_31 {l : Launch} {p : Program} {e : Env} {s : State} {m : MethodId} {args : Array Value} {below : List Frame} {meth : Method} {c : Code} {K : ix_Cx} (hKp : ix_Kp K) {n : Nat} {z : ix_Z} (X : ix_X p s m args c K cX12_useRow RX12 7) (hr : meth.sig.returnType = (none : Option Jvm.ClassFile.FieldType)) (hlk : meth.locks = false)  {a0 : Nat} {x1 : Int32} {x2 : Int32} {x3 : Int32} {x4 : Int32} {rec31 : Int32 → ix_D2 → Option (ix_D2)} {d1 : ix_D2} (hrec31 : ∀ (x5 : Int32) (d : ix_D2), rec31 x5 d = some d1 → ix_G p l e (ix_rm 1 23 0 0) s m args below meth c (MQ below (ix_Post K none (ix_w z d1)) args s 0 0 (ix_A K)) K 7 0 0 31 [(0, .ref (K.2.2.1 + a0)), (1, .int x1), (2, .int x2), (3, .int x3), (4, .int x4), (5, .int x5)] [] (ix_w z d)) {x5 : Int32} {d : ix_D2} (h : b_X12_useRow_31 n z  a0 x1 x2 x3 x4 rec31 x5 d = some d1) : ix_G p l e (ix_rm 1 23 0 0) s m args below meth c (MQ below (ix_Post K none (ix_w z d1)) args s 0 0 (ix_A K)) K 7 0 0 31 [(0, .ref (K.2.2.1 + a0)), (1, .int x1), (2, .int x2), (3, .int x3), (4, .int x4), (5, .int x5)] [] (ix_w z d) := by
  unfold b_X12_useRow_31 at h
  refine ix_iload (i := 5) (j := 5) X (ix_tb_at tb_X12_useRow 19 rfl) rfl (pc1 := 33) rfl ?_
  refine ix_iload (i := 4) (j := 4) X (ix_tb_at tb_X12_useRow 20 rfl) rfl (pc1 := 35) rfl ?_
  refine ix_icmp_ge (tgt := 141) X (ix_tb_at tb_X12_useRow 21 rfl) (by decide) (pc1 := 38) rfl (fun q_12 => ?_) (fun q_12 => ?_)
  · have h := ix_ift q_12 h
    exact ix_vret X hr hlk (ix_r1 (g := ix_w z) h) (ix_tb_at tb_X12_useRow 79 rfl)
  · have h := ix_iff q_12 h
    refine ix_aload_n (i := 0) (j := 0) X (ix_tb_at tb_X12_useRow 22 rfl) rfl rfl (pc1 := 39) rfl ?_
    refine ix_iload_n (i := 1) (j := 1) X (ix_tb_at tb_X12_useRow 23 rfl) rfl rfl (pc1 := 40) rfl ?_
    refine ix_iload_n (i := 2) (j := 2) X (ix_tb_at tb_X12_useRow 24 rfl) rfl rfl (pc1 := 41) rfl ?_
    refine ix_iload (i := 5) (j := 5) X (ix_tb_at tb_X12_useRow 25 rfl) rfl (pc1 := 43) rfl ?_
    obtain ⟨k_15, h⟩ := ix_ck_some h
    obtain ⟨r_16, d_13, h_14, h⟩ := ix_bd2_ex h
    refine ix_callV (As := [.int x1, .int x2, .int x5]) (rest := []) (ci := 11) (T := TX12) (nf := 116) X mf_X12_itemOf mi_X12_itemOf ms_X12_itemOf rfl (Nat.le_of_ble_eq_true rfl) ml_RX12_381 ⟨Nat.le_of_ble_eq_true rfl, Nat.le_of_ble_eq_true rfl⟩ ⟨Nat.le_of_ble_eq_true rfl, Nat.le_of_ble_eq_true rfl⟩ rfl (Nat.le_of_ble_eq_true rfl) (ix_tb_at tb_X12_useRow 26 rfl) ⟨k_15.1, List.mem_singleton.mp k_15.2⟩ (c_X12_itemOf hKp h_14) rfl (pc1 := 46) rfl ?_
    obtain ⟨r_19, d_17, h_18, h⟩ := ix_bd2_ex h
    refine ix_callS (As := [.int r_16]) (rest := []) X mf_X12_nameOf st_X12_nameOf ml_RX12_289 ⟨Nat.le_of_ble_eq_true rfl, Nat.le_of_ble_eq_true rfl⟩ ⟨Nat.le_of_ble_eq_true rfl, Nat.le_of_ble_eq_true rfl⟩ rfl (Nat.le_of_ble_eq_true rfl) (ix_tb_at tb_X12_useRow 27 rfl) (c_X12_nameOf hKp h_18) rfl (pc1 := 49) rfl ?_
    refine ix_istore (i := 6) (L1 := [(6, .int r_19), (0, .ref (K.2.2.1 + a0)), (1, .int x1), (2, .int x2), (3, .int x3), (4, .int x4), (5, .int x5)]) X (ix_tb_at tb_X12_useRow 28 rfl) (Nat.le_of_ble_eq_true rfl) rfl (pc1 := 51) rfl ?_
    refine ix_iload (i := 6) (j := 0) X (ix_tb_at tb_X12_useRow 29 rfl) rfl (pc1 := 53) rfl ?_
    refine ix_iload_n (i := 3) (j := 4) X (ix_tb_at tb_X12_useRow 30 rfl) rfl rfl (pc1 := 54) rfl ?_
    refine ix_icmp_eq (tgt := 135) X (ix_tb_at tb_X12_useRow 31 rfl) (by decide) (pc1 := 57) rfl (fun q_20 => ?_) (fun q_20 => ?_)
    · have h := ix_ift q_20 h
      refine ix_sub (L1 := [(0, .ref (K.2.2.1 + a0)), (1, .int x1), (2, .int x2), (3, .int x3), (4, .int x4), (5, .int x5)]) [1, 2, 3, 4, 5, 6] rfl ?_
      exact t_X12_useRow_135 hKp X hr hlk hrec31 h
    · have h := ix_iff q_20 h
      refine ix_aload_n (i := 0) (j := 1) X (ix_tb_at tb_X12_useRow 32 rfl) rfl rfl (pc1 := 58) rfl ?_
      obtain ⟨b_23, q_24, h⟩ := ix_bd1_ex h
      refine iz_getR X fl_RX12_137 k_15 q_24 (ix_tb_at tb_X12_useRow 33 rfl) (pc1 := 61) rfl ?_
      refine ix_sipush (v := 301) X (ix_tb_at tb_X12_useRow 34 rfl) (by decide) (pc1 := 64) rfl ?_
      refine ix_iload_n (i := 1) (j := 2) X (ix_tb_at tb_X12_useRow 35 rfl) rfl rfl (pc1 := 65) rfl ?_
      refine ix_imul X (ix_tb_at tb_X12_useRow 36 rfl) (pc1 := 66) rfl ?_
      refine ix_iload (i := 6) (j := 0) X (ix_tb_at tb_X12_useRow 37 rfl) rfl (pc1 := 68) rfl ?_
      refine ix_iadd X (ix_tb_at tb_X12_useRow 38 rfl) (pc1 := 69) rfl ?_
      obtain ⟨k_25, h⟩ := ix_ck_some h
      refine iz_iald X k_25 (ix_tb_at tb_X12_useRow 39 rfl) (pc1 := 70) rfl ?_
      refine ix_if_le (tgt := 135) X (ix_tb_at tb_X12_useRow 40 rfl) (by decide) (pc1 := 73) rfl (fun q_26 => ?_) (fun q_26 => ?_)
      · have h := ix_ift q_26 h
        refine ix_sub (L1 := [(0, .ref (K.2.2.1 + a0)), (1, .int x1), (2, .int x2), (3, .int x3), (4, .int x4), (5, .int x5)]) [1, 2, 3, 4, 5, 6] rfl ?_
        exact t_X12_useRow_135 hKp X hr hlk hrec31 h
      · have h := ix_iff q_26 h
        refine ix_aload_n (i := 0) (j := 1) X (ix_tb_at tb_X12_useRow 41 rfl) rfl rfl (pc1 := 74) rfl ?_
        obtain ⟨b_27, q_28, h⟩ := ix_bd1_ex h
        refine iz_getR X fl_RX12_210 k_15 q_28 (ix_tb_at tb_X12_useRow 42 rfl) (pc1 := 77) rfl ?_
        refine ix_iload (i := 6) (j := 0) X (ix_tb_at tb_X12_useRow 43 rfl) rfl (pc1 := 79) rfl ?_
        obtain ⟨k_29, h⟩ := ix_ck_some h
        refine iz_zald X k_29 (ix_tb_at tb_X12_useRow 44 rfl) (pc1 := 80) rfl ?_
        refine ix_if_ne (tgt := 135) X (ix_tb_at tb_X12_useRow 45 rfl) (by decide) (pc1 := 83) rfl (fun q_30 => ?_) (fun q_30 => ?_)
        · have h := ix_iff q_30 h
          refine ix_sub (L1 := [(0, .ref (K.2.2.1 + a0)), (1, .int x1), (2, .int x2), (3, .int x3), (4, .int x4), (5, .int x5)]) [1, 2, 3, 4, 5, 6] rfl ?_
          exact t_X12_useRow_135 hKp X hr hlk hrec31 h
        · have h := ix_ift q_30 h
          refine ix_aload_n (i := 0) (j := 1) X (ix_tb_at tb_X12_useRow 46 rfl) rfl rfl (pc1 := 84) rfl ?_
          refine iz_getR X fl_RX12_210 k_15 q_28 (ix_tb_at tb_X12_useRow 47 rfl) (pc1 := 87) rfl ?_
          refine ix_iload (i := 6) (j := 0) X (ix_tb_at tb_X12_useRow 48 rfl) rfl (pc1 := 89) rfl ?_
          refine ix_iconst (v := 1) X (ix_tb_at tb_X12_useRow 49 rfl) (by decide) (pc1 := 90) rfl ?_
          obtain ⟨d_31, e_32, h⟩ := ix_lt_ex h
          refine iz_zast X k_29 (ix_tb_at tb_X12_useRow 50 rfl) e_32 (pc1 := 91) rfl ?_
          refine ix_aload_n (i := 0) (j := 1) X (ix_tb_at tb_X12_useRow 51 rfl) rfl rfl (pc1 := 92) rfl ?_
          obtain ⟨b_33, q_34, h⟩ := ix_bd1_ex h
          refine iz_getR X fl_RX12_213 k_15 q_34 (ix_tb_at tb_X12_useRow 52 rfl) (pc1 := 95) rfl ?_
          refine ix_iload (i := 6) (j := 0) X (ix_tb_at tb_X12_useRow 53 rfl) rfl (pc1 := 97) rfl ?_
          refine ix_iconst (v := 1) X (ix_tb_at tb_X12_useRow 54 rfl) (by decide) (pc1 := 98) rfl ?_
          obtain ⟨k_35, h⟩ := ix_ck_some h
          obtain ⟨d_36, e_37, h⟩ := ix_lt_ex h
          refine iz_zast X k_35 (ix_tb_at tb_X12_useRow 55 rfl) e_37 (pc1 := 99) rfl ?_
          refine ix_aload_n (i := 0) (j := 1) X (ix_tb_at tb_X12_useRow 56 rfl) rfl rfl (pc1 := 100) rfl ?_
          refine ix_dup X (ix_tb_at tb_X12_useRow 57 rfl) rfl (pc1 := 101) rfl ?_
          refine iz_getI X fl_RX12_545 k_15 (ix_tb_at tb_X12_useRow 58 rfl) (pc1 := 104) rfl ?_
          refine ix_aload_n (i := 0) (j := 1) X (ix_tb_at tb_X12_useRow 59 rfl) rfl rfl (pc1 := 105) rfl ?_
          refine iz_getR X fl_RX12_137 k_15 q_24 (ix_tb_at tb_X12_useRow 60 rfl) (pc1 := 108) rfl ?_
          refine ix_sipush (v := 301) X (ix_tb_at tb_X12_useRow 61 rfl) (by decide) (pc1 := 111) rfl ?_
          refine ix_iload_n (i := 1) (j := 2) X (ix_tb_at tb_X12_useRow 62 rfl) rfl rfl (pc1 := 112) rfl ?_
          refine ix_imul X (ix_tb_at tb_X12_useRow 63 rfl) (pc1 := 113) rfl ?_
          refine ix_iload (i := 6) (j := 0) X (ix_tb_at tb_X12_useRow 64 rfl) rfl (pc1 := 115) rfl ?_
          refine ix_iadd X (ix_tb_at tb_X12_useRow 65 rfl) (pc1 := 116) rfl ?_
          refine iz_iald X k_25 (ix_tb_at tb_X12_useRow 66 rfl) (pc1 := 117) rfl ?_
          refine ix_aload_n (i := 0) (j := 1) X (ix_tb_at tb_X12_useRow 67 rfl) rfl rfl (pc1 := 118) rfl ?_
          obtain ⟨b_38, q_39, h⟩ := ix_bd1_ex h
          refine iz_getR X fl_RX12_159 k_15 q_39 (ix_tb_at tb_X12_useRow 68 rfl) (pc1 := 121) rfl ?_
          refine ix_iload_n (i := 1) (j := 2) X (ix_tb_at tb_X12_useRow 69 rfl) rfl rfl (pc1 := 122) rfl ?_
          obtain ⟨k_40, h⟩ := ix_ck_some h
          refine iz_iald X k_40 (ix_tb_at tb_X12_useRow 70 rfl) (pc1 := 123) rfl ?_
          refine ix_icmp_ne (tgt := 130) X (ix_tb_at tb_X12_useRow 71 rfl) (by decide) (pc1 := 126) rfl (fun q_41 => ?_) (fun q_41 => ?_)
          · have h := ix_iff q_41 h
            refine ix_iconst (v := 0) X (ix_tb_at tb_X12_useRow 74 rfl) (by decide) (pc1 := 131) rfl ?_
            refine ix_sub (L1 := [(0, .ref (K.2.2.1 + a0)), (1, .int x1), (2, .int x2), (3, .int x3), (4, .int x4), (5, .int x5)]) [1, 2, 3, 4, 5, 6] rfl ?_
            exact t_X12_useRow_131 hKp X hr hlk hrec31 h
          · have h := ix_ift q_41 h
            refine ix_iconst (v := 1) X (ix_tb_at tb_X12_useRow 72 rfl) (by decide) (pc1 := 127) rfl ?_
            refine ix_goto (tgt := 131) X (ix_tb_at tb_X12_useRow 73 rfl) (by decide) ?_
            refine ix_sub (L1 := [(0, .ref (K.2.2.1 + a0)), (1, .int x1), (2, .int x2), (3, .int x3), (4, .int x4), (5, .int x5)]) [1, 2, 3, 4, 5, 6] rfl ?_
            exact t_X12_useRow_131 hKp X hr hlk hrec31 h
theorem t_X12_useRow_31 {l : Launch} {p : Program} {e : Env} {s : State} {m : MethodId} {args : Array Value} {below : List Frame} {meth : Method} {c : Code} {K : ix_Cx} (hKp : ix_Kp K) {n : Nat} {z : ix_Z} (X : ix_X p s m args c K cX12_useRow RX12 7) (hr : meth.sig.returnType = (none : Option Jvm.ClassFile.FieldType)) (hlk : meth.locks = false)  {a0 : Nat} {x1 : Int32} {x2 : Int32} {x3 : Int32} {x4 : Int32} {d1 : ix_D2}  {x5 : Int32} {d : ix_D2} (h : f_X12_useRow_31 n z  a0 x1 x2 x3 x4 x5 d = some d1) : ix_G p l e (ix_rm 1 23 0 0) s m args below meth c (MQ below (ix_Post K none (ix_w z d1)) args s 0 0 (ix_A K)) K 7 0 0 31 [(0, .ref (K.2.2.1 + a0)), (1, .int x1), (2, .int x2), (3, .int x3), (4, .int x4), (5, .int x5)] [] (ix_w z d) := by
  have key : ∀ (f : Nat) (x5 : Int32) (d : ix_D2), ix_fix (b_X12_useRow_31 n z  a0 x1 x2 x3 x4) (fun _ _ => none) f x5 d = some d1 → ix_G p l e (ix_rm 1 23 0 0) s m args below meth c (MQ below (ix_Post K none (ix_w z d1)) args s 0 0 (ix_A K)) K 7 0 0 31 [(0, .ref (K.2.2.1 + a0)), (1, .int x1), (2, .int x2), (3, .int x3), (4, .int x4), (5, .int x5)] [] (ix_w z d) := by
    intro f
    induction f with
    | zero =>
      intro x5 d h
      have h : (none : Option (ix_D2)) = some d1 := h
      cases h
    | succ f ih =>
      intro x5 d h
      exact tb_X12_useRow_31 hKp X hr hlk (rec31 := ix_fix (b_X12_useRow_31 n z  a0 x1 x2 x3 x4) (fun _ _ => none) f)  ih h
  exact key n x5 d h
set_option maxRecDepth 20000 in
theorem c_X12_useRow {l : Launch} {K : ix_Cx} (hKp : ix_Kp K) {n : Nat} {z : ix_Z} {a0 : Nat} {x1 : Int32} {x2 : Int32} {x3 : Int32} {d : ix_D2} {d1 : ix_D2} (h : f_X12_useRow n z a0 x1 x2 x3 d = some d1) : ix_M l K yX12_useRow cX12_useRow 7 (none : Option Jvm.ClassFile.FieldType) 1 23 0 0 [.ref (K.2.2.1 + a0), .int x1, .int x2, .int x3] (ix_w z d) none (ix_w z d1) := by
  refine ix_met mf_X12_useRow hKp (Nat.le_of_ble_eq_true rfl) ?_
  intro p e s m args below meth c hr hlk hnm X
  have X : ix_X p s m args c K cX12_useRow RX12 7 := X
  show ix_G p l e (ix_rm 1 23 0 0) s m args below meth c (MQ below (ix_Post K none (ix_w z d1)) args s 0 0 (ix_A K)) K 7 0 0 0 [(0, .ref (K.2.2.1 + a0)), (1, .int x1), (2, .int x2), (3, .int x3)] [] (ix_w z d)
  unfold f_X12_useRow at h
  refine ix_aload_n (i := 0) (j := 0) X (ix_tb_at tb_X12_useRow 0 rfl) rfl rfl (pc1 := 1) rfl ?_
  obtain ⟨k_1, h⟩ := ix_ck_some h
  obtain ⟨b_2, q_3, h⟩ := ix_bd1_ex h
  refine iz_getR X fl_RX12_216 k_1 q_3 (ix_tb_at tb_X12_useRow 1 rfl) (pc1 := 4) rfl ?_
  refine ix_aload_n (i := 0) (j := 0) X (ix_tb_at tb_X12_useRow 2 rfl) rfl rfl (pc1 := 5) rfl ?_
  refine iz_getI X fl_RX12_542 k_1 (ix_tb_at tb_X12_useRow 3 rfl) (pc1 := 8) rfl ?_
  refine ix_iload_n (i := 2) (j := 2) X (ix_tb_at tb_X12_useRow 4 rfl) rfl rfl (pc1 := 9) rfl ?_
  obtain ⟨k_4, h⟩ := ix_ck_some h
  obtain ⟨d_5, e_6, h⟩ := ix_lt_ex h
  refine iz_iast X k_4 (ix_tb_at tb_X12_useRow 5 rfl) e_6 (pc1 := 10) rfl ?_
  refine ix_aload_n (i := 0) (j := 0) X (ix_tb_at tb_X12_useRow 6 rfl) rfl rfl (pc1 := 11) rfl ?_
  refine ix_dup X (ix_tb_at tb_X12_useRow 7 rfl) rfl (pc1 := 12) rfl ?_
  refine iz_getI X fl_RX12_542 k_1 (ix_tb_at tb_X12_useRow 8 rfl) (pc1 := 15) rfl ?_
  refine ix_iconst (v := 1) X (ix_tb_at tb_X12_useRow 9 rfl) (by decide) (pc1 := 16) rfl ?_
  refine ix_iadd X (ix_tb_at tb_X12_useRow 10 rfl) (pc1 := 17) rfl ?_
  obtain ⟨d_7, e_8, h⟩ := ix_lt_ex h
  refine iz_putI X fp_RX12_542 k_1 (ix_tb_at tb_X12_useRow 11 rfl) e_8 (pc1 := 20) rfl ?_
  refine ix_aload_n (i := 0) (j := 0) X (ix_tb_at tb_X12_useRow 12 rfl) rfl rfl (pc1 := 21) rfl ?_
  refine ix_iload_n (i := 1) (j := 1) X (ix_tb_at tb_X12_useRow 13 rfl) rfl rfl (pc1 := 22) rfl ?_
  refine ix_iload_n (i := 2) (j := 2) X (ix_tb_at tb_X12_useRow 14 rfl) rfl rfl (pc1 := 23) rfl ?_
  obtain ⟨r_11, d_9, h_10, h⟩ := ix_bd2_ex h
  refine ix_callV (As := [.int x1, .int x2]) (rest := []) (ci := 11) (T := TX12) (nf := 116) X mf_X12_sizeOf mi_X12_sizeOf ms_X12_sizeOf rfl (Nat.le_of_ble_eq_true rfl) ml_RX12_377 ⟨Nat.le_of_ble_eq_true rfl, Nat.le_of_ble_eq_true rfl⟩ ⟨Nat.le_of_ble_eq_true rfl, Nat.le_of_ble_eq_true rfl⟩ rfl (Nat.le_of_ble_eq_true rfl) (ix_tb_at tb_X12_useRow 15 rfl) ⟨k_1.1, List.mem_singleton.mp k_1.2⟩ (c_X12_sizeOf hKp h_10) rfl (pc1 := 26) rfl ?_
  refine ix_istore (i := 4) (L1 := [(4, .int r_11), (0, .ref (K.2.2.1 + a0)), (1, .int x1), (2, .int x2), (3, .int x3)]) X (ix_tb_at tb_X12_useRow 16 rfl) (Nat.le_of_ble_eq_true rfl) rfl (pc1 := 28) rfl ?_
  refine ix_iconst (v := 0) X (ix_tb_at tb_X12_useRow 17 rfl) (by decide) (pc1 := 29) rfl ?_
  refine ix_istore (i := 5) (L1 := [(5, .int 0), (4, .int r_11), (0, .ref (K.2.2.1 + a0)), (1, .int x1), (2, .int x2), (3, .int x3)]) X (ix_tb_at tb_X12_useRow 18 rfl) (Nat.le_of_ble_eq_true rfl) rfl (pc1 := 31) rfl ?_
  refine ix_sub (L1 := [(0, .ref (K.2.2.1 + a0)), (1, .int x1), (2, .int x2), (3, .int x3), (4, .int r_11), (5, .int 0)]) [2, 3, 4, 5, 1, 0] rfl ?_
  exact t_X12_useRow_31 hKp X hr hlk  h
def tab_X12_lastOne : List (Nat × Instr × Nat) := [(0, .iconst 0, 1), (1, .istore_n 2, 1), (2, .aload_n 0, 1), (3, .getfield 156, 3), (6, .iload_n 1, 1), (7, .iaload, 1), (8, .iconst 1, 1), (9, .isub, 1), (10, .istore_n 3, 1), (11, .iload_n 2, 1), (12, .ifCond .ne 114, 3), (15, .aload_n 0, 1), (16, .getfield 153, 3), (19, .sipush 300, 3), (22, .iload_n 1, 1), (23, .imul, 1), (24, .iload_n 3, 1), (25, .iadd, 1), (26, .iaload, 1), (27, .istore 4, 2), (29, .iload 4, 2), (31, .invokestatic 289, 3), (34, .istore 5, 2), (36, .aload_n 0, 1), (37, .getfield 210, 3), (40, .iload 5, 2), (42, .baload, 1), (43, .ifCond .eq 77, 3), (46, .aload_n 0, 1), (47, .getfield 137, 3), (50, .sipush 301, 3), (53, .iload_n 1, 1), (54, .imul, 1), (55, .iload 5, 2), (57, .iadd, 1), (58, .iaload, 1), (59, .aload_n 0, 1), (60, .getfield 159, 3), (63, .iload_n 1, 1), (64, .iaload, 1), (65, .if_icmp .ne 55, 3), (68, .aload_n 0, 1), (69, .getfield 545, 3), (72, .iconst 1, 1), (73, .if_icmp .ne 9, 3), (76, .iload 4, 2), (78, .istore_n 2, 1), (79, .goto 41, 3), (82, .aload_n 0, 1), (83, .getfield 210, 3), (86, .iload 5, 2), (88, .iconst 0, 1), (89, .bastore, 1), (90, .aload_n 0, 1), (91, .dup, 1), (92, .getfield 545, 3), (95, .iconst 1, 1), (96, .isub, 1), (97, .putfield 545, 3), (100, .aload_n 0, 1), (101, .iload_n 1, 1), (102, .aload_n 0, 1), (103, .getfield 140, 3), (106, .sipush 301, 3), (109, .iload_n 1, 1), (110, .imul, 1), (111, .iload 5, 2), (113, .iadd, 1), (114, .iaload, 1), (115, .iload 5, 2), (117, .invokevirtual 548, 3), (120, .iinc 3 (-1), 3), (123, .goto (-112), 3), (126, .iload_n 2, 1), (127, .ireturn, 1)]
theorem tb_X12_lastOne : ix_tab cX12_lastOne tab_X12_lastOne := by
  unfold ix_tab
  decide +kernel
noncomputable def f_X12_lastOne_120 (n : Nat) (z : ix_Z) (rec11 : Int32 → Int32 → ix_D2 → Option (Int32 × ix_D2)) (a0 : Nat) (x1 : Int32) (x2 : Int32) (x3 : Int32) (d : ix_D2) : Option (Int32 × ix_D2) :=
  ix_lt (x3 + (-1)) (fun x3_21 => rec11 x2 x3_21 d)
noncomputable def b_X12_lastOne_11 (n : Nat) (z : ix_Z)  (a0 : Nat) (x1 : Int32) (rec11 : Int32 → Int32 → ix_D2 → Option (Int32 × ix_D2)) (x2 : Int32) (x3 : Int32) (d : ix_D2) : Option (Int32 × ix_D2) :=
  ix_if (x2 = 0) (ix_ck (ix_ok z [11] a0) (ix_bd1 (z.1 a0 75) (fun b_9 => ix_ck (ix_ix z 20 b_9 ((300 * x1) + x3)) (ix_lt (d.1 b_9 (ix_n ((300 * x1) + x3))) (fun x4_12 => ix_bd2 (f_X12_nameOf n z x4_12 d) (fun r_16 d_14 => ix_bd1 (z.1 a0 102) (fun b_17 => ix_ck (ix_ix z 22 b_17 r_16) (ix_if (d_14.1 b_17 (ix_n r_16) = 0) (f_X12_lastOne_120 n z rec11 a0 x1 x2 x3 d_14) (ix_bd1 (z.1 a0 70) (fun b_23 => ix_ck (ix_ix z 20 b_23 ((301 * x1) + r_16)) (ix_bd1 (z.1 a0 77) (fun b_26 => ix_ck (ix_ix z 20 b_26 x1) (ix_if (d_14.1 b_23 (ix_n ((301 * x1) + r_16)) = d_14.1 b_26 (ix_n x1)) (ix_if (d_14.1 a0 104 = 1) (f_X12_lastOne_120 n z rec11 a0 x1 x4_12 x3 d_14) (ix_lt (ix_di d_14 b_17 (ix_n r_16) (vp_nar .boolean 0)) (fun d_31 => ix_lt (ix_di d_31 a0 104 ((d_31.1 a0 104) - 1)) (fun d_33 => ix_bd1 (z.1 a0 71) (fun b_35 => ix_ck (ix_ix z 20 b_35 ((301 * x1) + r_16)) (ix_bd1 (f_X12_useRow n z a0 x1 (d_33.1 b_35 (ix_n ((301 * x1) + r_16))) r_16 d_33) (fun d_38 => f_X12_lastOne_120 n z rec11 a0 x1 x2 x3 d_38))))))) (f_X12_lastOne_120 n z rec11 a0 x1 x2 x3 d_14)))))))))))))) (some (x2, d))
noncomputable def f_X12_lastOne_11 (n : Nat) (z : ix_Z)  (a0 : Nat) (x1 : Int32) (x2 : Int32) (x3 : Int32) (d : ix_D2) : Option (Int32 × ix_D2) := ix_fix (b_X12_lastOne_11 n z  a0 x1) (fun _ _ _ => none) n x2 x3 d
noncomputable def f_X12_lastOne (n : Nat) (z : ix_Z) (a0 : Nat) (x1 : Int32) (d : ix_D2) : Option (Int32 × ix_D2) :=
  ix_ck (ix_ok z [11] a0) (ix_bd1 (z.1 a0 76) (fun b_2 => ix_ck (ix_ix z 20 b_2 x1) (ix_lt ((d.1 b_2 (ix_n x1)) - 1) (fun x3_5 => f_X12_lastOne_11 n z  a0 x1 0 x3_5 d))))
set_option maxRecDepth 20000 in
theorem t_X12_lastOne_120 {l : Launch} {p : Program} {e : Env} {s : State} {m : MethodId} {args : Array Value} {below : List Frame} {meth : Method} {c : Code} {K : ix_Cx} (hKp : ix_Kp K) {n : Nat} {z : ix_Z} (X : ix_X p s m args c K cX12_lastOne RX12 6) (hr : meth.sig.returnType = (some .int)) (hlk : meth.locks = false) {rec11 : Int32 → Int32 → ix_D2 → Option (Int32 × ix_D2)} {a0 : Nat} {x1 : Int32} {x2 : Int32} {x3 : Int32} {r : Int32} {d1 : ix_D2} (hrec11 : ∀ (x2 : Int32) (x3 : Int32) (d : ix_D2), rec11 x2 x3 d = some (r, d1) → ix_G p l e (ix_rm 2 49 0 0) s m args below meth c (MQ below (ix_Post K (some (.int r)) (ix_w z d1)) args s 0 0 (ix_A K)) K 6 0 0 11 [(0, .ref (K.2.2.1 + a0)), (1, .int x1), (2, .int x2), (3, .int x3)] [] (ix_w z d)) {d : ix_D2} (h : f_X12_lastOne_120 n z rec11 a0 x1 x2 x3 d = some (r, d1)) : ix_G p l e (ix_rm 2 49 0 0) s m args below meth c (MQ below (ix_Post K (some (.int r)) (ix_w z d1)) args s 0 0 (ix_A K)) K 6 0 0 120 [(0, .ref (K.2.2.1 + a0)), (1, .int x1), (2, .int x2), (3, .int x3)] [] (ix_w z d) := by
  unfold f_X12_lastOne_120 at h
  obtain ⟨x3_21, e_22, h⟩ := ix_lt_ex h
  refine ix_iinc (i := 3) (j := 3) (v := x3_21) (L1 := [(3, .int x3_21), (0, .ref (K.2.2.1 + a0)), (1, .int x1), (2, .int x2)]) X (ix_tb_at tb_X12_lastOne 71 rfl) rfl (by rw [oi_m1]; exact e_22.symm) (Nat.le_of_ble_eq_true rfl) rfl (pc1 := 123) rfl ?_
  refine ix_goto (tgt := 11) X (ix_tb_at tb_X12_lastOne 72 rfl) (by decide) ?_
  refine ix_sub (L1 := [(0, .ref (K.2.2.1 + a0)), (1, .int x1), (2, .int x2), (3, .int x3_21)]) [1, 2, 3, 0] rfl ?_
  exact hrec11 x2 x3_21 d h
set_option maxRecDepth 20000 in
theorem tb_X12_lastOne_11 {l : Launch} {p : Program} {e : Env} {s : State} {m : MethodId} {args : Array Value} {below : List Frame} {meth : Method} {c : Code} {K : ix_Cx} (hKp : ix_Kp K) {n : Nat} {z : ix_Z} (X : ix_X p s m args c K cX12_lastOne RX12 6) (hr : meth.sig.returnType = (some .int)) (hlk : meth.locks = false)  {a0 : Nat} {x1 : Int32} {rec11 : Int32 → Int32 → ix_D2 → Option (Int32 × ix_D2)} {r : Int32} {d1 : ix_D2} (hrec11 : ∀ (x2 : Int32) (x3 : Int32) (d : ix_D2), rec11 x2 x3 d = some (r, d1) → ix_G p l e (ix_rm 2 49 0 0) s m args below meth c (MQ below (ix_Post K (some (.int r)) (ix_w z d1)) args s 0 0 (ix_A K)) K 6 0 0 11 [(0, .ref (K.2.2.1 + a0)), (1, .int x1), (2, .int x2), (3, .int x3)] [] (ix_w z d)) {x2 : Int32} {x3 : Int32} {d : ix_D2} (h : b_X12_lastOne_11 n z  a0 x1 rec11 x2 x3 d = some (r, d1)) : ix_G p l e (ix_rm 2 49 0 0) s m args below meth c (MQ below (ix_Post K (some (.int r)) (ix_w z d1)) args s 0 0 (ix_A K)) K 6 0 0 11 [(0, .ref (K.2.2.1 + a0)), (1, .int x1), (2, .int x2), (3, .int x3)] [] (ix_w z d) := by
  unfold b_X12_lastOne_11 at h
  refine ix_iload_n (i := 2) (j := 2) X (ix_tb_at tb_X12_lastOne 9 rfl) rfl rfl (pc1 := 12) rfl ?_
  refine ix_if_ne (tgt := 126) X (ix_tb_at tb_X12_lastOne 10 rfl) (by decide) (pc1 := 15) rfl (fun q_7 => ?_) (fun q_7 => ?_)
  · have h := ix_iff q_7 h
    refine ix_iload_n (i := 2) (j := 2) X (ix_tb_at tb_X12_lastOne 73 rfl) rfl rfl (pc1 := 127) rfl ?_
    exact ix_iret X hr hlk (ix_r2 (f := fun r => some (.int r)) (g := ix_w z) h) (ix_tb_at tb_X12_lastOne 74 rfl)
  · have h := ix_ift q_7 h
    refine ix_aload_n (i := 0) (j := 0) X (ix_tb_at tb_X12_lastOne 11 rfl) rfl rfl (pc1 := 16) rfl ?_
    obtain ⟨k_8, h⟩ := ix_ck_some h
    obtain ⟨b_9, q_10, h⟩ := ix_bd1_ex h
    refine iz_getR X fl_RX12_153 k_8 q_10 (ix_tb_at tb_X12_lastOne 12 rfl) (pc1 := 19) rfl ?_
    refine ix_sipush (v := 300) X (ix_tb_at tb_X12_lastOne 13 rfl) (by decide) (pc1 := 22) rfl ?_
    refine ix_iload_n (i := 1) (j := 1) X (ix_tb_at tb_X12_lastOne 14 rfl) rfl rfl (pc1 := 23) rfl ?_
    refine ix_imul X (ix_tb_at tb_X12_lastOne 15 rfl) (pc1 := 24) rfl ?_
    refine ix_iload_n (i := 3) (j := 3) X (ix_tb_at tb_X12_lastOne 16 rfl) rfl rfl (pc1 := 25) rfl ?_
    refine ix_iadd X (ix_tb_at tb_X12_lastOne 17 rfl) (pc1 := 26) rfl ?_
    obtain ⟨k_11, h⟩ := ix_ck_some h
    refine iz_iald X k_11 (ix_tb_at tb_X12_lastOne 18 rfl) (pc1 := 27) rfl ?_
    obtain ⟨x4_12, e_13, h⟩ := ix_lt_ex h
    refine ix_nmi e_13 ?_
    refine ix_istore (i := 4) (L1 := [(4, .int x4_12), (0, .ref (K.2.2.1 + a0)), (1, .int x1), (2, .int x2), (3, .int x3)]) X (ix_tb_at tb_X12_lastOne 19 rfl) (Nat.le_of_ble_eq_true rfl) rfl (pc1 := 29) rfl ?_
    refine ix_iload (i := 4) (j := 0) X (ix_tb_at tb_X12_lastOne 20 rfl) rfl (pc1 := 31) rfl ?_
    obtain ⟨r_16, d_14, h_15, h⟩ := ix_bd2_ex h
    refine ix_callS (As := [.int x4_12]) (rest := []) X mf_X12_nameOf st_X12_nameOf ml_RX12_289 ⟨Nat.le_of_ble_eq_true rfl, Nat.le_of_ble_eq_true rfl⟩ ⟨Nat.le_of_ble_eq_true rfl, Nat.le_of_ble_eq_true rfl⟩ rfl (Nat.le_of_ble_eq_true rfl) (ix_tb_at tb_X12_lastOne 21 rfl) (c_X12_nameOf hKp h_15) rfl (pc1 := 34) rfl ?_
    refine ix_istore (i := 5) (L1 := [(5, .int r_16), (4, .int x4_12), (0, .ref (K.2.2.1 + a0)), (1, .int x1), (2, .int x2), (3, .int x3)]) X (ix_tb_at tb_X12_lastOne 22 rfl) (Nat.le_of_ble_eq_true rfl) rfl (pc1 := 36) rfl ?_
    refine ix_aload_n (i := 0) (j := 2) X (ix_tb_at tb_X12_lastOne 23 rfl) rfl rfl (pc1 := 37) rfl ?_
    obtain ⟨b_17, q_18, h⟩ := ix_bd1_ex h
    refine iz_getR X fl_RX12_210 k_8 q_18 (ix_tb_at tb_X12_lastOne 24 rfl) (pc1 := 40) rfl ?_
    refine ix_iload (i := 5) (j := 0) X (ix_tb_at tb_X12_lastOne 25 rfl) rfl (pc1 := 42) rfl ?_
    obtain ⟨k_19, h⟩ := ix_ck_some h
    refine iz_zald X k_19 (ix_tb_at tb_X12_lastOne 26 rfl) (pc1 := 43) rfl ?_
    refine ix_if_eq (tgt := 120) X (ix_tb_at tb_X12_lastOne 27 rfl) (by decide) (pc1 := 46) rfl (fun q_20 => ?_) (fun q_20 => ?_)
    · have h := ix_ift q_20 h
      refine ix_sub (L1 := [(0, .ref (K.2.2.1 + a0)), (1, .int x1), (2, .int x2), (3, .int x3)]) [2, 3, 4, 5] rfl ?_
      exact t_X12_lastOne_120 hKp X hr hlk hrec11 h
    · have h := ix_iff q_20 h
      refine ix_aload_n (i := 0) (j := 2) X (ix_tb_at tb_X12_lastOne 28 rfl) rfl rfl (pc1 := 47) rfl ?_
      obtain ⟨b_23, q_24, h⟩ := ix_bd1_ex h
      refine iz_getR X fl_RX12_137 k_8 q_24 (ix_tb_at tb_X12_lastOne 29 rfl) (pc1 := 50) rfl ?_
      refine ix_sipush (v := 301) X (ix_tb_at tb_X12_lastOne 30 rfl) (by decide) (pc1 := 53) rfl ?_
      refine ix_iload_n (i := 1) (j := 3) X (ix_tb_at tb_X12_lastOne 31 rfl) rfl rfl (pc1 := 54) rfl ?_
      refine ix_imul X (ix_tb_at tb_X12_lastOne 32 rfl) (pc1 := 55) rfl ?_
      refine ix_iload (i := 5) (j := 0) X (ix_tb_at tb_X12_lastOne 33 rfl) rfl (pc1 := 57) rfl ?_
      refine ix_iadd X (ix_tb_at tb_X12_lastOne 34 rfl) (pc1 := 58) rfl ?_
      obtain ⟨k_25, h⟩ := ix_ck_some h
      refine iz_iald X k_25 (ix_tb_at tb_X12_lastOne 35 rfl) (pc1 := 59) rfl ?_
      refine ix_aload_n (i := 0) (j := 2) X (ix_tb_at tb_X12_lastOne 36 rfl) rfl rfl (pc1 := 60) rfl ?_
      obtain ⟨b_26, q_27, h⟩ := ix_bd1_ex h
      refine iz_getR X fl_RX12_159 k_8 q_27 (ix_tb_at tb_X12_lastOne 37 rfl) (pc1 := 63) rfl ?_
      refine ix_iload_n (i := 1) (j := 3) X (ix_tb_at tb_X12_lastOne 38 rfl) rfl rfl (pc1 := 64) rfl ?_
      obtain ⟨k_28, h⟩ := ix_ck_some h
      refine iz_iald X k_28 (ix_tb_at tb_X12_lastOne 39 rfl) (pc1 := 65) rfl ?_
      refine ix_icmp_ne (tgt := 120) X (ix_tb_at tb_X12_lastOne 40 rfl) (by decide) (pc1 := 68) rfl (fun q_29 => ?_) (fun q_29 => ?_)
      · have h := ix_iff q_29 h
        refine ix_sub (L1 := [(0, .ref (K.2.2.1 + a0)), (1, .int x1), (2, .int x2), (3, .int x3)]) [2, 3, 4, 5] rfl ?_
        exact t_X12_lastOne_120 hKp X hr hlk hrec11 h
      · have h := ix_ift q_29 h
        refine ix_aload_n (i := 0) (j := 2) X (ix_tb_at tb_X12_lastOne 41 rfl) rfl rfl (pc1 := 69) rfl ?_
        refine iz_getI X fl_RX12_545 k_8 (ix_tb_at tb_X12_lastOne 42 rfl) (pc1 := 72) rfl ?_
        refine ix_iconst (v := 1) X (ix_tb_at tb_X12_lastOne 43 rfl) (by decide) (pc1 := 73) rfl ?_
        refine ix_icmp_ne (tgt := 82) X (ix_tb_at tb_X12_lastOne 44 rfl) (by decide) (pc1 := 76) rfl (fun q_30 => ?_) (fun q_30 => ?_)
        · have h := ix_iff q_30 h
          refine ix_aload_n (i := 0) (j := 2) X (ix_tb_at tb_X12_lastOne 48 rfl) rfl rfl (pc1 := 83) rfl ?_
          refine iz_getR X fl_RX12_210 k_8 q_18 (ix_tb_at tb_X12_lastOne 49 rfl) (pc1 := 86) rfl ?_
          refine ix_iload (i := 5) (j := 0) X (ix_tb_at tb_X12_lastOne 50 rfl) rfl (pc1 := 88) rfl ?_
          refine ix_iconst (v := 0) X (ix_tb_at tb_X12_lastOne 51 rfl) (by decide) (pc1 := 89) rfl ?_
          obtain ⟨d_31, e_32, h⟩ := ix_lt_ex h
          refine iz_zast X k_19 (ix_tb_at tb_X12_lastOne 52 rfl) e_32 (pc1 := 90) rfl ?_
          refine ix_aload_n (i := 0) (j := 2) X (ix_tb_at tb_X12_lastOne 53 rfl) rfl rfl (pc1 := 91) rfl ?_
          refine ix_dup X (ix_tb_at tb_X12_lastOne 54 rfl) rfl (pc1 := 92) rfl ?_
          refine iz_getI X fl_RX12_545 k_8 (ix_tb_at tb_X12_lastOne 55 rfl) (pc1 := 95) rfl ?_
          refine ix_iconst (v := 1) X (ix_tb_at tb_X12_lastOne 56 rfl) (by decide) (pc1 := 96) rfl ?_
          refine ix_isub X (ix_tb_at tb_X12_lastOne 57 rfl) (pc1 := 97) rfl ?_
          obtain ⟨d_33, e_34, h⟩ := ix_lt_ex h
          refine iz_putI X fp_RX12_545 k_8 (ix_tb_at tb_X12_lastOne 58 rfl) e_34 (pc1 := 100) rfl ?_
          refine ix_aload_n (i := 0) (j := 2) X (ix_tb_at tb_X12_lastOne 59 rfl) rfl rfl (pc1 := 101) rfl ?_
          refine ix_iload_n (i := 1) (j := 3) X (ix_tb_at tb_X12_lastOne 60 rfl) rfl rfl (pc1 := 102) rfl ?_
          refine ix_aload_n (i := 0) (j := 2) X (ix_tb_at tb_X12_lastOne 61 rfl) rfl rfl (pc1 := 103) rfl ?_
          obtain ⟨b_35, q_36, h⟩ := ix_bd1_ex h
          refine iz_getR X fl_RX12_140 k_8 q_36 (ix_tb_at tb_X12_lastOne 62 rfl) (pc1 := 106) rfl ?_
          refine ix_sipush (v := 301) X (ix_tb_at tb_X12_lastOne 63 rfl) (by decide) (pc1 := 109) rfl ?_
          refine ix_iload_n (i := 1) (j := 3) X (ix_tb_at tb_X12_lastOne 64 rfl) rfl rfl (pc1 := 110) rfl ?_
          refine ix_imul X (ix_tb_at tb_X12_lastOne 65 rfl) (pc1 := 111) rfl ?_
          refine ix_iload (i := 5) (j := 0) X (ix_tb_at tb_X12_lastOne 66 rfl) rfl (pc1 := 113) rfl ?_
          refine ix_iadd X (ix_tb_at tb_X12_lastOne 67 rfl) (pc1 := 114) rfl ?_
          obtain ⟨k_37, h⟩ := ix_ck_some h
          refine iz_iald X k_37 (ix_tb_at tb_X12_lastOne 68 rfl) (pc1 := 115) rfl ?_
          refine ix_iload (i := 5) (j := 0) X (ix_tb_at tb_X12_lastOne 69 rfl) rfl (pc1 := 117) rfl ?_
          obtain ⟨d_38, h_39, h⟩ := ix_bd1_ex h
          refine ix_callV (As := [.int x1, .int (d_33.1 b_35 (ix_n ((301 * x1) + r_16))), .int r_16]) (rest := []) (ci := 11) (T := TX12) (nf := 116) X mf_X12_useRow mi_X12_useRow ms_X12_useRow rfl (Nat.le_of_ble_eq_true rfl) ml_RX12_548 ⟨Nat.le_of_ble_eq_true rfl, Nat.le_of_ble_eq_true rfl⟩ ⟨Nat.le_of_ble_eq_true rfl, Nat.le_of_ble_eq_true rfl⟩ rfl (Nat.le_of_ble_eq_true rfl) (ix_tb_at tb_X12_lastOne 70 rfl) ⟨k_8.1, List.mem_singleton.mp k_8.2⟩ (c_X12_useRow hKp h_39) rfl (pc1 := 120) rfl ?_
          refine ix_sub (L1 := [(0, .ref (K.2.2.1 + a0)), (1, .int x1), (2, .int x2), (3, .int x3)]) [2, 3, 4, 5] rfl ?_
          exact t_X12_lastOne_120 hKp X hr hlk hrec11 h
        · have h := ix_ift q_30 h
          refine ix_iload (i := 4) (j := 1) X (ix_tb_at tb_X12_lastOne 45 rfl) rfl (pc1 := 78) rfl ?_
          refine ix_istore_n (i := 2) (L1 := [(2, .int x4_12), (5, .int r_16), (4, .int x4_12), (0, .ref (K.2.2.1 + a0)), (1, .int x1), (3, .int x3)]) X (ix_tb_at tb_X12_lastOne 46 rfl) rfl (Nat.le_of_ble_eq_true rfl) rfl (pc1 := 79) rfl ?_
          refine ix_goto (tgt := 120) X (ix_tb_at tb_X12_lastOne 47 rfl) (by decide) ?_
          refine ix_sub (L1 := [(0, .ref (K.2.2.1 + a0)), (1, .int x1), (2, .int x4_12), (3, .int x3)]) [3, 4, 0, 5] rfl ?_
          exact t_X12_lastOne_120 hKp X hr hlk hrec11 h
theorem t_X12_lastOne_11 {l : Launch} {p : Program} {e : Env} {s : State} {m : MethodId} {args : Array Value} {below : List Frame} {meth : Method} {c : Code} {K : ix_Cx} (hKp : ix_Kp K) {n : Nat} {z : ix_Z} (X : ix_X p s m args c K cX12_lastOne RX12 6) (hr : meth.sig.returnType = (some .int)) (hlk : meth.locks = false)  {a0 : Nat} {x1 : Int32} {r : Int32} {d1 : ix_D2}  {x2 : Int32} {x3 : Int32} {d : ix_D2} (h : f_X12_lastOne_11 n z  a0 x1 x2 x3 d = some (r, d1)) : ix_G p l e (ix_rm 2 49 0 0) s m args below meth c (MQ below (ix_Post K (some (.int r)) (ix_w z d1)) args s 0 0 (ix_A K)) K 6 0 0 11 [(0, .ref (K.2.2.1 + a0)), (1, .int x1), (2, .int x2), (3, .int x3)] [] (ix_w z d) := by
  have key : ∀ (f : Nat) (x2 : Int32) (x3 : Int32) (d : ix_D2), ix_fix (b_X12_lastOne_11 n z  a0 x1) (fun _ _ _ => none) f x2 x3 d = some (r, d1) → ix_G p l e (ix_rm 2 49 0 0) s m args below meth c (MQ below (ix_Post K (some (.int r)) (ix_w z d1)) args s 0 0 (ix_A K)) K 6 0 0 11 [(0, .ref (K.2.2.1 + a0)), (1, .int x1), (2, .int x2), (3, .int x3)] [] (ix_w z d) := by
    intro f
    induction f with
    | zero =>
      intro x2 x3 d h
      have h : (none : Option (Int32 × ix_D2)) = some (r, d1) := h
      cases h
    | succ f ih =>
      intro x2 x3 d h
      exact tb_X12_lastOne_11 hKp X hr hlk (rec11 := ix_fix (b_X12_lastOne_11 n z  a0 x1) (fun _ _ _ => none) f)  ih h
  exact key n x2 x3 d h
set_option maxRecDepth 20000 in
theorem c_X12_lastOne {l : Launch} {K : ix_Cx} (hKp : ix_Kp K) {n : Nat} {z : ix_Z} {a0 : Nat} {x1 : Int32} {d : ix_D2} {r : Int32} {d1 : ix_D2} (h : f_X12_lastOne n z a0 x1 d = some (r, d1)) : ix_M l K yX12_lastOne cX12_lastOne 6 (some .int) 2 49 0 0 [.ref (K.2.2.1 + a0), .int x1] (ix_w z d) (some (.int r)) (ix_w z d1) := by
  refine ix_met mf_X12_lastOne hKp (Nat.le_of_ble_eq_true rfl) ?_
  intro p e s m args below meth c hr hlk hnm X
  have X : ix_X p s m args c K cX12_lastOne RX12 6 := X
  show ix_G p l e (ix_rm 2 49 0 0) s m args below meth c (MQ below (ix_Post K (some (.int r)) (ix_w z d1)) args s 0 0 (ix_A K)) K 6 0 0 0 [(0, .ref (K.2.2.1 + a0)), (1, .int x1)] [] (ix_w z d)
  unfold f_X12_lastOne at h
  refine ix_iconst (v := 0) X (ix_tb_at tb_X12_lastOne 0 rfl) (by decide) (pc1 := 1) rfl ?_
  refine ix_istore_n (i := 2) (L1 := [(2, .int 0), (0, .ref (K.2.2.1 + a0)), (1, .int x1)]) X (ix_tb_at tb_X12_lastOne 1 rfl) rfl (Nat.le_of_ble_eq_true rfl) rfl (pc1 := 2) rfl ?_
  refine ix_aload_n (i := 0) (j := 1) X (ix_tb_at tb_X12_lastOne 2 rfl) rfl rfl (pc1 := 3) rfl ?_
  obtain ⟨k_1, h⟩ := ix_ck_some h
  obtain ⟨b_2, q_3, h⟩ := ix_bd1_ex h
  refine iz_getR X fl_RX12_156 k_1 q_3 (ix_tb_at tb_X12_lastOne 3 rfl) (pc1 := 6) rfl ?_
  refine ix_iload_n (i := 1) (j := 2) X (ix_tb_at tb_X12_lastOne 4 rfl) rfl rfl (pc1 := 7) rfl ?_
  obtain ⟨k_4, h⟩ := ix_ck_some h
  refine iz_iald X k_4 (ix_tb_at tb_X12_lastOne 5 rfl) (pc1 := 8) rfl ?_
  refine ix_iconst (v := 1) X (ix_tb_at tb_X12_lastOne 6 rfl) (by decide) (pc1 := 9) rfl ?_
  refine ix_isub X (ix_tb_at tb_X12_lastOne 7 rfl) (pc1 := 10) rfl ?_
  obtain ⟨x3_5, e_6, h⟩ := ix_lt_ex h
  refine ix_nmi e_6 ?_
  refine ix_istore_n (i := 3) (L1 := [(3, .int x3_5), (2, .int 0), (0, .ref (K.2.2.1 + a0)), (1, .int x1)]) X (ix_tb_at tb_X12_lastOne 8 rfl) rfl (Nat.le_of_ble_eq_true rfl) rfl (pc1 := 11) rfl ?_
  refine ix_sub (L1 := [(0, .ref (K.2.2.1 + a0)), (1, .int x1), (2, .int 0), (3, .int x3_5)]) [2, 3, 1, 0] rfl ?_
  exact t_X12_lastOne_11 hKp X hr hlk  h
def tab_X12_raise : List (Nat × Instr × Nat) := [(0, .iconst 0, 1), (1, .istore_n 2, 1), (2, .iconst 0, 1), (3, .istore_n 3, 1), (4, .iconst 1, 1), (5, .istore 4, 2), (7, .iload 4, 2), (9, .aload_n 0, 1), (10, .getfield 116, 3), (13, .iload_n 1, 1), (14, .iaload, 1), (15, .if_icmp .gt 74, 3), (18, .aload_n 0, 1), (19, .getfield 213, 3), (22, .iload 4, 2), (24, .baload, 1), (25, .ifCond .eq 58, 3), (28, .aload_n 0, 1), (29, .getfield 146, 3), (32, .sipush 301, 3), (35, .iload_n 1, 1), (36, .imul, 1), (37, .iload 4, 2), (39, .iadd, 1), (40, .dup2, 1), (41, .laload, 1), (42, .aload_n 0, 1), (43, .getfield 150, 3), (46, .iload_n 1, 1), (47, .laload, 1), (48, .ladd, 1), (49, .lastore, 1), (50, .iinc 2 1, 3), (53, .iload_n 3, 1), (54, .ifCond .ne 23, 3), (57, .aload_n 0, 1), (58, .getfield 146, 3), (61, .sipush 301, 3), (64, .iload_n 1, 1), (65, .imul, 1), (66, .iload 4, 2), (68, .iadd, 1), (69, .laload, 1), (70, .ldc2_w 566, 3), (73, .lcmp, 1), (74, .ifCond .le 7, 3), (77, .iconst 1, 1), (78, .goto 4, 3), (81, .iconst 0, 1), (82, .istore_n 3, 1), (83, .iinc 4 1, 3), (86, .goto (-79), 3), (89, .aload_n 0, 1), (90, .getfield 150, 3), (93, .iload_n 1, 1), (94, .dup2, 1), (95, .laload, 1), (96, .aload_n 0, 1), (97, .getfield 150, 3), (100, .iload_n 1, 1), (101, .laload, 1), (102, .ldc2_w 568, 3), (105, .ldiv, 1), (106, .ladd, 1), (107, .lastore, 1), (108, .iload_n 3, 1), (109, .ifCond .eq 96, 3), (112, .iconst 1, 1), (113, .istore 4, 2), (115, .iload 4, 2), (117, .aload_n 0, 1), (118, .getfield 116, 3), (121, .iload_n 1, 1), (122, .iaload, 1), (123, .if_icmp .gt 39, 3), (126, .aload_n 0, 1), (127, .getfield 146, 3), (130, .sipush 301, 3), (133, .iload_n 1, 1), (134, .imul, 1), (135, .iload 4, 2), (137, .iadd, 1), (138, .aload_n 0, 1), (139, .getfield 146, 3), (142, .sipush 301, 3), (145, .iload_n 1, 1), (146, .imul, 1), (147, .iload 4, 2), (149, .iadd, 1), (150, .laload, 1), (151, .ldc2_w 570, 3), (154, .ldiv, 1), (155, .lastore, 1), (156, .iinc 4 1, 3), (159, .goto (-44), 3), (162, .aload_n 0, 1), (163, .getfield 150, 3), (166, .iload_n 1, 1), (167, .aload_n 0, 1), (168, .getfield 150, 3), (171, .iload_n 1, 1), (172, .laload, 1), (173, .ldc2_w 570, 3), (176, .ldiv, 1), (177, .lastore, 1), (178, .aload_n 0, 1), (179, .getfield 150, 3), (182, .iload_n 1, 1), (183, .aload_n 0, 1), (184, .getfield 150, 3), (187, .iload_n 1, 1), (188, .laload, 1), (189, .lconst 1, 1), (190, .lcmp, 1), (191, .ifCond .ge 7, 3), (194, .lconst 1, 1), (195, .goto 9, 3), (198, .aload_n 0, 1), (199, .getfield 150, 3), (202, .iload_n 1, 1), (203, .laload, 1), (204, .lastore, 1), (205, .iload_n 2, 1), (206, .ireturn, 1)]
theorem tb_X12_raise : ix_tab cX12_raise tab_X12_raise := by
  unfold ix_tab
  decide +kernel
noncomputable def f_X12_raise_204 (n : Nat) (z : ix_Z)  (x2 : Int32) (s0 : Int64) (s1 : Int32) (s2 : Nat) (d : ix_D2) : Option (Int32 × ix_D2) :=
  ix_ck (ix_ix z 23 s2 s1) (ix_lt (ix_dj d s2 (ix_n s1) s0) (fun d_24 => some (x2, d_24)))
noncomputable def b_X12_raise_115 (n : Nat) (z : ix_Z)  (a0 : Nat) (x1 : Int32) (x2 : Int32) (rec115 : Int32 → ix_D2 → Option (Int32 × ix_D2)) (x4 : Int32) (d : ix_D2) : Option (Int32 × ix_D2) :=
  ix_ck (ix_ok z [11] a0) (ix_bd1 (z.1 a0 61) (fun b_13 => ix_ck (ix_ix z 20 b_13 x1) (ix_if (d.1 b_13 (ix_n x1) < x4) (ix_bd1 (z.1 a0 74) (fun b_17 => ix_ck (ix_ix z 23 b_17 x1) (ix_lt (ix_dj d b_17 (ix_n x1) ((d.2 b_17 (ix_n x1)) / 1048576)) (fun d_20 => ix_if (0 ≤ lg_cmp (d_20.2 b_17 (ix_n x1)) 1) (f_X12_raise_204 n z  x2 (d_20.2 b_17 (ix_n x1)) x1 b_17 d_20) (f_X12_raise_204 n z  x2 1 x1 b_17 d_20))))) (ix_bd1 (z.1 a0 73) (fun b_26 => ix_ck (ix_ix z 23 b_26 ((301 * x1) + x4)) (ix_lt (ix_dj d b_26 (ix_n ((301 * x1) + x4)) ((d.2 b_26 (ix_n ((301 * x1) + x4))) / 1048576)) (fun d_29 => ix_lt (x4 + 1) (fun x4_31 => rec115 x4_31 d_29))))))))
noncomputable def f_X12_raise_115 (n : Nat) (z : ix_Z)  (a0 : Nat) (x1 : Int32) (x2 : Int32) (x4 : Int32) (d : ix_D2) : Option (Int32 × ix_D2) := ix_fix (b_X12_raise_115 n z  a0 x1 x2) (fun _ _ => none) n x4 d
noncomputable def f_X12_raise_83 (n : Nat) (z : ix_Z) (rec7 : Int32 → Int32 → Int32 → ix_D2 → Option (Int32 × ix_D2)) (a0 : Nat) (x1 : Int32) (x2 : Int32) (x3 : Int32) (x4 : Int32) (d : ix_D2) : Option (Int32 × ix_D2) :=
  ix_lt (x4 + 1) (fun x4_37 => rec7 x2 x3 x4_37 d)
noncomputable def f_X12_raise_82 (n : Nat) (z : ix_Z) (rec7 : Int32 → Int32 → Int32 → ix_D2 → Option (Int32 × ix_D2)) (a0 : Nat) (x1 : Int32) (x2 : Int32) (x4 : Int32) (s0 : Int32) (d : ix_D2) : Option (Int32 × ix_D2) :=
  f_X12_raise_83 n z rec7 a0 x1 x2 s0 x4 d
noncomputable def f_X12_raise_77 (n : Nat) (z : ix_Z) (rec7 : Int32 → Int32 → Int32 → ix_D2 → Option (Int32 × ix_D2)) (a0 : Nat) (x1 : Int32) (x2 : Int32) (x4 : Int32) (d : ix_D2) : Option (Int32 × ix_D2) :=
  f_X12_raise_82 n z rec7 a0 x1 x2 x4 1 d
noncomputable def b_X12_raise_7 (n : Nat) (z : ix_Z)  (a0 : Nat) (x1 : Int32) (rec7 : Int32 → Int32 → Int32 → ix_D2 → Option (Int32 × ix_D2)) (x2 : Int32) (x3 : Int32) (x4 : Int32) (d : ix_D2) : Option (Int32 × ix_D2) :=
  ix_ck (ix_ok z [11] a0) (ix_bd1 (z.1 a0 61) (fun b_2 => ix_ck (ix_ix z 20 b_2 x1) (ix_if (d.1 b_2 (ix_n x1) < x4) (ix_bd1 (z.1 a0 74) (fun b_6 => ix_ck (ix_ix z 23 b_6 x1) (ix_lt (ix_dj d b_6 (ix_n x1) ((d.2 b_6 (ix_n x1)) + ((d.2 b_6 (ix_n x1)) / 8))) (fun d_9 => ix_if (x3 = 0) (some (x2, d_9)) (f_X12_raise_115 n z  a0 x1 x2 1 d_9))))) (ix_bd1 (z.1 a0 103) (fun b_33 => ix_ck (ix_ix z 22 b_33 x4) (ix_if (d.1 b_33 (ix_n x4) = 0) (f_X12_raise_83 n z rec7 a0 x1 x2 x3 x4 d) (ix_bd1 (z.1 a0 73) (fun b_39 => ix_ck (ix_ix z 23 b_39 ((301 * x1) + x4)) (ix_bd1 (z.1 a0 74) (fun b_42 => ix_ck (ix_ix z 23 b_42 x1) (ix_lt (ix_dj d b_39 (ix_n ((301 * x1) + x4)) ((d.2 b_39 (ix_n ((301 * x1) + x4))) + (d.2 b_42 (ix_n x1)))) (fun d_45 => ix_lt (x2 + 1) (fun x2_47 => ix_if (x3 = 0) (ix_if (lg_cmp (d_45.2 b_39 (ix_n ((301 * x1) + x4))) 1000000000000 ≤ 0) (f_X12_raise_82 n z rec7 a0 x1 x2_47 x4 0 d_45) (f_X12_raise_77 n z rec7 a0 x1 x2_47 x4 d_45)) (f_X12_raise_77 n z rec7 a0 x1 x2_47 x4 d_45))))))))))))))
noncomputable def f_X12_raise_7 (n : Nat) (z : ix_Z)  (a0 : Nat) (x1 : Int32) (x2 : Int32) (x3 : Int32) (x4 : Int32) (d : ix_D2) : Option (Int32 × ix_D2) := ix_fix (b_X12_raise_7 n z  a0 x1) (fun _ _ _ _ => none) n x2 x3 x4 d
noncomputable def f_X12_raise (n : Nat) (z : ix_Z) (a0 : Nat) (x1 : Int32) (d : ix_D2) : Option (Int32 × ix_D2) :=
  f_X12_raise_7 n z  a0 x1 0 0 1 d
set_option maxRecDepth 20000 in
theorem t_X12_raise_204 {l : Launch} {p : Program} {e : Env} {s : State} {m : MethodId} {args : Array Value} {below : List Frame} {meth : Method} {c : Code} {K : ix_Cx} (hKp : ix_Kp K) {n : Nat} {z : ix_Z} (X : ix_X p s m args c K cX12_raise RX12 5) (hr : meth.sig.returnType = (some .int)) (hlk : meth.locks = false)  {x2 : Int32} {s0 : Int64} {s1 : Int32} {s2 : Nat} {r : Int32} {d1 : ix_D2}  {d : ix_D2} (h : f_X12_raise_204 n z  x2 s0 s1 s2 d = some (r, d1)) : ix_G p l e (ix_rm 0 0 0 0) s m args below meth c (MQ below (ix_Post K (some (.int r)) (ix_w z d1)) args s 0 0 (ix_A K)) K 5 0 0 204 [(2, .int x2)] [.long s0, .int s1, .ref (K.2.2.1 + s2)] (ix_w z d) := by
  unfold f_X12_raise_204 at h
  obtain ⟨k_23, h⟩ := ix_ck_some h
  obtain ⟨d_24, e_25, h⟩ := ix_lt_ex h
  refine iz_last X k_23 (ix_tb_at tb_X12_raise 121 rfl) e_25 (pc1 := 205) rfl ?_
  refine ix_iload_n (i := 2) (j := 0) X (ix_tb_at tb_X12_raise 122 rfl) rfl rfl (pc1 := 206) rfl ?_
  exact ix_iret X hr hlk (ix_r2 (f := fun r => some (.int r)) (g := ix_w z) h) (ix_tb_at tb_X12_raise 123 rfl)
set_option maxRecDepth 20000 in
theorem tb_X12_raise_115 {l : Launch} {p : Program} {e : Env} {s : State} {m : MethodId} {args : Array Value} {below : List Frame} {meth : Method} {c : Code} {K : ix_Cx} (hKp : ix_Kp K) {n : Nat} {z : ix_Z} (X : ix_X p s m args c K cX12_raise RX12 5) (hr : meth.sig.returnType = (some .int)) (hlk : meth.locks = false)  {a0 : Nat} {x1 : Int32} {x2 : Int32} {rec115 : Int32 → ix_D2 → Option (Int32 × ix_D2)} {r : Int32} {d1 : ix_D2} (hrec115 : ∀ (x4 : Int32) (d : ix_D2), rec115 x4 d = some (r, d1) → ix_G p l e (ix_rm 0 0 0 0) s m args below meth c (MQ below (ix_Post K (some (.int r)) (ix_w z d1)) args s 0 0 (ix_A K)) K 5 0 0 115 [(0, .ref (K.2.2.1 + a0)), (1, .int x1), (2, .int x2), (4, .int x4)] [] (ix_w z d)) {x4 : Int32} {d : ix_D2} (h : b_X12_raise_115 n z  a0 x1 x2 rec115 x4 d = some (r, d1)) : ix_G p l e (ix_rm 0 0 0 0) s m args below meth c (MQ below (ix_Post K (some (.int r)) (ix_w z d1)) args s 0 0 (ix_A K)) K 5 0 0 115 [(0, .ref (K.2.2.1 + a0)), (1, .int x1), (2, .int x2), (4, .int x4)] [] (ix_w z d) := by
  unfold b_X12_raise_115 at h
  refine ix_iload (i := 4) (j := 3) X (ix_tb_at tb_X12_raise 69 rfl) rfl (pc1 := 117) rfl ?_
  refine ix_aload_n (i := 0) (j := 0) X (ix_tb_at tb_X12_raise 70 rfl) rfl rfl (pc1 := 118) rfl ?_
  obtain ⟨k_12, h⟩ := ix_ck_some h
  obtain ⟨b_13, q_14, h⟩ := ix_bd1_ex h
  refine iz_getR X fl_RX12_116 k_12 q_14 (ix_tb_at tb_X12_raise 71 rfl) (pc1 := 121) rfl ?_
  refine ix_iload_n (i := 1) (j := 1) X (ix_tb_at tb_X12_raise 72 rfl) rfl rfl (pc1 := 122) rfl ?_
  obtain ⟨k_15, h⟩ := ix_ck_some h
  refine iz_iald X k_15 (ix_tb_at tb_X12_raise 73 rfl) (pc1 := 123) rfl ?_
  refine ix_icmp_gt (tgt := 162) X (ix_tb_at tb_X12_raise 74 rfl) (by decide) (pc1 := 126) rfl (fun q_16 => ?_) (fun q_16 => ?_)
  · have h := ix_ift q_16 h
    refine ix_aload_n (i := 0) (j := 0) X (ix_tb_at tb_X12_raise 95 rfl) rfl rfl (pc1 := 163) rfl ?_
    obtain ⟨b_17, q_18, h⟩ := ix_bd1_ex h
    refine iz_getR X fl_RX12_150 k_12 q_18 (ix_tb_at tb_X12_raise 96 rfl) (pc1 := 166) rfl ?_
    refine ix_iload_n (i := 1) (j := 1) X (ix_tb_at tb_X12_raise 97 rfl) rfl rfl (pc1 := 167) rfl ?_
    refine ix_aload_n (i := 0) (j := 0) X (ix_tb_at tb_X12_raise 98 rfl) rfl rfl (pc1 := 168) rfl ?_
    refine iz_getR X fl_RX12_150 k_12 q_18 (ix_tb_at tb_X12_raise 99 rfl) (pc1 := 171) rfl ?_
    refine ix_iload_n (i := 1) (j := 1) X (ix_tb_at tb_X12_raise 100 rfl) rfl rfl (pc1 := 172) rfl ?_
    obtain ⟨k_19, h⟩ := ix_ck_some h
    refine iz_lald X k_19 (ix_tb_at tb_X12_raise 101 rfl) (pc1 := 173) rfl ?_
    refine ix_ldc2 (pl := 2293) (v := 1048576) X (ix_tb_at tb_X12_raise 102 rfl) (by decide +kernel) (pc1 := 176) rfl ?_
    refine ix_ldiv X (ix_tb_at tb_X12_raise 103 rfl) (by decide) (pc1 := 177) rfl ?_
    obtain ⟨d_20, e_21, h⟩ := ix_lt_ex h
    refine iz_last X k_19 (ix_tb_at tb_X12_raise 104 rfl) e_21 (pc1 := 178) rfl ?_
    refine ix_aload_n (i := 0) (j := 0) X (ix_tb_at tb_X12_raise 105 rfl) rfl rfl (pc1 := 179) rfl ?_
    refine iz_getR X fl_RX12_150 k_12 q_18 (ix_tb_at tb_X12_raise 106 rfl) (pc1 := 182) rfl ?_
    refine ix_iload_n (i := 1) (j := 1) X (ix_tb_at tb_X12_raise 107 rfl) rfl rfl (pc1 := 183) rfl ?_
    refine ix_aload_n (i := 0) (j := 0) X (ix_tb_at tb_X12_raise 108 rfl) rfl rfl (pc1 := 184) rfl ?_
    refine iz_getR X fl_RX12_150 k_12 q_18 (ix_tb_at tb_X12_raise 109 rfl) (pc1 := 187) rfl ?_
    refine ix_iload_n (i := 1) (j := 1) X (ix_tb_at tb_X12_raise 110 rfl) rfl rfl (pc1 := 188) rfl ?_
    refine iz_lald X k_19 (ix_tb_at tb_X12_raise 111 rfl) (pc1 := 189) rfl ?_
    refine ix_lconst (v := 1) X (ix_tb_at tb_X12_raise 112 rfl) (by decide) (pc1 := 190) rfl ?_
    refine ix_lcmp X (ix_tb_at tb_X12_raise 113 rfl) (pc1 := 191) rfl ?_
    refine ix_if_ge (tgt := 198) X (ix_tb_at tb_X12_raise 114 rfl) (by decide) (pc1 := 194) rfl (fun q_22 => ?_) (fun q_22 => ?_)
    · have h := ix_ift q_22 h
      refine ix_aload_n (i := 0) (j := 0) X (ix_tb_at tb_X12_raise 117 rfl) rfl rfl (pc1 := 199) rfl ?_
      refine iz_getR X fl_RX12_150 k_12 q_18 (ix_tb_at tb_X12_raise 118 rfl) (pc1 := 202) rfl ?_
      refine ix_iload_n (i := 1) (j := 1) X (ix_tb_at tb_X12_raise 119 rfl) rfl rfl (pc1 := 203) rfl ?_
      refine iz_lald X k_19 (ix_tb_at tb_X12_raise 120 rfl) (pc1 := 204) rfl ?_
      refine ix_sub (L1 := [(2, .int x2)]) [2] rfl ?_
      exact t_X12_raise_204 hKp X hr hlk  h
    · have h := ix_iff q_22 h
      refine ix_lconst (v := 1) X (ix_tb_at tb_X12_raise 115 rfl) (by decide) (pc1 := 195) rfl ?_
      refine ix_goto (tgt := 204) X (ix_tb_at tb_X12_raise 116 rfl) (by decide) ?_
      refine ix_sub (L1 := [(2, .int x2)]) [2] rfl ?_
      exact t_X12_raise_204 hKp X hr hlk  h
  · have h := ix_iff q_16 h
    refine ix_aload_n (i := 0) (j := 0) X (ix_tb_at tb_X12_raise 75 rfl) rfl rfl (pc1 := 127) rfl ?_
    obtain ⟨b_26, q_27, h⟩ := ix_bd1_ex h
    refine iz_getR X fl_RX12_146 k_12 q_27 (ix_tb_at tb_X12_raise 76 rfl) (pc1 := 130) rfl ?_
    refine ix_sipush (v := 301) X (ix_tb_at tb_X12_raise 77 rfl) (by decide) (pc1 := 133) rfl ?_
    refine ix_iload_n (i := 1) (j := 1) X (ix_tb_at tb_X12_raise 78 rfl) rfl rfl (pc1 := 134) rfl ?_
    refine ix_imul X (ix_tb_at tb_X12_raise 79 rfl) (pc1 := 135) rfl ?_
    refine ix_iload (i := 4) (j := 3) X (ix_tb_at tb_X12_raise 80 rfl) rfl (pc1 := 137) rfl ?_
    refine ix_iadd X (ix_tb_at tb_X12_raise 81 rfl) (pc1 := 138) rfl ?_
    refine ix_aload_n (i := 0) (j := 0) X (ix_tb_at tb_X12_raise 82 rfl) rfl rfl (pc1 := 139) rfl ?_
    refine iz_getR X fl_RX12_146 k_12 q_27 (ix_tb_at tb_X12_raise 83 rfl) (pc1 := 142) rfl ?_
    refine ix_sipush (v := 301) X (ix_tb_at tb_X12_raise 84 rfl) (by decide) (pc1 := 145) rfl ?_
    refine ix_iload_n (i := 1) (j := 1) X (ix_tb_at tb_X12_raise 85 rfl) rfl rfl (pc1 := 146) rfl ?_
    refine ix_imul X (ix_tb_at tb_X12_raise 86 rfl) (pc1 := 147) rfl ?_
    refine ix_iload (i := 4) (j := 3) X (ix_tb_at tb_X12_raise 87 rfl) rfl (pc1 := 149) rfl ?_
    refine ix_iadd X (ix_tb_at tb_X12_raise 88 rfl) (pc1 := 150) rfl ?_
    obtain ⟨k_28, h⟩ := ix_ck_some h
    refine iz_lald X k_28 (ix_tb_at tb_X12_raise 89 rfl) (pc1 := 151) rfl ?_
    refine ix_ldc2 (pl := 2293) (v := 1048576) X (ix_tb_at tb_X12_raise 90 rfl) (by decide +kernel) (pc1 := 154) rfl ?_
    refine ix_ldiv X (ix_tb_at tb_X12_raise 91 rfl) (by decide) (pc1 := 155) rfl ?_
    obtain ⟨d_29, e_30, h⟩ := ix_lt_ex h
    refine iz_last X k_28 (ix_tb_at tb_X12_raise 92 rfl) e_30 (pc1 := 156) rfl ?_
    obtain ⟨x4_31, e_32, h⟩ := ix_lt_ex h
    refine ix_iinc (i := 4) (j := 3) (v := x4_31) (L1 := [(4, .int x4_31), (0, .ref (K.2.2.1 + a0)), (1, .int x1), (2, .int x2)]) X (ix_tb_at tb_X12_raise 93 rfl) rfl (by rw [oi_1]; exact e_32.symm) (Nat.le_of_ble_eq_true rfl) rfl (pc1 := 159) rfl ?_
    refine ix_goto (tgt := 115) X (ix_tb_at tb_X12_raise 94 rfl) (by decide) ?_
    refine ix_sub (L1 := [(0, .ref (K.2.2.1 + a0)), (1, .int x1), (2, .int x2), (4, .int x4_31)]) [1, 2, 3, 0] rfl ?_
    exact hrec115 x4_31 d_29 h
theorem t_X12_raise_115 {l : Launch} {p : Program} {e : Env} {s : State} {m : MethodId} {args : Array Value} {below : List Frame} {meth : Method} {c : Code} {K : ix_Cx} (hKp : ix_Kp K) {n : Nat} {z : ix_Z} (X : ix_X p s m args c K cX12_raise RX12 5) (hr : meth.sig.returnType = (some .int)) (hlk : meth.locks = false)  {a0 : Nat} {x1 : Int32} {x2 : Int32} {r : Int32} {d1 : ix_D2}  {x4 : Int32} {d : ix_D2} (h : f_X12_raise_115 n z  a0 x1 x2 x4 d = some (r, d1)) : ix_G p l e (ix_rm 0 0 0 0) s m args below meth c (MQ below (ix_Post K (some (.int r)) (ix_w z d1)) args s 0 0 (ix_A K)) K 5 0 0 115 [(0, .ref (K.2.2.1 + a0)), (1, .int x1), (2, .int x2), (4, .int x4)] [] (ix_w z d) := by
  have key : ∀ (f : Nat) (x4 : Int32) (d : ix_D2), ix_fix (b_X12_raise_115 n z  a0 x1 x2) (fun _ _ => none) f x4 d = some (r, d1) → ix_G p l e (ix_rm 0 0 0 0) s m args below meth c (MQ below (ix_Post K (some (.int r)) (ix_w z d1)) args s 0 0 (ix_A K)) K 5 0 0 115 [(0, .ref (K.2.2.1 + a0)), (1, .int x1), (2, .int x2), (4, .int x4)] [] (ix_w z d) := by
    intro f
    induction f with
    | zero =>
      intro x4 d h
      have h : (none : Option (Int32 × ix_D2)) = some (r, d1) := h
      cases h
    | succ f ih =>
      intro x4 d h
      exact tb_X12_raise_115 hKp X hr hlk (rec115 := ix_fix (b_X12_raise_115 n z  a0 x1 x2) (fun _ _ => none) f)  ih h
  exact key n x4 d h
set_option maxRecDepth 20000 in
theorem t_X12_raise_83 {l : Launch} {p : Program} {e : Env} {s : State} {m : MethodId} {args : Array Value} {below : List Frame} {meth : Method} {c : Code} {K : ix_Cx} (hKp : ix_Kp K) {n : Nat} {z : ix_Z} (X : ix_X p s m args c K cX12_raise RX12 5) (hr : meth.sig.returnType = (some .int)) (hlk : meth.locks = false) {rec7 : Int32 → Int32 → Int32 → ix_D2 → Option (Int32 × ix_D2)} {a0 : Nat} {x1 : Int32} {x2 : Int32} {x3 : Int32} {x4 : Int32} {r : Int32} {d1 : ix_D2} (hrec7 : ∀ (x2 : Int32) (x3 : Int32) (x4 : Int32) (d : ix_D2), rec7 x2 x3 x4 d = some (r, d1) → ix_G p l e (ix_rm 0 0 0 0) s m args below meth c (MQ below (ix_Post K (some (.int r)) (ix_w z d1)) args s 0 0 (ix_A K)) K 5 0 0 7 [(0, .ref (K.2.2.1 + a0)), (1, .int x1), (2, .int x2), (3, .int x3), (4, .int x4)] [] (ix_w z d)) {d : ix_D2} (h : f_X12_raise_83 n z rec7 a0 x1 x2 x3 x4 d = some (r, d1)) : ix_G p l e (ix_rm 0 0 0 0) s m args below meth c (MQ below (ix_Post K (some (.int r)) (ix_w z d1)) args s 0 0 (ix_A K)) K 5 0 0 83 [(0, .ref (K.2.2.1 + a0)), (1, .int x1), (2, .int x2), (3, .int x3), (4, .int x4)] [] (ix_w z d) := by
  unfold f_X12_raise_83 at h
  obtain ⟨x4_37, e_38, h⟩ := ix_lt_ex h
  refine ix_iinc (i := 4) (j := 4) (v := x4_37) (L1 := [(4, .int x4_37), (0, .ref (K.2.2.1 + a0)), (1, .int x1), (2, .int x2), (3, .int x3)]) X (ix_tb_at tb_X12_raise 50 rfl) rfl (by rw [oi_1]; exact e_38.symm) (Nat.le_of_ble_eq_true rfl) rfl (pc1 := 86) rfl ?_
  refine ix_goto (tgt := 7) X (ix_tb_at tb_X12_raise 51 rfl) (by decide) ?_
  refine ix_sub (L1 := [(0, .ref (K.2.2.1 + a0)), (1, .int x1), (2, .int x2), (3, .int x3), (4, .int x4_37)]) [1, 2, 3, 4, 0] rfl ?_
  exact hrec7 x2 x3 x4_37 d h
set_option maxRecDepth 20000 in
theorem t_X12_raise_82 {l : Launch} {p : Program} {e : Env} {s : State} {m : MethodId} {args : Array Value} {below : List Frame} {meth : Method} {c : Code} {K : ix_Cx} (hKp : ix_Kp K) {n : Nat} {z : ix_Z} (X : ix_X p s m args c K cX12_raise RX12 5) (hr : meth.sig.returnType = (some .int)) (hlk : meth.locks = false) {rec7 : Int32 → Int32 → Int32 → ix_D2 → Option (Int32 × ix_D2)} {a0 : Nat} {x1 : Int32} {x2 : Int32} {x4 : Int32} {s0 : Int32} {r : Int32} {d1 : ix_D2} (hrec7 : ∀ (x2 : Int32) (x3 : Int32) (x4 : Int32) (d : ix_D2), rec7 x2 x3 x4 d = some (r, d1) → ix_G p l e (ix_rm 0 0 0 0) s m args below meth c (MQ below (ix_Post K (some (.int r)) (ix_w z d1)) args s 0 0 (ix_A K)) K 5 0 0 7 [(0, .ref (K.2.2.1 + a0)), (1, .int x1), (2, .int x2), (3, .int x3), (4, .int x4)] [] (ix_w z d)) {d : ix_D2} (h : f_X12_raise_82 n z rec7 a0 x1 x2 x4 s0 d = some (r, d1)) : ix_G p l e (ix_rm 0 0 0 0) s m args below meth c (MQ below (ix_Post K (some (.int r)) (ix_w z d1)) args s 0 0 (ix_A K)) K 5 0 0 82 [(0, .ref (K.2.2.1 + a0)), (1, .int x1), (2, .int x2), (4, .int x4)] [.int s0] (ix_w z d) := by
  unfold f_X12_raise_82 at h
  refine ix_istore_n (i := 3) (L1 := [(3, .int s0), (0, .ref (K.2.2.1 + a0)), (1, .int x1), (2, .int x2), (4, .int x4)]) X (ix_tb_at tb_X12_raise 49 rfl) rfl (Nat.le_of_ble_eq_true rfl) rfl (pc1 := 83) rfl ?_
  refine ix_sub (L1 := [(0, .ref (K.2.2.1 + a0)), (1, .int x1), (2, .int x2), (3, .int s0), (4, .int x4)]) [1, 2, 3, 0, 4] rfl ?_
  exact t_X12_raise_83 hKp X hr hlk hrec7 h
set_option maxRecDepth 20000 in
theorem t_X12_raise_77 {l : Launch} {p : Program} {e : Env} {s : State} {m : MethodId} {args : Array Value} {below : List Frame} {meth : Method} {c : Code} {K : ix_Cx} (hKp : ix_Kp K) {n : Nat} {z : ix_Z} (X : ix_X p s m args c K cX12_raise RX12 5) (hr : meth.sig.returnType = (some .int)) (hlk : meth.locks = false) {rec7 : Int32 → Int32 → Int32 → ix_D2 → Option (Int32 × ix_D2)} {a0 : Nat} {x1 : Int32} {x2 : Int32} {x4 : Int32} {r : Int32} {d1 : ix_D2} (hrec7 : ∀ (x2 : Int32) (x3 : Int32) (x4 : Int32) (d : ix_D2), rec7 x2 x3 x4 d = some (r, d1) → ix_G p l e (ix_rm 0 0 0 0) s m args below meth c (MQ below (ix_Post K (some (.int r)) (ix_w z d1)) args s 0 0 (ix_A K)) K 5 0 0 7 [(0, .ref (K.2.2.1 + a0)), (1, .int x1), (2, .int x2), (3, .int x3), (4, .int x4)] [] (ix_w z d)) {d : ix_D2} (h : f_X12_raise_77 n z rec7 a0 x1 x2 x4 d = some (r, d1)) : ix_G p l e (ix_rm 0 0 0 0) s m args below meth c (MQ below (ix_Post K (some (.int r)) (ix_w z d1)) args s 0 0 (ix_A K)) K 5 0 0 77 [(0, .ref (K.2.2.1 + a0)), (1, .int x1), (2, .int x2), (4, .int x4)] [] (ix_w z d) := by
  unfold f_X12_raise_77 at h
  refine ix_iconst (v := 1) X (ix_tb_at tb_X12_raise 46 rfl) (by decide) (pc1 := 78) rfl ?_
  refine ix_goto (tgt := 82) X (ix_tb_at tb_X12_raise 47 rfl) (by decide) ?_
  refine ix_sub (L1 := [(0, .ref (K.2.2.1 + a0)), (1, .int x1), (2, .int x2), (4, .int x4)]) [0, 1, 2, 3] rfl ?_
  exact t_X12_raise_82 hKp X hr hlk hrec7 h
set_option maxRecDepth 20000 in
theorem tb_X12_raise_7 {l : Launch} {p : Program} {e : Env} {s : State} {m : MethodId} {args : Array Value} {below : List Frame} {meth : Method} {c : Code} {K : ix_Cx} (hKp : ix_Kp K) {n : Nat} {z : ix_Z} (X : ix_X p s m args c K cX12_raise RX12 5) (hr : meth.sig.returnType = (some .int)) (hlk : meth.locks = false)  {a0 : Nat} {x1 : Int32} {rec7 : Int32 → Int32 → Int32 → ix_D2 → Option (Int32 × ix_D2)} {r : Int32} {d1 : ix_D2} (hrec7 : ∀ (x2 : Int32) (x3 : Int32) (x4 : Int32) (d : ix_D2), rec7 x2 x3 x4 d = some (r, d1) → ix_G p l e (ix_rm 0 0 0 0) s m args below meth c (MQ below (ix_Post K (some (.int r)) (ix_w z d1)) args s 0 0 (ix_A K)) K 5 0 0 7 [(0, .ref (K.2.2.1 + a0)), (1, .int x1), (2, .int x2), (3, .int x3), (4, .int x4)] [] (ix_w z d)) {x2 : Int32} {x3 : Int32} {x4 : Int32} {d : ix_D2} (h : b_X12_raise_7 n z  a0 x1 rec7 x2 x3 x4 d = some (r, d1)) : ix_G p l e (ix_rm 0 0 0 0) s m args below meth c (MQ below (ix_Post K (some (.int r)) (ix_w z d1)) args s 0 0 (ix_A K)) K 5 0 0 7 [(0, .ref (K.2.2.1 + a0)), (1, .int x1), (2, .int x2), (3, .int x3), (4, .int x4)] [] (ix_w z d) := by
  unfold b_X12_raise_7 at h
  refine ix_iload (i := 4) (j := 4) X (ix_tb_at tb_X12_raise 6 rfl) rfl (pc1 := 9) rfl ?_
  refine ix_aload_n (i := 0) (j := 0) X (ix_tb_at tb_X12_raise 7 rfl) rfl rfl (pc1 := 10) rfl ?_
  obtain ⟨k_1, h⟩ := ix_ck_some h
  obtain ⟨b_2, q_3, h⟩ := ix_bd1_ex h
  refine iz_getR X fl_RX12_116 k_1 q_3 (ix_tb_at tb_X12_raise 8 rfl) (pc1 := 13) rfl ?_
  refine ix_iload_n (i := 1) (j := 1) X (ix_tb_at tb_X12_raise 9 rfl) rfl rfl (pc1 := 14) rfl ?_
  obtain ⟨k_4, h⟩ := ix_ck_some h
  refine iz_iald X k_4 (ix_tb_at tb_X12_raise 10 rfl) (pc1 := 15) rfl ?_
  refine ix_icmp_gt (tgt := 89) X (ix_tb_at tb_X12_raise 11 rfl) (by decide) (pc1 := 18) rfl (fun q_5 => ?_) (fun q_5 => ?_)
  · have h := ix_ift q_5 h
    refine ix_aload_n (i := 0) (j := 0) X (ix_tb_at tb_X12_raise 52 rfl) rfl rfl (pc1 := 90) rfl ?_
    obtain ⟨b_6, q_7, h⟩ := ix_bd1_ex h
    refine iz_getR X fl_RX12_150 k_1 q_7 (ix_tb_at tb_X12_raise 53 rfl) (pc1 := 93) rfl ?_
    refine ix_iload_n (i := 1) (j := 1) X (ix_tb_at tb_X12_raise 54 rfl) rfl rfl (pc1 := 94) rfl ?_
    refine ix_dup2 X (ix_tb_at tb_X12_raise 55 rfl) rfl rfl (pc1 := 95) rfl ?_
    obtain ⟨k_8, h⟩ := ix_ck_some h
    refine iz_lald X k_8 (ix_tb_at tb_X12_raise 56 rfl) (pc1 := 96) rfl ?_
    refine ix_aload_n (i := 0) (j := 0) X (ix_tb_at tb_X12_raise 57 rfl) rfl rfl (pc1 := 97) rfl ?_
    refine iz_getR X fl_RX12_150 k_1 q_7 (ix_tb_at tb_X12_raise 58 rfl) (pc1 := 100) rfl ?_
    refine ix_iload_n (i := 1) (j := 1) X (ix_tb_at tb_X12_raise 59 rfl) rfl rfl (pc1 := 101) rfl ?_
    refine iz_lald X k_8 (ix_tb_at tb_X12_raise 60 rfl) (pc1 := 102) rfl ?_
    refine ix_ldc2 (pl := 2292) (v := 8) X (ix_tb_at tb_X12_raise 61 rfl) (by decide +kernel) (pc1 := 105) rfl ?_
    refine ix_ldiv X (ix_tb_at tb_X12_raise 62 rfl) (by decide) (pc1 := 106) rfl ?_
    refine ix_ladd X (ix_tb_at tb_X12_raise 63 rfl) (pc1 := 107) rfl ?_
    obtain ⟨d_9, e_10, h⟩ := ix_lt_ex h
    refine iz_last X k_8 (ix_tb_at tb_X12_raise 64 rfl) e_10 (pc1 := 108) rfl ?_
    refine ix_iload_n (i := 3) (j := 3) X (ix_tb_at tb_X12_raise 65 rfl) rfl rfl (pc1 := 109) rfl ?_
    refine ix_if_eq (tgt := 205) X (ix_tb_at tb_X12_raise 66 rfl) (by decide) (pc1 := 112) rfl (fun q_11 => ?_) (fun q_11 => ?_)
    · have h := ix_ift q_11 h
      refine ix_iload_n (i := 2) (j := 2) X (ix_tb_at tb_X12_raise 122 rfl) rfl rfl (pc1 := 206) rfl ?_
      exact ix_iret X hr hlk (ix_r2 (f := fun r => some (.int r)) (g := ix_w z) h) (ix_tb_at tb_X12_raise 123 rfl)
    · have h := ix_iff q_11 h
      refine ix_iconst (v := 1) X (ix_tb_at tb_X12_raise 67 rfl) (by decide) (pc1 := 113) rfl ?_
      refine ix_istore (i := 4) (L1 := [(4, .int 1), (0, .ref (K.2.2.1 + a0)), (1, .int x1), (2, .int x2), (3, .int x3)]) X (ix_tb_at tb_X12_raise 68 rfl) (Nat.le_of_ble_eq_true rfl) rfl (pc1 := 115) rfl ?_
      refine ix_sub (L1 := [(0, .ref (K.2.2.1 + a0)), (1, .int x1), (2, .int x2), (4, .int 1)]) [1, 2, 3, 0] rfl ?_
      exact t_X12_raise_115 hKp X hr hlk  h
  · have h := ix_iff q_5 h
    refine ix_aload_n (i := 0) (j := 0) X (ix_tb_at tb_X12_raise 12 rfl) rfl rfl (pc1 := 19) rfl ?_
    obtain ⟨b_33, q_34, h⟩ := ix_bd1_ex h
    refine iz_getR X fl_RX12_213 k_1 q_34 (ix_tb_at tb_X12_raise 13 rfl) (pc1 := 22) rfl ?_
    refine ix_iload (i := 4) (j := 4) X (ix_tb_at tb_X12_raise 14 rfl) rfl (pc1 := 24) rfl ?_
    obtain ⟨k_35, h⟩ := ix_ck_some h
    refine iz_zald X k_35 (ix_tb_at tb_X12_raise 15 rfl) (pc1 := 25) rfl ?_
    refine ix_if_eq (tgt := 83) X (ix_tb_at tb_X12_raise 16 rfl) (by decide) (pc1 := 28) rfl (fun q_36 => ?_) (fun q_36 => ?_)
    · have h := ix_ift q_36 h
      refine ix_sub (L1 := [(0, .ref (K.2.2.1 + a0)), (1, .int x1), (2, .int x2), (3, .int x3), (4, .int x4)]) [0, 1, 2, 3, 4] rfl ?_
      exact t_X12_raise_83 hKp X hr hlk hrec7 h
    · have h := ix_iff q_36 h
      refine ix_aload_n (i := 0) (j := 0) X (ix_tb_at tb_X12_raise 17 rfl) rfl rfl (pc1 := 29) rfl ?_
      obtain ⟨b_39, q_40, h⟩ := ix_bd1_ex h
      refine iz_getR X fl_RX12_146 k_1 q_40 (ix_tb_at tb_X12_raise 18 rfl) (pc1 := 32) rfl ?_
      refine ix_sipush (v := 301) X (ix_tb_at tb_X12_raise 19 rfl) (by decide) (pc1 := 35) rfl ?_
      refine ix_iload_n (i := 1) (j := 1) X (ix_tb_at tb_X12_raise 20 rfl) rfl rfl (pc1 := 36) rfl ?_
      refine ix_imul X (ix_tb_at tb_X12_raise 21 rfl) (pc1 := 37) rfl ?_
      refine ix_iload (i := 4) (j := 4) X (ix_tb_at tb_X12_raise 22 rfl) rfl (pc1 := 39) rfl ?_
      refine ix_iadd X (ix_tb_at tb_X12_raise 23 rfl) (pc1 := 40) rfl ?_
      refine ix_dup2 X (ix_tb_at tb_X12_raise 24 rfl) rfl rfl (pc1 := 41) rfl ?_
      obtain ⟨k_41, h⟩ := ix_ck_some h
      refine iz_lald X k_41 (ix_tb_at tb_X12_raise 25 rfl) (pc1 := 42) rfl ?_
      refine ix_aload_n (i := 0) (j := 0) X (ix_tb_at tb_X12_raise 26 rfl) rfl rfl (pc1 := 43) rfl ?_
      obtain ⟨b_42, q_43, h⟩ := ix_bd1_ex h
      refine iz_getR X fl_RX12_150 k_1 q_43 (ix_tb_at tb_X12_raise 27 rfl) (pc1 := 46) rfl ?_
      refine ix_iload_n (i := 1) (j := 1) X (ix_tb_at tb_X12_raise 28 rfl) rfl rfl (pc1 := 47) rfl ?_
      obtain ⟨k_44, h⟩ := ix_ck_some h
      refine iz_lald X k_44 (ix_tb_at tb_X12_raise 29 rfl) (pc1 := 48) rfl ?_
      refine ix_ladd X (ix_tb_at tb_X12_raise 30 rfl) (pc1 := 49) rfl ?_
      obtain ⟨d_45, e_46, h⟩ := ix_lt_ex h
      refine iz_last X k_41 (ix_tb_at tb_X12_raise 31 rfl) e_46 (pc1 := 50) rfl ?_
      obtain ⟨x2_47, e_48, h⟩ := ix_lt_ex h
      refine ix_iinc (i := 2) (j := 2) (v := x2_47) (L1 := [(2, .int x2_47), (0, .ref (K.2.2.1 + a0)), (1, .int x1), (3, .int x3), (4, .int x4)]) X (ix_tb_at tb_X12_raise 32 rfl) rfl (by rw [oi_1]; exact e_48.symm) (Nat.le_of_ble_eq_true rfl) rfl (pc1 := 53) rfl ?_
      refine ix_iload_n (i := 3) (j := 3) X (ix_tb_at tb_X12_raise 33 rfl) rfl rfl (pc1 := 54) rfl ?_
      refine ix_if_ne (tgt := 77) X (ix_tb_at tb_X12_raise 34 rfl) (by decide) (pc1 := 57) rfl (fun q_49 => ?_) (fun q_49 => ?_)
      · have h := ix_iff q_49 h
        refine ix_sub (L1 := [(0, .ref (K.2.2.1 + a0)), (1, .int x1), (2, .int x2_47), (4, .int x4)]) [1, 2, 0, 4] rfl ?_
        exact t_X12_raise_77 hKp X hr hlk hrec7 h
      · have h := ix_ift q_49 h
        refine ix_aload_n (i := 0) (j := 1) X (ix_tb_at tb_X12_raise 35 rfl) rfl rfl (pc1 := 58) rfl ?_
        refine iz_getR X fl_RX12_146 k_1 q_40 (ix_tb_at tb_X12_raise 36 rfl) (pc1 := 61) rfl ?_
        refine ix_sipush (v := 301) X (ix_tb_at tb_X12_raise 37 rfl) (by decide) (pc1 := 64) rfl ?_
        refine ix_iload_n (i := 1) (j := 2) X (ix_tb_at tb_X12_raise 38 rfl) rfl rfl (pc1 := 65) rfl ?_
        refine ix_imul X (ix_tb_at tb_X12_raise 39 rfl) (pc1 := 66) rfl ?_
        refine ix_iload (i := 4) (j := 4) X (ix_tb_at tb_X12_raise 40 rfl) rfl (pc1 := 68) rfl ?_
        refine ix_iadd X (ix_tb_at tb_X12_raise 41 rfl) (pc1 := 69) rfl ?_
        refine iz_lald X k_41 (ix_tb_at tb_X12_raise 42 rfl) (pc1 := 70) rfl ?_
        refine ix_ldc2 (pl := 2291) (v := 1000000000000) X (ix_tb_at tb_X12_raise 43 rfl) (by decide +kernel) (pc1 := 73) rfl ?_
        refine ix_lcmp X (ix_tb_at tb_X12_raise 44 rfl) (pc1 := 74) rfl ?_
        refine ix_if_le (tgt := 81) X (ix_tb_at tb_X12_raise 45 rfl) (by decide) (pc1 := 77) rfl (fun q_50 => ?_) (fun q_50 => ?_)
        · have h := ix_ift q_50 h
          refine ix_iconst (v := 0) X (ix_tb_at tb_X12_raise 48 rfl) (by decide) (pc1 := 82) rfl ?_
          refine ix_sub (L1 := [(0, .ref (K.2.2.1 + a0)), (1, .int x1), (2, .int x2_47), (4, .int x4)]) [1, 2, 0, 4] rfl ?_
          exact t_X12_raise_82 hKp X hr hlk hrec7 h
        · have h := ix_iff q_50 h
          refine ix_sub (L1 := [(0, .ref (K.2.2.1 + a0)), (1, .int x1), (2, .int x2_47), (4, .int x4)]) [1, 2, 0, 4] rfl ?_
          exact t_X12_raise_77 hKp X hr hlk hrec7 h
theorem t_X12_raise_7 {l : Launch} {p : Program} {e : Env} {s : State} {m : MethodId} {args : Array Value} {below : List Frame} {meth : Method} {c : Code} {K : ix_Cx} (hKp : ix_Kp K) {n : Nat} {z : ix_Z} (X : ix_X p s m args c K cX12_raise RX12 5) (hr : meth.sig.returnType = (some .int)) (hlk : meth.locks = false)  {a0 : Nat} {x1 : Int32} {r : Int32} {d1 : ix_D2}  {x2 : Int32} {x3 : Int32} {x4 : Int32} {d : ix_D2} (h : f_X12_raise_7 n z  a0 x1 x2 x3 x4 d = some (r, d1)) : ix_G p l e (ix_rm 0 0 0 0) s m args below meth c (MQ below (ix_Post K (some (.int r)) (ix_w z d1)) args s 0 0 (ix_A K)) K 5 0 0 7 [(0, .ref (K.2.2.1 + a0)), (1, .int x1), (2, .int x2), (3, .int x3), (4, .int x4)] [] (ix_w z d) := by
  have key : ∀ (f : Nat) (x2 : Int32) (x3 : Int32) (x4 : Int32) (d : ix_D2), ix_fix (b_X12_raise_7 n z  a0 x1) (fun _ _ _ _ => none) f x2 x3 x4 d = some (r, d1) → ix_G p l e (ix_rm 0 0 0 0) s m args below meth c (MQ below (ix_Post K (some (.int r)) (ix_w z d1)) args s 0 0 (ix_A K)) K 5 0 0 7 [(0, .ref (K.2.2.1 + a0)), (1, .int x1), (2, .int x2), (3, .int x3), (4, .int x4)] [] (ix_w z d) := by
    intro f
    induction f with
    | zero =>
      intro x2 x3 x4 d h
      have h : (none : Option (Int32 × ix_D2)) = some (r, d1) := h
      cases h
    | succ f ih =>
      intro x2 x3 x4 d h
      exact tb_X12_raise_7 hKp X hr hlk (rec7 := ix_fix (b_X12_raise_7 n z  a0 x1) (fun _ _ _ _ => none) f)  ih h
  exact key n x2 x3 x4 d h
set_option maxRecDepth 20000 in
theorem c_X12_raise {l : Launch} {K : ix_Cx} (hKp : ix_Kp K) {n : Nat} {z : ix_Z} {a0 : Nat} {x1 : Int32} {d : ix_D2} {r : Int32} {d1 : ix_D2} (h : f_X12_raise n z a0 x1 d = some (r, d1)) : ix_M l K yX12_raise cX12_raise 5 (some .int) 0 0 0 0 [.ref (K.2.2.1 + a0), .int x1] (ix_w z d) (some (.int r)) (ix_w z d1) := by
  refine ix_met mf_X12_raise hKp (Nat.le_of_ble_eq_true rfl) ?_
  intro p e s m args below meth c hr hlk hnm X
  have X : ix_X p s m args c K cX12_raise RX12 5 := X
  show ix_G p l e (ix_rm 0 0 0 0) s m args below meth c (MQ below (ix_Post K (some (.int r)) (ix_w z d1)) args s 0 0 (ix_A K)) K 5 0 0 0 [(0, .ref (K.2.2.1 + a0)), (1, .int x1)] [] (ix_w z d)
  unfold f_X12_raise at h
  refine ix_iconst (v := 0) X (ix_tb_at tb_X12_raise 0 rfl) (by decide) (pc1 := 1) rfl ?_
  refine ix_istore_n (i := 2) (L1 := [(2, .int 0), (0, .ref (K.2.2.1 + a0)), (1, .int x1)]) X (ix_tb_at tb_X12_raise 1 rfl) rfl (Nat.le_of_ble_eq_true rfl) rfl (pc1 := 2) rfl ?_
  refine ix_iconst (v := 0) X (ix_tb_at tb_X12_raise 2 rfl) (by decide) (pc1 := 3) rfl ?_
  refine ix_istore_n (i := 3) (L1 := [(3, .int 0), (2, .int 0), (0, .ref (K.2.2.1 + a0)), (1, .int x1)]) X (ix_tb_at tb_X12_raise 3 rfl) rfl (Nat.le_of_ble_eq_true rfl) rfl (pc1 := 4) rfl ?_
  refine ix_iconst (v := 1) X (ix_tb_at tb_X12_raise 4 rfl) (by decide) (pc1 := 5) rfl ?_
  refine ix_istore (i := 4) (L1 := [(4, .int 1), (3, .int 0), (2, .int 0), (0, .ref (K.2.2.1 + a0)), (1, .int x1)]) X (ix_tb_at tb_X12_raise 5 rfl) (Nat.le_of_ble_eq_true rfl) rfl (pc1 := 7) rfl ?_
  refine ix_sub (L1 := [(0, .ref (K.2.2.1 + a0)), (1, .int x1), (2, .int 0), (3, .int 0), (4, .int 1)]) [3, 4, 2, 1, 0] rfl ?_
  exact t_X12_raise_7 hKp X hr hlk  h
def tab_X12_partOfRow : List (Nat × Instr × Nat) := [(0, .iload_n 0, 1), (1, .istore_n 1, 1), (2, .iconst 0, 1), (3, .istore_n 2, 1), (4, .iload_n 2, 1), (5, .iload_n 1, 1), (6, .if_icmp .eq 37, 3), (9, .iconst 1, 1), (10, .istore_n 2, 1), (11, .iload_n 2, 1), (12, .iload_n 1, 1), (13, .if_icmp .ge 12, 3), (16, .iconst 2, 1), (17, .iload_n 2, 1), (18, .imul, 1), (19, .iconst 1, 1), (20, .iadd, 1), (21, .istore_n 2, 1), (22, .goto (-11), 3), (25, .iload_n 2, 1), (26, .iload_n 1, 1), (27, .if_icmp .eq (-23), 3), (30, .iload_n 1, 1), (31, .iload_n 2, 1), (32, .iconst 1, 1), (33, .isub, 1), (34, .iconst 2, 1), (35, .idiv, 1), (36, .isub, 1), (37, .istore_n 1, 1), (38, .iconst 0, 1), (39, .istore_n 2, 1), (40, .goto (-36), 3), (43, .iload_n 2, 1), (44, .iconst 1, 1), (45, .iadd, 1), (46, .iconst 2, 1), (47, .idiv, 1), (48, .ireturn, 1)]
theorem tb_X12_partOfRow : ix_tab cX12_partOfRow tab_X12_partOfRow := by
  unfold ix_tab
  decide +kernel
noncomputable def b_X12_partOfRow_11 (n : Nat) (z : ix_Z) (rec4 : Int32 → Int32 → ix_D2 → Option (Int32 × ix_D2)) (x1 : Int32) (rec11 : Int32 → ix_D2 → Option (Int32 × ix_D2)) (x2 : Int32) (d : ix_D2) : Option (Int32 × ix_D2) :=
  ix_if (x1 ≤ x2) (ix_if (x2 = x1) (rec4 x1 x2 d) (ix_lt (x1 - ((x2 - 1) / 2)) (fun x1_4 => rec4 x1_4 0 d))) (ix_lt ((2 * x2) + 1) (fun x2_6 => rec11 x2_6 d))
noncomputable def f_X12_partOfRow_11 (n : Nat) (z : ix_Z) (rec4 : Int32 → Int32 → ix_D2 → Option (Int32 × ix_D2)) (x1 : Int32) (x2 : Int32) (d : ix_D2) : Option (Int32 × ix_D2) := ix_fix (b_X12_partOfRow_11 n z rec4 x1) (fun _ _ => none) n x2 d
noncomputable def b_X12_partOfRow_4 (n : Nat) (z : ix_Z)   (rec4 : Int32 → Int32 → ix_D2 → Option (Int32 × ix_D2)) (x1 : Int32) (x2 : Int32) (d : ix_D2) : Option (Int32 × ix_D2) :=
  ix_if (x2 = x1) (some ((x2 + 1) / 2, d)) (f_X12_partOfRow_11 n z rec4 x1 1 d)
noncomputable def f_X12_partOfRow_4 (n : Nat) (z : ix_Z)   (x1 : Int32) (x2 : Int32) (d : ix_D2) : Option (Int32 × ix_D2) := ix_fix (b_X12_partOfRow_4 n z  ) (fun _ _ _ => none) n x1 x2 d
noncomputable def f_X12_partOfRow (n : Nat) (z : ix_Z) (x0 : Int32) (d : ix_D2) : Option (Int32 × ix_D2) :=
  f_X12_partOfRow_4 n z   x0 0 d
set_option maxRecDepth 20000 in
theorem tb_X12_partOfRow_11 {l : Launch} {p : Program} {e : Env} {s : State} {m : MethodId} {args : Array Value} {below : List Frame} {meth : Method} {c : Code} {K : ix_Cx} (hKp : ix_Kp K) {n : Nat} {z : ix_Z} (X : ix_X p s m args c K cX12_partOfRow RX12 3) (hr : meth.sig.returnType = (some .int)) (hlk : meth.locks = false) {rec4 : Int32 → Int32 → ix_D2 → Option (Int32 × ix_D2)} {x1 : Int32} {rec11 : Int32 → ix_D2 → Option (Int32 × ix_D2)} {r : Int32} {d1 : ix_D2} (hrec4 : ∀ (x1 : Int32) (x2 : Int32) (d : ix_D2), rec4 x1 x2 d = some (r, d1) → ix_G p l e (ix_rm 0 0 0 0) s m args below meth c (MQ below (ix_Post K (some (.int r)) (ix_w z d1)) args s 0 0 (ix_A K)) K 3 0 0 4 [(1, .int x1), (2, .int x2)] [] (ix_w z d)) (hrec11 : ∀ (x2 : Int32) (d : ix_D2), rec11 x2 d = some (r, d1) → ix_G p l e (ix_rm 0 0 0 0) s m args below meth c (MQ below (ix_Post K (some (.int r)) (ix_w z d1)) args s 0 0 (ix_A K)) K 3 0 0 11 [(1, .int x1), (2, .int x2)] [] (ix_w z d)) {x2 : Int32} {d : ix_D2} (h : b_X12_partOfRow_11 n z rec4 x1 rec11 x2 d = some (r, d1)) : ix_G p l e (ix_rm 0 0 0 0) s m args below meth c (MQ below (ix_Post K (some (.int r)) (ix_w z d1)) args s 0 0 (ix_A K)) K 3 0 0 11 [(1, .int x1), (2, .int x2)] [] (ix_w z d) := by
  unfold b_X12_partOfRow_11 at h
  refine ix_iload_n (i := 2) (j := 1) X (ix_tb_at tb_X12_partOfRow 9 rfl) rfl rfl (pc1 := 12) rfl ?_
  refine ix_iload_n (i := 1) (j := 0) X (ix_tb_at tb_X12_partOfRow 10 rfl) rfl rfl (pc1 := 13) rfl ?_
  refine ix_icmp_ge (tgt := 25) X (ix_tb_at tb_X12_partOfRow 11 rfl) (by decide) (pc1 := 16) rfl (fun q_2 => ?_) (fun q_2 => ?_)
  · have h := ix_ift q_2 h
    refine ix_iload_n (i := 2) (j := 1) X (ix_tb_at tb_X12_partOfRow 19 rfl) rfl rfl (pc1 := 26) rfl ?_
    refine ix_iload_n (i := 1) (j := 0) X (ix_tb_at tb_X12_partOfRow 20 rfl) rfl rfl (pc1 := 27) rfl ?_
    refine ix_icmp_eq (tgt := 4) X (ix_tb_at tb_X12_partOfRow 21 rfl) (by decide) (pc1 := 30) rfl (fun q_3 => ?_) (fun q_3 => ?_)
    · have h := ix_ift q_3 h
      refine ix_sub (L1 := [(1, .int x1), (2, .int x2)]) [0, 1] rfl ?_
      exact hrec4 x1 x2 d h
    · have h := ix_iff q_3 h
      refine ix_iload_n (i := 1) (j := 0) X (ix_tb_at tb_X12_partOfRow 22 rfl) rfl rfl (pc1 := 31) rfl ?_
      refine ix_iload_n (i := 2) (j := 1) X (ix_tb_at tb_X12_partOfRow 23 rfl) rfl rfl (pc1 := 32) rfl ?_
      refine ix_iconst (v := 1) X (ix_tb_at tb_X12_partOfRow 24 rfl) (by decide) (pc1 := 33) rfl ?_
      refine ix_isub X (ix_tb_at tb_X12_partOfRow 25 rfl) (pc1 := 34) rfl ?_
      refine ix_iconst (v := 2) X (ix_tb_at tb_X12_partOfRow 26 rfl) (by decide) (pc1 := 35) rfl ?_
      refine ix_idiv X (ix_tb_at tb_X12_partOfRow 27 rfl) (by decide) (pc1 := 36) rfl ?_
      refine ix_isub X (ix_tb_at tb_X12_partOfRow 28 rfl) (pc1 := 37) rfl ?_
      obtain ⟨x1_4, e_5, h⟩ := ix_lt_ex h
      refine ix_nmi e_5 ?_
      refine ix_istore_n (i := 1) (L1 := [(1, .int x1_4), (2, .int x2)]) X (ix_tb_at tb_X12_partOfRow 29 rfl) rfl (Nat.le_of_ble_eq_true rfl) rfl (pc1 := 38) rfl ?_
      refine ix_iconst (v := 0) X (ix_tb_at tb_X12_partOfRow 30 rfl) (by decide) (pc1 := 39) rfl ?_
      refine ix_istore_n (i := 2) (L1 := [(2, .int 0), (1, .int x1_4)]) X (ix_tb_at tb_X12_partOfRow 31 rfl) rfl (Nat.le_of_ble_eq_true rfl) rfl (pc1 := 40) rfl ?_
      refine ix_goto (tgt := 4) X (ix_tb_at tb_X12_partOfRow 32 rfl) (by decide) ?_
      refine ix_sub (L1 := [(1, .int x1_4), (2, .int 0)]) [1, 0] rfl ?_
      exact hrec4 x1_4 0 d h
  · have h := ix_iff q_2 h
    refine ix_iconst (v := 2) X (ix_tb_at tb_X12_partOfRow 12 rfl) (by decide) (pc1 := 17) rfl ?_
    refine ix_iload_n (i := 2) (j := 1) X (ix_tb_at tb_X12_partOfRow 13 rfl) rfl rfl (pc1 := 18) rfl ?_
    refine ix_imul X (ix_tb_at tb_X12_partOfRow 14 rfl) (pc1 := 19) rfl ?_
    refine ix_iconst (v := 1) X (ix_tb_at tb_X12_partOfRow 15 rfl) (by decide) (pc1 := 20) rfl ?_
    refine ix_iadd X (ix_tb_at tb_X12_partOfRow 16 rfl) (pc1 := 21) rfl ?_
    obtain ⟨x2_6, e_7, h⟩ := ix_lt_ex h
    refine ix_nmi e_7 ?_
    refine ix_istore_n (i := 2) (L1 := [(2, .int x2_6), (1, .int x1)]) X (ix_tb_at tb_X12_partOfRow 17 rfl) rfl (Nat.le_of_ble_eq_true rfl) rfl (pc1 := 22) rfl ?_
    refine ix_goto (tgt := 11) X (ix_tb_at tb_X12_partOfRow 18 rfl) (by decide) ?_
    refine ix_sub (L1 := [(1, .int x1), (2, .int x2_6)]) [1, 0] rfl ?_
    exact hrec11 x2_6 d h
theorem t_X12_partOfRow_11 {l : Launch} {p : Program} {e : Env} {s : State} {m : MethodId} {args : Array Value} {below : List Frame} {meth : Method} {c : Code} {K : ix_Cx} (hKp : ix_Kp K) {n : Nat} {z : ix_Z} (X : ix_X p s m args c K cX12_partOfRow RX12 3) (hr : meth.sig.returnType = (some .int)) (hlk : meth.locks = false) {rec4 : Int32 → Int32 → ix_D2 → Option (Int32 × ix_D2)} {x1 : Int32} {r : Int32} {d1 : ix_D2} (hrec4 : ∀ (x1 : Int32) (x2 : Int32) (d : ix_D2), rec4 x1 x2 d = some (r, d1) → ix_G p l e (ix_rm 0 0 0 0) s m args below meth c (MQ below (ix_Post K (some (.int r)) (ix_w z d1)) args s 0 0 (ix_A K)) K 3 0 0 4 [(1, .int x1), (2, .int x2)] [] (ix_w z d)) {x2 : Int32} {d : ix_D2} (h : f_X12_partOfRow_11 n z rec4 x1 x2 d = some (r, d1)) : ix_G p l e (ix_rm 0 0 0 0) s m args below meth c (MQ below (ix_Post K (some (.int r)) (ix_w z d1)) args s 0 0 (ix_A K)) K 3 0 0 11 [(1, .int x1), (2, .int x2)] [] (ix_w z d) := by
  have key : ∀ (f : Nat) (x2 : Int32) (d : ix_D2), ix_fix (b_X12_partOfRow_11 n z rec4 x1) (fun _ _ => none) f x2 d = some (r, d1) → ix_G p l e (ix_rm 0 0 0 0) s m args below meth c (MQ below (ix_Post K (some (.int r)) (ix_w z d1)) args s 0 0 (ix_A K)) K 3 0 0 11 [(1, .int x1), (2, .int x2)] [] (ix_w z d) := by
    intro f
    induction f with
    | zero =>
      intro x2 d h
      have h : (none : Option (Int32 × ix_D2)) = some (r, d1) := h
      cases h
    | succ f ih =>
      intro x2 d h
      exact tb_X12_partOfRow_11 hKp X hr hlk (rec11 := ix_fix (b_X12_partOfRow_11 n z rec4 x1) (fun _ _ => none) f) hrec4 ih h
  exact key n x2 d h
set_option maxRecDepth 20000 in
theorem tb_X12_partOfRow_4 {l : Launch} {p : Program} {e : Env} {s : State} {m : MethodId} {args : Array Value} {below : List Frame} {meth : Method} {c : Code} {K : ix_Cx} (hKp : ix_Kp K) {n : Nat} {z : ix_Z} (X : ix_X p s m args c K cX12_partOfRow RX12 3) (hr : meth.sig.returnType = (some .int)) (hlk : meth.locks = false)   {rec4 : Int32 → Int32 → ix_D2 → Option (Int32 × ix_D2)} {r : Int32} {d1 : ix_D2} (hrec4 : ∀ (x1 : Int32) (x2 : Int32) (d : ix_D2), rec4 x1 x2 d = some (r, d1) → ix_G p l e (ix_rm 0 0 0 0) s m args below meth c (MQ below (ix_Post K (some (.int r)) (ix_w z d1)) args s 0 0 (ix_A K)) K 3 0 0 4 [(1, .int x1), (2, .int x2)] [] (ix_w z d)) {x1 : Int32} {x2 : Int32} {d : ix_D2} (h : b_X12_partOfRow_4 n z   rec4 x1 x2 d = some (r, d1)) : ix_G p l e (ix_rm 0 0 0 0) s m args below meth c (MQ below (ix_Post K (some (.int r)) (ix_w z d1)) args s 0 0 (ix_A K)) K 3 0 0 4 [(1, .int x1), (2, .int x2)] [] (ix_w z d) := by
  unfold b_X12_partOfRow_4 at h
  refine ix_iload_n (i := 2) (j := 1) X (ix_tb_at tb_X12_partOfRow 4 rfl) rfl rfl (pc1 := 5) rfl ?_
  refine ix_iload_n (i := 1) (j := 0) X (ix_tb_at tb_X12_partOfRow 5 rfl) rfl rfl (pc1 := 6) rfl ?_
  refine ix_icmp_eq (tgt := 43) X (ix_tb_at tb_X12_partOfRow 6 rfl) (by decide) (pc1 := 9) rfl (fun q_1 => ?_) (fun q_1 => ?_)
  · have h := ix_ift q_1 h
    refine ix_iload_n (i := 2) (j := 1) X (ix_tb_at tb_X12_partOfRow 33 rfl) rfl rfl (pc1 := 44) rfl ?_
    refine ix_iconst (v := 1) X (ix_tb_at tb_X12_partOfRow 34 rfl) (by decide) (pc1 := 45) rfl ?_
    refine ix_iadd X (ix_tb_at tb_X12_partOfRow 35 rfl) (pc1 := 46) rfl ?_
    refine ix_iconst (v := 2) X (ix_tb_at tb_X12_partOfRow 36 rfl) (by decide) (pc1 := 47) rfl ?_
    refine ix_idiv X (ix_tb_at tb_X12_partOfRow 37 rfl) (by decide) (pc1 := 48) rfl ?_
    exact ix_iret X hr hlk (ix_r2 (f := fun r => some (.int r)) (g := ix_w z) h) (ix_tb_at tb_X12_partOfRow 38 rfl)
  · have h := ix_iff q_1 h
    refine ix_iconst (v := 1) X (ix_tb_at tb_X12_partOfRow 7 rfl) (by decide) (pc1 := 10) rfl ?_
    refine ix_istore_n (i := 2) (L1 := [(2, .int 1), (1, .int x1)]) X (ix_tb_at tb_X12_partOfRow 8 rfl) rfl (Nat.le_of_ble_eq_true rfl) rfl (pc1 := 11) rfl ?_
    refine ix_sub (L1 := [(1, .int x1), (2, .int 1)]) [1, 0] rfl ?_
    exact t_X12_partOfRow_11 hKp X hr hlk hrec4 h
theorem t_X12_partOfRow_4 {l : Launch} {p : Program} {e : Env} {s : State} {m : MethodId} {args : Array Value} {below : List Frame} {meth : Method} {c : Code} {K : ix_Cx} (hKp : ix_Kp K) {n : Nat} {z : ix_Z} (X : ix_X p s m args c K cX12_partOfRow RX12 3) (hr : meth.sig.returnType = (some .int)) (hlk : meth.locks = false)   {r : Int32} {d1 : ix_D2}  {x1 : Int32} {x2 : Int32} {d : ix_D2} (h : f_X12_partOfRow_4 n z   x1 x2 d = some (r, d1)) : ix_G p l e (ix_rm 0 0 0 0) s m args below meth c (MQ below (ix_Post K (some (.int r)) (ix_w z d1)) args s 0 0 (ix_A K)) K 3 0 0 4 [(1, .int x1), (2, .int x2)] [] (ix_w z d) := by
  have key : ∀ (f : Nat) (x1 : Int32) (x2 : Int32) (d : ix_D2), ix_fix (b_X12_partOfRow_4 n z  ) (fun _ _ _ => none) f x1 x2 d = some (r, d1) → ix_G p l e (ix_rm 0 0 0 0) s m args below meth c (MQ below (ix_Post K (some (.int r)) (ix_w z d1)) args s 0 0 (ix_A K)) K 3 0 0 4 [(1, .int x1), (2, .int x2)] [] (ix_w z d) := by
    intro f
    induction f with
    | zero =>
      intro x1 x2 d h
      have h : (none : Option (Int32 × ix_D2)) = some (r, d1) := h
      cases h
    | succ f ih =>
      intro x1 x2 d h
      exact tb_X12_partOfRow_4 hKp X hr hlk (rec4 := ix_fix (b_X12_partOfRow_4 n z  ) (fun _ _ _ => none) f)  ih h
  exact key n x1 x2 d h
set_option maxRecDepth 20000 in
theorem c_X12_partOfRow {l : Launch} {K : ix_Cx} (hKp : ix_Kp K) {n : Nat} {z : ix_Z} {x0 : Int32} {d : ix_D2} {r : Int32} {d1 : ix_D2} (h : f_X12_partOfRow n z x0 d = some (r, d1)) : ix_M l K yX12_partOfRow cX12_partOfRow 3 (some .int) 0 0 0 0 [.int x0] (ix_w z d) (some (.int r)) (ix_w z d1) := by
  refine ix_met mf_X12_partOfRow hKp (Nat.le_of_ble_eq_true rfl) ?_
  intro p e s m args below meth c hr hlk hnm X
  have X : ix_X p s m args c K cX12_partOfRow RX12 3 := X
  show ix_G p l e (ix_rm 0 0 0 0) s m args below meth c (MQ below (ix_Post K (some (.int r)) (ix_w z d1)) args s 0 0 (ix_A K)) K 3 0 0 0 [(0, .int x0)] [] (ix_w z d)
  unfold f_X12_partOfRow at h
  refine ix_iload_n (i := 0) (j := 0) X (ix_tb_at tb_X12_partOfRow 0 rfl) rfl rfl (pc1 := 1) rfl ?_
  refine ix_istore_n (i := 1) (L1 := [(1, .int x0), (0, .int x0)]) X (ix_tb_at tb_X12_partOfRow 1 rfl) rfl (Nat.le_of_ble_eq_true rfl) rfl (pc1 := 2) rfl ?_
  refine ix_iconst (v := 0) X (ix_tb_at tb_X12_partOfRow 2 rfl) (by decide) (pc1 := 3) rfl ?_
  refine ix_istore_n (i := 2) (L1 := [(2, .int 0), (1, .int x0), (0, .int x0)]) X (ix_tb_at tb_X12_partOfRow 3 rfl) rfl (Nat.le_of_ble_eq_true rfl) rfl (pc1 := 4) rfl ?_
  refine ix_sub (L1 := [(1, .int x0), (2, .int 0)]) [1, 0] rfl ?_
  exact t_X12_partOfRow_4 hKp X hr hlk  h
def tab_X12_thereOf : List (Nat × Instr × Nat) := [(0, .iconst 0, 1), (1, .istore_n 2, 1), (2, .iconst 0, 1), (3, .istore_n 3, 1), (4, .iload_n 3, 1), (5, .aload_n 0, 1), (6, .getfield 171, 3), (9, .iload_n 1, 1), (10, .iaload, 1), (11, .if_icmp .ge 32, 3), (14, .iload_n 2, 1), (15, .aload_n 0, 1), (16, .getfield 174, 3), (19, .sipush 800, 3), (22, .iload_n 1, 1), (23, .imul, 1), (24, .iload_n 3, 1), (25, .iadd, 1), (26, .baload, 1), (27, .ifCond .eq 7, 3), (30, .iconst 1, 1), (31, .goto 4, 3), (34, .iconst 0, 1), (35, .iadd, 1), (36, .istore_n 2, 1), (37, .iinc 3 1, 3), (40, .goto (-36), 3), (43, .iload_n 2, 1), (44, .ireturn, 1)]
theorem tb_X12_thereOf : ix_tab cX12_thereOf tab_X12_thereOf := by
  unfold ix_tab
  decide +kernel
noncomputable def f_X12_thereOf_35 (n : Nat) (z : ix_Z) (rec4 : Int32 → Int32 → ix_D2 → Option (Int32 × ix_D2)) (a0 : Nat) (x1 : Int32) (x3 : Int32) (s0 : Int32) (s1 : Int32) (d : ix_D2) : Option (Int32 × ix_D2) :=
  ix_lt (s1 + s0) (fun x2_10 => ix_lt (x3 + 1) (fun x3_12 => rec4 x2_10 x3_12 d))
noncomputable def b_X12_thereOf_4 (n : Nat) (z : ix_Z)  (a0 : Nat) (x1 : Int32) (rec4 : Int32 → Int32 → ix_D2 → Option (Int32 × ix_D2)) (x2 : Int32) (x3 : Int32) (d : ix_D2) : Option (Int32 × ix_D2) :=
  ix_ck (ix_ok z [11] a0) (ix_bd1 (z.1 a0 81) (fun b_2 => ix_ck (ix_ix z 20 b_2 x1) (ix_if (d.1 b_2 (ix_n x1) ≤ x3) (some (x2, d)) (ix_bd1 (z.1 a0 82) (fun b_6 => ix_ck (ix_ix z 22 b_6 ((800 * x1) + x3)) (ix_if (d.1 b_6 (ix_n ((800 * x1) + x3)) = 0) (f_X12_thereOf_35 n z rec4 a0 x1 x3 0 x2 d) (f_X12_thereOf_35 n z rec4 a0 x1 x3 1 x2 d)))))))
noncomputable def f_X12_thereOf_4 (n : Nat) (z : ix_Z)  (a0 : Nat) (x1 : Int32) (x2 : Int32) (x3 : Int32) (d : ix_D2) : Option (Int32 × ix_D2) := ix_fix (b_X12_thereOf_4 n z  a0 x1) (fun _ _ _ => none) n x2 x3 d
noncomputable def f_X12_thereOf (n : Nat) (z : ix_Z) (a0 : Nat) (x1 : Int32) (d : ix_D2) : Option (Int32 × ix_D2) :=
  f_X12_thereOf_4 n z  a0 x1 0 0 d
set_option maxRecDepth 20000 in
theorem t_X12_thereOf_35 {l : Launch} {p : Program} {e : Env} {s : State} {m : MethodId} {args : Array Value} {below : List Frame} {meth : Method} {c : Code} {K : ix_Cx} (hKp : ix_Kp K) {n : Nat} {z : ix_Z} (X : ix_X p s m args c K cX12_thereOf RX12 4) (hr : meth.sig.returnType = (some .int)) (hlk : meth.locks = false) {rec4 : Int32 → Int32 → ix_D2 → Option (Int32 × ix_D2)} {a0 : Nat} {x1 : Int32} {x3 : Int32} {s0 : Int32} {s1 : Int32} {r : Int32} {d1 : ix_D2} (hrec4 : ∀ (x2 : Int32) (x3 : Int32) (d : ix_D2), rec4 x2 x3 d = some (r, d1) → ix_G p l e (ix_rm 0 0 0 0) s m args below meth c (MQ below (ix_Post K (some (.int r)) (ix_w z d1)) args s 0 0 (ix_A K)) K 4 0 0 4 [(0, .ref (K.2.2.1 + a0)), (1, .int x1), (2, .int x2), (3, .int x3)] [] (ix_w z d)) {d : ix_D2} (h : f_X12_thereOf_35 n z rec4 a0 x1 x3 s0 s1 d = some (r, d1)) : ix_G p l e (ix_rm 0 0 0 0) s m args below meth c (MQ below (ix_Post K (some (.int r)) (ix_w z d1)) args s 0 0 (ix_A K)) K 4 0 0 35 [(0, .ref (K.2.2.1 + a0)), (1, .int x1), (3, .int x3)] [.int s0, .int s1] (ix_w z d) := by
  unfold f_X12_thereOf_35 at h
  refine ix_iadd X (ix_tb_at tb_X12_thereOf 23 rfl) (pc1 := 36) rfl ?_
  obtain ⟨x2_10, e_11, h⟩ := ix_lt_ex h
  refine ix_nmi e_11 ?_
  refine ix_istore_n (i := 2) (L1 := [(2, .int x2_10), (0, .ref (K.2.2.1 + a0)), (1, .int x1), (3, .int x3)]) X (ix_tb_at tb_X12_thereOf 24 rfl) rfl (Nat.le_of_ble_eq_true rfl) rfl (pc1 := 37) rfl ?_
  obtain ⟨x3_12, e_13, h⟩ := ix_lt_ex h
  refine ix_iinc (i := 3) (j := 3) (v := x3_12) (L1 := [(3, .int x3_12), (2, .int x2_10), (0, .ref (K.2.2.1 + a0)), (1, .int x1)]) X (ix_tb_at tb_X12_thereOf 25 rfl) rfl (by rw [oi_1]; exact e_13.symm) (Nat.le_of_ble_eq_true rfl) rfl (pc1 := 40) rfl ?_
  refine ix_goto (tgt := 4) X (ix_tb_at tb_X12_thereOf 26 rfl) (by decide) ?_
  refine ix_sub (L1 := [(0, .ref (K.2.2.1 + a0)), (1, .int x1), (2, .int x2_10), (3, .int x3_12)]) [2, 3, 1, 0] rfl ?_
  exact hrec4 x2_10 x3_12 d h
set_option maxRecDepth 20000 in
theorem tb_X12_thereOf_4 {l : Launch} {p : Program} {e : Env} {s : State} {m : MethodId} {args : Array Value} {below : List Frame} {meth : Method} {c : Code} {K : ix_Cx} (hKp : ix_Kp K) {n : Nat} {z : ix_Z} (X : ix_X p s m args c K cX12_thereOf RX12 4) (hr : meth.sig.returnType = (some .int)) (hlk : meth.locks = false)  {a0 : Nat} {x1 : Int32} {rec4 : Int32 → Int32 → ix_D2 → Option (Int32 × ix_D2)} {r : Int32} {d1 : ix_D2} (hrec4 : ∀ (x2 : Int32) (x3 : Int32) (d : ix_D2), rec4 x2 x3 d = some (r, d1) → ix_G p l e (ix_rm 0 0 0 0) s m args below meth c (MQ below (ix_Post K (some (.int r)) (ix_w z d1)) args s 0 0 (ix_A K)) K 4 0 0 4 [(0, .ref (K.2.2.1 + a0)), (1, .int x1), (2, .int x2), (3, .int x3)] [] (ix_w z d)) {x2 : Int32} {x3 : Int32} {d : ix_D2} (h : b_X12_thereOf_4 n z  a0 x1 rec4 x2 x3 d = some (r, d1)) : ix_G p l e (ix_rm 0 0 0 0) s m args below meth c (MQ below (ix_Post K (some (.int r)) (ix_w z d1)) args s 0 0 (ix_A K)) K 4 0 0 4 [(0, .ref (K.2.2.1 + a0)), (1, .int x1), (2, .int x2), (3, .int x3)] [] (ix_w z d) := by
  unfold b_X12_thereOf_4 at h
  refine ix_iload_n (i := 3) (j := 3) X (ix_tb_at tb_X12_thereOf 4 rfl) rfl rfl (pc1 := 5) rfl ?_
  refine ix_aload_n (i := 0) (j := 0) X (ix_tb_at tb_X12_thereOf 5 rfl) rfl rfl (pc1 := 6) rfl ?_
  obtain ⟨k_1, h⟩ := ix_ck_some h
  obtain ⟨b_2, q_3, h⟩ := ix_bd1_ex h
  refine iz_getR X fl_RX12_171 k_1 q_3 (ix_tb_at tb_X12_thereOf 6 rfl) (pc1 := 9) rfl ?_
  refine ix_iload_n (i := 1) (j := 1) X (ix_tb_at tb_X12_thereOf 7 rfl) rfl rfl (pc1 := 10) rfl ?_
  obtain ⟨k_4, h⟩ := ix_ck_some h
  refine iz_iald X k_4 (ix_tb_at tb_X12_thereOf 8 rfl) (pc1 := 11) rfl ?_
  refine ix_icmp_ge (tgt := 43) X (ix_tb_at tb_X12_thereOf 9 rfl) (by decide) (pc1 := 14) rfl (fun q_5 => ?_) (fun q_5 => ?_)
  · have h := ix_ift q_5 h
    refine ix_iload_n (i := 2) (j := 2) X (ix_tb_at tb_X12_thereOf 27 rfl) rfl rfl (pc1 := 44) rfl ?_
    exact ix_iret X hr hlk (ix_r2 (f := fun r => some (.int r)) (g := ix_w z) h) (ix_tb_at tb_X12_thereOf 28 rfl)
  · have h := ix_iff q_5 h
    refine ix_iload_n (i := 2) (j := 2) X (ix_tb_at tb_X12_thereOf 10 rfl) rfl rfl (pc1 := 15) rfl ?_
    refine ix_aload_n (i := 0) (j := 0) X (ix_tb_at tb_X12_thereOf 11 rfl) rfl rfl (pc1 := 16) rfl ?_
    obtain ⟨b_6, q_7, h⟩ := ix_bd1_ex h
    refine iz_getR X fl_RX12_174 k_1 q_7 (ix_tb_at tb_X12_thereOf 12 rfl) (pc1 := 19) rfl ?_
    refine ix_sipush (v := 800) X (ix_tb_at tb_X12_thereOf 13 rfl) (by decide) (pc1 := 22) rfl ?_
    refine ix_iload_n (i := 1) (j := 1) X (ix_tb_at tb_X12_thereOf 14 rfl) rfl rfl (pc1 := 23) rfl ?_
    refine ix_imul X (ix_tb_at tb_X12_thereOf 15 rfl) (pc1 := 24) rfl ?_
    refine ix_iload_n (i := 3) (j := 3) X (ix_tb_at tb_X12_thereOf 16 rfl) rfl rfl (pc1 := 25) rfl ?_
    refine ix_iadd X (ix_tb_at tb_X12_thereOf 17 rfl) (pc1 := 26) rfl ?_
    obtain ⟨k_8, h⟩ := ix_ck_some h
    refine iz_zald X k_8 (ix_tb_at tb_X12_thereOf 18 rfl) (pc1 := 27) rfl ?_
    refine ix_if_eq (tgt := 34) X (ix_tb_at tb_X12_thereOf 19 rfl) (by decide) (pc1 := 30) rfl (fun q_9 => ?_) (fun q_9 => ?_)
    · have h := ix_ift q_9 h
      refine ix_iconst (v := 0) X (ix_tb_at tb_X12_thereOf 22 rfl) (by decide) (pc1 := 35) rfl ?_
      refine ix_sub (L1 := [(0, .ref (K.2.2.1 + a0)), (1, .int x1), (3, .int x3)]) [0, 1, 3] rfl ?_
      exact t_X12_thereOf_35 hKp X hr hlk hrec4 h
    · have h := ix_iff q_9 h
      refine ix_iconst (v := 1) X (ix_tb_at tb_X12_thereOf 20 rfl) (by decide) (pc1 := 31) rfl ?_
      refine ix_goto (tgt := 35) X (ix_tb_at tb_X12_thereOf 21 rfl) (by decide) ?_
      refine ix_sub (L1 := [(0, .ref (K.2.2.1 + a0)), (1, .int x1), (3, .int x3)]) [0, 1, 3] rfl ?_
      exact t_X12_thereOf_35 hKp X hr hlk hrec4 h
theorem t_X12_thereOf_4 {l : Launch} {p : Program} {e : Env} {s : State} {m : MethodId} {args : Array Value} {below : List Frame} {meth : Method} {c : Code} {K : ix_Cx} (hKp : ix_Kp K) {n : Nat} {z : ix_Z} (X : ix_X p s m args c K cX12_thereOf RX12 4) (hr : meth.sig.returnType = (some .int)) (hlk : meth.locks = false)  {a0 : Nat} {x1 : Int32} {r : Int32} {d1 : ix_D2}  {x2 : Int32} {x3 : Int32} {d : ix_D2} (h : f_X12_thereOf_4 n z  a0 x1 x2 x3 d = some (r, d1)) : ix_G p l e (ix_rm 0 0 0 0) s m args below meth c (MQ below (ix_Post K (some (.int r)) (ix_w z d1)) args s 0 0 (ix_A K)) K 4 0 0 4 [(0, .ref (K.2.2.1 + a0)), (1, .int x1), (2, .int x2), (3, .int x3)] [] (ix_w z d) := by
  have key : ∀ (f : Nat) (x2 : Int32) (x3 : Int32) (d : ix_D2), ix_fix (b_X12_thereOf_4 n z  a0 x1) (fun _ _ _ => none) f x2 x3 d = some (r, d1) → ix_G p l e (ix_rm 0 0 0 0) s m args below meth c (MQ below (ix_Post K (some (.int r)) (ix_w z d1)) args s 0 0 (ix_A K)) K 4 0 0 4 [(0, .ref (K.2.2.1 + a0)), (1, .int x1), (2, .int x2), (3, .int x3)] [] (ix_w z d) := by
    intro f
    induction f with
    | zero =>
      intro x2 x3 d h
      have h : (none : Option (Int32 × ix_D2)) = some (r, d1) := h
      cases h
    | succ f ih =>
      intro x2 x3 d h
      exact tb_X12_thereOf_4 hKp X hr hlk (rec4 := ix_fix (b_X12_thereOf_4 n z  a0 x1) (fun _ _ _ => none) f)  ih h
  exact key n x2 x3 d h
set_option maxRecDepth 20000 in
theorem c_X12_thereOf {l : Launch} {K : ix_Cx} (hKp : ix_Kp K) {n : Nat} {z : ix_Z} {a0 : Nat} {x1 : Int32} {d : ix_D2} {r : Int32} {d1 : ix_D2} (h : f_X12_thereOf n z a0 x1 d = some (r, d1)) : ix_M l K yX12_thereOf cX12_thereOf 4 (some .int) 0 0 0 0 [.ref (K.2.2.1 + a0), .int x1] (ix_w z d) (some (.int r)) (ix_w z d1) := by
  refine ix_met mf_X12_thereOf hKp (Nat.le_of_ble_eq_true rfl) ?_
  intro p e s m args below meth c hr hlk hnm X
  have X : ix_X p s m args c K cX12_thereOf RX12 4 := X
  show ix_G p l e (ix_rm 0 0 0 0) s m args below meth c (MQ below (ix_Post K (some (.int r)) (ix_w z d1)) args s 0 0 (ix_A K)) K 4 0 0 0 [(0, .ref (K.2.2.1 + a0)), (1, .int x1)] [] (ix_w z d)
  unfold f_X12_thereOf at h
  refine ix_iconst (v := 0) X (ix_tb_at tb_X12_thereOf 0 rfl) (by decide) (pc1 := 1) rfl ?_
  refine ix_istore_n (i := 2) (L1 := [(2, .int 0), (0, .ref (K.2.2.1 + a0)), (1, .int x1)]) X (ix_tb_at tb_X12_thereOf 1 rfl) rfl (Nat.le_of_ble_eq_true rfl) rfl (pc1 := 2) rfl ?_
  refine ix_iconst (v := 0) X (ix_tb_at tb_X12_thereOf 2 rfl) (by decide) (pc1 := 3) rfl ?_
  refine ix_istore_n (i := 3) (L1 := [(3, .int 0), (2, .int 0), (0, .ref (K.2.2.1 + a0)), (1, .int x1)]) X (ix_tb_at tb_X12_thereOf 3 rfl) rfl (Nat.le_of_ble_eq_true rfl) rfl (pc1 := 4) rfl ?_
  refine ix_sub (L1 := [(0, .ref (K.2.2.1 + a0)), (1, .int x1), (2, .int 0), (3, .int 0)]) [2, 3, 1, 0] rfl ?_
  exact t_X12_thereOf_4 hKp X hr hlk  h
def tab_X12_mayGo : List (Nat × Instr × Nat) := [(0, .aload_n 0, 1), (1, .getfield 174, 3), (4, .sipush 800, 3), (7, .iload_n 1, 1), (8, .imul, 1), (9, .iload_n 2, 1), (10, .iadd, 1), (11, .baload, 1), (12, .ifCond .eq 30, 3), (15, .aload_n 0, 1), (16, .getfield 219, 3), (19, .iload_n 2, 1), (20, .baload, 1), (21, .ifCond .ne 21, 3), (24, .aload_n 0, 1), (25, .iload_n 1, 1), (26, .sipush 2000, 3), (29, .iload_n 2, 1), (30, .iadd, 1), (31, .invokevirtual 377, 3), (34, .iconst 2, 1), (35, .if_icmp .le 7, 3), (38, .iconst 1, 1), (39, .goto 4, 3), (42, .iconst 0, 1), (43, .ireturn, 1)]
theorem tb_X12_mayGo : ix_tab cX12_mayGo tab_X12_mayGo := by
  unfold ix_tab
  decide +kernel
noncomputable def f_X12_mayGo (n : Nat) (z : ix_Z) (a0 : Nat) (x1 : Int32) (x2 : Int32) (d : ix_D2) : Option (Int32 × ix_D2) :=
  ix_ck (ix_ok z [11] a0) (ix_bd1 (z.1 a0 82) (fun b_2 => ix_ck (ix_ix z 22 b_2 ((800 * x1) + x2)) (ix_if (d.1 b_2 (ix_n ((800 * x1) + x2)) = 0) (some (0, d)) (ix_bd1 (z.1 a0 107) (fun b_6 => ix_ck (ix_ix z 22 b_6 x2) (ix_if (d.1 b_6 (ix_n x2) = 0) (ix_bd2 (f_X12_sizeOf n z a0 x1 (2000 + x2) d) (fun r_12 d_10 => ix_if (r_12 ≤ 2) (some (0, d_10)) (some (1, d_10)))) (some (0, d))))))))
set_option maxRecDepth 20000 in
theorem c_X12_mayGo {l : Launch} {K : ix_Cx} (hKp : ix_Kp K) {n : Nat} {z : ix_Z} {a0 : Nat} {x1 : Int32} {x2 : Int32} {d : ix_D2} {r : Int32} {d1 : ix_D2} (h : f_X12_mayGo n z a0 x1 x2 d = some (r, d1)) : ix_M l K yX12_mayGo cX12_mayGo 3 (some .boolean) 1 22 0 0 [.ref (K.2.2.1 + a0), .int x1, .int x2] (ix_w z d) (some (.int r)) (ix_w z d1) := by
  refine ix_met mf_X12_mayGo hKp (Nat.le_of_ble_eq_true rfl) ?_
  intro p e s m args below meth c hr hlk hnm X
  have X : ix_X p s m args c K cX12_mayGo RX12 3 := X
  show ix_G p l e (ix_rm 1 22 0 0) s m args below meth c (MQ below (ix_Post K (some (.int r)) (ix_w z d1)) args s 0 0 (ix_A K)) K 3 0 0 0 [(0, .ref (K.2.2.1 + a0)), (1, .int x1), (2, .int x2)] [] (ix_w z d)
  unfold f_X12_mayGo at h
  refine ix_aload_n (i := 0) (j := 0) X (ix_tb_at tb_X12_mayGo 0 rfl) rfl rfl (pc1 := 1) rfl ?_
  obtain ⟨k_1, h⟩ := ix_ck_some h
  obtain ⟨b_2, q_3, h⟩ := ix_bd1_ex h
  refine iz_getR X fl_RX12_174 k_1 q_3 (ix_tb_at tb_X12_mayGo 1 rfl) (pc1 := 4) rfl ?_
  refine ix_sipush (v := 800) X (ix_tb_at tb_X12_mayGo 2 rfl) (by decide) (pc1 := 7) rfl ?_
  refine ix_iload_n (i := 1) (j := 1) X (ix_tb_at tb_X12_mayGo 3 rfl) rfl rfl (pc1 := 8) rfl ?_
  refine ix_imul X (ix_tb_at tb_X12_mayGo 4 rfl) (pc1 := 9) rfl ?_
  refine ix_iload_n (i := 2) (j := 2) X (ix_tb_at tb_X12_mayGo 5 rfl) rfl rfl (pc1 := 10) rfl ?_
  refine ix_iadd X (ix_tb_at tb_X12_mayGo 6 rfl) (pc1 := 11) rfl ?_
  obtain ⟨k_4, h⟩ := ix_ck_some h
  refine iz_zald X k_4 (ix_tb_at tb_X12_mayGo 7 rfl) (pc1 := 12) rfl ?_
  refine ix_if_eq (tgt := 42) X (ix_tb_at tb_X12_mayGo 8 rfl) (by decide) (pc1 := 15) rfl (fun q_5 => ?_) (fun q_5 => ?_)
  · have h := ix_ift q_5 h
    refine ix_iconst (v := 0) X (ix_tb_at tb_X12_mayGo 24 rfl) (by decide) (pc1 := 43) rfl ?_
    exact ix_zret X hr hlk (by decide) (ix_r2 (f := fun r => some (.int r)) (g := ix_w z) h) (ix_tb_at tb_X12_mayGo 25 rfl)
  · have h := ix_iff q_5 h
    refine ix_aload_n (i := 0) (j := 0) X (ix_tb_at tb_X12_mayGo 9 rfl) rfl rfl (pc1 := 16) rfl ?_
    obtain ⟨b_6, q_7, h⟩ := ix_bd1_ex h
    refine iz_getR X fl_RX12_219 k_1 q_7 (ix_tb_at tb_X12_mayGo 10 rfl) (pc1 := 19) rfl ?_
    refine ix_iload_n (i := 2) (j := 2) X (ix_tb_at tb_X12_mayGo 11 rfl) rfl rfl (pc1 := 20) rfl ?_
    obtain ⟨k_8, h⟩ := ix_ck_some h
    refine iz_zald X k_8 (ix_tb_at tb_X12_mayGo 12 rfl) (pc1 := 21) rfl ?_
    refine ix_if_ne (tgt := 42) X (ix_tb_at tb_X12_mayGo 13 rfl) (by decide) (pc1 := 24) rfl (fun q_9 => ?_) (fun q_9 => ?_)
    · have h := ix_iff q_9 h
      refine ix_iconst (v := 0) X (ix_tb_at tb_X12_mayGo 24 rfl) (by decide) (pc1 := 43) rfl ?_
      exact ix_zret X hr hlk (by decide) (ix_r2 (f := fun r => some (.int r)) (g := ix_w z) h) (ix_tb_at tb_X12_mayGo 25 rfl)
    · have h := ix_ift q_9 h
      refine ix_aload_n (i := 0) (j := 0) X (ix_tb_at tb_X12_mayGo 14 rfl) rfl rfl (pc1 := 25) rfl ?_
      refine ix_iload_n (i := 1) (j := 1) X (ix_tb_at tb_X12_mayGo 15 rfl) rfl rfl (pc1 := 26) rfl ?_
      refine ix_sipush (v := 2000) X (ix_tb_at tb_X12_mayGo 16 rfl) (by decide) (pc1 := 29) rfl ?_
      refine ix_iload_n (i := 2) (j := 2) X (ix_tb_at tb_X12_mayGo 17 rfl) rfl rfl (pc1 := 30) rfl ?_
      refine ix_iadd X (ix_tb_at tb_X12_mayGo 18 rfl) (pc1 := 31) rfl ?_
      obtain ⟨r_12, d_10, h_11, h⟩ := ix_bd2_ex h
      refine ix_callV (As := [.int x1, .int (2000 + x2)]) (rest := []) (ci := 11) (T := TX12) (nf := 116) X mf_X12_sizeOf mi_X12_sizeOf ms_X12_sizeOf rfl (Nat.le_of_ble_eq_true rfl) ml_RX12_377 ⟨Nat.le_of_ble_eq_true rfl, Nat.le_of_ble_eq_true rfl⟩ ⟨Nat.le_of_ble_eq_true rfl, Nat.le_of_ble_eq_true rfl⟩ rfl (Nat.le_of_ble_eq_true rfl) (ix_tb_at tb_X12_mayGo 19 rfl) ⟨k_1.1, List.mem_singleton.mp k_1.2⟩ (c_X12_sizeOf hKp h_11) rfl (pc1 := 34) rfl ?_
      refine ix_iconst (v := 2) X (ix_tb_at tb_X12_mayGo 20 rfl) (by decide) (pc1 := 35) rfl ?_
      refine ix_icmp_le (tgt := 42) X (ix_tb_at tb_X12_mayGo 21 rfl) (by decide) (pc1 := 38) rfl (fun q_13 => ?_) (fun q_13 => ?_)
      · have h := ix_ift q_13 h
        refine ix_iconst (v := 0) X (ix_tb_at tb_X12_mayGo 24 rfl) (by decide) (pc1 := 43) rfl ?_
        exact ix_zret X hr hlk (by decide) (ix_r2 (f := fun r => some (.int r)) (g := ix_w z) h) (ix_tb_at tb_X12_mayGo 25 rfl)
      · have h := ix_iff q_13 h
        refine ix_iconst (v := 1) X (ix_tb_at tb_X12_mayGo 22 rfl) (by decide) (pc1 := 39) rfl ?_
        refine ix_goto (tgt := 43) X (ix_tb_at tb_X12_mayGo 23 rfl) (by decide) ?_
        exact ix_zret X hr hlk (by decide) (ix_r2 (f := fun r => some (.int r)) (g := ix_w z) h) (ix_tb_at tb_X12_mayGo 25 rfl)
def tab_X12_forgetSome : List (Nat × Instr × Nat) := [(0, .aload_n 0, 1), (1, .getfield 439, 3), (4, .ifCond .eq 15, 3), (7, .aload_n 0, 1), (8, .iload_n 1, 1), (9, .invokevirtual 572, 3), (12, .aload_n 0, 1), (13, .getfield 439, 3), (16, .if_icmp .gt 4, 3), (19, .return_, 1), (20, .iconst 0, 1), (21, .istore_n 2, 1), (22, .iload_n 2, 1), (23, .aload_n 0, 1), (24, .getfield 171, 3), (27, .iload_n 1, 1), (28, .iaload, 1), (29, .if_icmp .ge 16, 3), (32, .aload_n 0, 1), (33, .getfield 219, 3), (36, .iload_n 2, 1), (37, .iconst 0, 1), (38, .bastore, 1), (39, .iinc 2 1, 3), (42, .goto (-20), 3), (45, .iconst 0, 1), (46, .istore_n 2, 1), (47, .iload_n 2, 1), (48, .aload_n 0, 1), (49, .getfield 156, 3), (52, .iload_n 1, 1), (53, .iaload, 1), (54, .if_icmp .ge 54, 3), (57, .aload_n 0, 1), (58, .getfield 140, 3), (61, .sipush 301, 3), (64, .iload_n 1, 1), (65, .imul, 1), (66, .aload_n 0, 1), (67, .getfield 153, 3), (70, .sipush 300, 3), (73, .iload_n 1, 1), (74, .imul, 1), (75, .iload_n 2, 1), (76, .iadd, 1), (77, .iaload, 1), (78, .invokestatic 289, 3), (81, .iadd, 1), (82, .iaload, 1), (83, .istore_n 3, 1), (84, .iload_n 3, 1), (85, .sipush 2000, 3), (88, .if_icmp .lt 14, 3), (91, .aload_n 0, 1), (92, .getfield 219, 3), (95, .iload_n 3, 1), (96, .sipush 2000, 3), (99, .isub, 1), (100, .iconst 1, 1), (101, .bastore, 1), (102, .iinc 2 1, 3), (105, .goto (-58), 3), (108, .iconst 0, 1), (109, .istore_n 2, 1), (110, .iconst 0, 1), (111, .istore_n 3, 1), (112, .iload_n 3, 1), (113, .aload_n 0, 1), (114, .getfield 171, 3), (117, .iload_n 1, 1), (118, .iaload, 1), (119, .if_icmp .ge 26, 3), (122, .iload_n 2, 1), (123, .aload_n 0, 1), (124, .iload_n 1, 1), (125, .iload_n 3, 1), (126, .invokevirtual 575, 3), (129, .ifCond .eq 7, 3), (132, .iconst 1, 1), (133, .goto 4, 3), (136, .iconst 0, 1), (137, .iadd, 1), (138, .istore_n 2, 1), (139, .iinc 3 1, 3), (142, .goto (-30), 3), (145, .iconst 0, 1), (146, .istore_n 3, 1), (147, .iload_n 3, 1), (148, .iload_n 2, 1), (149, .iconst 2, 1), (150, .idiv, 1), (151, .if_icmp .ge 129, 3), (154, .sipush (-1005), 3), (157, .istore 4, 2), (159, .iconst 0, 1), (160, .istore 5, 2), (162, .iload 5, 2), (164, .aload_n 0, 1), (165, .getfield 171, 3), (168, .iload_n 1, 1), (169, .iaload, 1), (170, .if_icmp .ge 74, 3), (173, .aload_n 0, 1), (174, .iload_n 1, 1), (175, .iload 5, 2), (177, .invokevirtual 575, 3), (180, .ifCond .eq 41, 3), (183, .iload 4, 2), (185, .ifCond .lt 32, 3), (188, .aload_n 0, 1), (189, .getfield 177, 3), (192, .sipush 800, 3), (195, .iload_n 1, 1), (196, .imul, 1), (197, .iload 5, 2), (199, .iadd, 1), (200, .iaload, 1), (201, .aload_n 0, 1), (202, .getfield 177, 3), (205, .sipush 800, 3), (208, .iload_n 1, 1), (209, .imul, 1), (210, .iload 4, 2), (212, .iadd, 1), (213, .iaload, 1), (214, .if_icmp .ge 7, 3), (217, .iconst 1, 1), (218, .goto 4, 3), (221, .iconst 0, 1), (222, .istore 6, 2), (224, .iload 6, 2), (226, .ifCond .eq 8, 3), (229, .iload 5, 2), (231, .goto 5, 3), (234, .iload 4, 2), (236, .istore 4, 2), (238, .iinc 5 1, 3), (241, .goto (-79), 3), (244, .aload_n 0, 1), (245, .getfield 174, 3), (248, .sipush 800, 3), (251, .iload_n 1, 1), (252, .imul, 1), (253, .iload 4, 2), (255, .iadd, 1), (256, .iconst 0, 1), (257, .bastore, 1), (258, .aload_n 0, 1), (259, .getfield 195, 3), (262, .bipush 10, 2), (264, .iload_n 1, 1), (265, .imul, 1), (266, .bipush 6, 2), (268, .iadd, 1), (269, .dup2, 1), (270, .iaload, 1), (271, .iconst 1, 1), (272, .iadd, 1), (273, .iastore, 1), (274, .iinc 3 1, 3), (277, .goto (-130), 3), (280, .iconst 0, 1), (281, .istore_n 3, 1), (282, .iload_n 3, 1), (283, .aload_n 0, 1), (284, .getfield 171, 3), (287, .iload_n 1, 1), (288, .iaload, 1), (289, .if_icmp .ge 35, 3), (292, .aload_n 0, 1), (293, .getfield 177, 3), (296, .sipush 800, 3), (299, .iload_n 1, 1), (300, .imul, 1), (301, .iload_n 3, 1), (302, .iadd, 1), (303, .aload_n 0, 1), (304, .getfield 177, 3), (307, .sipush 800, 3), (310, .iload_n 1, 1), (311, .imul, 1), (312, .iload_n 3, 1), (313, .iadd, 1), (314, .iaload, 1), (315, .iconst 2, 1), (316, .idiv, 1), (317, .iastore, 1), (318, .iinc 3 1, 3), (321, .goto (-39), 3), (324, .return_, 1)]
theorem tb_X12_forgetSome : ix_tab cX12_forgetSome tab_X12_forgetSome := by
  unfold ix_tab
  decide +kernel
noncomputable def b_X12_forgetSome_282 (n : Nat) (z : ix_Z)  (a0 : Nat) (x1 : Int32) (rec282 : Int32 → ix_D2 → Option (ix_D2)) (x3 : Int32) (d : ix_D2) : Option (ix_D2) :=
  ix_ck (ix_ok z [11] a0) (ix_bd1 (z.1 a0 81) (fun b_24 => ix_ck (ix_ix z 20 b_24 x1) (ix_if (d.1 b_24 (ix_n x1) ≤ x3) (some d) (ix_bd1 (z.1 a0 83) (fun b_28 => ix_ck (ix_ix z 20 b_28 ((800 * x1) + x3)) (ix_lt (ix_di d b_28 (ix_n ((800 * x1) + x3)) ((d.1 b_28 (ix_n ((800 * x1) + x3))) / 2)) (fun d_31 => ix_lt (x3 + 1) (fun x3_33 => rec282 x3_33 d_31))))))))
noncomputable def f_X12_forgetSome_282 (n : Nat) (z : ix_Z)  (a0 : Nat) (x1 : Int32) (x3 : Int32) (d : ix_D2) : Option (ix_D2) := ix_fix (b_X12_forgetSome_282 n z  a0 x1) (fun _ _ => none) n x3 d
noncomputable def f_X12_forgetSome_236 (n : Nat) (z : ix_Z) (rec147 : Int32 → ix_D2 → Option (ix_D2)) (rec162 : Int32 → Int32 → ix_D2 → Option (ix_D2)) (a0 : Nat) (x1 : Int32) (x2 : Int32) (x3 : Int32) (x5 : Int32) (s0 : Int32) (d : ix_D2) : Option (ix_D2) :=
  ix_lt (x5 + 1) (fun x5_57 => rec162 s0 x5_57 d)
noncomputable def f_X12_forgetSome_222 (n : Nat) (z : ix_Z) (rec147 : Int32 → ix_D2 → Option (ix_D2)) (rec162 : Int32 → Int32 → ix_D2 → Option (ix_D2)) (a0 : Nat) (x1 : Int32) (x2 : Int32) (x3 : Int32) (x4 : Int32) (x5 : Int32) (s0 : Int32) (d : ix_D2) : Option (ix_D2) :=
  ix_if (s0 = 0) (f_X12_forgetSome_236 n z rec147 rec162 a0 x1 x2 x3 x5 x4 d) (f_X12_forgetSome_236 n z rec147 rec162 a0 x1 x2 x3 x5 x5 d)
noncomputable def f_X12_forgetSome_221 (n : Nat) (z : ix_Z) (rec147 : Int32 → ix_D2 → Option (ix_D2)) (rec162 : Int32 → Int32 → ix_D2 → Option (ix_D2)) (a0 : Nat) (x1 : Int32) (x2 : Int32) (x3 : Int32) (x4 : Int32) (x5 : Int32) (d : ix_D2) : Option (ix_D2) :=
  f_X12_forgetSome_222 n z rec147 rec162 a0 x1 x2 x3 x4 x5 0 d
noncomputable def f_X12_forgetSome_217 (n : Nat) (z : ix_Z) (rec147 : Int32 → ix_D2 → Option (ix_D2)) (rec162 : Int32 → Int32 → ix_D2 → Option (ix_D2)) (a0 : Nat) (x1 : Int32) (x2 : Int32) (x3 : Int32) (x4 : Int32) (x5 : Int32) (d : ix_D2) : Option (ix_D2) :=
  f_X12_forgetSome_222 n z rec147 rec162 a0 x1 x2 x3 x4 x5 1 d
noncomputable def b_X12_forgetSome_162 (n : Nat) (z : ix_Z) (rec147 : Int32 → ix_D2 → Option (ix_D2)) (a0 : Nat) (x1 : Int32) (x2 : Int32) (x3 : Int32) (rec162 : Int32 → Int32 → ix_D2 → Option (ix_D2)) (x4 : Int32) (x5 : Int32) (d : ix_D2) : Option (ix_D2) :=
  ix_ck (ix_ok z [11] a0) (ix_bd1 (z.1 a0 81) (fun b_36 => ix_ck (ix_ix z 20 b_36 x1) (ix_if (d.1 b_36 (ix_n x1) ≤ x5) (ix_bd1 (z.1 a0 82) (fun b_40 => ix_ck (ix_ix z 22 b_40 ((800 * x1) + x4)) (ix_lt (ix_di d b_40 (ix_n ((800 * x1) + x4)) (vp_nar .boolean 0)) (fun d_43 => ix_bd1 (z.1 a0 90) (fun b_45 => ix_ck (ix_ix z 20 b_45 ((10 * x1) + 6)) (ix_lt (ix_di d_43 b_45 (ix_n ((10 * x1) + 6)) ((d_43.1 b_45 (ix_n ((10 * x1) + 6))) + 1)) (fun d_48 => ix_lt (x3 + 1) (fun x3_50 => rec147 x3_50 d_48)))))))) (ix_bd2 (f_X12_mayGo n z a0 x1 x5 d) (fun r_54 d_52 => ix_if (r_54 = 0) (f_X12_forgetSome_221 n z rec147 rec162 a0 x1 x2 x3 x4 x5 d_52) (ix_if (x4 < 0) (f_X12_forgetSome_217 n z rec147 rec162 a0 x1 x2 x3 x4 x5 d_52) (ix_bd1 (z.1 a0 83) (fun b_60 => ix_ck (ix_ix z 20 b_60 ((800 * x1) + x5)) (ix_ck (ix_ix z 20 b_60 ((800 * x1) + x4)) (ix_if (d_52.1 b_60 (ix_n ((800 * x1) + x4)) ≤ d_52.1 b_60 (ix_n ((800 * x1) + x5))) (f_X12_forgetSome_221 n z rec147 rec162 a0 x1 x2 x3 x4 x5 d_52) (f_X12_forgetSome_217 n z rec147 rec162 a0 x1 x2 x3 x4 x5 d_52)))))))))))
noncomputable def f_X12_forgetSome_162 (n : Nat) (z : ix_Z) (rec147 : Int32 → ix_D2 → Option (ix_D2)) (a0 : Nat) (x1 : Int32) (x2 : Int32) (x3 : Int32) (x4 : Int32) (x5 : Int32) (d : ix_D2) : Option (ix_D2) := ix_fix (b_X12_forgetSome_162 n z rec147 a0 x1 x2 x3) (fun _ _ _ => none) n x4 x5 d
noncomputable def b_X12_forgetSome_147 (n : Nat) (z : ix_Z)  (a0 : Nat) (x1 : Int32) (x2 : Int32) (rec147 : Int32 → ix_D2 → Option (ix_D2)) (x3 : Int32) (d : ix_D2) : Option (ix_D2) :=
  ix_if (x2 / 2 ≤ x3) (f_X12_forgetSome_282 n z  a0 x1 0 d) (f_X12_forgetSome_162 n z rec147 a0 x1 x2 x3 ((-1005)) 0 d)
noncomputable def f_X12_forgetSome_147 (n : Nat) (z : ix_Z)  (a0 : Nat) (x1 : Int32) (x2 : Int32) (x3 : Int32) (d : ix_D2) : Option (ix_D2) := ix_fix (b_X12_forgetSome_147 n z  a0 x1 x2) (fun _ _ => none) n x3 d
noncomputable def f_X12_forgetSome_137 (n : Nat) (z : ix_Z) (rec112 : Int32 → Int32 → ix_D2 → Option (ix_D2)) (a0 : Nat) (x1 : Int32) (x3 : Int32) (s0 : Int32) (s1 : Int32) (d : ix_D2) : Option (ix_D2) :=
  ix_lt (s1 + s0) (fun x2_69 => ix_lt (x3 + 1) (fun x3_71 => rec112 x2_69 x3_71 d))
noncomputable def b_X12_forgetSome_112 (n : Nat) (z : ix_Z)  (a0 : Nat) (x1 : Int32) (rec112 : Int32 → Int32 → ix_D2 → Option (ix_D2)) (x2 : Int32) (x3 : Int32) (d : ix_D2) : Option (ix_D2) :=
  ix_ck (ix_ok z [11] a0) (ix_bd1 (z.1 a0 81) (fun b_18 => ix_ck (ix_ix z 20 b_18 x1) (ix_if (d.1 b_18 (ix_n x1) ≤ x3) (f_X12_forgetSome_147 n z  a0 x1 x2 0 d) (ix_bd2 (f_X12_mayGo n z a0 x1 x3 d) (fun r_67 d_65 => ix_if (r_67 = 0) (f_X12_forgetSome_137 n z rec112 a0 x1 x3 0 x2 d_65) (f_X12_forgetSome_137 n z rec112 a0 x1 x3 1 x2 d_65))))))
noncomputable def f_X12_forgetSome_112 (n : Nat) (z : ix_Z)  (a0 : Nat) (x1 : Int32) (x2 : Int32) (x3 : Int32) (d : ix_D2) : Option (ix_D2) := ix_fix (b_X12_forgetSome_112 n z  a0 x1) (fun _ _ _ => none) n x2 x3 d
noncomputable def f_X12_forgetSome_102 (n : Nat) (z : ix_Z) (rec47 : Int32 → ix_D2 → Option (ix_D2)) (a0 : Nat) (x1 : Int32) (x2 : Int32) (d : ix_D2) : Option (ix_D2) :=
  ix_lt (x2 + 1) (fun x2_85 => rec47 x2_85 d)
noncomputable def b_X12_forgetSome_47 (n : Nat) (z : ix_Z)  (a0 : Nat) (x1 : Int32) (rec47 : Int32 → ix_D2 → Option (ix_D2)) (x2 : Int32) (d : ix_D2) : Option (ix_D2) :=
  ix_ck (ix_ok z [11] a0) (ix_bd1 (z.1 a0 76) (fun b_13 => ix_ck (ix_ix z 20 b_13 x1) (ix_if (d.1 b_13 (ix_n x1) ≤ x2) (f_X12_forgetSome_112 n z  a0 x1 0 0 d) (ix_bd1 (z.1 a0 71) (fun b_73 => ix_bd1 (z.1 a0 75) (fun b_75 => ix_ck (ix_ix z 20 b_75 ((300 * x1) + x2)) (ix_bd2 (f_X12_nameOf n z (d.1 b_75 (ix_n ((300 * x1) + x2))) d) (fun r_80 d_78 => ix_ck (ix_ix z 20 b_73 ((301 * x1) + r_80)) (ix_lt (d_78.1 b_73 (ix_n ((301 * x1) + r_80))) (fun x3_82 => ix_if (x3_82 < 2000) (f_X12_forgetSome_102 n z rec47 a0 x1 x2 d_78) (ix_bd1 (z.1 a0 107) (fun b_87 => ix_ck (ix_ix z 22 b_87 (x3_82 - 2000)) (ix_lt (ix_di d_78 b_87 (ix_n (x3_82 - 2000)) (vp_nar .boolean 1)) (fun d_90 => f_X12_forgetSome_102 n z rec47 a0 x1 x2 d_90))))))))))))))
noncomputable def f_X12_forgetSome_47 (n : Nat) (z : ix_Z)  (a0 : Nat) (x1 : Int32) (x2 : Int32) (d : ix_D2) : Option (ix_D2) := ix_fix (b_X12_forgetSome_47 n z  a0 x1) (fun _ _ => none) n x2 d
noncomputable def b_X12_forgetSome_22 (n : Nat) (z : ix_Z)  (a0 : Nat) (x1 : Int32) (rec22 : Int32 → ix_D2 → Option (ix_D2)) (x2 : Int32) (d : ix_D2) : Option (ix_D2) :=
  ix_ck (ix_ok z [11] a0) (ix_bd1 (z.1 a0 81) (fun b_8 => ix_ck (ix_ix z 20 b_8 x1) (ix_if (d.1 b_8 (ix_n x1) ≤ x2) (f_X12_forgetSome_47 n z  a0 x1 0 d) (ix_bd1 (z.1 a0 107) (fun b_92 => ix_ck (ix_ix z 22 b_92 x2) (ix_lt (ix_di d b_92 (ix_n x2) (vp_nar .boolean 0)) (fun d_95 => ix_lt (x2 + 1) (fun x2_97 => rec22 x2_97 d_95))))))))
noncomputable def f_X12_forgetSome_22 (n : Nat) (z : ix_Z)  (a0 : Nat) (x1 : Int32) (x2 : Int32) (d : ix_D2) : Option (ix_D2) := ix_fix (b_X12_forgetSome_22 n z  a0 x1) (fun _ _ => none) n x2 d
noncomputable def f_X12_forgetSome (n : Nat) (z : ix_Z) (a0 : Nat) (x1 : Int32) (d : ix_D2) : Option (ix_D2) :=
  ix_ck (ix_ok z [11] a0) (ix_if (d.1 a0 31 = 0) (some d) (ix_bd2 (f_X12_thereOf n z a0 x1 d) (fun r_5 d_3 => ix_if (d_3.1 a0 31 < r_5) (f_X12_forgetSome_22 n z  a0 x1 0 d_3) (some d_3))))
set_option maxRecDepth 20000 in
theorem tb_X12_forgetSome_282 {l : Launch} {p : Program} {e : Env} {s : State} {m : MethodId} {args : Array Value} {below : List Frame} {meth : Method} {c : Code} {K : ix_Cx} (hKp : ix_Kp K) {n : Nat} {z : ix_Z} (X : ix_X p s m args c K cX12_forgetSome RX12 7) (hr : meth.sig.returnType = (none : Option Jvm.ClassFile.FieldType)) (hlk : meth.locks = false)  {a0 : Nat} {x1 : Int32} {rec282 : Int32 → ix_D2 → Option (ix_D2)} {d1 : ix_D2} (hrec282 : ∀ (x3 : Int32) (d : ix_D2), rec282 x3 d = some d1 → ix_G p l e (ix_rm 2 44 0 0) s m args below meth c (MQ below (ix_Post K none (ix_w z d1)) args s 0 0 (ix_A K)) K 7 0 0 282 [(0, .ref (K.2.2.1 + a0)), (1, .int x1), (3, .int x3)] [] (ix_w z d)) {x3 : Int32} {d : ix_D2} (h : b_X12_forgetSome_282 n z  a0 x1 rec282 x3 d = some d1) : ix_G p l e (ix_rm 2 44 0 0) s m args below meth c (MQ below (ix_Post K none (ix_w z d1)) args s 0 0 (ix_A K)) K 7 0 0 282 [(0, .ref (K.2.2.1 + a0)), (1, .int x1), (3, .int x3)] [] (ix_w z d) := by
  unfold b_X12_forgetSome_282 at h
  refine ix_iload_n (i := 3) (j := 2) X (ix_tb_at tb_X12_forgetSome 163 rfl) rfl rfl (pc1 := 283) rfl ?_
  refine ix_aload_n (i := 0) (j := 0) X (ix_tb_at tb_X12_forgetSome 164 rfl) rfl rfl (pc1 := 284) rfl ?_
  obtain ⟨k_23, h⟩ := ix_ck_some h
  obtain ⟨b_24, q_25, h⟩ := ix_bd1_ex h
  refine iz_getR X fl_RX12_171 k_23 q_25 (ix_tb_at tb_X12_forgetSome 165 rfl) (pc1 := 287) rfl ?_
  refine ix_iload_n (i := 1) (j := 1) X (ix_tb_at tb_X12_forgetSome 166 rfl) rfl rfl (pc1 := 288) rfl ?_
  obtain ⟨k_26, h⟩ := ix_ck_some h
  refine iz_iald X k_26 (ix_tb_at tb_X12_forgetSome 167 rfl) (pc1 := 289) rfl ?_
  refine ix_icmp_ge (tgt := 324) X (ix_tb_at tb_X12_forgetSome 168 rfl) (by decide) (pc1 := 292) rfl (fun q_27 => ?_) (fun q_27 => ?_)
  · have h := ix_ift q_27 h
    exact ix_vret X hr hlk (ix_r1 (g := ix_w z) h) (ix_tb_at tb_X12_forgetSome 189 rfl)
  · have h := ix_iff q_27 h
    refine ix_aload_n (i := 0) (j := 0) X (ix_tb_at tb_X12_forgetSome 169 rfl) rfl rfl (pc1 := 293) rfl ?_
    obtain ⟨b_28, q_29, h⟩ := ix_bd1_ex h
    refine iz_getR X fl_RX12_177 k_23 q_29 (ix_tb_at tb_X12_forgetSome 170 rfl) (pc1 := 296) rfl ?_
    refine ix_sipush (v := 800) X (ix_tb_at tb_X12_forgetSome 171 rfl) (by decide) (pc1 := 299) rfl ?_
    refine ix_iload_n (i := 1) (j := 1) X (ix_tb_at tb_X12_forgetSome 172 rfl) rfl rfl (pc1 := 300) rfl ?_
    refine ix_imul X (ix_tb_at tb_X12_forgetSome 173 rfl) (pc1 := 301) rfl ?_
    refine ix_iload_n (i := 3) (j := 2) X (ix_tb_at tb_X12_forgetSome 174 rfl) rfl rfl (pc1 := 302) rfl ?_
    refine ix_iadd X (ix_tb_at tb_X12_forgetSome 175 rfl) (pc1 := 303) rfl ?_
    refine ix_aload_n (i := 0) (j := 0) X (ix_tb_at tb_X12_forgetSome 176 rfl) rfl rfl (pc1 := 304) rfl ?_
    refine iz_getR X fl_RX12_177 k_23 q_29 (ix_tb_at tb_X12_forgetSome 177 rfl) (pc1 := 307) rfl ?_
    refine ix_sipush (v := 800) X (ix_tb_at tb_X12_forgetSome 178 rfl) (by decide) (pc1 := 310) rfl ?_
    refine ix_iload_n (i := 1) (j := 1) X (ix_tb_at tb_X12_forgetSome 179 rfl) rfl rfl (pc1 := 311) rfl ?_
    refine ix_imul X (ix_tb_at tb_X12_forgetSome 180 rfl) (pc1 := 312) rfl ?_
    refine ix_iload_n (i := 3) (j := 2) X (ix_tb_at tb_X12_forgetSome 181 rfl) rfl rfl (pc1 := 313) rfl ?_
    refine ix_iadd X (ix_tb_at tb_X12_forgetSome 182 rfl) (pc1 := 314) rfl ?_
    obtain ⟨k_30, h⟩ := ix_ck_some h
    refine iz_iald X k_30 (ix_tb_at tb_X12_forgetSome 183 rfl) (pc1 := 315) rfl ?_
    refine ix_iconst (v := 2) X (ix_tb_at tb_X12_forgetSome 184 rfl) (by decide) (pc1 := 316) rfl ?_
    refine ix_idiv X (ix_tb_at tb_X12_forgetSome 185 rfl) (by decide) (pc1 := 317) rfl ?_
    obtain ⟨d_31, e_32, h⟩ := ix_lt_ex h
    refine iz_iast X k_30 (ix_tb_at tb_X12_forgetSome 186 rfl) e_32 (pc1 := 318) rfl ?_
    obtain ⟨x3_33, e_34, h⟩ := ix_lt_ex h
    refine ix_iinc (i := 3) (j := 2) (v := x3_33) (L1 := [(3, .int x3_33), (0, .ref (K.2.2.1 + a0)), (1, .int x1)]) X (ix_tb_at tb_X12_forgetSome 187 rfl) rfl (by rw [oi_1]; exact e_34.symm) (Nat.le_of_ble_eq_true rfl) rfl (pc1 := 321) rfl ?_
    refine ix_goto (tgt := 282) X (ix_tb_at tb_X12_forgetSome 188 rfl) (by decide) ?_
    refine ix_sub (L1 := [(0, .ref (K.2.2.1 + a0)), (1, .int x1), (3, .int x3_33)]) [1, 2, 0] rfl ?_
    exact hrec282 x3_33 d_31 h
theorem t_X12_forgetSome_282 {l : Launch} {p : Program} {e : Env} {s : State} {m : MethodId} {args : Array Value} {below : List Frame} {meth : Method} {c : Code} {K : ix_Cx} (hKp : ix_Kp K) {n : Nat} {z : ix_Z} (X : ix_X p s m args c K cX12_forgetSome RX12 7) (hr : meth.sig.returnType = (none : Option Jvm.ClassFile.FieldType)) (hlk : meth.locks = false)  {a0 : Nat} {x1 : Int32} {d1 : ix_D2}  {x3 : Int32} {d : ix_D2} (h : f_X12_forgetSome_282 n z  a0 x1 x3 d = some d1) : ix_G p l e (ix_rm 2 44 0 0) s m args below meth c (MQ below (ix_Post K none (ix_w z d1)) args s 0 0 (ix_A K)) K 7 0 0 282 [(0, .ref (K.2.2.1 + a0)), (1, .int x1), (3, .int x3)] [] (ix_w z d) := by
  have key : ∀ (f : Nat) (x3 : Int32) (d : ix_D2), ix_fix (b_X12_forgetSome_282 n z  a0 x1) (fun _ _ => none) f x3 d = some d1 → ix_G p l e (ix_rm 2 44 0 0) s m args below meth c (MQ below (ix_Post K none (ix_w z d1)) args s 0 0 (ix_A K)) K 7 0 0 282 [(0, .ref (K.2.2.1 + a0)), (1, .int x1), (3, .int x3)] [] (ix_w z d) := by
    intro f
    induction f with
    | zero =>
      intro x3 d h
      have h : (none : Option (ix_D2)) = some d1 := h
      cases h
    | succ f ih =>
      intro x3 d h
      exact tb_X12_forgetSome_282 hKp X hr hlk (rec282 := ix_fix (b_X12_forgetSome_282 n z  a0 x1) (fun _ _ => none) f)  ih h
  exact key n x3 d h
set_option maxRecDepth 20000 in
theorem t_X12_forgetSome_236 {l : Launch} {p : Program} {e : Env} {s : State} {m : MethodId} {args : Array Value} {below : List Frame} {meth : Method} {c : Code} {K : ix_Cx} (hKp : ix_Kp K) {n : Nat} {z : ix_Z} (X : ix_X p s m args c K cX12_forgetSome RX12 7) (hr : meth.sig.returnType = (none : Option Jvm.ClassFile.FieldType)) (hlk : meth.locks = false) {rec147 : Int32 → ix_D2 → Option (ix_D2)} {rec162 : Int32 → Int32 → ix_D2 → Option (ix_D2)} {a0 : Nat} {x1 : Int32} {x2 : Int32} {x3 : Int32} {x5 : Int32} {s0 : Int32} {d1 : ix_D2} (hrec147 : ∀ (x3 : Int32) (d : ix_D2), rec147 x3 d = some d1 → ix_G p l e (ix_rm 2 44 0 0) s m args below meth c (MQ below (ix_Post K none (ix_w z d1)) args s 0 0 (ix_A K)) K 7 0 0 147 [(0, .ref (K.2.2.1 + a0)), (1, .int x1), (2, .int x2), (3, .int x3)] [] (ix_w z d)) (hrec162 : ∀ (x4 : Int32) (x5 : Int32) (d : ix_D2), rec162 x4 x5 d = some d1 → ix_G p l e (ix_rm 2 44 0 0) s m args below meth c (MQ below (ix_Post K none (ix_w z d1)) args s 0 0 (ix_A K)) K 7 0 0 162 [(0, .ref (K.2.2.1 + a0)), (1, .int x1), (2, .int x2), (3, .int x3), (4, .int x4), (5, .int x5)] [] (ix_w z d)) {d : ix_D2} (h : f_X12_forgetSome_236 n z rec147 rec162 a0 x1 x2 x3 x5 s0 d = some d1) : ix_G p l e (ix_rm 2 44 0 0) s m args below meth c (MQ below (ix_Post K none (ix_w z d1)) args s 0 0 (ix_A K)) K 7 0 0 236 [(0, .ref (K.2.2.1 + a0)), (1, .int x1), (2, .int x2), (3, .int x3), (5, .int x5)] [.int s0] (ix_w z d) := by
  unfold f_X12_forgetSome_236 at h
  refine ix_istore (i := 4) (L1 := [(4, .int s0), (0, .ref (K.2.2.1 + a0)), (1, .int x1), (2, .int x2), (3, .int x3), (5, .int x5)]) X (ix_tb_at tb_X12_forgetSome 135 rfl) (Nat.le_of_ble_eq_true rfl) rfl (pc1 := 238) rfl ?_
  obtain ⟨x5_57, e_58, h⟩ := ix_lt_ex h
  refine ix_iinc (i := 5) (j := 5) (v := x5_57) (L1 := [(5, .int x5_57), (4, .int s0), (0, .ref (K.2.2.1 + a0)), (1, .int x1), (2, .int x2), (3, .int x3)]) X (ix_tb_at tb_X12_forgetSome 136 rfl) rfl (by rw [oi_1]; exact e_58.symm) (Nat.le_of_ble_eq_true rfl) rfl (pc1 := 241) rfl ?_
  refine ix_goto (tgt := 162) X (ix_tb_at tb_X12_forgetSome 137 rfl) (by decide) ?_
  refine ix_sub (L1 := [(0, .ref (K.2.2.1 + a0)), (1, .int x1), (2, .int x2), (3, .int x3), (4, .int s0), (5, .int x5_57)]) [2, 3, 4, 5, 1, 0] rfl ?_
  exact hrec162 s0 x5_57 d h
set_option maxRecDepth 20000 in
theorem t_X12_forgetSome_222 {l : Launch} {p : Program} {e : Env} {s : State} {m : MethodId} {args : Array Value} {below : List Frame} {meth : Method} {c : Code} {K : ix_Cx} (hKp : ix_Kp K) {n : Nat} {z : ix_Z} (X : ix_X p s m args c K cX12_forgetSome RX12 7) (hr : meth.sig.returnType = (none : Option Jvm.ClassFile.FieldType)) (hlk : meth.locks = false) {rec147 : Int32 → ix_D2 → Option (ix_D2)} {rec162 : Int32 → Int32 → ix_D2 → Option (ix_D2)} {a0 : Nat} {x1 : Int32} {x2 : Int32} {x3 : Int32} {x4 : Int32} {x5 : Int32} {s0 : Int32} {d1 : ix_D2} (hrec147 : ∀ (x3 : Int32) (d : ix_D2), rec147 x3 d = some d1 → ix_G p l e (ix_rm 2 44 0 0) s m args below meth c (MQ below (ix_Post K none (ix_w z d1)) args s 0 0 (ix_A K)) K 7 0 0 147 [(0, .ref (K.2.2.1 + a0)), (1, .int x1), (2, .int x2), (3, .int x3)] [] (ix_w z d)) (hrec162 : ∀ (x4 : Int32) (x5 : Int32) (d : ix_D2), rec162 x4 x5 d = some d1 → ix_G p l e (ix_rm 2 44 0 0) s m args below meth c (MQ below (ix_Post K none (ix_w z d1)) args s 0 0 (ix_A K)) K 7 0 0 162 [(0, .ref (K.2.2.1 + a0)), (1, .int x1), (2, .int x2), (3, .int x3), (4, .int x4), (5, .int x5)] [] (ix_w z d)) {d : ix_D2} (h : f_X12_forgetSome_222 n z rec147 rec162 a0 x1 x2 x3 x4 x5 s0 d = some d1) : ix_G p l e (ix_rm 2 44 0 0) s m args below meth c (MQ below (ix_Post K none (ix_w z d1)) args s 0 0 (ix_A K)) K 7 0 0 222 [(0, .ref (K.2.2.1 + a0)), (1, .int x1), (2, .int x2), (3, .int x3), (4, .int x4), (5, .int x5)] [.int s0] (ix_w z d) := by
  unfold f_X12_forgetSome_222 at h
  refine ix_istore (i := 6) (L1 := [(6, .int s0), (0, .ref (K.2.2.1 + a0)), (1, .int x1), (2, .int x2), (3, .int x3), (4, .int x4), (5, .int x5)]) X (ix_tb_at tb_X12_forgetSome 129 rfl) (Nat.le_of_ble_eq_true rfl) rfl (pc1 := 224) rfl ?_
  refine ix_iload (i := 6) (j := 0) X (ix_tb_at tb_X12_forgetSome 130 rfl) rfl (pc1 := 226) rfl ?_
  refine ix_if_eq (tgt := 234) X (ix_tb_at tb_X12_forgetSome 131 rfl) (by decide) (pc1 := 229) rfl (fun q_56 => ?_) (fun q_56 => ?_)
  · have h := ix_ift q_56 h
    refine ix_iload (i := 4) (j := 5) X (ix_tb_at tb_X12_forgetSome 134 rfl) rfl (pc1 := 236) rfl ?_
    refine ix_sub (L1 := [(0, .ref (K.2.2.1 + a0)), (1, .int x1), (2, .int x2), (3, .int x3), (5, .int x5)]) [1, 2, 3, 4, 6] rfl ?_
    exact t_X12_forgetSome_236 hKp X hr hlk hrec147 hrec162 h
  · have h := ix_iff q_56 h
    refine ix_iload (i := 5) (j := 6) X (ix_tb_at tb_X12_forgetSome 132 rfl) rfl (pc1 := 231) rfl ?_
    refine ix_goto (tgt := 236) X (ix_tb_at tb_X12_forgetSome 133 rfl) (by decide) ?_
    refine ix_sub (L1 := [(0, .ref (K.2.2.1 + a0)), (1, .int x1), (2, .int x2), (3, .int x3), (5, .int x5)]) [1, 2, 3, 4, 6] rfl ?_
    exact t_X12_forgetSome_236 hKp X hr hlk hrec147 hrec162 h
set_option maxRecDepth 20000 in
theorem t_X12_forgetSome_221 {l : Launch} {p : Program} {e : Env} {s : State} {m : MethodId} {args : Array Value} {below : List Frame} {meth : Method} {c : Code} {K : ix_Cx} (hKp : ix_Kp K) {n : Nat} {z : ix_Z} (X : ix_X p s m args c K cX12_forgetSome RX12 7) (hr : meth.sig.returnType = (none : Option Jvm.ClassFile.FieldType)) (hlk : meth.locks = false) {rec147 : Int32 → ix_D2 → Option (ix_D2)} {rec162 : Int32 → Int32 → ix_D2 → Option (ix_D2)} {a0 : Nat} {x1 : Int32} {x2 : Int32} {x3 : Int32} {x4 : Int32} {x5 : Int32} {d1 : ix_D2} (hrec147 : ∀ (x3 : Int32) (d : ix_D2), rec147 x3 d = some d1 → ix_G p l e (ix_rm 2 44 0 0) s m args below meth c (MQ below (ix_Post K none (ix_w z d1)) args s 0 0 (ix_A K)) K 7 0 0 147 [(0, .ref (K.2.2.1 + a0)), (1, .int x1), (2, .int x2), (3, .int x3)] [] (ix_w z d)) (hrec162 : ∀ (x4 : Int32) (x5 : Int32) (d : ix_D2), rec162 x4 x5 d = some d1 → ix_G p l e (ix_rm 2 44 0 0) s m args below meth c (MQ below (ix_Post K none (ix_w z d1)) args s 0 0 (ix_A K)) K 7 0 0 162 [(0, .ref (K.2.2.1 + a0)), (1, .int x1), (2, .int x2), (3, .int x3), (4, .int x4), (5, .int x5)] [] (ix_w z d)) {d : ix_D2} (h : f_X12_forgetSome_221 n z rec147 rec162 a0 x1 x2 x3 x4 x5 d = some d1) : ix_G p l e (ix_rm 2 44 0 0) s m args below meth c (MQ below (ix_Post K none (ix_w z d1)) args s 0 0 (ix_A K)) K 7 0 0 221 [(0, .ref (K.2.2.1 + a0)), (1, .int x1), (2, .int x2), (3, .int x3), (4, .int x4), (5, .int x5)] [] (ix_w z d) := by
  unfold f_X12_forgetSome_221 at h
  refine ix_iconst (v := 0) X (ix_tb_at tb_X12_forgetSome 128 rfl) (by decide) (pc1 := 222) rfl ?_
  refine ix_sub (L1 := [(0, .ref (K.2.2.1 + a0)), (1, .int x1), (2, .int x2), (3, .int x3), (4, .int x4), (5, .int x5)]) [0, 1, 2, 3, 4, 5] rfl ?_
  exact t_X12_forgetSome_222 hKp X hr hlk hrec147 hrec162 h
set_option maxRecDepth 20000 in
theorem t_X12_forgetSome_217 {l : Launch} {p : Program} {e : Env} {s : State} {m : MethodId} {args : Array Value} {below : List Frame} {meth : Method} {c : Code} {K : ix_Cx} (hKp : ix_Kp K) {n : Nat} {z : ix_Z} (X : ix_X p s m args c K cX12_forgetSome RX12 7) (hr : meth.sig.returnType = (none : Option Jvm.ClassFile.FieldType)) (hlk : meth.locks = false) {rec147 : Int32 → ix_D2 → Option (ix_D2)} {rec162 : Int32 → Int32 → ix_D2 → Option (ix_D2)} {a0 : Nat} {x1 : Int32} {x2 : Int32} {x3 : Int32} {x4 : Int32} {x5 : Int32} {d1 : ix_D2} (hrec147 : ∀ (x3 : Int32) (d : ix_D2), rec147 x3 d = some d1 → ix_G p l e (ix_rm 2 44 0 0) s m args below meth c (MQ below (ix_Post K none (ix_w z d1)) args s 0 0 (ix_A K)) K 7 0 0 147 [(0, .ref (K.2.2.1 + a0)), (1, .int x1), (2, .int x2), (3, .int x3)] [] (ix_w z d)) (hrec162 : ∀ (x4 : Int32) (x5 : Int32) (d : ix_D2), rec162 x4 x5 d = some d1 → ix_G p l e (ix_rm 2 44 0 0) s m args below meth c (MQ below (ix_Post K none (ix_w z d1)) args s 0 0 (ix_A K)) K 7 0 0 162 [(0, .ref (K.2.2.1 + a0)), (1, .int x1), (2, .int x2), (3, .int x3), (4, .int x4), (5, .int x5)] [] (ix_w z d)) {d : ix_D2} (h : f_X12_forgetSome_217 n z rec147 rec162 a0 x1 x2 x3 x4 x5 d = some d1) : ix_G p l e (ix_rm 2 44 0 0) s m args below meth c (MQ below (ix_Post K none (ix_w z d1)) args s 0 0 (ix_A K)) K 7 0 0 217 [(0, .ref (K.2.2.1 + a0)), (1, .int x1), (2, .int x2), (3, .int x3), (4, .int x4), (5, .int x5)] [] (ix_w z d) := by
  unfold f_X12_forgetSome_217 at h
  refine ix_iconst (v := 1) X (ix_tb_at tb_X12_forgetSome 126 rfl) (by decide) (pc1 := 218) rfl ?_
  refine ix_goto (tgt := 222) X (ix_tb_at tb_X12_forgetSome 127 rfl) (by decide) ?_
  refine ix_sub (L1 := [(0, .ref (K.2.2.1 + a0)), (1, .int x1), (2, .int x2), (3, .int x3), (4, .int x4), (5, .int x5)]) [0, 1, 2, 3, 4, 5] rfl ?_
  exact t_X12_forgetSome_222 hKp X hr hlk hrec147 hrec162 h
set_option maxRecDepth 20000 in
theorem tb_X12_forgetSome_162 {l : Launch} {p : Program} {e : Env} {s : State} {m : MethodId} {args : Array Value} {below : List Frame} {meth : Method} {c : Code} {K : ix_Cx} (hKp : ix_Kp K) {n : Nat} {z : ix_Z} (X : ix_X p s m args c K cX12_forgetSome RX12 7) (hr : meth.sig.returnType = (none : Option Jvm.ClassFile.FieldType)) (hlk : meth.locks = false) {rec147 : Int32 → ix_D2 → Option (ix_D2)} {a0 : Nat} {x1 : Int32} {x2 : Int32} {x3 : Int32} {rec162 : Int32 → Int32 → ix_D2 → Option (ix_D2)} {d1 : ix_D2} (hrec147 : ∀ (x3 : Int32) (d : ix_D2), rec147 x3 d = some d1 → ix_G p l e (ix_rm 2 44 0 0) s m args below meth c (MQ below (ix_Post K none (ix_w z d1)) args s 0 0 (ix_A K)) K 7 0 0 147 [(0, .ref (K.2.2.1 + a0)), (1, .int x1), (2, .int x2), (3, .int x3)] [] (ix_w z d)) (hrec162 : ∀ (x4 : Int32) (x5 : Int32) (d : ix_D2), rec162 x4 x5 d = some d1 → ix_G p l e (ix_rm 2 44 0 0) s m args below meth c (MQ below (ix_Post K none (ix_w z d1)) args s 0 0 (ix_A K)) K 7 0 0 162 [(0, .ref (K.2.2.1 + a0)), (1, .int x1), (2, .int x2), (3, .int x3), (4, .int x4), (5, .int x5)] [] (ix_w z d)) {x4 : Int32} {x5 : Int32} {d : ix_D2} (h : b_X12_forgetSome_162 n z rec147 a0 x1 x2 x3 rec162 x4 x5 d = some d1) : ix_G p l e (ix_rm 2 44 0 0) s m args below meth c (MQ below (ix_Post K none (ix_w z d1)) args s 0 0 (ix_A K)) K 7 0 0 162 [(0, .ref (K.2.2.1 + a0)), (1, .int x1), (2, .int x2), (3, .int x3), (4, .int x4), (5, .int x5)] [] (ix_w z d) := by
  unfold b_X12_forgetSome_162 at h
  refine ix_iload (i := 5) (j := 5) X (ix_tb_at tb_X12_forgetSome 96 rfl) rfl (pc1 := 164) rfl ?_
  refine ix_aload_n (i := 0) (j := 0) X (ix_tb_at tb_X12_forgetSome 97 rfl) rfl rfl (pc1 := 165) rfl ?_
  obtain ⟨k_35, h⟩ := ix_ck_some h
  obtain ⟨b_36, q_37, h⟩ := ix_bd1_ex h
  refine iz_getR X fl_RX12_171 k_35 q_37 (ix_tb_at tb_X12_forgetSome 98 rfl) (pc1 := 168) rfl ?_
  refine ix_iload_n (i := 1) (j := 1) X (ix_tb_at tb_X12_forgetSome 99 rfl) rfl rfl (pc1 := 169) rfl ?_
  obtain ⟨k_38, h⟩ := ix_ck_some h
  refine iz_iald X k_38 (ix_tb_at tb_X12_forgetSome 100 rfl) (pc1 := 170) rfl ?_
  refine ix_icmp_ge (tgt := 244) X (ix_tb_at tb_X12_forgetSome 101 rfl) (by decide) (pc1 := 173) rfl (fun q_39 => ?_) (fun q_39 => ?_)
  · have h := ix_ift q_39 h
    refine ix_aload_n (i := 0) (j := 0) X (ix_tb_at tb_X12_forgetSome 138 rfl) rfl rfl (pc1 := 245) rfl ?_
    obtain ⟨b_40, q_41, h⟩ := ix_bd1_ex h
    refine iz_getR X fl_RX12_174 k_35 q_41 (ix_tb_at tb_X12_forgetSome 139 rfl) (pc1 := 248) rfl ?_
    refine ix_sipush (v := 800) X (ix_tb_at tb_X12_forgetSome 140 rfl) (by decide) (pc1 := 251) rfl ?_
    refine ix_iload_n (i := 1) (j := 1) X (ix_tb_at tb_X12_forgetSome 141 rfl) rfl rfl (pc1 := 252) rfl ?_
    refine ix_imul X (ix_tb_at tb_X12_forgetSome 142 rfl) (pc1 := 253) rfl ?_
    refine ix_iload (i := 4) (j := 4) X (ix_tb_at tb_X12_forgetSome 143 rfl) rfl (pc1 := 255) rfl ?_
    refine ix_iadd X (ix_tb_at tb_X12_forgetSome 144 rfl) (pc1 := 256) rfl ?_
    refine ix_iconst (v := 0) X (ix_tb_at tb_X12_forgetSome 145 rfl) (by decide) (pc1 := 257) rfl ?_
    obtain ⟨k_42, h⟩ := ix_ck_some h
    obtain ⟨d_43, e_44, h⟩ := ix_lt_ex h
    refine iz_zast X k_42 (ix_tb_at tb_X12_forgetSome 146 rfl) e_44 (pc1 := 258) rfl ?_
    refine ix_aload_n (i := 0) (j := 0) X (ix_tb_at tb_X12_forgetSome 147 rfl) rfl rfl (pc1 := 259) rfl ?_
    obtain ⟨b_45, q_46, h⟩ := ix_bd1_ex h
    refine iz_getR X fl_RX12_195 k_35 q_46 (ix_tb_at tb_X12_forgetSome 148 rfl) (pc1 := 262) rfl ?_
    refine ix_bipush (v := 10) X (ix_tb_at tb_X12_forgetSome 149 rfl) (by decide) (pc1 := 264) rfl ?_
    refine ix_iload_n (i := 1) (j := 1) X (ix_tb_at tb_X12_forgetSome 150 rfl) rfl rfl (pc1 := 265) rfl ?_
    refine ix_imul X (ix_tb_at tb_X12_forgetSome 151 rfl) (pc1 := 266) rfl ?_
    refine ix_bipush (v := 6) X (ix_tb_at tb_X12_forgetSome 152 rfl) (by decide) (pc1 := 268) rfl ?_
    refine ix_iadd X (ix_tb_at tb_X12_forgetSome 153 rfl) (pc1 := 269) rfl ?_
    refine ix_dup2 X (ix_tb_at tb_X12_forgetSome 154 rfl) rfl rfl (pc1 := 270) rfl ?_
    obtain ⟨k_47, h⟩ := ix_ck_some h
    refine iz_iald X k_47 (ix_tb_at tb_X12_forgetSome 155 rfl) (pc1 := 271) rfl ?_
    refine ix_iconst (v := 1) X (ix_tb_at tb_X12_forgetSome 156 rfl) (by decide) (pc1 := 272) rfl ?_
    refine ix_iadd X (ix_tb_at tb_X12_forgetSome 157 rfl) (pc1 := 273) rfl ?_
    obtain ⟨d_48, e_49, h⟩ := ix_lt_ex h
    refine iz_iast X k_47 (ix_tb_at tb_X12_forgetSome 158 rfl) e_49 (pc1 := 274) rfl ?_
    obtain ⟨x3_50, e_51, h⟩ := ix_lt_ex h
    refine ix_iinc (i := 3) (j := 3) (v := x3_50) (L1 := [(3, .int x3_50), (0, .ref (K.2.2.1 + a0)), (1, .int x1), (2, .int x2), (4, .int x4), (5, .int x5)]) X (ix_tb_at tb_X12_forgetSome 159 rfl) rfl (by rw [oi_1]; exact e_51.symm) (Nat.le_of_ble_eq_true rfl) rfl (pc1 := 277) rfl ?_
    refine ix_goto (tgt := 147) X (ix_tb_at tb_X12_forgetSome 160 rfl) (by decide) ?_
    refine ix_sub (L1 := [(0, .ref (K.2.2.1 + a0)), (1, .int x1), (2, .int x2), (3, .int x3_50)]) [1, 2, 3, 0] rfl ?_
    exact hrec147 x3_50 d_48 h
  · have h := ix_iff q_39 h
    refine ix_aload_n (i := 0) (j := 0) X (ix_tb_at tb_X12_forgetSome 102 rfl) rfl rfl (pc1 := 174) rfl ?_
    refine ix_iload_n (i := 1) (j := 1) X (ix_tb_at tb_X12_forgetSome 103 rfl) rfl rfl (pc1 := 175) rfl ?_
    refine ix_iload (i := 5) (j := 5) X (ix_tb_at tb_X12_forgetSome 104 rfl) rfl (pc1 := 177) rfl ?_
    obtain ⟨r_54, d_52, h_53, h⟩ := ix_bd2_ex h
    refine ix_callV (As := [.int x1, .int x5]) (rest := []) (ci := 11) (T := TX12) (nf := 116) X mf_X12_mayGo mi_X12_mayGo ms_X12_mayGo rfl (Nat.le_of_ble_eq_true rfl) ml_RX12_575 ⟨Nat.le_of_ble_eq_true rfl, Nat.le_of_ble_eq_true rfl⟩ ⟨Nat.le_of_ble_eq_true rfl, Nat.le_of_ble_eq_true rfl⟩ rfl (Nat.le_of_ble_eq_true rfl) (ix_tb_at tb_X12_forgetSome 105 rfl) ⟨k_35.1, List.mem_singleton.mp k_35.2⟩ (c_X12_mayGo hKp h_53) rfl (pc1 := 180) rfl ?_
    refine ix_if_eq (tgt := 221) X (ix_tb_at tb_X12_forgetSome 106 rfl) (by decide) (pc1 := 183) rfl (fun q_55 => ?_) (fun q_55 => ?_)
    · have h := ix_ift q_55 h
      refine ix_sub (L1 := [(0, .ref (K.2.2.1 + a0)), (1, .int x1), (2, .int x2), (3, .int x3), (4, .int x4), (5, .int x5)]) [0, 1, 2, 3, 4, 5] rfl ?_
      exact t_X12_forgetSome_221 hKp X hr hlk hrec147 hrec162 h
    · have h := ix_iff q_55 h
      refine ix_iload (i := 4) (j := 4) X (ix_tb_at tb_X12_forgetSome 107 rfl) rfl (pc1 := 185) rfl ?_
      refine ix_if_lt (tgt := 217) X (ix_tb_at tb_X12_forgetSome 108 rfl) (by decide) (pc1 := 188) rfl (fun q_59 => ?_) (fun q_59 => ?_)
      · have h := ix_ift q_59 h
        refine ix_sub (L1 := [(0, .ref (K.2.2.1 + a0)), (1, .int x1), (2, .int x2), (3, .int x3), (4, .int x4), (5, .int x5)]) [0, 1, 2, 3, 4, 5] rfl ?_
        exact t_X12_forgetSome_217 hKp X hr hlk hrec147 hrec162 h
      · have h := ix_iff q_59 h
        refine ix_aload_n (i := 0) (j := 0) X (ix_tb_at tb_X12_forgetSome 109 rfl) rfl rfl (pc1 := 189) rfl ?_
        obtain ⟨b_60, q_61, h⟩ := ix_bd1_ex h
        refine iz_getR X fl_RX12_177 k_35 q_61 (ix_tb_at tb_X12_forgetSome 110 rfl) (pc1 := 192) rfl ?_
        refine ix_sipush (v := 800) X (ix_tb_at tb_X12_forgetSome 111 rfl) (by decide) (pc1 := 195) rfl ?_
        refine ix_iload_n (i := 1) (j := 1) X (ix_tb_at tb_X12_forgetSome 112 rfl) rfl rfl (pc1 := 196) rfl ?_
        refine ix_imul X (ix_tb_at tb_X12_forgetSome 113 rfl) (pc1 := 197) rfl ?_
        refine ix_iload (i := 5) (j := 5) X (ix_tb_at tb_X12_forgetSome 114 rfl) rfl (pc1 := 199) rfl ?_
        refine ix_iadd X (ix_tb_at tb_X12_forgetSome 115 rfl) (pc1 := 200) rfl ?_
        obtain ⟨k_62, h⟩ := ix_ck_some h
        refine iz_iald X k_62 (ix_tb_at tb_X12_forgetSome 116 rfl) (pc1 := 201) rfl ?_
        refine ix_aload_n (i := 0) (j := 0) X (ix_tb_at tb_X12_forgetSome 117 rfl) rfl rfl (pc1 := 202) rfl ?_
        refine iz_getR X fl_RX12_177 k_35 q_61 (ix_tb_at tb_X12_forgetSome 118 rfl) (pc1 := 205) rfl ?_
        refine ix_sipush (v := 800) X (ix_tb_at tb_X12_forgetSome 119 rfl) (by decide) (pc1 := 208) rfl ?_
        refine ix_iload_n (i := 1) (j := 1) X (ix_tb_at tb_X12_forgetSome 120 rfl) rfl rfl (pc1 := 209) rfl ?_
        refine ix_imul X (ix_tb_at tb_X12_forgetSome 121 rfl) (pc1 := 210) rfl ?_
        refine ix_iload (i := 4) (j := 4) X (ix_tb_at tb_X12_forgetSome 122 rfl) rfl (pc1 := 212) rfl ?_
        refine ix_iadd X (ix_tb_at tb_X12_forgetSome 123 rfl) (pc1 := 213) rfl ?_
        obtain ⟨k_63, h⟩ := ix_ck_some h
        refine iz_iald X k_63 (ix_tb_at tb_X12_forgetSome 124 rfl) (pc1 := 214) rfl ?_
        refine ix_icmp_ge (tgt := 221) X (ix_tb_at tb_X12_forgetSome 125 rfl) (by decide) (pc1 := 217) rfl (fun q_64 => ?_) (fun q_64 => ?_)
        · have h := ix_ift q_64 h
          refine ix_sub (L1 := [(0, .ref (K.2.2.1 + a0)), (1, .int x1), (2, .int x2), (3, .int x3), (4, .int x4), (5, .int x5)]) [0, 1, 2, 3, 4, 5] rfl ?_
          exact t_X12_forgetSome_221 hKp X hr hlk hrec147 hrec162 h
        · have h := ix_iff q_64 h
          refine ix_sub (L1 := [(0, .ref (K.2.2.1 + a0)), (1, .int x1), (2, .int x2), (3, .int x3), (4, .int x4), (5, .int x5)]) [0, 1, 2, 3, 4, 5] rfl ?_
          exact t_X12_forgetSome_217 hKp X hr hlk hrec147 hrec162 h
theorem t_X12_forgetSome_162 {l : Launch} {p : Program} {e : Env} {s : State} {m : MethodId} {args : Array Value} {below : List Frame} {meth : Method} {c : Code} {K : ix_Cx} (hKp : ix_Kp K) {n : Nat} {z : ix_Z} (X : ix_X p s m args c K cX12_forgetSome RX12 7) (hr : meth.sig.returnType = (none : Option Jvm.ClassFile.FieldType)) (hlk : meth.locks = false) {rec147 : Int32 → ix_D2 → Option (ix_D2)} {a0 : Nat} {x1 : Int32} {x2 : Int32} {x3 : Int32} {d1 : ix_D2} (hrec147 : ∀ (x3 : Int32) (d : ix_D2), rec147 x3 d = some d1 → ix_G p l e (ix_rm 2 44 0 0) s m args below meth c (MQ below (ix_Post K none (ix_w z d1)) args s 0 0 (ix_A K)) K 7 0 0 147 [(0, .ref (K.2.2.1 + a0)), (1, .int x1), (2, .int x2), (3, .int x3)] [] (ix_w z d)) {x4 : Int32} {x5 : Int32} {d : ix_D2} (h : f_X12_forgetSome_162 n z rec147 a0 x1 x2 x3 x4 x5 d = some d1) : ix_G p l e (ix_rm 2 44 0 0) s m args below meth c (MQ below (ix_Post K none (ix_w z d1)) args s 0 0 (ix_A K)) K 7 0 0 162 [(0, .ref (K.2.2.1 + a0)), (1, .int x1), (2, .int x2), (3, .int x3), (4, .int x4), (5, .int x5)] [] (ix_w z d) := by
  have key : ∀ (f : Nat) (x4 : Int32) (x5 : Int32) (d : ix_D2), ix_fix (b_X12_forgetSome_162 n z rec147 a0 x1 x2 x3) (fun _ _ _ => none) f x4 x5 d = some d1 → ix_G p l e (ix_rm 2 44 0 0) s m args below meth c (MQ below (ix_Post K none (ix_w z d1)) args s 0 0 (ix_A K)) K 7 0 0 162 [(0, .ref (K.2.2.1 + a0)), (1, .int x1), (2, .int x2), (3, .int x3), (4, .int x4), (5, .int x5)] [] (ix_w z d) := by
    intro f
    induction f with
    | zero =>
      intro x4 x5 d h
      have h : (none : Option (ix_D2)) = some d1 := h
      cases h
    | succ f ih =>
      intro x4 x5 d h
      exact tb_X12_forgetSome_162 hKp X hr hlk (rec162 := ix_fix (b_X12_forgetSome_162 n z rec147 a0 x1 x2 x3) (fun _ _ _ => none) f) hrec147 ih h
  exact key n x4 x5 d h
set_option maxRecDepth 20000 in
theorem tb_X12_forgetSome_147 {l : Launch} {p : Program} {e : Env} {s : State} {m : MethodId} {args : Array Value} {below : List Frame} {meth : Method} {c : Code} {K : ix_Cx} (hKp : ix_Kp K) {n : Nat} {z : ix_Z} (X : ix_X p s m args c K cX12_forgetSome RX12 7) (hr : meth.sig.returnType = (none : Option Jvm.ClassFile.FieldType)) (hlk : meth.locks = false)  {a0 : Nat} {x1 : Int32} {x2 : Int32} {rec147 : Int32 → ix_D2 → Option (ix_D2)} {d1 : ix_D2} (hrec147 : ∀ (x3 : Int32) (d : ix_D2), rec147 x3 d = some d1 → ix_G p l e (ix_rm 2 44 0 0) s m args below meth c (MQ below (ix_Post K none (ix_w z d1)) args s 0 0 (ix_A K)) K 7 0 0 147 [(0, .ref (K.2.2.1 + a0)), (1, .int x1), (2, .int x2), (3, .int x3)] [] (ix_w z d)) {x3 : Int32} {d : ix_D2} (h : b_X12_forgetSome_147 n z  a0 x1 x2 rec147 x3 d = some d1) : ix_G p l e (ix_rm 2 44 0 0) s m args below meth c (MQ below (ix_Post K none (ix_w z d1)) args s 0 0 (ix_A K)) K 7 0 0 147 [(0, .ref (K.2.2.1 + a0)), (1, .int x1), (2, .int x2), (3, .int x3)] [] (ix_w z d) := by
  unfold b_X12_forgetSome_147 at h
  refine ix_iload_n (i := 3) (j := 3) X (ix_tb_at tb_X12_forgetSome 87 rfl) rfl rfl (pc1 := 148) rfl ?_
  refine ix_iload_n (i := 2) (j := 2) X (ix_tb_at tb_X12_forgetSome 88 rfl) rfl rfl (pc1 := 149) rfl ?_
  refine ix_iconst (v := 2) X (ix_tb_at tb_X12_forgetSome 89 rfl) (by decide) (pc1 := 150) rfl ?_
  refine ix_idiv X (ix_tb_at tb_X12_forgetSome 90 rfl) (by decide) (pc1 := 151) rfl ?_
  refine ix_icmp_ge (tgt := 280) X (ix_tb_at tb_X12_forgetSome 91 rfl) (by decide) (pc1 := 154) rfl (fun q_22 => ?_) (fun q_22 => ?_)
  · have h := ix_ift q_22 h
    refine ix_iconst (v := 0) X (ix_tb_at tb_X12_forgetSome 161 rfl) (by decide) (pc1 := 281) rfl ?_
    refine ix_istore_n (i := 3) (L1 := [(3, .int 0), (0, .ref (K.2.2.1 + a0)), (1, .int x1), (2, .int x2)]) X (ix_tb_at tb_X12_forgetSome 162 rfl) rfl (Nat.le_of_ble_eq_true rfl) rfl (pc1 := 282) rfl ?_
    refine ix_sub (L1 := [(0, .ref (K.2.2.1 + a0)), (1, .int x1), (3, .int 0)]) [1, 2, 0] rfl ?_
    exact t_X12_forgetSome_282 hKp X hr hlk  h
  · have h := ix_iff q_22 h
    refine ix_sipush (v := (-1005)) X (ix_tb_at tb_X12_forgetSome 92 rfl) (by decide) (pc1 := 157) rfl ?_
    refine ix_istore (i := 4) (L1 := [(4, .int ((-1005))), (0, .ref (K.2.2.1 + a0)), (1, .int x1), (2, .int x2), (3, .int x3)]) X (ix_tb_at tb_X12_forgetSome 93 rfl) (Nat.le_of_ble_eq_true rfl) rfl (pc1 := 159) rfl ?_
    refine ix_iconst (v := 0) X (ix_tb_at tb_X12_forgetSome 94 rfl) (by decide) (pc1 := 160) rfl ?_
    refine ix_istore (i := 5) (L1 := [(5, .int 0), (4, .int ((-1005))), (0, .ref (K.2.2.1 + a0)), (1, .int x1), (2, .int x2), (3, .int x3)]) X (ix_tb_at tb_X12_forgetSome 95 rfl) (Nat.le_of_ble_eq_true rfl) rfl (pc1 := 162) rfl ?_
    refine ix_sub (L1 := [(0, .ref (K.2.2.1 + a0)), (1, .int x1), (2, .int x2), (3, .int x3), (4, .int ((-1005))), (5, .int 0)]) [2, 3, 4, 5, 1, 0] rfl ?_
    exact t_X12_forgetSome_162 hKp X hr hlk hrec147 h
theorem t_X12_forgetSome_147 {l : Launch} {p : Program} {e : Env} {s : State} {m : MethodId} {args : Array Value} {below : List Frame} {meth : Method} {c : Code} {K : ix_Cx} (hKp : ix_Kp K) {n : Nat} {z : ix_Z} (X : ix_X p s m args c K cX12_forgetSome RX12 7) (hr : meth.sig.returnType = (none : Option Jvm.ClassFile.FieldType)) (hlk : meth.locks = false)  {a0 : Nat} {x1 : Int32} {x2 : Int32} {d1 : ix_D2}  {x3 : Int32} {d : ix_D2} (h : f_X12_forgetSome_147 n z  a0 x1 x2 x3 d = some d1) : ix_G p l e (ix_rm 2 44 0 0) s m args below meth c (MQ below (ix_Post K none (ix_w z d1)) args s 0 0 (ix_A K)) K 7 0 0 147 [(0, .ref (K.2.2.1 + a0)), (1, .int x1), (2, .int x2), (3, .int x3)] [] (ix_w z d) := by
  have key : ∀ (f : Nat) (x3 : Int32) (d : ix_D2), ix_fix (b_X12_forgetSome_147 n z  a0 x1 x2) (fun _ _ => none) f x3 d = some d1 → ix_G p l e (ix_rm 2 44 0 0) s m args below meth c (MQ below (ix_Post K none (ix_w z d1)) args s 0 0 (ix_A K)) K 7 0 0 147 [(0, .ref (K.2.2.1 + a0)), (1, .int x1), (2, .int x2), (3, .int x3)] [] (ix_w z d) := by
    intro f
    induction f with
    | zero =>
      intro x3 d h
      have h : (none : Option (ix_D2)) = some d1 := h
      cases h
    | succ f ih =>
      intro x3 d h
      exact tb_X12_forgetSome_147 hKp X hr hlk (rec147 := ix_fix (b_X12_forgetSome_147 n z  a0 x1 x2) (fun _ _ => none) f)  ih h
  exact key n x3 d h
set_option maxRecDepth 20000 in
theorem t_X12_forgetSome_137 {l : Launch} {p : Program} {e : Env} {s : State} {m : MethodId} {args : Array Value} {below : List Frame} {meth : Method} {c : Code} {K : ix_Cx} (hKp : ix_Kp K) {n : Nat} {z : ix_Z} (X : ix_X p s m args c K cX12_forgetSome RX12 7) (hr : meth.sig.returnType = (none : Option Jvm.ClassFile.FieldType)) (hlk : meth.locks = false) {rec112 : Int32 → Int32 → ix_D2 → Option (ix_D2)} {a0 : Nat} {x1 : Int32} {x3 : Int32} {s0 : Int32} {s1 : Int32} {d1 : ix_D2} (hrec112 : ∀ (x2 : Int32) (x3 : Int32) (d : ix_D2), rec112 x2 x3 d = some d1 → ix_G p l e (ix_rm 2 44 0 0) s m args below meth c (MQ below (ix_Post K none (ix_w z d1)) args s 0 0 (ix_A K)) K 7 0 0 112 [(0, .ref (K.2.2.1 + a0)), (1, .int x1), (2, .int x2), (3, .int x3)] [] (ix_w z d)) {d : ix_D2} (h : f_X12_forgetSome_137 n z rec112 a0 x1 x3 s0 s1 d = some d1) : ix_G p l e (ix_rm 2 44 0 0) s m args below meth c (MQ below (ix_Post K none (ix_w z d1)) args s 0 0 (ix_A K)) K 7 0 0 137 [(0, .ref (K.2.2.1 + a0)), (1, .int x1), (3, .int x3)] [.int s0, .int s1] (ix_w z d) := by
  unfold f_X12_forgetSome_137 at h
  refine ix_iadd X (ix_tb_at tb_X12_forgetSome 81 rfl) (pc1 := 138) rfl ?_
  obtain ⟨x2_69, e_70, h⟩ := ix_lt_ex h
  refine ix_nmi e_70 ?_
  refine ix_istore_n (i := 2) (L1 := [(2, .int x2_69), (0, .ref (K.2.2.1 + a0)), (1, .int x1), (3, .int x3)]) X (ix_tb_at tb_X12_forgetSome 82 rfl) rfl (Nat.le_of_ble_eq_true rfl) rfl (pc1 := 139) rfl ?_
  obtain ⟨x3_71, e_72, h⟩ := ix_lt_ex h
  refine ix_iinc (i := 3) (j := 3) (v := x3_71) (L1 := [(3, .int x3_71), (2, .int x2_69), (0, .ref (K.2.2.1 + a0)), (1, .int x1)]) X (ix_tb_at tb_X12_forgetSome 83 rfl) rfl (by rw [oi_1]; exact e_72.symm) (Nat.le_of_ble_eq_true rfl) rfl (pc1 := 142) rfl ?_
  refine ix_goto (tgt := 112) X (ix_tb_at tb_X12_forgetSome 84 rfl) (by decide) ?_
  refine ix_sub (L1 := [(0, .ref (K.2.2.1 + a0)), (1, .int x1), (2, .int x2_69), (3, .int x3_71)]) [2, 3, 1, 0] rfl ?_
  exact hrec112 x2_69 x3_71 d h
set_option maxRecDepth 20000 in
theorem tb_X12_forgetSome_112 {l : Launch} {p : Program} {e : Env} {s : State} {m : MethodId} {args : Array Value} {below : List Frame} {meth : Method} {c : Code} {K : ix_Cx} (hKp : ix_Kp K) {n : Nat} {z : ix_Z} (X : ix_X p s m args c K cX12_forgetSome RX12 7) (hr : meth.sig.returnType = (none : Option Jvm.ClassFile.FieldType)) (hlk : meth.locks = false)  {a0 : Nat} {x1 : Int32} {rec112 : Int32 → Int32 → ix_D2 → Option (ix_D2)} {d1 : ix_D2} (hrec112 : ∀ (x2 : Int32) (x3 : Int32) (d : ix_D2), rec112 x2 x3 d = some d1 → ix_G p l e (ix_rm 2 44 0 0) s m args below meth c (MQ below (ix_Post K none (ix_w z d1)) args s 0 0 (ix_A K)) K 7 0 0 112 [(0, .ref (K.2.2.1 + a0)), (1, .int x1), (2, .int x2), (3, .int x3)] [] (ix_w z d)) {x2 : Int32} {x3 : Int32} {d : ix_D2} (h : b_X12_forgetSome_112 n z  a0 x1 rec112 x2 x3 d = some d1) : ix_G p l e (ix_rm 2 44 0 0) s m args below meth c (MQ below (ix_Post K none (ix_w z d1)) args s 0 0 (ix_A K)) K 7 0 0 112 [(0, .ref (K.2.2.1 + a0)), (1, .int x1), (2, .int x2), (3, .int x3)] [] (ix_w z d) := by
  unfold b_X12_forgetSome_112 at h
  refine ix_iload_n (i := 3) (j := 3) X (ix_tb_at tb_X12_forgetSome 66 rfl) rfl rfl (pc1 := 113) rfl ?_
  refine ix_aload_n (i := 0) (j := 0) X (ix_tb_at tb_X12_forgetSome 67 rfl) rfl rfl (pc1 := 114) rfl ?_
  obtain ⟨k_17, h⟩ := ix_ck_some h
  obtain ⟨b_18, q_19, h⟩ := ix_bd1_ex h
  refine iz_getR X fl_RX12_171 k_17 q_19 (ix_tb_at tb_X12_forgetSome 68 rfl) (pc1 := 117) rfl ?_
  refine ix_iload_n (i := 1) (j := 1) X (ix_tb_at tb_X12_forgetSome 69 rfl) rfl rfl (pc1 := 118) rfl ?_
  obtain ⟨k_20, h⟩ := ix_ck_some h
  refine iz_iald X k_20 (ix_tb_at tb_X12_forgetSome 70 rfl) (pc1 := 119) rfl ?_
  refine ix_icmp_ge (tgt := 145) X (ix_tb_at tb_X12_forgetSome 71 rfl) (by decide) (pc1 := 122) rfl (fun q_21 => ?_) (fun q_21 => ?_)
  · have h := ix_ift q_21 h
    refine ix_iconst (v := 0) X (ix_tb_at tb_X12_forgetSome 85 rfl) (by decide) (pc1 := 146) rfl ?_
    refine ix_istore_n (i := 3) (L1 := [(3, .int 0), (0, .ref (K.2.2.1 + a0)), (1, .int x1), (2, .int x2)]) X (ix_tb_at tb_X12_forgetSome 86 rfl) rfl (Nat.le_of_ble_eq_true rfl) rfl (pc1 := 147) rfl ?_
    refine ix_sub (L1 := [(0, .ref (K.2.2.1 + a0)), (1, .int x1), (2, .int x2), (3, .int 0)]) [1, 2, 3, 0] rfl ?_
    exact t_X12_forgetSome_147 hKp X hr hlk  h
  · have h := ix_iff q_21 h
    refine ix_iload_n (i := 2) (j := 2) X (ix_tb_at tb_X12_forgetSome 72 rfl) rfl rfl (pc1 := 123) rfl ?_
    refine ix_aload_n (i := 0) (j := 0) X (ix_tb_at tb_X12_forgetSome 73 rfl) rfl rfl (pc1 := 124) rfl ?_
    refine ix_iload_n (i := 1) (j := 1) X (ix_tb_at tb_X12_forgetSome 74 rfl) rfl rfl (pc1 := 125) rfl ?_
    refine ix_iload_n (i := 3) (j := 3) X (ix_tb_at tb_X12_forgetSome 75 rfl) rfl rfl (pc1 := 126) rfl ?_
    obtain ⟨r_67, d_65, h_66, h⟩ := ix_bd2_ex h
    refine ix_callV (As := [.int x1, .int x3]) (rest := [.int x2]) (ci := 11) (T := TX12) (nf := 116) X mf_X12_mayGo mi_X12_mayGo ms_X12_mayGo rfl (Nat.le_of_ble_eq_true rfl) ml_RX12_575 ⟨Nat.le_of_ble_eq_true rfl, Nat.le_of_ble_eq_true rfl⟩ ⟨Nat.le_of_ble_eq_true rfl, Nat.le_of_ble_eq_true rfl⟩ rfl (Nat.le_of_ble_eq_true rfl) (ix_tb_at tb_X12_forgetSome 76 rfl) ⟨k_17.1, List.mem_singleton.mp k_17.2⟩ (c_X12_mayGo hKp h_66) rfl (pc1 := 129) rfl ?_
    refine ix_if_eq (tgt := 136) X (ix_tb_at tb_X12_forgetSome 77 rfl) (by decide) (pc1 := 132) rfl (fun q_68 => ?_) (fun q_68 => ?_)
    · have h := ix_ift q_68 h
      refine ix_iconst (v := 0) X (ix_tb_at tb_X12_forgetSome 80 rfl) (by decide) (pc1 := 137) rfl ?_
      refine ix_sub (L1 := [(0, .ref (K.2.2.1 + a0)), (1, .int x1), (3, .int x3)]) [0, 1, 3] rfl ?_
      exact t_X12_forgetSome_137 hKp X hr hlk hrec112 h
    · have h := ix_iff q_68 h
      refine ix_iconst (v := 1) X (ix_tb_at tb_X12_forgetSome 78 rfl) (by decide) (pc1 := 133) rfl ?_
      refine ix_goto (tgt := 137) X (ix_tb_at tb_X12_forgetSome 79 rfl) (by decide) ?_
      refine ix_sub (L1 := [(0, .ref (K.2.2.1 + a0)), (1, .int x1), (3, .int x3)]) [0, 1, 3] rfl ?_
      exact t_X12_forgetSome_137 hKp X hr hlk hrec112 h
theorem t_X12_forgetSome_112 {l : Launch} {p : Program} {e : Env} {s : State} {m : MethodId} {args : Array Value} {below : List Frame} {meth : Method} {c : Code} {K : ix_Cx} (hKp : ix_Kp K) {n : Nat} {z : ix_Z} (X : ix_X p s m args c K cX12_forgetSome RX12 7) (hr : meth.sig.returnType = (none : Option Jvm.ClassFile.FieldType)) (hlk : meth.locks = false)  {a0 : Nat} {x1 : Int32} {d1 : ix_D2}  {x2 : Int32} {x3 : Int32} {d : ix_D2} (h : f_X12_forgetSome_112 n z  a0 x1 x2 x3 d = some d1) : ix_G p l e (ix_rm 2 44 0 0) s m args below meth c (MQ below (ix_Post K none (ix_w z d1)) args s 0 0 (ix_A K)) K 7 0 0 112 [(0, .ref (K.2.2.1 + a0)), (1, .int x1), (2, .int x2), (3, .int x3)] [] (ix_w z d) := by
  have key : ∀ (f : Nat) (x2 : Int32) (x3 : Int32) (d : ix_D2), ix_fix (b_X12_forgetSome_112 n z  a0 x1) (fun _ _ _ => none) f x2 x3 d = some d1 → ix_G p l e (ix_rm 2 44 0 0) s m args below meth c (MQ below (ix_Post K none (ix_w z d1)) args s 0 0 (ix_A K)) K 7 0 0 112 [(0, .ref (K.2.2.1 + a0)), (1, .int x1), (2, .int x2), (3, .int x3)] [] (ix_w z d) := by
    intro f
    induction f with
    | zero =>
      intro x2 x3 d h
      have h : (none : Option (ix_D2)) = some d1 := h
      cases h
    | succ f ih =>
      intro x2 x3 d h
      exact tb_X12_forgetSome_112 hKp X hr hlk (rec112 := ix_fix (b_X12_forgetSome_112 n z  a0 x1) (fun _ _ _ => none) f)  ih h
  exact key n x2 x3 d h
set_option maxRecDepth 20000 in
theorem t_X12_forgetSome_102 {l : Launch} {p : Program} {e : Env} {s : State} {m : MethodId} {args : Array Value} {below : List Frame} {meth : Method} {c : Code} {K : ix_Cx} (hKp : ix_Kp K) {n : Nat} {z : ix_Z} (X : ix_X p s m args c K cX12_forgetSome RX12 7) (hr : meth.sig.returnType = (none : Option Jvm.ClassFile.FieldType)) (hlk : meth.locks = false) {rec47 : Int32 → ix_D2 → Option (ix_D2)} {a0 : Nat} {x1 : Int32} {x2 : Int32} {d1 : ix_D2} (hrec47 : ∀ (x2 : Int32) (d : ix_D2), rec47 x2 d = some d1 → ix_G p l e (ix_rm 2 44 0 0) s m args below meth c (MQ below (ix_Post K none (ix_w z d1)) args s 0 0 (ix_A K)) K 7 0 0 47 [(0, .ref (K.2.2.1 + a0)), (1, .int x1), (2, .int x2)] [] (ix_w z d)) {d : ix_D2} (h : f_X12_forgetSome_102 n z rec47 a0 x1 x2 d = some d1) : ix_G p l e (ix_rm 2 44 0 0) s m args below meth c (MQ below (ix_Post K none (ix_w z d1)) args s 0 0 (ix_A K)) K 7 0 0 102 [(0, .ref (K.2.2.1 + a0)), (1, .int x1), (2, .int x2)] [] (ix_w z d) := by
  unfold f_X12_forgetSome_102 at h
  obtain ⟨x2_85, e_86, h⟩ := ix_lt_ex h
  refine ix_iinc (i := 2) (j := 2) (v := x2_85) (L1 := [(2, .int x2_85), (0, .ref (K.2.2.1 + a0)), (1, .int x1)]) X (ix_tb_at tb_X12_forgetSome 60 rfl) rfl (by rw [oi_1]; exact e_86.symm) (Nat.le_of_ble_eq_true rfl) rfl (pc1 := 105) rfl ?_
  refine ix_goto (tgt := 47) X (ix_tb_at tb_X12_forgetSome 61 rfl) (by decide) ?_
  refine ix_sub (L1 := [(0, .ref (K.2.2.1 + a0)), (1, .int x1), (2, .int x2_85)]) [1, 2, 0] rfl ?_
  exact hrec47 x2_85 d h
set_option maxRecDepth 20000 in
theorem tb_X12_forgetSome_47 {l : Launch} {p : Program} {e : Env} {s : State} {m : MethodId} {args : Array Value} {below : List Frame} {meth : Method} {c : Code} {K : ix_Cx} (hKp : ix_Kp K) {n : Nat} {z : ix_Z} (X : ix_X p s m args c K cX12_forgetSome RX12 7) (hr : meth.sig.returnType = (none : Option Jvm.ClassFile.FieldType)) (hlk : meth.locks = false)  {a0 : Nat} {x1 : Int32} {rec47 : Int32 → ix_D2 → Option (ix_D2)} {d1 : ix_D2} (hrec47 : ∀ (x2 : Int32) (d : ix_D2), rec47 x2 d = some d1 → ix_G p l e (ix_rm 2 44 0 0) s m args below meth c (MQ below (ix_Post K none (ix_w z d1)) args s 0 0 (ix_A K)) K 7 0 0 47 [(0, .ref (K.2.2.1 + a0)), (1, .int x1), (2, .int x2)] [] (ix_w z d)) {x2 : Int32} {d : ix_D2} (h : b_X12_forgetSome_47 n z  a0 x1 rec47 x2 d = some d1) : ix_G p l e (ix_rm 2 44 0 0) s m args below meth c (MQ below (ix_Post K none (ix_w z d1)) args s 0 0 (ix_A K)) K 7 0 0 47 [(0, .ref (K.2.2.1 + a0)), (1, .int x1), (2, .int x2)] [] (ix_w z d) := by
  unfold b_X12_forgetSome_47 at h
  refine ix_iload_n (i := 2) (j := 2) X (ix_tb_at tb_X12_forgetSome 27 rfl) rfl rfl (pc1 := 48) rfl ?_
  refine ix_aload_n (i := 0) (j := 0) X (ix_tb_at tb_X12_forgetSome 28 rfl) rfl rfl (pc1 := 49) rfl ?_
  obtain ⟨k_12, h⟩ := ix_ck_some h
  obtain ⟨b_13, q_14, h⟩ := ix_bd1_ex h
  refine iz_getR X fl_RX12_156 k_12 q_14 (ix_tb_at tb_X12_forgetSome 29 rfl) (pc1 := 52) rfl ?_
  refine ix_iload_n (i := 1) (j := 1) X (ix_tb_at tb_X12_forgetSome 30 rfl) rfl rfl (pc1 := 53) rfl ?_
  obtain ⟨k_15, h⟩ := ix_ck_some h
  refine iz_iald X k_15 (ix_tb_at tb_X12_forgetSome 31 rfl) (pc1 := 54) rfl ?_
  refine ix_icmp_ge (tgt := 108) X (ix_tb_at tb_X12_forgetSome 32 rfl) (by decide) (pc1 := 57) rfl (fun q_16 => ?_) (fun q_16 => ?_)
  · have h := ix_ift q_16 h
    refine ix_iconst (v := 0) X (ix_tb_at tb_X12_forgetSome 62 rfl) (by decide) (pc1 := 109) rfl ?_
    refine ix_istore_n (i := 2) (L1 := [(2, .int 0), (0, .ref (K.2.2.1 + a0)), (1, .int x1)]) X (ix_tb_at tb_X12_forgetSome 63 rfl) rfl (Nat.le_of_ble_eq_true rfl) rfl (pc1 := 110) rfl ?_
    refine ix_iconst (v := 0) X (ix_tb_at tb_X12_forgetSome 64 rfl) (by decide) (pc1 := 111) rfl ?_
    refine ix_istore_n (i := 3) (L1 := [(3, .int 0), (2, .int 0), (0, .ref (K.2.2.1 + a0)), (1, .int x1)]) X (ix_tb_at tb_X12_forgetSome 65 rfl) rfl (Nat.le_of_ble_eq_true rfl) rfl (pc1 := 112) rfl ?_
    refine ix_sub (L1 := [(0, .ref (K.2.2.1 + a0)), (1, .int x1), (2, .int 0), (3, .int 0)]) [2, 3, 1, 0] rfl ?_
    exact t_X12_forgetSome_112 hKp X hr hlk  h
  · have h := ix_iff q_16 h
    refine ix_aload_n (i := 0) (j := 0) X (ix_tb_at tb_X12_forgetSome 33 rfl) rfl rfl (pc1 := 58) rfl ?_
    obtain ⟨b_73, q_74, h⟩ := ix_bd1_ex h
    refine iz_getR X fl_RX12_140 k_12 q_74 (ix_tb_at tb_X12_forgetSome 34 rfl) (pc1 := 61) rfl ?_
    refine ix_sipush (v := 301) X (ix_tb_at tb_X12_forgetSome 35 rfl) (by decide) (pc1 := 64) rfl ?_
    refine ix_iload_n (i := 1) (j := 1) X (ix_tb_at tb_X12_forgetSome 36 rfl) rfl rfl (pc1 := 65) rfl ?_
    refine ix_imul X (ix_tb_at tb_X12_forgetSome 37 rfl) (pc1 := 66) rfl ?_
    refine ix_aload_n (i := 0) (j := 0) X (ix_tb_at tb_X12_forgetSome 38 rfl) rfl rfl (pc1 := 67) rfl ?_
    obtain ⟨b_75, q_76, h⟩ := ix_bd1_ex h
    refine iz_getR X fl_RX12_153 k_12 q_76 (ix_tb_at tb_X12_forgetSome 39 rfl) (pc1 := 70) rfl ?_
    refine ix_sipush (v := 300) X (ix_tb_at tb_X12_forgetSome 40 rfl) (by decide) (pc1 := 73) rfl ?_
    refine ix_iload_n (i := 1) (j := 1) X (ix_tb_at tb_X12_forgetSome 41 rfl) rfl rfl (pc1 := 74) rfl ?_
    refine ix_imul X (ix_tb_at tb_X12_forgetSome 42 rfl) (pc1 := 75) rfl ?_
    refine ix_iload_n (i := 2) (j := 2) X (ix_tb_at tb_X12_forgetSome 43 rfl) rfl rfl (pc1 := 76) rfl ?_
    refine ix_iadd X (ix_tb_at tb_X12_forgetSome 44 rfl) (pc1 := 77) rfl ?_
    obtain ⟨k_77, h⟩ := ix_ck_some h
    refine iz_iald X k_77 (ix_tb_at tb_X12_forgetSome 45 rfl) (pc1 := 78) rfl ?_
    obtain ⟨r_80, d_78, h_79, h⟩ := ix_bd2_ex h
    refine ix_callS (As := [.int (d.1 b_75 (ix_n ((300 * x1) + x2)))]) (rest := [.int (301 * x1), .ref (K.2.2.1 + b_73)]) X mf_X12_nameOf st_X12_nameOf ml_RX12_289 ⟨Nat.le_of_ble_eq_true rfl, Nat.le_of_ble_eq_true rfl⟩ ⟨Nat.le_of_ble_eq_true rfl, Nat.le_of_ble_eq_true rfl⟩ rfl (Nat.le_of_ble_eq_true rfl) (ix_tb_at tb_X12_forgetSome 46 rfl) (c_X12_nameOf hKp h_79) rfl (pc1 := 81) rfl ?_
    refine ix_iadd X (ix_tb_at tb_X12_forgetSome 47 rfl) (pc1 := 82) rfl ?_
    obtain ⟨k_81, h⟩ := ix_ck_some h
    refine iz_iald X k_81 (ix_tb_at tb_X12_forgetSome 48 rfl) (pc1 := 83) rfl ?_
    obtain ⟨x3_82, e_83, h⟩ := ix_lt_ex h
    refine ix_nmi e_83 ?_
    refine ix_istore_n (i := 3) (L1 := [(3, .int x3_82), (0, .ref (K.2.2.1 + a0)), (1, .int x1), (2, .int x2)]) X (ix_tb_at tb_X12_forgetSome 49 rfl) rfl (Nat.le_of_ble_eq_true rfl) rfl (pc1 := 84) rfl ?_
    refine ix_iload_n (i := 3) (j := 0) X (ix_tb_at tb_X12_forgetSome 50 rfl) rfl rfl (pc1 := 85) rfl ?_
    refine ix_sipush (v := 2000) X (ix_tb_at tb_X12_forgetSome 51 rfl) (by decide) (pc1 := 88) rfl ?_
    refine ix_icmp_lt (tgt := 102) X (ix_tb_at tb_X12_forgetSome 52 rfl) (by decide) (pc1 := 91) rfl (fun q_84 => ?_) (fun q_84 => ?_)
    · have h := ix_ift q_84 h
      refine ix_sub (L1 := [(0, .ref (K.2.2.1 + a0)), (1, .int x1), (2, .int x2)]) [1, 2, 3] rfl ?_
      exact t_X12_forgetSome_102 hKp X hr hlk hrec47 h
    · have h := ix_iff q_84 h
      refine ix_aload_n (i := 0) (j := 1) X (ix_tb_at tb_X12_forgetSome 53 rfl) rfl rfl (pc1 := 92) rfl ?_
      obtain ⟨b_87, q_88, h⟩ := ix_bd1_ex h
      refine iz_getR X fl_RX12_219 k_12 q_88 (ix_tb_at tb_X12_forgetSome 54 rfl) (pc1 := 95) rfl ?_
      refine ix_iload_n (i := 3) (j := 0) X (ix_tb_at tb_X12_forgetSome 55 rfl) rfl rfl (pc1 := 96) rfl ?_
      refine ix_sipush (v := 2000) X (ix_tb_at tb_X12_forgetSome 56 rfl) (by decide) (pc1 := 99) rfl ?_
      refine ix_isub X (ix_tb_at tb_X12_forgetSome 57 rfl) (pc1 := 100) rfl ?_
      refine ix_iconst (v := 1) X (ix_tb_at tb_X12_forgetSome 58 rfl) (by decide) (pc1 := 101) rfl ?_
      obtain ⟨k_89, h⟩ := ix_ck_some h
      obtain ⟨d_90, e_91, h⟩ := ix_lt_ex h
      refine iz_zast X k_89 (ix_tb_at tb_X12_forgetSome 59 rfl) e_91 (pc1 := 102) rfl ?_
      refine ix_sub (L1 := [(0, .ref (K.2.2.1 + a0)), (1, .int x1), (2, .int x2)]) [1, 2, 3] rfl ?_
      exact t_X12_forgetSome_102 hKp X hr hlk hrec47 h
theorem t_X12_forgetSome_47 {l : Launch} {p : Program} {e : Env} {s : State} {m : MethodId} {args : Array Value} {below : List Frame} {meth : Method} {c : Code} {K : ix_Cx} (hKp : ix_Kp K) {n : Nat} {z : ix_Z} (X : ix_X p s m args c K cX12_forgetSome RX12 7) (hr : meth.sig.returnType = (none : Option Jvm.ClassFile.FieldType)) (hlk : meth.locks = false)  {a0 : Nat} {x1 : Int32} {d1 : ix_D2}  {x2 : Int32} {d : ix_D2} (h : f_X12_forgetSome_47 n z  a0 x1 x2 d = some d1) : ix_G p l e (ix_rm 2 44 0 0) s m args below meth c (MQ below (ix_Post K none (ix_w z d1)) args s 0 0 (ix_A K)) K 7 0 0 47 [(0, .ref (K.2.2.1 + a0)), (1, .int x1), (2, .int x2)] [] (ix_w z d) := by
  have key : ∀ (f : Nat) (x2 : Int32) (d : ix_D2), ix_fix (b_X12_forgetSome_47 n z  a0 x1) (fun _ _ => none) f x2 d = some d1 → ix_G p l e (ix_rm 2 44 0 0) s m args below meth c (MQ below (ix_Post K none (ix_w z d1)) args s 0 0 (ix_A K)) K 7 0 0 47 [(0, .ref (K.2.2.1 + a0)), (1, .int x1), (2, .int x2)] [] (ix_w z d) := by
    intro f
    induction f with
    | zero =>
      intro x2 d h
      have h : (none : Option (ix_D2)) = some d1 := h
      cases h
    | succ f ih =>
      intro x2 d h
      exact tb_X12_forgetSome_47 hKp X hr hlk (rec47 := ix_fix (b_X12_forgetSome_47 n z  a0 x1) (fun _ _ => none) f)  ih h
  exact key n x2 d h
set_option maxRecDepth 20000 in
theorem tb_X12_forgetSome_22 {l : Launch} {p : Program} {e : Env} {s : State} {m : MethodId} {args : Array Value} {below : List Frame} {meth : Method} {c : Code} {K : ix_Cx} (hKp : ix_Kp K) {n : Nat} {z : ix_Z} (X : ix_X p s m args c K cX12_forgetSome RX12 7) (hr : meth.sig.returnType = (none : Option Jvm.ClassFile.FieldType)) (hlk : meth.locks = false)  {a0 : Nat} {x1 : Int32} {rec22 : Int32 → ix_D2 → Option (ix_D2)} {d1 : ix_D2} (hrec22 : ∀ (x2 : Int32) (d : ix_D2), rec22 x2 d = some d1 → ix_G p l e (ix_rm 2 44 0 0) s m args below meth c (MQ below (ix_Post K none (ix_w z d1)) args s 0 0 (ix_A K)) K 7 0 0 22 [(0, .ref (K.2.2.1 + a0)), (1, .int x1), (2, .int x2)] [] (ix_w z d)) {x2 : Int32} {d : ix_D2} (h : b_X12_forgetSome_22 n z  a0 x1 rec22 x2 d = some d1) : ix_G p l e (ix_rm 2 44 0 0) s m args below meth c (MQ below (ix_Post K none (ix_w z d1)) args s 0 0 (ix_A K)) K 7 0 0 22 [(0, .ref (K.2.2.1 + a0)), (1, .int x1), (2, .int x2)] [] (ix_w z d) := by
  unfold b_X12_forgetSome_22 at h
  refine ix_iload_n (i := 2) (j := 2) X (ix_tb_at tb_X12_forgetSome 12 rfl) rfl rfl (pc1 := 23) rfl ?_
  refine ix_aload_n (i := 0) (j := 0) X (ix_tb_at tb_X12_forgetSome 13 rfl) rfl rfl (pc1 := 24) rfl ?_
  obtain ⟨k_7, h⟩ := ix_ck_some h
  obtain ⟨b_8, q_9, h⟩ := ix_bd1_ex h
  refine iz_getR X fl_RX12_171 k_7 q_9 (ix_tb_at tb_X12_forgetSome 14 rfl) (pc1 := 27) rfl ?_
  refine ix_iload_n (i := 1) (j := 1) X (ix_tb_at tb_X12_forgetSome 15 rfl) rfl rfl (pc1 := 28) rfl ?_
  obtain ⟨k_10, h⟩ := ix_ck_some h
  refine iz_iald X k_10 (ix_tb_at tb_X12_forgetSome 16 rfl) (pc1 := 29) rfl ?_
  refine ix_icmp_ge (tgt := 45) X (ix_tb_at tb_X12_forgetSome 17 rfl) (by decide) (pc1 := 32) rfl (fun q_11 => ?_) (fun q_11 => ?_)
  · have h := ix_ift q_11 h
    refine ix_iconst (v := 0) X (ix_tb_at tb_X12_forgetSome 25 rfl) (by decide) (pc1 := 46) rfl ?_
    refine ix_istore_n (i := 2) (L1 := [(2, .int 0), (0, .ref (K.2.2.1 + a0)), (1, .int x1)]) X (ix_tb_at tb_X12_forgetSome 26 rfl) rfl (Nat.le_of_ble_eq_true rfl) rfl (pc1 := 47) rfl ?_
    refine ix_sub (L1 := [(0, .ref (K.2.2.1 + a0)), (1, .int x1), (2, .int 0)]) [1, 2, 0] rfl ?_
    exact t_X12_forgetSome_47 hKp X hr hlk  h
  · have h := ix_iff q_11 h
    refine ix_aload_n (i := 0) (j := 0) X (ix_tb_at tb_X12_forgetSome 18 rfl) rfl rfl (pc1 := 33) rfl ?_
    obtain ⟨b_92, q_93, h⟩ := ix_bd1_ex h
    refine iz_getR X fl_RX12_219 k_7 q_93 (ix_tb_at tb_X12_forgetSome 19 rfl) (pc1 := 36) rfl ?_
    refine ix_iload_n (i := 2) (j := 2) X (ix_tb_at tb_X12_forgetSome 20 rfl) rfl rfl (pc1 := 37) rfl ?_
    refine ix_iconst (v := 0) X (ix_tb_at tb_X12_forgetSome 21 rfl) (by decide) (pc1 := 38) rfl ?_
    obtain ⟨k_94, h⟩ := ix_ck_some h
    obtain ⟨d_95, e_96, h⟩ := ix_lt_ex h
    refine iz_zast X k_94 (ix_tb_at tb_X12_forgetSome 22 rfl) e_96 (pc1 := 39) rfl ?_
    obtain ⟨x2_97, e_98, h⟩ := ix_lt_ex h
    refine ix_iinc (i := 2) (j := 2) (v := x2_97) (L1 := [(2, .int x2_97), (0, .ref (K.2.2.1 + a0)), (1, .int x1)]) X (ix_tb_at tb_X12_forgetSome 23 rfl) rfl (by rw [oi_1]; exact e_98.symm) (Nat.le_of_ble_eq_true rfl) rfl (pc1 := 42) rfl ?_
    refine ix_goto (tgt := 22) X (ix_tb_at tb_X12_forgetSome 24 rfl) (by decide) ?_
    refine ix_sub (L1 := [(0, .ref (K.2.2.1 + a0)), (1, .int x1), (2, .int x2_97)]) [1, 2, 0] rfl ?_
    exact hrec22 x2_97 d_95 h
theorem t_X12_forgetSome_22 {l : Launch} {p : Program} {e : Env} {s : State} {m : MethodId} {args : Array Value} {below : List Frame} {meth : Method} {c : Code} {K : ix_Cx} (hKp : ix_Kp K) {n : Nat} {z : ix_Z} (X : ix_X p s m args c K cX12_forgetSome RX12 7) (hr : meth.sig.returnType = (none : Option Jvm.ClassFile.FieldType)) (hlk : meth.locks = false)  {a0 : Nat} {x1 : Int32} {d1 : ix_D2}  {x2 : Int32} {d : ix_D2} (h : f_X12_forgetSome_22 n z  a0 x1 x2 d = some d1) : ix_G p l e (ix_rm 2 44 0 0) s m args below meth c (MQ below (ix_Post K none (ix_w z d1)) args s 0 0 (ix_A K)) K 7 0 0 22 [(0, .ref (K.2.2.1 + a0)), (1, .int x1), (2, .int x2)] [] (ix_w z d) := by
  have key : ∀ (f : Nat) (x2 : Int32) (d : ix_D2), ix_fix (b_X12_forgetSome_22 n z  a0 x1) (fun _ _ => none) f x2 d = some d1 → ix_G p l e (ix_rm 2 44 0 0) s m args below meth c (MQ below (ix_Post K none (ix_w z d1)) args s 0 0 (ix_A K)) K 7 0 0 22 [(0, .ref (K.2.2.1 + a0)), (1, .int x1), (2, .int x2)] [] (ix_w z d) := by
    intro f
    induction f with
    | zero =>
      intro x2 d h
      have h : (none : Option (ix_D2)) = some d1 := h
      cases h
    | succ f ih =>
      intro x2 d h
      exact tb_X12_forgetSome_22 hKp X hr hlk (rec22 := ix_fix (b_X12_forgetSome_22 n z  a0 x1) (fun _ _ => none) f)  ih h
  exact key n x2 d h
set_option maxRecDepth 20000 in
theorem c_X12_forgetSome {l : Launch} {K : ix_Cx} (hKp : ix_Kp K) {n : Nat} {z : ix_Z} {a0 : Nat} {x1 : Int32} {d : ix_D2} {d1 : ix_D2} (h : f_X12_forgetSome n z a0 x1 d = some d1) : ix_M l K yX12_forgetSome cX12_forgetSome 7 (none : Option Jvm.ClassFile.FieldType) 2 44 0 0 [.ref (K.2.2.1 + a0), .int x1] (ix_w z d) none (ix_w z d1) := by
  refine ix_met mf_X12_forgetSome hKp (Nat.le_of_ble_eq_true rfl) ?_
  intro p e s m args below meth c hr hlk hnm X
  have X : ix_X p s m args c K cX12_forgetSome RX12 7 := X
  show ix_G p l e (ix_rm 2 44 0 0) s m args below meth c (MQ below (ix_Post K none (ix_w z d1)) args s 0 0 (ix_A K)) K 7 0 0 0 [(0, .ref (K.2.2.1 + a0)), (1, .int x1)] [] (ix_w z d)
  unfold f_X12_forgetSome at h
  refine ix_aload_n (i := 0) (j := 0) X (ix_tb_at tb_X12_forgetSome 0 rfl) rfl rfl (pc1 := 1) rfl ?_
  obtain ⟨k_1, h⟩ := ix_ck_some h
  refine iz_getI X fl_RX12_439 k_1 (ix_tb_at tb_X12_forgetSome 1 rfl) (pc1 := 4) rfl ?_
  refine ix_if_eq (tgt := 19) X (ix_tb_at tb_X12_forgetSome 2 rfl) (by decide) (pc1 := 7) rfl (fun q_2 => ?_) (fun q_2 => ?_)
  · have h := ix_ift q_2 h
    exact ix_vret X hr hlk (ix_r1 (g := ix_w z) h) (ix_tb_at tb_X12_forgetSome 9 rfl)
  · have h := ix_iff q_2 h
    refine ix_aload_n (i := 0) (j := 0) X (ix_tb_at tb_X12_forgetSome 3 rfl) rfl rfl (pc1 := 8) rfl ?_
    refine ix_iload_n (i := 1) (j := 1) X (ix_tb_at tb_X12_forgetSome 4 rfl) rfl rfl (pc1 := 9) rfl ?_
    obtain ⟨r_5, d_3, h_4, h⟩ := ix_bd2_ex h
    refine ix_callV (As := [.int x1]) (rest := []) (ci := 11) (T := TX12) (nf := 116) X mf_X12_thereOf mi_X12_thereOf ms_X12_thereOf rfl (Nat.le_of_ble_eq_true rfl) ml_RX12_572 ⟨Nat.le_of_ble_eq_true rfl, Nat.le_of_ble_eq_true rfl⟩ ⟨Nat.le_of_ble_eq_true rfl, Nat.le_of_ble_eq_true rfl⟩ rfl (Nat.le_of_ble_eq_true rfl) (ix_tb_at tb_X12_forgetSome 5 rfl) ⟨k_1.1, List.mem_singleton.mp k_1.2⟩ (c_X12_thereOf hKp h_4) rfl (pc1 := 12) rfl ?_
    refine ix_aload_n (i := 0) (j := 0) X (ix_tb_at tb_X12_forgetSome 6 rfl) rfl rfl (pc1 := 13) rfl ?_
    refine iz_getI X fl_RX12_439 k_1 (ix_tb_at tb_X12_forgetSome 7 rfl) (pc1 := 16) rfl ?_
    refine ix_icmp_gt (tgt := 20) X (ix_tb_at tb_X12_forgetSome 8 rfl) (by decide) (pc1 := 19) rfl (fun q_6 => ?_) (fun q_6 => ?_)
    · have h := ix_ift q_6 h
      refine ix_iconst (v := 0) X (ix_tb_at tb_X12_forgetSome 10 rfl) (by decide) (pc1 := 21) rfl ?_
      refine ix_istore_n (i := 2) (L1 := [(2, .int 0), (0, .ref (K.2.2.1 + a0)), (1, .int x1)]) X (ix_tb_at tb_X12_forgetSome 11 rfl) rfl (Nat.le_of_ble_eq_true rfl) rfl (pc1 := 22) rfl ?_
      refine ix_sub (L1 := [(0, .ref (K.2.2.1 + a0)), (1, .int x1), (2, .int 0)]) [1, 2, 0] rfl ?_
      exact t_X12_forgetSome_22 hKp X hr hlk  h
    · have h := ix_iff q_6 h
      exact ix_vret X hr hlk (ix_r1 (g := ix_w z) h) (ix_tb_at tb_X12_forgetSome 9 rfl)
def tab_X12_learn : List (Nat × Instr × Nat) := [(0, .aload_n 0, 1), (1, .getfield 490, 3), (4, .ifCond .ne 7, 3), (7, .sipush (-1004), 3), (10, .ireturn, 1), (11, .aload_n 0, 1), (12, .invokevirtual 536, 3), (15, .aload_n 0, 1), (16, .iconst 0, 1), (17, .putfield 542, 3), (20, .aload_n 0, 1), (21, .iconst 0, 1), (22, .putfield 545, 3), (25, .aload_n 0, 1), (26, .getfield 460, 3), (29, .istore_n 2, 1), (30, .aload_n 0, 1), (31, .getfield 159, 3), (34, .iload_n 1, 1), (35, .iaload, 1), (36, .istore_n 3, 1), (37, .aload_n 0, 1), (38, .iload_n 1, 1), (39, .iload_n 2, 1), (40, .iconst 0, 1), (41, .invokevirtual 548, 3), (44, .aload_n 0, 1), (45, .iload_n 1, 1), (46, .invokevirtual 551, 3), (49, .istore 4, 2), (51, .aload_n 0, 1), (52, .getfield 207, 3), (55, .iconst 0, 1), (56, .iload 4, 2), (58, .ineg, 1), (59, .iastore, 1), (60, .iconst 1, 1), (61, .istore 5, 2), (63, .iconst 0, 1), (64, .istore 6, 2), (66, .aload_n 0, 1), (67, .getfield 156, 3), (70, .iload_n 1, 1), (71, .iaload, 1), (72, .iconst 1, 1), (73, .isub, 1), (74, .istore 7, 2), (76, .iload 7, 2), (78, .ifCond .lt 99, 3), (81, .aload_n 0, 1), (82, .getfield 153, 3), (85, .sipush 300, 3), (88, .iload_n 1, 1), (89, .imul, 1), (90, .iload 7, 2), (92, .iadd, 1), (93, .iaload, 1), (94, .istore 8, 2), (96, .iload 8, 2), (98, .invokestatic 289, 3), (101, .istore 9, 2), (103, .iload 8, 2), (105, .iload 4, 2), (107, .if_icmp .eq 64, 3), (110, .aload_n 0, 1), (111, .getfield 210, 3), (114, .iload 9, 2), (116, .baload, 1), (117, .ifCond .eq 54, 3), (120, .aload_n 0, 1), (121, .getfield 207, 3), (124, .iload 5, 2), (126, .iload 8, 2), (128, .ineg, 1), (129, .iastore, 1), (130, .iinc 5 1, 3), (133, .iload 6, 2), (135, .aload_n 0, 1), (136, .getfield 137, 3), (139, .sipush 301, 3), (142, .iload_n 1, 1), (143, .imul, 1), (144, .iload 9, 2), (146, .iadd, 1), (147, .iaload, 1), (148, .if_icmp .le 8, 3), (151, .iload 6, 2), (153, .goto 16, 3), (156, .aload_n 0, 1), (157, .getfield 137, 3), (160, .sipush 301, 3), (163, .iload_n 1, 1), (164, .imul, 1), (165, .iload 9, 2), (167, .iadd, 1), (168, .iaload, 1), (169, .istore 6, 2), (171, .iinc 7 (-1), 3), (174, .goto (-98), 3), (177, .aload_n 0, 1), (178, .iload_n 1, 1), (179, .iload 5, 2), (181, .invokevirtual 517, 3), (184, .ifCond .ne 7, 3), (187, .sipush (-1003), 3), (190, .ireturn, 1), (191, .aload_n 0, 1), (192, .iload_n 1, 1), (193, .invokevirtual 496, 3), (196, .istore 7, 2), (198, .aload_n 0, 1), (199, .getfield 195, 3), (202, .bipush 10, 2), (204, .iload_n 1, 1), (205, .imul, 1), (206, .iconst 4, 1), (207, .iadd, 1), (208, .dup2, 1), (209, .iaload, 1), (210, .iconst 1, 1), (211, .iadd, 1), (212, .iastore, 1), (213, .aload_n 0, 1), (214, .iload_n 1, 1), (215, .invokevirtual 554, 3), (218, .istore 8, 2), (220, .aload_n 0, 1), (221, .invokevirtual 476, 3), (224, .iconst 0, 1), (225, .istore 9, 2), (227, .iload 9, 2), (229, .aload_n 0, 1), (230, .getfield 542, 3), (233, .if_icmp .ge 73, 3), (236, .aload_n 0, 1), (237, .iload_n 1, 1), (238, .aload_n 0, 1), (239, .getfield 216, 3), (242, .iload 9, 2), (244, .iaload, 1), (245, .invokevirtual 479, 3), (248, .aload_n 0, 1), (249, .iload_n 1, 1), (250, .aload_n 0, 1), (251, .getfield 216, 3), (254, .iload 9, 2), (256, .iaload, 1), (257, .iconst 0, 1), (258, .invokevirtual 482, 3), (261, .aload_n 0, 1), (262, .getfield 216, 3), (265, .iload 9, 2), (267, .iaload, 1), (268, .sipush 2000, 3), (271, .if_icmp .lt 29, 3), (274, .aload_n 0, 1), (275, .getfield 177, 3), (278, .sipush 800, 3), (281, .iload_n 1, 1), (282, .imul, 1), (283, .aload_n 0, 1), (284, .getfield 216, 3), (287, .iload 9, 2), (289, .iaload, 1), (290, .iadd, 1), (291, .sipush 2000, 3), (294, .isub, 1), (295, .dup2, 1), (296, .iaload, 1), (297, .iconst 1, 1), (298, .iadd, 1), (299, .iastore, 1), (300, .iinc 9 1, 3), (303, .goto (-76), 3), (306, .aload_n 0, 1), (307, .iload_n 1, 1), (308, .iload 6, 2), (310, .invokevirtual 557, 3), (313, .aload_n 0, 1), (314, .getfield 189, 3), (317, .iload_n 1, 1), (318, .dup2, 1), (319, .iaload, 1), (320, .iconst 1, 1), (321, .iadd, 1), (322, .iastore, 1), (323, .aload_n 0, 1), (324, .getfield 436, 3), (327, .ifCond .le 64, 3), (330, .aload_n 0, 1), (331, .getfield 189, 3), (334, .iload_n 1, 1), (335, .iaload, 1), (336, .aload_n 0, 1), (337, .getfield 436, 3), (340, .aload_n 0, 1), (341, .getfield 192, 3), (344, .iload_n 1, 1), (345, .iaload, 1), (346, .invokestatic 560, 3), (349, .imul, 1), (350, .if_icmp .lt 41, 3), (353, .aload_n 0, 1), (354, .iload_n 1, 1), (355, .iconst 0, 1), (356, .invokevirtual 557, 3), (359, .aload_n 0, 1), (360, .getfield 192, 3), (363, .iload_n 1, 1), (364, .dup2, 1), (365, .iaload, 1), (366, .iconst 1, 1), (367, .iadd, 1), (368, .iastore, 1), (369, .aload_n 0, 1), (370, .getfield 189, 3), (373, .iload_n 1, 1), (374, .iconst 0, 1), (375, .iastore, 1), (376, .aload_n 0, 1), (377, .getfield 195, 3), (380, .bipush 10, 2), (382, .iload_n 1, 1), (383, .imul, 1), (384, .iconst 5, 1), (385, .iadd, 1), (386, .dup2, 1), (387, .iaload, 1), (388, .iconst 1, 1), (389, .iadd, 1), (390, .iastore, 1), (391, .aload_n 0, 1), (392, .iload_n 1, 1), (393, .invokevirtual 563, 3), (396, .aload_n 0, 1), (397, .getfield 174, 3), (400, .sipush 800, 3), (403, .iload_n 1, 1), (404, .imul, 1), (405, .aload_n 0, 1), (406, .getfield 168, 3), (409, .iload_n 1, 1), (410, .iaload, 1), (411, .iadd, 1), (412, .iconst 1, 1), (413, .bastore, 1), (414, .aload_n 0, 1), (415, .getfield 177, 3), (418, .sipush 800, 3), (421, .iload_n 1, 1), (422, .imul, 1), (423, .aload_n 0, 1), (424, .getfield 168, 3), (427, .iload_n 1, 1), (428, .iaload, 1), (429, .iadd, 1), (430, .iconst 0, 1), (431, .iastore, 1), (432, .aload_n 0, 1), (433, .iload_n 1, 1), (434, .iload 5, 2), (436, .invokevirtual 520, 3), (439, .aload_n 0, 1), (440, .getfield 171, 3), (443, .iload_n 1, 1), (444, .dup2, 1), (445, .iaload, 1), (446, .iconst 1, 1), (447, .iadd, 1), (448, .iastore, 1), (449, .iload_n 1, 1), (450, .ifCond .ne 19, 3), (453, .aload_n 0, 1), (454, .iload_n 2, 1), (455, .iload_n 3, 1), (456, .aload_n 0, 1), (457, .getfield 159, 3), (460, .iload_n 1, 1), (461, .iaload, 1), (462, .iload 8, 2), (464, .iload 5, 2), (466, .invokevirtual 529, 3), (469, .bipush 7, 2), (471, .ireturn, 1)]
theorem tb_X12_learn : ix_tab cX12_learn tab_X12_learn := by
  unfold ix_tab
  decide +kernel
noncomputable def f_X12_learn_469 (n : Nat) (z : ix_Z)   (d : ix_D2) : Option (Int32 × ix_D2) :=
  some (7, d)
noncomputable def f_X12_learn_391 (n : Nat) (z : ix_Z)  (a0 : Nat) (x1 : Int32) (x2 : Int32) (x3 : Int32) (x5 : Int32) (x8 : Int32) (d : ix_D2) : Option (Int32 × ix_D2) :=
  ix_ck (ix_ok z [11] a0) (ix_bd1 (f_X12_forgetSome n z a0 x1 d) (fun d_60 => ix_bd1 (z.1 a0 82) (fun b_63 => ix_bd1 (z.1 a0 80) (fun b_65 => ix_ck (ix_ix z 20 b_65 x1) (ix_ck (ix_ix z 22 b_63 ((800 * x1) + (d_60.1 b_65 (ix_n x1)))) (ix_lt (ix_di d_60 b_63 (ix_n ((800 * x1) + (d_60.1 b_65 (ix_n x1)))) (vp_nar .boolean 1)) (fun d_69 => ix_bd1 (z.1 a0 83) (fun b_71 => ix_ck (ix_ix z 20 b_71 ((800 * x1) + (d_69.1 b_65 (ix_n x1)))) (ix_lt (ix_di d_69 b_71 (ix_n ((800 * x1) + (d_69.1 b_65 (ix_n x1)))) 0) (fun d_74 => ix_bd1 (f_X12_record n z a0 x1 x5 d_74) (fun d_76 => ix_bd1 (z.1 a0 81) (fun b_78 => ix_ck (ix_ix z 20 b_78 x1) (ix_lt (ix_di d_76 b_78 (ix_n x1) ((d_76.1 b_78 (ix_n x1)) + 1)) (fun d_81 => ix_if (x1 = 0) (ix_bd1 (z.1 a0 77) (fun b_84 => ix_ck (ix_ix z 20 b_84 x1) (ix_bd1 (f_X12_tellQuarrel n z a0 x2 x3 (d_81.1 b_84 (ix_n x1)) x8 x5 d_81) (fun d_87 => f_X12_learn_469 n z   d_87)))) (f_X12_learn_469 n z   d_81)))))))))))))))
noncomputable def f_X12_learn_300 (n : Nat) (z : ix_Z) (rec227 : Int32 → ix_D2 → Option (Int32 × ix_D2)) (a0 : Nat) (x1 : Int32) (x2 : Int32) (x3 : Int32) (x5 : Int32) (x6 : Int32) (x8 : Int32) (x9 : Int32) (d : ix_D2) : Option (Int32 × ix_D2) :=
  ix_lt (x9 + 1) (fun x9_115 => rec227 x9_115 d)
noncomputable def b_X12_learn_227 (n : Nat) (z : ix_Z)  (a0 : Nat) (x1 : Int32) (x2 : Int32) (x3 : Int32) (x5 : Int32) (x6 : Int32) (x8 : Int32) (rec227 : Int32 → ix_D2 → Option (Int32 × ix_D2)) (x9 : Int32) (d : ix_D2) : Option (Int32 × ix_D2) :=
  ix_ck (ix_ok z [11] a0) (ix_if (d.1 a0 106 ≤ x9) (ix_bd1 (f_X12_goBack n z a0 x1 x6 d) (fun d_52 => ix_bd1 (z.1 a0 87) (fun b_54 => ix_ck (ix_ix z 20 b_54 x1) (ix_lt (ix_di d_52 b_54 (ix_n x1) ((d_52.1 b_54 (ix_n x1)) + 1)) (fun d_57 => ix_if (d_57.1 a0 30 ≤ 0) (f_X12_learn_391 n z  a0 x1 x2 x3 x5 x8 d_57) (ix_bd1 (z.1 a0 88) (fun b_89 => ix_ck (ix_ix z 20 b_89 x1) (ix_bd2 (f_X12_partOfRow n z (d_57.1 b_89 (ix_n x1)) d_57) (fun r_94 d_92 => ix_if (d_57.1 b_54 (ix_n x1) < (d_57.1 a0 30) * r_94) (f_X12_learn_391 n z  a0 x1 x2 x3 x5 x8 d_92) (ix_bd1 (f_X12_goBack n z a0 x1 0 d_92) (fun d_96 => ix_lt (ix_di d_96 b_89 (ix_n x1) ((d_96.1 b_89 (ix_n x1)) + 1)) (fun d_98 => ix_lt (ix_di d_98 b_54 (ix_n x1) 0) (fun d_100 => ix_bd1 (z.1 a0 90) (fun b_102 => ix_ck (ix_ix z 20 b_102 ((10 * x1) + 5)) (ix_lt (ix_di d_100 b_102 (ix_n ((10 * x1) + 5)) ((d_100.1 b_102 (ix_n ((10 * x1) + 5))) + 1)) (fun d_105 => f_X12_learn_391 n z  a0 x1 x2 x3 x5 x8 d_105)))))))))))))))) (ix_bd1 (z.1 a0 105) (fun b_107 => ix_ck (ix_ix z 20 b_107 x9) (ix_bd1 (f_X12_addSources n z a0 x1 (d.1 b_107 (ix_n x9)) d) (fun d_110 => ix_bd1 (f_X12_addLowest n z a0 x1 (d_110.1 b_107 (ix_n x9)) 0 d_110) (fun d_112 => ix_if (d_112.1 b_107 (ix_n x9) < 2000) (f_X12_learn_300 n z rec227 a0 x1 x2 x3 x5 x6 x8 x9 d_112) (ix_bd1 (z.1 a0 83) (fun b_117 => ix_ck (ix_ix z 20 b_117 (((800 * x1) + (d_112.1 b_107 (ix_n x9))) - 2000)) (ix_lt (ix_di d_112 b_117 (ix_n (((800 * x1) + (d_112.1 b_107 (ix_n x9))) - 2000)) ((d_112.1 b_117 (ix_n (((800 * x1) + (d_112.1 b_107 (ix_n x9))) - 2000))) + 1)) (fun d_120 => f_X12_learn_300 n z rec227 a0 x1 x2 x3 x5 x6 x8 x9 d_120))))))))))
noncomputable def f_X12_learn_227 (n : Nat) (z : ix_Z)  (a0 : Nat) (x1 : Int32) (x2 : Int32) (x3 : Int32) (x5 : Int32) (x6 : Int32) (x8 : Int32) (x9 : Int32) (d : ix_D2) : Option (Int32 × ix_D2) := ix_fix (b_X12_learn_227 n z  a0 x1 x2 x3 x5 x6 x8) (fun _ _ => none) n x9 d
noncomputable def f_X12_learn_171 (n : Nat) (z : ix_Z) (rec76 : Int32 → Int32 → Int32 → ix_D2 → Option (Int32 × ix_D2)) (a0 : Nat) (x1 : Int32) (x2 : Int32) (x3 : Int32) (x4 : Int32) (x5 : Int32) (x6 : Int32) (x7 : Int32) (d : ix_D2) : Option (Int32 × ix_D2) :=
  ix_lt (x7 + (-1)) (fun x7_132 => rec76 x5 x6 x7_132 d)
noncomputable def f_X12_learn_169 (n : Nat) (z : ix_Z) (rec76 : Int32 → Int32 → Int32 → ix_D2 → Option (Int32 × ix_D2)) (a0 : Nat) (x1 : Int32) (x2 : Int32) (x3 : Int32) (x4 : Int32) (x5 : Int32) (x7 : Int32) (s0 : Int32) (d : ix_D2) : Option (Int32 × ix_D2) :=
  f_X12_learn_171 n z rec76 a0 x1 x2 x3 x4 x5 s0 x7 d
noncomputable def b_X12_learn_76 (n : Nat) (z : ix_Z)  (a0 : Nat) (x1 : Int32) (x2 : Int32) (x3 : Int32) (x4 : Int32) (rec76 : Int32 → Int32 → Int32 → ix_D2 → Option (Int32 × ix_D2)) (x5 : Int32) (x6 : Int32) (x7 : Int32) (d : ix_D2) : Option (Int32 × ix_D2) :=
  ix_if (x7 < 0) (ix_ck (ix_ok z [11] a0) (ix_bd2 (f_X12_hasRoom n z a0 x1 x5 d) (fun r_35 d_32 => ix_if (r_35 = 0) (some ((-1003), d_32)) (ix_bd2 (f_X12_takesStep n z a0 x1 d_32) (fun r_39 d_37 => ix_bd1 (z.1 a0 90) (fun b_40 => ix_ck (ix_ix z 20 b_40 ((10 * x1) + 4)) (ix_lt (ix_di d_37 b_40 (ix_n ((10 * x1) + 4)) ((d_37.1 b_40 (ix_n ((10 * x1) + 4))) + 1)) (fun d_43 => ix_bd2 (f_X12_raise n z a0 x1 d_43) (fun r_47 d_45 => ix_bd1 (f_X12_clearSources n z a0 d_45) (fun d_48 => f_X12_learn_227 n z  a0 x1 x2 x3 x5 x6 r_47 0 d_48)))))))))) (ix_ck (ix_ok z [11] a0) (ix_bd1 (z.1 a0 75) (fun b_123 => ix_ck (ix_ix z 20 b_123 ((300 * x1) + x7)) (ix_lt (d.1 b_123 (ix_n ((300 * x1) + x7))) (fun x8_126 => ix_bd2 (f_X12_nameOf n z x8_126 d) (fun r_130 d_128 => ix_if (x8_126 = x4) (f_X12_learn_171 n z rec76 a0 x1 x2 x3 x4 x5 x6 x7 d_128) (ix_bd1 (z.1 a0 102) (fun b_134 => ix_ck (ix_ix z 22 b_134 r_130) (ix_if (d_128.1 b_134 (ix_n r_130) = 0) (f_X12_learn_171 n z rec76 a0 x1 x2 x3 x4 x5 x6 x7 d_128) (ix_bd1 (z.1 a0 101) (fun b_138 => ix_ck (ix_ix z 20 b_138 x5) (ix_lt (ix_di d_128 b_138 (ix_n x5) (-x8_126)) (fun d_141 => ix_lt (x5 + 1) (fun x5_143 => ix_bd1 (z.1 a0 70) (fun b_145 => ix_ck (ix_ix z 20 b_145 ((301 * x1) + r_130)) (ix_if (x6 ≤ d_141.1 b_145 (ix_n ((301 * x1) + r_130))) (f_X12_learn_169 n z rec76 a0 x1 x2 x3 x4 x5_143 x7 (d_141.1 b_145 (ix_n ((301 * x1) + r_130))) d_141) (f_X12_learn_169 n z rec76 a0 x1 x2 x3 x4 x5_143 x7 x6 d_141)))))))))))))))))
noncomputable def f_X12_learn_76 (n : Nat) (z : ix_Z)  (a0 : Nat) (x1 : Int32) (x2 : Int32) (x3 : Int32) (x4 : Int32) (x5 : Int32) (x6 : Int32) (x7 : Int32) (d : ix_D2) : Option (Int32 × ix_D2) := ix_fix (b_X12_learn_76 n z  a0 x1 x2 x3 x4) (fun _ _ _ _ => none) n x5 x6 x7 d
noncomputable def f_X12_learn (n : Nat) (z : ix_Z) (a0 : Nat) (x1 : Int32) (d : ix_D2) : Option (Int32 × ix_D2) :=
  ix_ck (ix_ok z [11] a0) (ix_if (d.1 a0 89 = 0) (some ((-1004), d)) (ix_bd1 (f_X12_clearMarks n z a0 d) (fun d_3 => ix_lt (ix_di d_3 a0 106 0) (fun d_5 => ix_lt (ix_di d_5 a0 104 0) (fun d_7 => ix_lt (d_7.1 a0 98) (fun x2_9 => ix_bd1 (z.1 a0 77) (fun b_11 => ix_ck (ix_ix z 20 b_11 x1) (ix_lt (d_7.1 b_11 (ix_n x1)) (fun x3_14 => ix_bd1 (f_X12_useRow n z a0 x1 x2_9 0 d_7) (fun d_16 => ix_bd2 (f_X12_lastOne n z a0 x1 d_16) (fun r_20 d_18 => ix_bd1 (z.1 a0 101) (fun b_21 => ix_ck (ix_ix z 20 b_21 0) (ix_lt (ix_di d_18 b_21 (ix_n 0) (-r_20)) (fun d_24 => ix_bd1 (z.1 a0 76) (fun b_26 => ix_ck (ix_ix z 20 b_26 x1) (ix_lt ((d_24.1 b_26 (ix_n x1)) - 1) (fun x7_29 => f_X12_learn_76 n z  a0 x1 x2_9 x3_14 r_20 1 0 x7_29 d_24)))))))))))))))))
set_option maxRecDepth 20000 in
theorem t_X12_learn_469 {l : Launch} {p : Program} {e : Env} {s : State} {m : MethodId} {args : Array Value} {below : List Frame} {meth : Method} {c : Code} {K : ix_Cx} (hKp : ix_Kp K) {n : Nat} {z : ix_Z} (X : ix_X p s m args c K cX12_learn RX12 10) (hr : meth.sig.returnType = (some .int)) (hlk : meth.locks = false)   {r : Int32} {d1 : ix_D2}  {d : ix_D2} (h : f_X12_learn_469 n z   d = some (r, d1)) : ix_G p l e (ix_rm 3 74 0 0) s m args below meth c (MQ below (ix_Post K (some (.int r)) (ix_w z d1)) args s 0 0 (ix_A K)) K 10 0 0 469 [] [] (ix_w z d) := by
  unfold f_X12_learn_469 at h
  refine ix_bipush (v := 7) X (ix_tb_at tb_X12_learn 282 rfl) (by decide) (pc1 := 471) rfl ?_
  exact ix_iret X hr hlk (ix_r2 (f := fun r => some (.int r)) (g := ix_w z) h) (ix_tb_at tb_X12_learn 283 rfl)
set_option maxRecDepth 20000 in
theorem t_X12_learn_391 {l : Launch} {p : Program} {e : Env} {s : State} {m : MethodId} {args : Array Value} {below : List Frame} {meth : Method} {c : Code} {K : ix_Cx} (hKp : ix_Kp K) {n : Nat} {z : ix_Z} (X : ix_X p s m args c K cX12_learn RX12 10) (hr : meth.sig.returnType = (some .int)) (hlk : meth.locks = false)  {a0 : Nat} {x1 : Int32} {x2 : Int32} {x3 : Int32} {x5 : Int32} {x8 : Int32} {r : Int32} {d1 : ix_D2}  {d : ix_D2} (h : f_X12_learn_391 n z  a0 x1 x2 x3 x5 x8 d = some (r, d1)) : ix_G p l e (ix_rm 3 74 0 0) s m args below meth c (MQ below (ix_Post K (some (.int r)) (ix_w z d1)) args s 0 0 (ix_A K)) K 10 0 0 391 [(0, .ref (K.2.2.1 + a0)), (1, .int x1), (2, .int x2), (3, .int x3), (5, .int x5), (8, .int x8)] [] (ix_w z d) := by
  unfold f_X12_learn_391 at h
  refine ix_aload_n (i := 0) (j := 0) X (ix_tb_at tb_X12_learn 231 rfl) rfl rfl (pc1 := 392) rfl ?_
  refine ix_iload_n (i := 1) (j := 1) X (ix_tb_at tb_X12_learn 232 rfl) rfl rfl (pc1 := 393) rfl ?_
  obtain ⟨k_62, h⟩ := ix_ck_some h
  obtain ⟨d_60, h_61, h⟩ := ix_bd1_ex h
  refine ix_callV (As := [.int x1]) (rest := []) (ci := 11) (T := TX12) (nf := 116) X mf_X12_forgetSome mi_X12_forgetSome ms_X12_forgetSome rfl (Nat.le_of_ble_eq_true rfl) ml_RX12_563 ⟨Nat.le_of_ble_eq_true rfl, Nat.le_of_ble_eq_true rfl⟩ ⟨Nat.le_of_ble_eq_true rfl, Nat.le_of_ble_eq_true rfl⟩ rfl (Nat.le_of_ble_eq_true rfl) (ix_tb_at tb_X12_learn 233 rfl) ⟨k_62.1, List.mem_singleton.mp k_62.2⟩ (c_X12_forgetSome hKp h_61) rfl (pc1 := 396) rfl ?_
  refine ix_aload_n (i := 0) (j := 0) X (ix_tb_at tb_X12_learn 234 rfl) rfl rfl (pc1 := 397) rfl ?_
  obtain ⟨b_63, q_64, h⟩ := ix_bd1_ex h
  refine iz_getR X fl_RX12_174 k_62 q_64 (ix_tb_at tb_X12_learn 235 rfl) (pc1 := 400) rfl ?_
  refine ix_sipush (v := 800) X (ix_tb_at tb_X12_learn 236 rfl) (by decide) (pc1 := 403) rfl ?_
  refine ix_iload_n (i := 1) (j := 1) X (ix_tb_at tb_X12_learn 237 rfl) rfl rfl (pc1 := 404) rfl ?_
  refine ix_imul X (ix_tb_at tb_X12_learn 238 rfl) (pc1 := 405) rfl ?_
  refine ix_aload_n (i := 0) (j := 0) X (ix_tb_at tb_X12_learn 239 rfl) rfl rfl (pc1 := 406) rfl ?_
  obtain ⟨b_65, q_66, h⟩ := ix_bd1_ex h
  refine iz_getR X fl_RX12_168 k_62 q_66 (ix_tb_at tb_X12_learn 240 rfl) (pc1 := 409) rfl ?_
  refine ix_iload_n (i := 1) (j := 1) X (ix_tb_at tb_X12_learn 241 rfl) rfl rfl (pc1 := 410) rfl ?_
  obtain ⟨k_67, h⟩ := ix_ck_some h
  refine iz_iald X k_67 (ix_tb_at tb_X12_learn 242 rfl) (pc1 := 411) rfl ?_
  refine ix_iadd X (ix_tb_at tb_X12_learn 243 rfl) (pc1 := 412) rfl ?_
  refine ix_iconst (v := 1) X (ix_tb_at tb_X12_learn 244 rfl) (by decide) (pc1 := 413) rfl ?_
  obtain ⟨k_68, h⟩ := ix_ck_some h
  obtain ⟨d_69, e_70, h⟩ := ix_lt_ex h
  refine iz_zast X k_68 (ix_tb_at tb_X12_learn 245 rfl) e_70 (pc1 := 414) rfl ?_
  refine ix_aload_n (i := 0) (j := 0) X (ix_tb_at tb_X12_learn 246 rfl) rfl rfl (pc1 := 415) rfl ?_
  obtain ⟨b_71, q_72, h⟩ := ix_bd1_ex h
  refine iz_getR X fl_RX12_177 k_62 q_72 (ix_tb_at tb_X12_learn 247 rfl) (pc1 := 418) rfl ?_
  refine ix_sipush (v := 800) X (ix_tb_at tb_X12_learn 248 rfl) (by decide) (pc1 := 421) rfl ?_
  refine ix_iload_n (i := 1) (j := 1) X (ix_tb_at tb_X12_learn 249 rfl) rfl rfl (pc1 := 422) rfl ?_
  refine ix_imul X (ix_tb_at tb_X12_learn 250 rfl) (pc1 := 423) rfl ?_
  refine ix_aload_n (i := 0) (j := 0) X (ix_tb_at tb_X12_learn 251 rfl) rfl rfl (pc1 := 424) rfl ?_
  refine iz_getR X fl_RX12_168 k_62 q_66 (ix_tb_at tb_X12_learn 252 rfl) (pc1 := 427) rfl ?_
  refine ix_iload_n (i := 1) (j := 1) X (ix_tb_at tb_X12_learn 253 rfl) rfl rfl (pc1 := 428) rfl ?_
  refine iz_iald X k_67 (ix_tb_at tb_X12_learn 254 rfl) (pc1 := 429) rfl ?_
  refine ix_iadd X (ix_tb_at tb_X12_learn 255 rfl) (pc1 := 430) rfl ?_
  refine ix_iconst (v := 0) X (ix_tb_at tb_X12_learn 256 rfl) (by decide) (pc1 := 431) rfl ?_
  obtain ⟨k_73, h⟩ := ix_ck_some h
  obtain ⟨d_74, e_75, h⟩ := ix_lt_ex h
  refine iz_iast X k_73 (ix_tb_at tb_X12_learn 257 rfl) e_75 (pc1 := 432) rfl ?_
  refine ix_aload_n (i := 0) (j := 0) X (ix_tb_at tb_X12_learn 258 rfl) rfl rfl (pc1 := 433) rfl ?_
  refine ix_iload_n (i := 1) (j := 1) X (ix_tb_at tb_X12_learn 259 rfl) rfl rfl (pc1 := 434) rfl ?_
  refine ix_iload (i := 5) (j := 4) X (ix_tb_at tb_X12_learn 260 rfl) rfl (pc1 := 436) rfl ?_
  obtain ⟨d_76, h_77, h⟩ := ix_bd1_ex h
  refine ix_callV (As := [.int x1, .int x5]) (rest := []) (ci := 11) (T := TX12) (nf := 116) X mf_X12_record mi_X12_record ms_X12_record rfl (Nat.le_of_ble_eq_true rfl) ml_RX12_520 ⟨Nat.le_of_ble_eq_true rfl, Nat.le_of_ble_eq_true rfl⟩ ⟨Nat.le_of_ble_eq_true rfl, Nat.le_of_ble_eq_true rfl⟩ rfl (Nat.le_of_ble_eq_true rfl) (ix_tb_at tb_X12_learn 261 rfl) ⟨k_62.1, List.mem_singleton.mp k_62.2⟩ (c_X12_record hKp h_77) rfl (pc1 := 439) rfl ?_
  refine ix_aload_n (i := 0) (j := 0) X (ix_tb_at tb_X12_learn 262 rfl) rfl rfl (pc1 := 440) rfl ?_
  obtain ⟨b_78, q_79, h⟩ := ix_bd1_ex h
  refine iz_getR X fl_RX12_171 k_62 q_79 (ix_tb_at tb_X12_learn 263 rfl) (pc1 := 443) rfl ?_
  refine ix_iload_n (i := 1) (j := 1) X (ix_tb_at tb_X12_learn 264 rfl) rfl rfl (pc1 := 444) rfl ?_
  refine ix_dup2 X (ix_tb_at tb_X12_learn 265 rfl) rfl rfl (pc1 := 445) rfl ?_
  obtain ⟨k_80, h⟩ := ix_ck_some h
  refine iz_iald X k_80 (ix_tb_at tb_X12_learn 266 rfl) (pc1 := 446) rfl ?_
  refine ix_iconst (v := 1) X (ix_tb_at tb_X12_learn 267 rfl) (by decide) (pc1 := 447) rfl ?_
  refine ix_iadd X (ix_tb_at tb_X12_learn 268 rfl) (pc1 := 448) rfl ?_
  obtain ⟨d_81, e_82, h⟩ := ix_lt_ex h
  refine iz_iast X k_80 (ix_tb_at tb_X12_learn 269 rfl) e_82 (pc1 := 449) rfl ?_
  refine ix_iload_n (i := 1) (j := 1) X (ix_tb_at tb_X12_learn 270 rfl) rfl rfl (pc1 := 450) rfl ?_
  refine ix_if_ne (tgt := 469) X (ix_tb_at tb_X12_learn 271 rfl) (by decide) (pc1 := 453) rfl (fun q_83 => ?_) (fun q_83 => ?_)
  · have h := ix_iff q_83 h
    refine ix_sub (L1 := []) [] rfl ?_
    exact t_X12_learn_469 hKp X hr hlk  h
  · have h := ix_ift q_83 h
    refine ix_aload_n (i := 0) (j := 0) X (ix_tb_at tb_X12_learn 272 rfl) rfl rfl (pc1 := 454) rfl ?_
    refine ix_iload_n (i := 2) (j := 2) X (ix_tb_at tb_X12_learn 273 rfl) rfl rfl (pc1 := 455) rfl ?_
    refine ix_iload_n (i := 3) (j := 3) X (ix_tb_at tb_X12_learn 274 rfl) rfl rfl (pc1 := 456) rfl ?_
    refine ix_aload_n (i := 0) (j := 0) X (ix_tb_at tb_X12_learn 275 rfl) rfl rfl (pc1 := 457) rfl ?_
    obtain ⟨b_84, q_85, h⟩ := ix_bd1_ex h
    refine iz_getR X fl_RX12_159 k_62 q_85 (ix_tb_at tb_X12_learn 276 rfl) (pc1 := 460) rfl ?_
    refine ix_iload_n (i := 1) (j := 1) X (ix_tb_at tb_X12_learn 277 rfl) rfl rfl (pc1 := 461) rfl ?_
    obtain ⟨k_86, h⟩ := ix_ck_some h
    refine iz_iald X k_86 (ix_tb_at tb_X12_learn 278 rfl) (pc1 := 462) rfl ?_
    refine ix_iload (i := 8) (j := 5) X (ix_tb_at tb_X12_learn 279 rfl) rfl (pc1 := 464) rfl ?_
    refine ix_iload (i := 5) (j := 4) X (ix_tb_at tb_X12_learn 280 rfl) rfl (pc1 := 466) rfl ?_
    obtain ⟨d_87, h_88, h⟩ := ix_bd1_ex h
    refine ix_callV (As := [.int x2, .int x3, .int (d_81.1 b_84 (ix_n x1)), .int x8, .int x5]) (rest := []) (ci := 11) (T := TX12) (nf := 116) X mf_X12_tellQuarrel mi_X12_tellQuarrel ms_X12_tellQuarrel rfl (Nat.le_of_ble_eq_true rfl) ml_RX12_529 ⟨Nat.le_of_ble_eq_true rfl, Nat.le_of_ble_eq_true rfl⟩ ⟨Nat.le_of_ble_eq_true rfl, Nat.le_of_ble_eq_true rfl⟩ rfl (Nat.le_of_ble_eq_true rfl) (ix_tb_at tb_X12_learn 281 rfl) ⟨k_62.1, List.mem_singleton.mp k_62.2⟩ (c_X12_tellQuarrel hKp h_88) rfl (pc1 := 469) rfl ?_
    refine ix_sub (L1 := []) [] rfl ?_
    exact t_X12_learn_469 hKp X hr hlk  h
set_option maxRecDepth 20000 in
theorem t_X12_learn_300 {l : Launch} {p : Program} {e : Env} {s : State} {m : MethodId} {args : Array Value} {below : List Frame} {meth : Method} {c : Code} {K : ix_Cx} (hKp : ix_Kp K) {n : Nat} {z : ix_Z} (X : ix_X p s m args c K cX12_learn RX12 10) (hr : meth.sig.returnType = (some .int)) (hlk : meth.locks = false) {rec227 : Int32 → ix_D2 → Option (Int32 × ix_D2)} {a0 : Nat} {x1 : Int32} {x2 : Int32} {x3 : Int32} {x5 : Int32} {x6 : Int32} {x8 : Int32} {x9 : Int32} {r : Int32} {d1 : ix_D2} (hrec227 : ∀ (x9 : Int32) (d : ix_D2), rec227 x9 d = some (r, d1) → ix_G p l e (ix_rm 3 74 0 0) s m args below meth c (MQ below (ix_Post K (some (.int r)) (ix_w z d1)) args s 0 0 (ix_A K)) K 10 0 0 227 [(0, .ref (K.2.2.1 + a0)), (1, .int x1), (2, .int x2), (3, .int x3), (5, .int x5), (6, .int x6), (8, .int x8), (9, .int x9)] [] (ix_w z d)) {d : ix_D2} (h : f_X12_learn_300 n z rec227 a0 x1 x2 x3 x5 x6 x8 x9 d = some (r, d1)) : ix_G p l e (ix_rm 3 74 0 0) s m args below meth c (MQ below (ix_Post K (some (.int r)) (ix_w z d1)) args s 0 0 (ix_A K)) K 10 0 0 300 [(0, .ref (K.2.2.1 + a0)), (1, .int x1), (2, .int x2), (3, .int x3), (5, .int x5), (6, .int x6), (8, .int x8), (9, .int x9)] [] (ix_w z d) := by
  unfold f_X12_learn_300 at h
  obtain ⟨x9_115, e_116, h⟩ := ix_lt_ex h
  refine ix_iinc (i := 9) (j := 7) (v := x9_115) (L1 := [(9, .int x9_115), (0, .ref (K.2.2.1 + a0)), (1, .int x1), (2, .int x2), (3, .int x3), (5, .int x5), (6, .int x6), (8, .int x8)]) X (ix_tb_at tb_X12_learn 172 rfl) rfl (by rw [oi_1]; exact e_116.symm) (Nat.le_of_ble_eq_true rfl) rfl (pc1 := 303) rfl ?_
  refine ix_goto (tgt := 227) X (ix_tb_at tb_X12_learn 173 rfl) (by decide) ?_
  refine ix_sub (L1 := [(0, .ref (K.2.2.1 + a0)), (1, .int x1), (2, .int x2), (3, .int x3), (5, .int x5), (6, .int x6), (8, .int x8), (9, .int x9_115)]) [1, 2, 3, 4, 5, 6, 7, 0] rfl ?_
  exact hrec227 x9_115 d h
set_option maxRecDepth 20000 in
theorem tb_X12_learn_227 {l : Launch} {p : Program} {e : Env} {s : State} {m : MethodId} {args : Array Value} {below : List Frame} {meth : Method} {c : Code} {K : ix_Cx} (hKp : ix_Kp K) {n : Nat} {z : ix_Z} (X : ix_X p s m args c K cX12_learn RX12 10) (hr : meth.sig.returnType = (some .int)) (hlk : meth.locks = false)  {a0 : Nat} {x1 : Int32} {x2 : Int32} {x3 : Int32} {x5 : Int32} {x6 : Int32} {x8 : Int32} {rec227 : Int32 → ix_D2 → Option (Int32 × ix_D2)} {r : Int32} {d1 : ix_D2} (hrec227 : ∀ (x9 : Int32) (d : ix_D2), rec227 x9 d = some (r, d1) → ix_G p l e (ix_rm 3 74 0 0) s m args below meth c (MQ below (ix_Post K (some (.int r)) (ix_w z d1)) args s 0 0 (ix_A K)) K 10 0 0 227 [(0, .ref (K.2.2.1 + a0)), (1, .int x1), (2, .int x2), (3, .int x3), (5, .int x5), (6, .int x6), (8, .int x8), (9, .int x9)] [] (ix_w z d)) {x9 : Int32} {d : ix_D2} (h : b_X12_learn_227 n z  a0 x1 x2 x3 x5 x6 x8 rec227 x9 d = some (r, d1)) : ix_G p l e (ix_rm 3 74 0 0) s m args below meth c (MQ below (ix_Post K (some (.int r)) (ix_w z d1)) args s 0 0 (ix_A K)) K 10 0 0 227 [(0, .ref (K.2.2.1 + a0)), (1, .int x1), (2, .int x2), (3, .int x3), (5, .int x5), (6, .int x6), (8, .int x8), (9, .int x9)] [] (ix_w z d) := by
  unfold b_X12_learn_227 at h
  refine ix_iload (i := 9) (j := 7) X (ix_tb_at tb_X12_learn 130 rfl) rfl (pc1 := 229) rfl ?_
  refine ix_aload_n (i := 0) (j := 0) X (ix_tb_at tb_X12_learn 131 rfl) rfl rfl (pc1 := 230) rfl ?_
  obtain ⟨k_50, h⟩ := ix_ck_some h
  refine iz_getI X fl_RX12_542 k_50 (ix_tb_at tb_X12_learn 132 rfl) (pc1 := 233) rfl ?_
  refine ix_icmp_ge (tgt := 306) X (ix_tb_at tb_X12_learn 133 rfl) (by decide) (pc1 := 236) rfl (fun q_51 => ?_) (fun q_51 => ?_)
  · have h := ix_ift q_51 h
    refine ix_aload_n (i := 0) (j := 0) X (ix_tb_at tb_X12_learn 174 rfl) rfl rfl (pc1 := 307) rfl ?_
    refine ix_iload_n (i := 1) (j := 1) X (ix_tb_at tb_X12_learn 175 rfl) rfl rfl (pc1 := 308) rfl ?_
    refine ix_iload (i := 6) (j := 5) X (ix_tb_at tb_X12_learn 176 rfl) rfl (pc1 := 310) rfl ?_
    obtain ⟨d_52, h_53, h⟩ := ix_bd1_ex h
    refine ix_callV (As := [.int x1, .int x6]) (rest := []) (ci := 11) (T := TX12) (nf := 116) X mf_X12_goBack mi_X12_goBack ms_X12_goBack rfl (Nat.le_of_ble_eq_true rfl) ml_RX12_557 ⟨Nat.le_of_ble_eq_true rfl, Nat.le_of_ble_eq_true rfl⟩ ⟨Nat.le_of_ble_eq_true rfl, Nat.le_of_ble_eq_true rfl⟩ rfl (Nat.le_of_ble_eq_true rfl) (ix_tb_at tb_X12_learn 177 rfl) ⟨k_50.1, List.mem_singleton.mp k_50.2⟩ (c_X12_goBack hKp h_53) rfl (pc1 := 313) rfl ?_
    refine ix_aload_n (i := 0) (j := 0) X (ix_tb_at tb_X12_learn 178 rfl) rfl rfl (pc1 := 314) rfl ?_
    obtain ⟨b_54, q_55, h⟩ := ix_bd1_ex h
    refine iz_getR X fl_RX12_189 k_50 q_55 (ix_tb_at tb_X12_learn 179 rfl) (pc1 := 317) rfl ?_
    refine ix_iload_n (i := 1) (j := 1) X (ix_tb_at tb_X12_learn 180 rfl) rfl rfl (pc1 := 318) rfl ?_
    refine ix_dup2 X (ix_tb_at tb_X12_learn 181 rfl) rfl rfl (pc1 := 319) rfl ?_
    obtain ⟨k_56, h⟩ := ix_ck_some h
    refine iz_iald X k_56 (ix_tb_at tb_X12_learn 182 rfl) (pc1 := 320) rfl ?_
    refine ix_iconst (v := 1) X (ix_tb_at tb_X12_learn 183 rfl) (by decide) (pc1 := 321) rfl ?_
    refine ix_iadd X (ix_tb_at tb_X12_learn 184 rfl) (pc1 := 322) rfl ?_
    obtain ⟨d_57, e_58, h⟩ := ix_lt_ex h
    refine iz_iast X k_56 (ix_tb_at tb_X12_learn 185 rfl) e_58 (pc1 := 323) rfl ?_
    refine ix_aload_n (i := 0) (j := 0) X (ix_tb_at tb_X12_learn 186 rfl) rfl rfl (pc1 := 324) rfl ?_
    refine iz_getI X fl_RX12_436 k_50 (ix_tb_at tb_X12_learn 187 rfl) (pc1 := 327) rfl ?_
    refine ix_if_le (tgt := 391) X (ix_tb_at tb_X12_learn 188 rfl) (by decide) (pc1 := 330) rfl (fun q_59 => ?_) (fun q_59 => ?_)
    · have h := ix_ift q_59 h
      refine ix_sub (L1 := [(0, .ref (K.2.2.1 + a0)), (1, .int x1), (2, .int x2), (3, .int x3), (5, .int x5), (8, .int x8)]) [0, 1, 2, 3, 4, 6] rfl ?_
      exact t_X12_learn_391 hKp X hr hlk  h
    · have h := ix_iff q_59 h
      refine ix_aload_n (i := 0) (j := 0) X (ix_tb_at tb_X12_learn 189 rfl) rfl rfl (pc1 := 331) rfl ?_
      refine iz_getR X fl_RX12_189 k_50 q_55 (ix_tb_at tb_X12_learn 190 rfl) (pc1 := 334) rfl ?_
      refine ix_iload_n (i := 1) (j := 1) X (ix_tb_at tb_X12_learn 191 rfl) rfl rfl (pc1 := 335) rfl ?_
      refine iz_iald X k_56 (ix_tb_at tb_X12_learn 192 rfl) (pc1 := 336) rfl ?_
      refine ix_aload_n (i := 0) (j := 0) X (ix_tb_at tb_X12_learn 193 rfl) rfl rfl (pc1 := 337) rfl ?_
      refine iz_getI X fl_RX12_436 k_50 (ix_tb_at tb_X12_learn 194 rfl) (pc1 := 340) rfl ?_
      refine ix_aload_n (i := 0) (j := 0) X (ix_tb_at tb_X12_learn 195 rfl) rfl rfl (pc1 := 341) rfl ?_
      obtain ⟨b_89, q_90, h⟩ := ix_bd1_ex h
      refine iz_getR X fl_RX12_192 k_50 q_90 (ix_tb_at tb_X12_learn 196 rfl) (pc1 := 344) rfl ?_
      refine ix_iload_n (i := 1) (j := 1) X (ix_tb_at tb_X12_learn 197 rfl) rfl rfl (pc1 := 345) rfl ?_
      obtain ⟨k_91, h⟩ := ix_ck_some h
      refine iz_iald X k_91 (ix_tb_at tb_X12_learn 198 rfl) (pc1 := 346) rfl ?_
      obtain ⟨r_94, d_92, h_93, h⟩ := ix_bd2_ex h
      refine ix_callS (As := [.int (d_57.1 b_89 (ix_n x1))]) (rest := [.int (d_57.1 a0 30), .int (d_57.1 b_54 (ix_n x1))]) X mf_X12_partOfRow st_X12_partOfRow ml_RX12_560 ⟨Nat.le_of_ble_eq_true rfl, Nat.le_of_ble_eq_true rfl⟩ ⟨Nat.le_of_ble_eq_true rfl, Nat.le_of_ble_eq_true rfl⟩ rfl (Nat.le_of_ble_eq_true rfl) (ix_tb_at tb_X12_learn 199 rfl) (c_X12_partOfRow hKp h_93) rfl (pc1 := 349) rfl ?_
      refine ix_imul X (ix_tb_at tb_X12_learn 200 rfl) (pc1 := 350) rfl ?_
      refine ix_icmp_lt (tgt := 391) X (ix_tb_at tb_X12_learn 201 rfl) (by decide) (pc1 := 353) rfl (fun q_95 => ?_) (fun q_95 => ?_)
      · have h := ix_ift q_95 h
        refine ix_sub (L1 := [(0, .ref (K.2.2.1 + a0)), (1, .int x1), (2, .int x2), (3, .int x3), (5, .int x5), (8, .int x8)]) [0, 1, 2, 3, 4, 6] rfl ?_
        exact t_X12_learn_391 hKp X hr hlk  h
      · have h := ix_iff q_95 h
        refine ix_aload_n (i := 0) (j := 0) X (ix_tb_at tb_X12_learn 202 rfl) rfl rfl (pc1 := 354) rfl ?_
        refine ix_iload_n (i := 1) (j := 1) X (ix_tb_at tb_X12_learn 203 rfl) rfl rfl (pc1 := 355) rfl ?_
        refine ix_iconst (v := 0) X (ix_tb_at tb_X12_learn 204 rfl) (by decide) (pc1 := 356) rfl ?_
        obtain ⟨d_96, h_97, h⟩ := ix_bd1_ex h
        refine ix_callV (As := [.int x1, .int 0]) (rest := []) (ci := 11) (T := TX12) (nf := 116) X mf_X12_goBack mi_X12_goBack ms_X12_goBack rfl (Nat.le_of_ble_eq_true rfl) ml_RX12_557 ⟨Nat.le_of_ble_eq_true rfl, Nat.le_of_ble_eq_true rfl⟩ ⟨Nat.le_of_ble_eq_true rfl, Nat.le_of_ble_eq_true rfl⟩ rfl (Nat.le_of_ble_eq_true rfl) (ix_tb_at tb_X12_learn 205 rfl) ⟨k_50.1, List.mem_singleton.mp k_50.2⟩ (c_X12_goBack hKp h_97) rfl (pc1 := 359) rfl ?_
        refine ix_aload_n (i := 0) (j := 0) X (ix_tb_at tb_X12_learn 206 rfl) rfl rfl (pc1 := 360) rfl ?_
        refine iz_getR X fl_RX12_192 k_50 q_90 (ix_tb_at tb_X12_learn 207 rfl) (pc1 := 363) rfl ?_
        refine ix_iload_n (i := 1) (j := 1) X (ix_tb_at tb_X12_learn 208 rfl) rfl rfl (pc1 := 364) rfl ?_
        refine ix_dup2 X (ix_tb_at tb_X12_learn 209 rfl) rfl rfl (pc1 := 365) rfl ?_
        refine iz_iald X k_91 (ix_tb_at tb_X12_learn 210 rfl) (pc1 := 366) rfl ?_
        refine ix_iconst (v := 1) X (ix_tb_at tb_X12_learn 211 rfl) (by decide) (pc1 := 367) rfl ?_
        refine ix_iadd X (ix_tb_at tb_X12_learn 212 rfl) (pc1 := 368) rfl ?_
        obtain ⟨d_98, e_99, h⟩ := ix_lt_ex h
        refine iz_iast X k_91 (ix_tb_at tb_X12_learn 213 rfl) e_99 (pc1 := 369) rfl ?_
        refine ix_aload_n (i := 0) (j := 0) X (ix_tb_at tb_X12_learn 214 rfl) rfl rfl (pc1 := 370) rfl ?_
        refine iz_getR X fl_RX12_189 k_50 q_55 (ix_tb_at tb_X12_learn 215 rfl) (pc1 := 373) rfl ?_
        refine ix_iload_n (i := 1) (j := 1) X (ix_tb_at tb_X12_learn 216 rfl) rfl rfl (pc1 := 374) rfl ?_
        refine ix_iconst (v := 0) X (ix_tb_at tb_X12_learn 217 rfl) (by decide) (pc1 := 375) rfl ?_
        obtain ⟨d_100, e_101, h⟩ := ix_lt_ex h
        refine iz_iast X k_56 (ix_tb_at tb_X12_learn 218 rfl) e_101 (pc1 := 376) rfl ?_
        refine ix_aload_n (i := 0) (j := 0) X (ix_tb_at tb_X12_learn 219 rfl) rfl rfl (pc1 := 377) rfl ?_
        obtain ⟨b_102, q_103, h⟩ := ix_bd1_ex h
        refine iz_getR X fl_RX12_195 k_50 q_103 (ix_tb_at tb_X12_learn 220 rfl) (pc1 := 380) rfl ?_
        refine ix_bipush (v := 10) X (ix_tb_at tb_X12_learn 221 rfl) (by decide) (pc1 := 382) rfl ?_
        refine ix_iload_n (i := 1) (j := 1) X (ix_tb_at tb_X12_learn 222 rfl) rfl rfl (pc1 := 383) rfl ?_
        refine ix_imul X (ix_tb_at tb_X12_learn 223 rfl) (pc1 := 384) rfl ?_
        refine ix_iconst (v := 5) X (ix_tb_at tb_X12_learn 224 rfl) (by decide) (pc1 := 385) rfl ?_
        refine ix_iadd X (ix_tb_at tb_X12_learn 225 rfl) (pc1 := 386) rfl ?_
        refine ix_dup2 X (ix_tb_at tb_X12_learn 226 rfl) rfl rfl (pc1 := 387) rfl ?_
        obtain ⟨k_104, h⟩ := ix_ck_some h
        refine iz_iald X k_104 (ix_tb_at tb_X12_learn 227 rfl) (pc1 := 388) rfl ?_
        refine ix_iconst (v := 1) X (ix_tb_at tb_X12_learn 228 rfl) (by decide) (pc1 := 389) rfl ?_
        refine ix_iadd X (ix_tb_at tb_X12_learn 229 rfl) (pc1 := 390) rfl ?_
        obtain ⟨d_105, e_106, h⟩ := ix_lt_ex h
        refine iz_iast X k_104 (ix_tb_at tb_X12_learn 230 rfl) e_106 (pc1 := 391) rfl ?_
        refine ix_sub (L1 := [(0, .ref (K.2.2.1 + a0)), (1, .int x1), (2, .int x2), (3, .int x3), (5, .int x5), (8, .int x8)]) [0, 1, 2, 3, 4, 6] rfl ?_
        exact t_X12_learn_391 hKp X hr hlk  h
  · have h := ix_iff q_51 h
    refine ix_aload_n (i := 0) (j := 0) X (ix_tb_at tb_X12_learn 134 rfl) rfl rfl (pc1 := 237) rfl ?_
    refine ix_iload_n (i := 1) (j := 1) X (ix_tb_at tb_X12_learn 135 rfl) rfl rfl (pc1 := 238) rfl ?_
    refine ix_aload_n (i := 0) (j := 0) X (ix_tb_at tb_X12_learn 136 rfl) rfl rfl (pc1 := 239) rfl ?_
    obtain ⟨b_107, q_108, h⟩ := ix_bd1_ex h
    refine iz_getR X fl_RX12_216 k_50 q_108 (ix_tb_at tb_X12_learn 137 rfl) (pc1 := 242) rfl ?_
    refine ix_iload (i := 9) (j := 7) X (ix_tb_at tb_X12_learn 138 rfl) rfl (pc1 := 244) rfl ?_
    obtain ⟨k_109, h⟩ := ix_ck_some h
    refine iz_iald X k_109 (ix_tb_at tb_X12_learn 139 rfl) (pc1 := 245) rfl ?_
    obtain ⟨d_110, h_111, h⟩ := ix_bd1_ex h
    refine ix_callV (As := [.int x1, .int (d.1 b_107 (ix_n x9))]) (rest := []) (ci := 11) (T := TX12) (nf := 116) X mf_X12_addSources mi_X12_addSources ms_X12_addSources rfl (Nat.le_of_ble_eq_true rfl) ml_RX12_479 ⟨Nat.le_of_ble_eq_true rfl, Nat.le_of_ble_eq_true rfl⟩ ⟨Nat.le_of_ble_eq_true rfl, Nat.le_of_ble_eq_true rfl⟩ rfl (Nat.le_of_ble_eq_true rfl) (ix_tb_at tb_X12_learn 140 rfl) ⟨k_50.1, List.mem_singleton.mp k_50.2⟩ (c_X12_addSources hKp h_111) rfl (pc1 := 248) rfl ?_
    refine ix_aload_n (i := 0) (j := 0) X (ix_tb_at tb_X12_learn 141 rfl) rfl rfl (pc1 := 249) rfl ?_
    refine ix_iload_n (i := 1) (j := 1) X (ix_tb_at tb_X12_learn 142 rfl) rfl rfl (pc1 := 250) rfl ?_
    refine ix_aload_n (i := 0) (j := 0) X (ix_tb_at tb_X12_learn 143 rfl) rfl rfl (pc1 := 251) rfl ?_
    refine iz_getR X fl_RX12_216 k_50 q_108 (ix_tb_at tb_X12_learn 144 rfl) (pc1 := 254) rfl ?_
    refine ix_iload (i := 9) (j := 7) X (ix_tb_at tb_X12_learn 145 rfl) rfl (pc1 := 256) rfl ?_
    refine iz_iald X k_109 (ix_tb_at tb_X12_learn 146 rfl) (pc1 := 257) rfl ?_
    refine ix_iconst (v := 0) X (ix_tb_at tb_X12_learn 147 rfl) (by decide) (pc1 := 258) rfl ?_
    obtain ⟨d_112, h_113, h⟩ := ix_bd1_ex h
    refine ix_callV (As := [.int x1, .int (d_110.1 b_107 (ix_n x9)), .int 0]) (rest := []) (ci := 11) (T := TX12) (nf := 116) X mf_X12_addLowest mi_X12_addLowest ms_X12_addLowest rfl (Nat.le_of_ble_eq_true rfl) ml_RX12_482 ⟨Nat.le_of_ble_eq_true rfl, Nat.le_of_ble_eq_true rfl⟩ ⟨Nat.le_of_ble_eq_true rfl, Nat.le_of_ble_eq_true rfl⟩ rfl (Nat.le_of_ble_eq_true rfl) (ix_tb_at tb_X12_learn 148 rfl) ⟨k_50.1, List.mem_singleton.mp k_50.2⟩ (c_X12_addLowest hKp h_113) rfl (pc1 := 261) rfl ?_
    refine ix_aload_n (i := 0) (j := 0) X (ix_tb_at tb_X12_learn 149 rfl) rfl rfl (pc1 := 262) rfl ?_
    refine iz_getR X fl_RX12_216 k_50 q_108 (ix_tb_at tb_X12_learn 150 rfl) (pc1 := 265) rfl ?_
    refine ix_iload (i := 9) (j := 7) X (ix_tb_at tb_X12_learn 151 rfl) rfl (pc1 := 267) rfl ?_
    refine iz_iald X k_109 (ix_tb_at tb_X12_learn 152 rfl) (pc1 := 268) rfl ?_
    refine ix_sipush (v := 2000) X (ix_tb_at tb_X12_learn 153 rfl) (by decide) (pc1 := 271) rfl ?_
    refine ix_icmp_lt (tgt := 300) X (ix_tb_at tb_X12_learn 154 rfl) (by decide) (pc1 := 274) rfl (fun q_114 => ?_) (fun q_114 => ?_)
    · have h := ix_ift q_114 h
      refine ix_sub (L1 := [(0, .ref (K.2.2.1 + a0)), (1, .int x1), (2, .int x2), (3, .int x3), (5, .int x5), (6, .int x6), (8, .int x8), (9, .int x9)]) [0, 1, 2, 3, 4, 5, 6, 7] rfl ?_
      exact t_X12_learn_300 hKp X hr hlk hrec227 h
    · have h := ix_iff q_114 h
      refine ix_aload_n (i := 0) (j := 0) X (ix_tb_at tb_X12_learn 155 rfl) rfl rfl (pc1 := 275) rfl ?_
      obtain ⟨b_117, q_118, h⟩ := ix_bd1_ex h
      refine iz_getR X fl_RX12_177 k_50 q_118 (ix_tb_at tb_X12_learn 156 rfl) (pc1 := 278) rfl ?_
      refine ix_sipush (v := 800) X (ix_tb_at tb_X12_learn 157 rfl) (by decide) (pc1 := 281) rfl ?_
      refine ix_iload_n (i := 1) (j := 1) X (ix_tb_at tb_X12_learn 158 rfl) rfl rfl (pc1 := 282) rfl ?_
      refine ix_imul X (ix_tb_at tb_X12_learn 159 rfl) (pc1 := 283) rfl ?_
      refine ix_aload_n (i := 0) (j := 0) X (ix_tb_at tb_X12_learn 160 rfl) rfl rfl (pc1 := 284) rfl ?_
      refine iz_getR X fl_RX12_216 k_50 q_108 (ix_tb_at tb_X12_learn 161 rfl) (pc1 := 287) rfl ?_
      refine ix_iload (i := 9) (j := 7) X (ix_tb_at tb_X12_learn 162 rfl) rfl (pc1 := 289) rfl ?_
      refine iz_iald X k_109 (ix_tb_at tb_X12_learn 163 rfl) (pc1 := 290) rfl ?_
      refine ix_iadd X (ix_tb_at tb_X12_learn 164 rfl) (pc1 := 291) rfl ?_
      refine ix_sipush (v := 2000) X (ix_tb_at tb_X12_learn 165 rfl) (by decide) (pc1 := 294) rfl ?_
      refine ix_isub X (ix_tb_at tb_X12_learn 166 rfl) (pc1 := 295) rfl ?_
      refine ix_dup2 X (ix_tb_at tb_X12_learn 167 rfl) rfl rfl (pc1 := 296) rfl ?_
      obtain ⟨k_119, h⟩ := ix_ck_some h
      refine iz_iald X k_119 (ix_tb_at tb_X12_learn 168 rfl) (pc1 := 297) rfl ?_
      refine ix_iconst (v := 1) X (ix_tb_at tb_X12_learn 169 rfl) (by decide) (pc1 := 298) rfl ?_
      refine ix_iadd X (ix_tb_at tb_X12_learn 170 rfl) (pc1 := 299) rfl ?_
      obtain ⟨d_120, e_121, h⟩ := ix_lt_ex h
      refine iz_iast X k_119 (ix_tb_at tb_X12_learn 171 rfl) e_121 (pc1 := 300) rfl ?_
      refine ix_sub (L1 := [(0, .ref (K.2.2.1 + a0)), (1, .int x1), (2, .int x2), (3, .int x3), (5, .int x5), (6, .int x6), (8, .int x8), (9, .int x9)]) [0, 1, 2, 3, 4, 5, 6, 7] rfl ?_
      exact t_X12_learn_300 hKp X hr hlk hrec227 h
theorem t_X12_learn_227 {l : Launch} {p : Program} {e : Env} {s : State} {m : MethodId} {args : Array Value} {below : List Frame} {meth : Method} {c : Code} {K : ix_Cx} (hKp : ix_Kp K) {n : Nat} {z : ix_Z} (X : ix_X p s m args c K cX12_learn RX12 10) (hr : meth.sig.returnType = (some .int)) (hlk : meth.locks = false)  {a0 : Nat} {x1 : Int32} {x2 : Int32} {x3 : Int32} {x5 : Int32} {x6 : Int32} {x8 : Int32} {r : Int32} {d1 : ix_D2}  {x9 : Int32} {d : ix_D2} (h : f_X12_learn_227 n z  a0 x1 x2 x3 x5 x6 x8 x9 d = some (r, d1)) : ix_G p l e (ix_rm 3 74 0 0) s m args below meth c (MQ below (ix_Post K (some (.int r)) (ix_w z d1)) args s 0 0 (ix_A K)) K 10 0 0 227 [(0, .ref (K.2.2.1 + a0)), (1, .int x1), (2, .int x2), (3, .int x3), (5, .int x5), (6, .int x6), (8, .int x8), (9, .int x9)] [] (ix_w z d) := by
  have key : ∀ (f : Nat) (x9 : Int32) (d : ix_D2), ix_fix (b_X12_learn_227 n z  a0 x1 x2 x3 x5 x6 x8) (fun _ _ => none) f x9 d = some (r, d1) → ix_G p l e (ix_rm 3 74 0 0) s m args below meth c (MQ below (ix_Post K (some (.int r)) (ix_w z d1)) args s 0 0 (ix_A K)) K 10 0 0 227 [(0, .ref (K.2.2.1 + a0)), (1, .int x1), (2, .int x2), (3, .int x3), (5, .int x5), (6, .int x6), (8, .int x8), (9, .int x9)] [] (ix_w z d) := by
    intro f
    induction f with
    | zero =>
      intro x9 d h
      have h : (none : Option (Int32 × ix_D2)) = some (r, d1) := h
      cases h
    | succ f ih =>
      intro x9 d h
      exact tb_X12_learn_227 hKp X hr hlk (rec227 := ix_fix (b_X12_learn_227 n z  a0 x1 x2 x3 x5 x6 x8) (fun _ _ => none) f)  ih h
  exact key n x9 d h
set_option maxRecDepth 20000 in
theorem t_X12_learn_171 {l : Launch} {p : Program} {e : Env} {s : State} {m : MethodId} {args : Array Value} {below : List Frame} {meth : Method} {c : Code} {K : ix_Cx} (hKp : ix_Kp K) {n : Nat} {z : ix_Z} (X : ix_X p s m args c K cX12_learn RX12 10) (hr : meth.sig.returnType = (some .int)) (hlk : meth.locks = false) {rec76 : Int32 → Int32 → Int32 → ix_D2 → Option (Int32 × ix_D2)} {a0 : Nat} {x1 : Int32} {x2 : Int32} {x3 : Int32} {x4 : Int32} {x5 : Int32} {x6 : Int32} {x7 : Int32} {r : Int32} {d1 : ix_D2} (hrec76 : ∀ (x5 : Int32) (x6 : Int32) (x7 : Int32) (d : ix_D2), rec76 x5 x6 x7 d = some (r, d1) → ix_G p l e (ix_rm 3 74 0 0) s m args below meth c (MQ below (ix_Post K (some (.int r)) (ix_w z d1)) args s 0 0 (ix_A K)) K 10 0 0 76 [(0, .ref (K.2.2.1 + a0)), (1, .int x1), (2, .int x2), (3, .int x3), (4, .int x4), (5, .int x5), (6, .int x6), (7, .int x7)] [] (ix_w z d)) {d : ix_D2} (h : f_X12_learn_171 n z rec76 a0 x1 x2 x3 x4 x5 x6 x7 d = some (r, d1)) : ix_G p l e (ix_rm 3 74 0 0) s m args below meth c (MQ below (ix_Post K (some (.int r)) (ix_w z d1)) args s 0 0 (ix_A K)) K 10 0 0 171 [(0, .ref (K.2.2.1 + a0)), (1, .int x1), (2, .int x2), (3, .int x3), (4, .int x4), (5, .int x5), (6, .int x6), (7, .int x7)] [] (ix_w z d) := by
  unfold f_X12_learn_171 at h
  obtain ⟨x7_132, e_133, h⟩ := ix_lt_ex h
  refine ix_iinc (i := 7) (j := 7) (v := x7_132) (L1 := [(7, .int x7_132), (0, .ref (K.2.2.1 + a0)), (1, .int x1), (2, .int x2), (3, .int x3), (4, .int x4), (5, .int x5), (6, .int x6)]) X (ix_tb_at tb_X12_learn 97 rfl) rfl (by rw [oi_m1]; exact e_133.symm) (Nat.le_of_ble_eq_true rfl) rfl (pc1 := 174) rfl ?_
  refine ix_goto (tgt := 76) X (ix_tb_at tb_X12_learn 98 rfl) (by decide) ?_
  refine ix_sub (L1 := [(0, .ref (K.2.2.1 + a0)), (1, .int x1), (2, .int x2), (3, .int x3), (4, .int x4), (5, .int x5), (6, .int x6), (7, .int x7_132)]) [1, 2, 3, 4, 5, 6, 7, 0] rfl ?_
  exact hrec76 x5 x6 x7_132 d h
set_option maxRecDepth 20000 in
theorem t_X12_learn_169 {l : Launch} {p : Program} {e : Env} {s : State} {m : MethodId} {args : Array Value} {below : List Frame} {meth : Method} {c : Code} {K : ix_Cx} (hKp : ix_Kp K) {n : Nat} {z : ix_Z} (X : ix_X p s m args c K cX12_learn RX12 10) (hr : meth.sig.returnType = (some .int)) (hlk : meth.locks = false) {rec76 : Int32 → Int32 → Int32 → ix_D2 → Option (Int32 × ix_D2)} {a0 : Nat} {x1 : Int32} {x2 : Int32} {x3 : Int32} {x4 : Int32} {x5 : Int32} {x7 : Int32} {s0 : Int32} {r : Int32} {d1 : ix_D2} (hrec76 : ∀ (x5 : Int32) (x6 : Int32) (x7 : Int32) (d : ix_D2), rec76 x5 x6 x7 d = some (r, d1) → ix_G p l e (ix_rm 3 74 0 0) s m args below meth c (MQ below (ix_Post K (some (.int r)) (ix_w z d1)) args s 0 0 (ix_A K)) K 10 0 0 76 [(0, .ref (K.2.2.1 + a0)), (1, .int x1), (2, .int x2), (3, .int x3), (4, .int x4), (5, .int x5), (6, .int x6), (7, .int x7)] [] (ix_w z d)) {d : ix_D2} (h : f_X12_learn_169 n z rec76 a0 x1 x2 x3 x4 x5 x7 s0 d = some (r, d1)) : ix_G p l e (ix_rm 3 74 0 0) s m args below meth c (MQ below (ix_Post K (some (.int r)) (ix_w z d1)) args s 0 0 (ix_A K)) K 10 0 0 169 [(0, .ref (K.2.2.1 + a0)), (1, .int x1), (2, .int x2), (3, .int x3), (4, .int x4), (5, .int x5), (7, .int x7)] [.int s0] (ix_w z d) := by
  unfold f_X12_learn_169 at h
  refine ix_istore (i := 6) (L1 := [(6, .int s0), (0, .ref (K.2.2.1 + a0)), (1, .int x1), (2, .int x2), (3, .int x3), (4, .int x4), (5, .int x5), (7, .int x7)]) X (ix_tb_at tb_X12_learn 96 rfl) (Nat.le_of_ble_eq_true rfl) rfl (pc1 := 171) rfl ?_
  refine ix_sub (L1 := [(0, .ref (K.2.2.1 + a0)), (1, .int x1), (2, .int x2), (3, .int x3), (4, .int x4), (5, .int x5), (6, .int s0), (7, .int x7)]) [1, 2, 3, 4, 5, 6, 0, 7] rfl ?_
  exact t_X12_learn_171 hKp X hr hlk hrec76 h
set_option maxRecDepth 20000 in
theorem tb_X12_learn_76 {l : Launch} {p : Program} {e : Env} {s : State} {m : MethodId} {args : Array Value} {below : List Frame} {meth : Method} {c : Code} {K : ix_Cx} (hKp : ix_Kp K) {n : Nat} {z : ix_Z} (X : ix_X p s m args c K cX12_learn RX12 10) (hr : meth.sig.returnType = (some .int)) (hlk : meth.locks = false)  {a0 : Nat} {x1 : Int32} {x2 : Int32} {x3 : Int32} {x4 : Int32} {rec76 : Int32 → Int32 → Int32 → ix_D2 → Option (Int32 × ix_D2)} {r : Int32} {d1 : ix_D2} (hrec76 : ∀ (x5 : Int32) (x6 : Int32) (x7 : Int32) (d : ix_D2), rec76 x5 x6 x7 d = some (r, d1) → ix_G p l e (ix_rm 3 74 0 0) s m args below meth c (MQ below (ix_Post K (some (.int r)) (ix_w z d1)) args s 0 0 (ix_A K)) K 10 0 0 76 [(0, .ref (K.2.2.1 + a0)), (1, .int x1), (2, .int x2), (3, .int x3), (4, .int x4), (5, .int x5), (6, .int x6), (7, .int x7)] [] (ix_w z d)) {x5 : Int32} {x6 : Int32} {x7 : Int32} {d : ix_D2} (h : b_X12_learn_76 n z  a0 x1 x2 x3 x4 rec76 x5 x6 x7 d = some (r, d1)) : ix_G p l e (ix_rm 3 74 0 0) s m args below meth c (MQ below (ix_Post K (some (.int r)) (ix_w z d1)) args s 0 0 (ix_A K)) K 10 0 0 76 [(0, .ref (K.2.2.1 + a0)), (1, .int x1), (2, .int x2), (3, .int x3), (4, .int x4), (5, .int x5), (6, .int x6), (7, .int x7)] [] (ix_w z d) := by
  unfold b_X12_learn_76 at h
  refine ix_iload (i := 7) (j := 7) X (ix_tb_at tb_X12_learn 47 rfl) rfl (pc1 := 78) rfl ?_
  refine ix_if_lt (tgt := 177) X (ix_tb_at tb_X12_learn 48 rfl) (by decide) (pc1 := 81) rfl (fun q_31 => ?_) (fun q_31 => ?_)
  · have h := ix_ift q_31 h
    refine ix_aload_n (i := 0) (j := 0) X (ix_tb_at tb_X12_learn 99 rfl) rfl rfl (pc1 := 178) rfl ?_
    refine ix_iload_n (i := 1) (j := 1) X (ix_tb_at tb_X12_learn 100 rfl) rfl rfl (pc1 := 179) rfl ?_
    refine ix_iload (i := 5) (j := 5) X (ix_tb_at tb_X12_learn 101 rfl) rfl (pc1 := 181) rfl ?_
    obtain ⟨k_34, h⟩ := ix_ck_some h
    obtain ⟨r_35, d_32, h_33, h⟩ := ix_bd2_ex h
    refine ix_callV (As := [.int x1, .int x5]) (rest := []) (ci := 11) (T := TX12) (nf := 116) X mf_X12_hasRoom mi_X12_hasRoom ms_X12_hasRoom rfl (Nat.le_of_ble_eq_true rfl) ml_RX12_517 ⟨Nat.le_of_ble_eq_true rfl, Nat.le_of_ble_eq_true rfl⟩ ⟨Nat.le_of_ble_eq_true rfl, Nat.le_of_ble_eq_true rfl⟩ rfl (Nat.le_of_ble_eq_true rfl) (ix_tb_at tb_X12_learn 102 rfl) ⟨k_34.1, List.mem_singleton.mp k_34.2⟩ (c_X12_hasRoom hKp h_33) rfl (pc1 := 184) rfl ?_
    refine ix_if_ne (tgt := 191) X (ix_tb_at tb_X12_learn 103 rfl) (by decide) (pc1 := 187) rfl (fun q_36 => ?_) (fun q_36 => ?_)
    · have h := ix_iff q_36 h
      refine ix_aload_n (i := 0) (j := 0) X (ix_tb_at tb_X12_learn 106 rfl) rfl rfl (pc1 := 192) rfl ?_
      refine ix_iload_n (i := 1) (j := 1) X (ix_tb_at tb_X12_learn 107 rfl) rfl rfl (pc1 := 193) rfl ?_
      obtain ⟨r_39, d_37, h_38, h⟩ := ix_bd2_ex h
      refine ix_callV (As := [.int x1]) (rest := []) (ci := 11) (T := TX12) (nf := 116) X mf_X12_takesStep mi_X12_takesStep ms_X12_takesStep rfl (Nat.le_of_ble_eq_true rfl) ml_RX12_496 ⟨Nat.le_of_ble_eq_true rfl, Nat.le_of_ble_eq_true rfl⟩ ⟨Nat.le_of_ble_eq_true rfl, Nat.le_of_ble_eq_true rfl⟩ rfl (Nat.le_of_ble_eq_true rfl) (ix_tb_at tb_X12_learn 108 rfl) ⟨k_34.1, List.mem_singleton.mp k_34.2⟩ (c_X12_takesStep hKp h_38) rfl (pc1 := 196) rfl ?_
      refine ix_istore (i := 7) (L1 := [(7, .int r_39), (0, .ref (K.2.2.1 + a0)), (1, .int x1), (2, .int x2), (3, .int x3), (4, .int x4), (5, .int x5), (6, .int x6)]) X (ix_tb_at tb_X12_learn 109 rfl) (Nat.le_of_ble_eq_true rfl) rfl (pc1 := 198) rfl ?_
      refine ix_aload_n (i := 0) (j := 1) X (ix_tb_at tb_X12_learn 110 rfl) rfl rfl (pc1 := 199) rfl ?_
      obtain ⟨b_40, q_41, h⟩ := ix_bd1_ex h
      refine iz_getR X fl_RX12_195 k_34 q_41 (ix_tb_at tb_X12_learn 111 rfl) (pc1 := 202) rfl ?_
      refine ix_bipush (v := 10) X (ix_tb_at tb_X12_learn 112 rfl) (by decide) (pc1 := 204) rfl ?_
      refine ix_iload_n (i := 1) (j := 2) X (ix_tb_at tb_X12_learn 113 rfl) rfl rfl (pc1 := 205) rfl ?_
      refine ix_imul X (ix_tb_at tb_X12_learn 114 rfl) (pc1 := 206) rfl ?_
      refine ix_iconst (v := 4) X (ix_tb_at tb_X12_learn 115 rfl) (by decide) (pc1 := 207) rfl ?_
      refine ix_iadd X (ix_tb_at tb_X12_learn 116 rfl) (pc1 := 208) rfl ?_
      refine ix_dup2 X (ix_tb_at tb_X12_learn 117 rfl) rfl rfl (pc1 := 209) rfl ?_
      obtain ⟨k_42, h⟩ := ix_ck_some h
      refine iz_iald X k_42 (ix_tb_at tb_X12_learn 118 rfl) (pc1 := 210) rfl ?_
      refine ix_iconst (v := 1) X (ix_tb_at tb_X12_learn 119 rfl) (by decide) (pc1 := 211) rfl ?_
      refine ix_iadd X (ix_tb_at tb_X12_learn 120 rfl) (pc1 := 212) rfl ?_
      obtain ⟨d_43, e_44, h⟩ := ix_lt_ex h
      refine iz_iast X k_42 (ix_tb_at tb_X12_learn 121 rfl) e_44 (pc1 := 213) rfl ?_
      refine ix_aload_n (i := 0) (j := 1) X (ix_tb_at tb_X12_learn 122 rfl) rfl rfl (pc1 := 214) rfl ?_
      refine ix_iload_n (i := 1) (j := 2) X (ix_tb_at tb_X12_learn 123 rfl) rfl rfl (pc1 := 215) rfl ?_
      obtain ⟨r_47, d_45, h_46, h⟩ := ix_bd2_ex h
      refine ix_callV (As := [.int x1]) (rest := []) (ci := 11) (T := TX12) (nf := 116) X mf_X12_raise mi_X12_raise ms_X12_raise rfl (Nat.le_of_ble_eq_true rfl) ml_RX12_554 ⟨Nat.le_of_ble_eq_true rfl, Nat.le_of_ble_eq_true rfl⟩ ⟨Nat.le_of_ble_eq_true rfl, Nat.le_of_ble_eq_true rfl⟩ rfl (Nat.le_of_ble_eq_true rfl) (ix_tb_at tb_X12_learn 124 rfl) ⟨k_34.1, List.mem_singleton.mp k_34.2⟩ (c_X12_raise hKp h_46) rfl (pc1 := 218) rfl ?_
      refine ix_istore (i := 8) (L1 := [(8, .int r_47), (7, .int r_39), (0, .ref (K.2.2.1 + a0)), (1, .int x1), (2, .int x2), (3, .int x3), (4, .int x4), (5, .int x5), (6, .int x6)]) X (ix_tb_at tb_X12_learn 125 rfl) (Nat.le_of_ble_eq_true rfl) rfl (pc1 := 220) rfl ?_
      refine ix_aload_n (i := 0) (j := 2) X (ix_tb_at tb_X12_learn 126 rfl) rfl rfl (pc1 := 221) rfl ?_
      obtain ⟨d_48, h_49, h⟩ := ix_bd1_ex h
      refine ix_callV (As := []) (rest := []) (ci := 11) (T := TX12) (nf := 116) X mf_X12_clearSources mi_X12_clearSources ms_X12_clearSources rfl (Nat.le_of_ble_eq_true rfl) ml_RX12_476 ⟨Nat.le_of_ble_eq_true rfl, Nat.le_of_ble_eq_true rfl⟩ ⟨Nat.le_of_ble_eq_true rfl, Nat.le_of_ble_eq_true rfl⟩ rfl (Nat.le_of_ble_eq_true rfl) (ix_tb_at tb_X12_learn 127 rfl) ⟨k_34.1, List.mem_singleton.mp k_34.2⟩ (c_X12_clearSources hKp h_49) rfl (pc1 := 224) rfl ?_
      refine ix_iconst (v := 0) X (ix_tb_at tb_X12_learn 128 rfl) (by decide) (pc1 := 225) rfl ?_
      refine ix_istore (i := 9) (L1 := [(9, .int 0), (8, .int r_47), (7, .int r_39), (0, .ref (K.2.2.1 + a0)), (1, .int x1), (2, .int x2), (3, .int x3), (4, .int x4), (5, .int x5), (6, .int x6)]) X (ix_tb_at tb_X12_learn 129 rfl) (Nat.le_of_ble_eq_true rfl) rfl (pc1 := 227) rfl ?_
      refine ix_sub (L1 := [(0, .ref (K.2.2.1 + a0)), (1, .int x1), (2, .int x2), (3, .int x3), (5, .int x5), (6, .int x6), (8, .int r_47), (9, .int 0)]) [3, 4, 5, 6, 8, 9, 1, 0] rfl ?_
      exact t_X12_learn_227 hKp X hr hlk  h
    · have h := ix_ift q_36 h
      refine ix_sipush (v := (-1003)) X (ix_tb_at tb_X12_learn 104 rfl) (by decide) (pc1 := 190) rfl ?_
      exact ix_iret X hr hlk (ix_r2 (f := fun r => some (.int r)) (g := ix_w z) h) (ix_tb_at tb_X12_learn 105 rfl)
  · have h := ix_iff q_31 h
    refine ix_aload_n (i := 0) (j := 0) X (ix_tb_at tb_X12_learn 49 rfl) rfl rfl (pc1 := 82) rfl ?_
    obtain ⟨k_122, h⟩ := ix_ck_some h
    obtain ⟨b_123, q_124, h⟩ := ix_bd1_ex h
    refine iz_getR X fl_RX12_153 k_122 q_124 (ix_tb_at tb_X12_learn 50 rfl) (pc1 := 85) rfl ?_
    refine ix_sipush (v := 300) X (ix_tb_at tb_X12_learn 51 rfl) (by decide) (pc1 := 88) rfl ?_
    refine ix_iload_n (i := 1) (j := 1) X (ix_tb_at tb_X12_learn 52 rfl) rfl rfl (pc1 := 89) rfl ?_
    refine ix_imul X (ix_tb_at tb_X12_learn 53 rfl) (pc1 := 90) rfl ?_
    refine ix_iload (i := 7) (j := 7) X (ix_tb_at tb_X12_learn 54 rfl) rfl (pc1 := 92) rfl ?_
    refine ix_iadd X (ix_tb_at tb_X12_learn 55 rfl) (pc1 := 93) rfl ?_
    obtain ⟨k_125, h⟩ := ix_ck_some h
    refine iz_iald X k_125 (ix_tb_at tb_X12_learn 56 rfl) (pc1 := 94) rfl ?_
    obtain ⟨x8_126, e_127, h⟩ := ix_lt_ex h
    refine ix_nmi e_127 ?_
    refine ix_istore (i := 8) (L1 := [(8, .int x8_126), (0, .ref (K.2.2.1 + a0)), (1, .int x1), (2, .int x2), (3, .int x3), (4, .int x4), (5, .int x5), (6, .int x6), (7, .int x7)]) X (ix_tb_at tb_X12_learn 57 rfl) (Nat.le_of_ble_eq_true rfl) rfl (pc1 := 96) rfl ?_
    refine ix_iload (i := 8) (j := 0) X (ix_tb_at tb_X12_learn 58 rfl) rfl (pc1 := 98) rfl ?_
    obtain ⟨r_130, d_128, h_129, h⟩ := ix_bd2_ex h
    refine ix_callS (As := [.int x8_126]) (rest := []) X mf_X12_nameOf st_X12_nameOf ml_RX12_289 ⟨Nat.le_of_ble_eq_true rfl, Nat.le_of_ble_eq_true rfl⟩ ⟨Nat.le_of_ble_eq_true rfl, Nat.le_of_ble_eq_true rfl⟩ rfl (Nat.le_of_ble_eq_true rfl) (ix_tb_at tb_X12_learn 59 rfl) (c_X12_nameOf hKp h_129) rfl (pc1 := 101) rfl ?_
    refine ix_istore (i := 9) (L1 := [(9, .int r_130), (8, .int x8_126), (0, .ref (K.2.2.1 + a0)), (1, .int x1), (2, .int x2), (3, .int x3), (4, .int x4), (5, .int x5), (6, .int x6), (7, .int x7)]) X (ix_tb_at tb_X12_learn 60 rfl) (Nat.le_of_ble_eq_true rfl) rfl (pc1 := 103) rfl ?_
    refine ix_iload (i := 8) (j := 1) X (ix_tb_at tb_X12_learn 61 rfl) rfl (pc1 := 105) rfl ?_
    refine ix_iload (i := 4) (j := 6) X (ix_tb_at tb_X12_learn 62 rfl) rfl (pc1 := 107) rfl ?_
    refine ix_icmp_eq (tgt := 171) X (ix_tb_at tb_X12_learn 63 rfl) (by decide) (pc1 := 110) rfl (fun q_131 => ?_) (fun q_131 => ?_)
    · have h := ix_ift q_131 h
      refine ix_sub (L1 := [(0, .ref (K.2.2.1 + a0)), (1, .int x1), (2, .int x2), (3, .int x3), (4, .int x4), (5, .int x5), (6, .int x6), (7, .int x7)]) [2, 3, 4, 5, 6, 7, 8, 9] rfl ?_
      exact t_X12_learn_171 hKp X hr hlk hrec76 h
    · have h := ix_iff q_131 h
      refine ix_aload_n (i := 0) (j := 2) X (ix_tb_at tb_X12_learn 64 rfl) rfl rfl (pc1 := 111) rfl ?_
      obtain ⟨b_134, q_135, h⟩ := ix_bd1_ex h
      refine iz_getR X fl_RX12_210 k_122 q_135 (ix_tb_at tb_X12_learn 65 rfl) (pc1 := 114) rfl ?_
      refine ix_iload (i := 9) (j := 0) X (ix_tb_at tb_X12_learn 66 rfl) rfl (pc1 := 116) rfl ?_
      obtain ⟨k_136, h⟩ := ix_ck_some h
      refine iz_zald X k_136 (ix_tb_at tb_X12_learn 67 rfl) (pc1 := 117) rfl ?_
      refine ix_if_eq (tgt := 171) X (ix_tb_at tb_X12_learn 68 rfl) (by decide) (pc1 := 120) rfl (fun q_137 => ?_) (fun q_137 => ?_)
      · have h := ix_ift q_137 h
        refine ix_sub (L1 := [(0, .ref (K.2.2.1 + a0)), (1, .int x1), (2, .int x2), (3, .int x3), (4, .int x4), (5, .int x5), (6, .int x6), (7, .int x7)]) [2, 3, 4, 5, 6, 7, 8, 9] rfl ?_
        exact t_X12_learn_171 hKp X hr hlk hrec76 h
      · have h := ix_iff q_137 h
        refine ix_aload_n (i := 0) (j := 2) X (ix_tb_at tb_X12_learn 69 rfl) rfl rfl (pc1 := 121) rfl ?_
        obtain ⟨b_138, q_139, h⟩ := ix_bd1_ex h
        refine iz_getR X fl_RX12_207 k_122 q_139 (ix_tb_at tb_X12_learn 70 rfl) (pc1 := 124) rfl ?_
        refine ix_iload (i := 5) (j := 7) X (ix_tb_at tb_X12_learn 71 rfl) rfl (pc1 := 126) rfl ?_
        refine ix_iload (i := 8) (j := 1) X (ix_tb_at tb_X12_learn 72 rfl) rfl (pc1 := 128) rfl ?_
        refine ix_ineg X (ix_tb_at tb_X12_learn 73 rfl) (pc1 := 129) rfl ?_
        obtain ⟨k_140, h⟩ := ix_ck_some h
        obtain ⟨d_141, e_142, h⟩ := ix_lt_ex h
        refine iz_iast X k_140 (ix_tb_at tb_X12_learn 74 rfl) e_142 (pc1 := 130) rfl ?_
        obtain ⟨x5_143, e_144, h⟩ := ix_lt_ex h
        refine ix_iinc (i := 5) (j := 7) (v := x5_143) (L1 := [(5, .int x5_143), (9, .int r_130), (8, .int x8_126), (0, .ref (K.2.2.1 + a0)), (1, .int x1), (2, .int x2), (3, .int x3), (4, .int x4), (6, .int x6), (7, .int x7)]) X (ix_tb_at tb_X12_learn 75 rfl) rfl (by rw [oi_1]; exact e_144.symm) (Nat.le_of_ble_eq_true rfl) rfl (pc1 := 133) rfl ?_
        refine ix_iload (i := 6) (j := 8) X (ix_tb_at tb_X12_learn 76 rfl) rfl (pc1 := 135) rfl ?_
        refine ix_aload_n (i := 0) (j := 3) X (ix_tb_at tb_X12_learn 77 rfl) rfl rfl (pc1 := 136) rfl ?_
        obtain ⟨b_145, q_146, h⟩ := ix_bd1_ex h
        refine iz_getR X fl_RX12_137 k_122 q_146 (ix_tb_at tb_X12_learn 78 rfl) (pc1 := 139) rfl ?_
        refine ix_sipush (v := 301) X (ix_tb_at tb_X12_learn 79 rfl) (by decide) (pc1 := 142) rfl ?_
        refine ix_iload_n (i := 1) (j := 4) X (ix_tb_at tb_X12_learn 80 rfl) rfl rfl (pc1 := 143) rfl ?_
        refine ix_imul X (ix_tb_at tb_X12_learn 81 rfl) (pc1 := 144) rfl ?_
        refine ix_iload (i := 9) (j := 1) X (ix_tb_at tb_X12_learn 82 rfl) rfl (pc1 := 146) rfl ?_
        refine ix_iadd X (ix_tb_at tb_X12_learn 83 rfl) (pc1 := 147) rfl ?_
        obtain ⟨k_147, h⟩ := ix_ck_some h
        refine iz_iald X k_147 (ix_tb_at tb_X12_learn 84 rfl) (pc1 := 148) rfl ?_
        refine ix_icmp_le (tgt := 156) X (ix_tb_at tb_X12_learn 85 rfl) (by decide) (pc1 := 151) rfl (fun q_148 => ?_) (fun q_148 => ?_)
        · have h := ix_ift q_148 h
          refine ix_aload_n (i := 0) (j := 3) X (ix_tb_at tb_X12_learn 88 rfl) rfl rfl (pc1 := 157) rfl ?_
          refine iz_getR X fl_RX12_137 k_122 q_146 (ix_tb_at tb_X12_learn 89 rfl) (pc1 := 160) rfl ?_
          refine ix_sipush (v := 301) X (ix_tb_at tb_X12_learn 90 rfl) (by decide) (pc1 := 163) rfl ?_
          refine ix_iload_n (i := 1) (j := 4) X (ix_tb_at tb_X12_learn 91 rfl) rfl rfl (pc1 := 164) rfl ?_
          refine ix_imul X (ix_tb_at tb_X12_learn 92 rfl) (pc1 := 165) rfl ?_
          refine ix_iload (i := 9) (j := 1) X (ix_tb_at tb_X12_learn 93 rfl) rfl (pc1 := 167) rfl ?_
          refine ix_iadd X (ix_tb_at tb_X12_learn 94 rfl) (pc1 := 168) rfl ?_
          refine iz_iald X k_147 (ix_tb_at tb_X12_learn 95 rfl) (pc1 := 169) rfl ?_
          refine ix_sub (L1 := [(0, .ref (K.2.2.1 + a0)), (1, .int x1), (2, .int x2), (3, .int x3), (4, .int x4), (5, .int x5_143), (7, .int x7)]) [3, 4, 5, 6, 7, 0, 9] rfl ?_
          exact t_X12_learn_169 hKp X hr hlk hrec76 h
        · have h := ix_iff q_148 h
          refine ix_iload (i := 6) (j := 8) X (ix_tb_at tb_X12_learn 86 rfl) rfl (pc1 := 153) rfl ?_
          refine ix_goto (tgt := 169) X (ix_tb_at tb_X12_learn 87 rfl) (by decide) ?_
          refine ix_sub (L1 := [(0, .ref (K.2.2.1 + a0)), (1, .int x1), (2, .int x2), (3, .int x3), (4, .int x4), (5, .int x5_143), (7, .int x7)]) [3, 4, 5, 6, 7, 0, 9] rfl ?_
          exact t_X12_learn_169 hKp X hr hlk hrec76 h
theorem t_X12_learn_76 {l : Launch} {p : Program} {e : Env} {s : State} {m : MethodId} {args : Array Value} {below : List Frame} {meth : Method} {c : Code} {K : ix_Cx} (hKp : ix_Kp K) {n : Nat} {z : ix_Z} (X : ix_X p s m args c K cX12_learn RX12 10) (hr : meth.sig.returnType = (some .int)) (hlk : meth.locks = false)  {a0 : Nat} {x1 : Int32} {x2 : Int32} {x3 : Int32} {x4 : Int32} {r : Int32} {d1 : ix_D2}  {x5 : Int32} {x6 : Int32} {x7 : Int32} {d : ix_D2} (h : f_X12_learn_76 n z  a0 x1 x2 x3 x4 x5 x6 x7 d = some (r, d1)) : ix_G p l e (ix_rm 3 74 0 0) s m args below meth c (MQ below (ix_Post K (some (.int r)) (ix_w z d1)) args s 0 0 (ix_A K)) K 10 0 0 76 [(0, .ref (K.2.2.1 + a0)), (1, .int x1), (2, .int x2), (3, .int x3), (4, .int x4), (5, .int x5), (6, .int x6), (7, .int x7)] [] (ix_w z d) := by
  have key : ∀ (f : Nat) (x5 : Int32) (x6 : Int32) (x7 : Int32) (d : ix_D2), ix_fix (b_X12_learn_76 n z  a0 x1 x2 x3 x4) (fun _ _ _ _ => none) f x5 x6 x7 d = some (r, d1) → ix_G p l e (ix_rm 3 74 0 0) s m args below meth c (MQ below (ix_Post K (some (.int r)) (ix_w z d1)) args s 0 0 (ix_A K)) K 10 0 0 76 [(0, .ref (K.2.2.1 + a0)), (1, .int x1), (2, .int x2), (3, .int x3), (4, .int x4), (5, .int x5), (6, .int x6), (7, .int x7)] [] (ix_w z d) := by
    intro f
    induction f with
    | zero =>
      intro x5 x6 x7 d h
      have h : (none : Option (Int32 × ix_D2)) = some (r, d1) := h
      cases h
    | succ f ih =>
      intro x5 x6 x7 d h
      exact tb_X12_learn_76 hKp X hr hlk (rec76 := ix_fix (b_X12_learn_76 n z  a0 x1 x2 x3 x4) (fun _ _ _ _ => none) f)  ih h
  exact key n x5 x6 x7 d h
set_option maxRecDepth 20000 in
theorem c_X12_learn {l : Launch} {K : ix_Cx} (hKp : ix_Kp K) {n : Nat} {z : ix_Z} {a0 : Nat} {x1 : Int32} {d : ix_D2} {r : Int32} {d1 : ix_D2} (h : f_X12_learn n z a0 x1 d = some (r, d1)) : ix_M l K yX12_learn cX12_learn 10 (some .int) 3 74 0 0 [.ref (K.2.2.1 + a0), .int x1] (ix_w z d) (some (.int r)) (ix_w z d1) := by
  refine ix_met mf_X12_learn hKp (Nat.le_of_ble_eq_true rfl) ?_
  intro p e s m args below meth c hr hlk hnm X
  have X : ix_X p s m args c K cX12_learn RX12 10 := X
  show ix_G p l e (ix_rm 3 74 0 0) s m args below meth c (MQ below (ix_Post K (some (.int r)) (ix_w z d1)) args s 0 0 (ix_A K)) K 10 0 0 0 [(0, .ref (K.2.2.1 + a0)), (1, .int x1)] [] (ix_w z d)
  unfold f_X12_learn at h
  refine ix_aload_n (i := 0) (j := 0) X (ix_tb_at tb_X12_learn 0 rfl) rfl rfl (pc1 := 1) rfl ?_
  obtain ⟨k_1, h⟩ := ix_ck_some h
  refine iz_getI X fl_RX12_490 k_1 (ix_tb_at tb_X12_learn 1 rfl) (pc1 := 4) rfl ?_
  refine ix_if_ne (tgt := 11) X (ix_tb_at tb_X12_learn 2 rfl) (by decide) (pc1 := 7) rfl (fun q_2 => ?_) (fun q_2 => ?_)
  · have h := ix_iff q_2 h
    refine ix_aload_n (i := 0) (j := 0) X (ix_tb_at tb_X12_learn 5 rfl) rfl rfl (pc1 := 12) rfl ?_
    obtain ⟨d_3, h_4, h⟩ := ix_bd1_ex h
    refine ix_callV (As := []) (rest := []) (ci := 11) (T := TX12) (nf := 116) X mf_X12_clearMarks mi_X12_clearMarks ms_X12_clearMarks rfl (Nat.le_of_ble_eq_true rfl) ml_RX12_536 ⟨Nat.le_of_ble_eq_true rfl, Nat.le_of_ble_eq_true rfl⟩ ⟨Nat.le_of_ble_eq_true rfl, Nat.le_of_ble_eq_true rfl⟩ rfl (Nat.le_of_ble_eq_true rfl) (ix_tb_at tb_X12_learn 6 rfl) ⟨k_1.1, List.mem_singleton.mp k_1.2⟩ (c_X12_clearMarks hKp h_4) rfl (pc1 := 15) rfl ?_
    refine ix_aload_n (i := 0) (j := 0) X (ix_tb_at tb_X12_learn 7 rfl) rfl rfl (pc1 := 16) rfl ?_
    refine ix_iconst (v := 0) X (ix_tb_at tb_X12_learn 8 rfl) (by decide) (pc1 := 17) rfl ?_
    obtain ⟨d_5, e_6, h⟩ := ix_lt_ex h
    refine iz_putI X fp_RX12_542 k_1 (ix_tb_at tb_X12_learn 9 rfl) e_6 (pc1 := 20) rfl ?_
    refine ix_aload_n (i := 0) (j := 0) X (ix_tb_at tb_X12_learn 10 rfl) rfl rfl (pc1 := 21) rfl ?_
    refine ix_iconst (v := 0) X (ix_tb_at tb_X12_learn 11 rfl) (by decide) (pc1 := 22) rfl ?_
    obtain ⟨d_7, e_8, h⟩ := ix_lt_ex h
    refine iz_putI X fp_RX12_545 k_1 (ix_tb_at tb_X12_learn 12 rfl) e_8 (pc1 := 25) rfl ?_
    refine ix_aload_n (i := 0) (j := 0) X (ix_tb_at tb_X12_learn 13 rfl) rfl rfl (pc1 := 26) rfl ?_
    refine iz_getI X fl_RX12_460 k_1 (ix_tb_at tb_X12_learn 14 rfl) (pc1 := 29) rfl ?_
    obtain ⟨x2_9, e_10, h⟩ := ix_lt_ex h
    refine ix_nmi e_10 ?_
    refine ix_istore_n (i := 2) (L1 := [(2, .int x2_9), (0, .ref (K.2.2.1 + a0)), (1, .int x1)]) X (ix_tb_at tb_X12_learn 15 rfl) rfl (Nat.le_of_ble_eq_true rfl) rfl (pc1 := 30) rfl ?_
    refine ix_aload_n (i := 0) (j := 1) X (ix_tb_at tb_X12_learn 16 rfl) rfl rfl (pc1 := 31) rfl ?_
    obtain ⟨b_11, q_12, h⟩ := ix_bd1_ex h
    refine iz_getR X fl_RX12_159 k_1 q_12 (ix_tb_at tb_X12_learn 17 rfl) (pc1 := 34) rfl ?_
    refine ix_iload_n (i := 1) (j := 2) X (ix_tb_at tb_X12_learn 18 rfl) rfl rfl (pc1 := 35) rfl ?_
    obtain ⟨k_13, h⟩ := ix_ck_some h
    refine iz_iald X k_13 (ix_tb_at tb_X12_learn 19 rfl) (pc1 := 36) rfl ?_
    obtain ⟨x3_14, e_15, h⟩ := ix_lt_ex h
    refine ix_nmi e_15 ?_
    refine ix_istore_n (i := 3) (L1 := [(3, .int x3_14), (2, .int x2_9), (0, .ref (K.2.2.1 + a0)), (1, .int x1)]) X (ix_tb_at tb_X12_learn 20 rfl) rfl (Nat.le_of_ble_eq_true rfl) rfl (pc1 := 37) rfl ?_
    refine ix_aload_n (i := 0) (j := 2) X (ix_tb_at tb_X12_learn 21 rfl) rfl rfl (pc1 := 38) rfl ?_
    refine ix_iload_n (i := 1) (j := 3) X (ix_tb_at tb_X12_learn 22 rfl) rfl rfl (pc1 := 39) rfl ?_
    refine ix_iload_n (i := 2) (j := 1) X (ix_tb_at tb_X12_learn 23 rfl) rfl rfl (pc1 := 40) rfl ?_
    refine ix_iconst (v := 0) X (ix_tb_at tb_X12_learn 24 rfl) (by decide) (pc1 := 41) rfl ?_
    obtain ⟨d_16, h_17, h⟩ := ix_bd1_ex h
    refine ix_callV (As := [.int x1, .int x2_9, .int 0]) (rest := []) (ci := 11) (T := TX12) (nf := 116) X mf_X12_useRow mi_X12_useRow ms_X12_useRow rfl (Nat.le_of_ble_eq_true rfl) ml_RX12_548 ⟨Nat.le_of_ble_eq_true rfl, Nat.le_of_ble_eq_true rfl⟩ ⟨Nat.le_of_ble_eq_true rfl, Nat.le_of_ble_eq_true rfl⟩ rfl (Nat.le_of_ble_eq_true rfl) (ix_tb_at tb_X12_learn 25 rfl) ⟨k_1.1, List.mem_singleton.mp k_1.2⟩ (c_X12_useRow hKp h_17) rfl (pc1 := 44) rfl ?_
    refine ix_aload_n (i := 0) (j := 2) X (ix_tb_at tb_X12_learn 26 rfl) rfl rfl (pc1 := 45) rfl ?_
    refine ix_iload_n (i := 1) (j := 3) X (ix_tb_at tb_X12_learn 27 rfl) rfl rfl (pc1 := 46) rfl ?_
    obtain ⟨r_20, d_18, h_19, h⟩ := ix_bd2_ex h
    refine ix_callV (As := [.int x1]) (rest := []) (ci := 11) (T := TX12) (nf := 116) X mf_X12_lastOne mi_X12_lastOne ms_X12_lastOne rfl (Nat.le_of_ble_eq_true rfl) ml_RX12_551 ⟨Nat.le_of_ble_eq_true rfl, Nat.le_of_ble_eq_true rfl⟩ ⟨Nat.le_of_ble_eq_true rfl, Nat.le_of_ble_eq_true rfl⟩ rfl (Nat.le_of_ble_eq_true rfl) (ix_tb_at tb_X12_learn 28 rfl) ⟨k_1.1, List.mem_singleton.mp k_1.2⟩ (c_X12_lastOne hKp h_19) rfl (pc1 := 49) rfl ?_
    refine ix_istore (i := 4) (L1 := [(4, .int r_20), (3, .int x3_14), (2, .int x2_9), (0, .ref (K.2.2.1 + a0)), (1, .int x1)]) X (ix_tb_at tb_X12_learn 29 rfl) (Nat.le_of_ble_eq_true rfl) rfl (pc1 := 51) rfl ?_
    refine ix_aload_n (i := 0) (j := 3) X (ix_tb_at tb_X12_learn 30 rfl) rfl rfl (pc1 := 52) rfl ?_
    obtain ⟨b_21, q_22, h⟩ := ix_bd1_ex h
    refine iz_getR X fl_RX12_207 k_1 q_22 (ix_tb_at tb_X12_learn 31 rfl) (pc1 := 55) rfl ?_
    refine ix_iconst (v := 0) X (ix_tb_at tb_X12_learn 32 rfl) (by decide) (pc1 := 56) rfl ?_
    refine ix_iload (i := 4) (j := 0) X (ix_tb_at tb_X12_learn 33 rfl) rfl (pc1 := 58) rfl ?_
    refine ix_ineg X (ix_tb_at tb_X12_learn 34 rfl) (pc1 := 59) rfl ?_
    obtain ⟨k_23, h⟩ := ix_ck_some h
    obtain ⟨d_24, e_25, h⟩ := ix_lt_ex h
    refine iz_iast X k_23 (ix_tb_at tb_X12_learn 35 rfl) e_25 (pc1 := 60) rfl ?_
    refine ix_iconst (v := 1) X (ix_tb_at tb_X12_learn 36 rfl) (by decide) (pc1 := 61) rfl ?_
    refine ix_istore (i := 5) (L1 := [(5, .int 1), (4, .int r_20), (3, .int x3_14), (2, .int x2_9), (0, .ref (K.2.2.1 + a0)), (1, .int x1)]) X (ix_tb_at tb_X12_learn 37 rfl) (Nat.le_of_ble_eq_true rfl) rfl (pc1 := 63) rfl ?_
    refine ix_iconst (v := 0) X (ix_tb_at tb_X12_learn 38 rfl) (by decide) (pc1 := 64) rfl ?_
    refine ix_istore (i := 6) (L1 := [(6, .int 0), (5, .int 1), (4, .int r_20), (3, .int x3_14), (2, .int x2_9), (0, .ref (K.2.2.1 + a0)), (1, .int x1)]) X (ix_tb_at tb_X12_learn 39 rfl) (Nat.le_of_ble_eq_true rfl) rfl (pc1 := 66) rfl ?_
    refine ix_aload_n (i := 0) (j := 5) X (ix_tb_at tb_X12_learn 40 rfl) rfl rfl (pc1 := 67) rfl ?_
    obtain ⟨b_26, q_27, h⟩ := ix_bd1_ex h
    refine iz_getR X fl_RX12_156 k_1 q_27 (ix_tb_at tb_X12_learn 41 rfl) (pc1 := 70) rfl ?_
    refine ix_iload_n (i := 1) (j := 6) X (ix_tb_at tb_X12_learn 42 rfl) rfl rfl (pc1 := 71) rfl ?_
    obtain ⟨k_28, h⟩ := ix_ck_some h
    refine iz_iald X k_28 (ix_tb_at tb_X12_learn 43 rfl) (pc1 := 72) rfl ?_
    refine ix_iconst (v := 1) X (ix_tb_at tb_X12_learn 44 rfl) (by decide) (pc1 := 73) rfl ?_
    refine ix_isub X (ix_tb_at tb_X12_learn 45 rfl) (pc1 := 74) rfl ?_
    obtain ⟨x7_29, e_30, h⟩ := ix_lt_ex h
    refine ix_nmi e_30 ?_
    refine ix_istore (i := 7) (L1 := [(7, .int x7_29), (6, .int 0), (5, .int 1), (4, .int r_20), (3, .int x3_14), (2, .int x2_9), (0, .ref (K.2.2.1 + a0)), (1, .int x1)]) X (ix_tb_at tb_X12_learn 46 rfl) (Nat.le_of_ble_eq_true rfl) rfl (pc1 := 76) rfl ?_
    refine ix_sub (L1 := [(0, .ref (K.2.2.1 + a0)), (1, .int x1), (2, .int x2_9), (3, .int x3_14), (4, .int r_20), (5, .int 1), (6, .int 0), (7, .int x7_29)]) [6, 7, 5, 4, 3, 2, 1, 0] rfl ?_
    exact t_X12_learn_76 hKp X hr hlk  h
  · have h := ix_ift q_2 h
    refine ix_sipush (v := (-1004)) X (ix_tb_at tb_X12_learn 3 rfl) (by decide) (pc1 := 10) rfl ?_
    exact ix_iret X hr hlk (ix_r2 (f := fun r => some (.int r)) (g := ix_w z) h) (ix_tb_at tb_X12_learn 4 rfl)
def tab_X12_markRow : List (Nat × Instr × Nat) := [(0, .aload_n 0, 1), (1, .iload_n 1, 1), (2, .iload_n 2, 1), (3, .invokevirtual 377, 3), (6, .istore_n 3, 1), (7, .iconst 0, 1), (8, .istore 4, 2), (10, .iload 4, 2), (12, .iload_n 3, 1), (13, .if_icmp .ge 26, 3), (16, .aload_n 0, 1), (17, .getfield 210, 3), (20, .aload_n 0, 1), (21, .iload_n 1, 1), (22, .iload_n 2, 1), (23, .iload 4, 2), (25, .invokevirtual 381, 3), (28, .invokestatic 289, 3), (31, .iconst 1, 1), (32, .bastore, 1), (33, .iinc 4 1, 3), (36, .goto (-26), 3), (39, .return_, 1)]
theorem tb_X12_markRow : ix_tab cX12_markRow tab_X12_markRow := by
  unfold ix_tab
  decide +kernel
noncomputable def b_X12_markRow_10 (n : Nat) (z : ix_Z)  (a0 : Nat) (x1 : Int32) (x2 : Int32) (x3 : Int32) (rec10 : Int32 → ix_D2 → Option (ix_D2)) (x4 : Int32) (d : ix_D2) : Option (ix_D2) :=
  ix_if (x3 ≤ x4) (some d) (ix_ck (ix_ok z [11] a0) (ix_bd1 (z.1 a0 102) (fun b_7 => ix_bd2 (f_X12_itemOf n z a0 x1 x2 x4 d) (fun r_11 d_9 => ix_bd2 (f_X12_nameOf n z r_11 d_9) (fun r_14 d_12 => ix_ck (ix_ix z 22 b_7 r_14) (ix_lt (ix_di d_12 b_7 (ix_n r_14) (vp_nar .boolean 1)) (fun d_16 => ix_lt (x4 + 1) (fun x4_18 => rec10 x4_18 d_16))))))))
noncomputable def f_X12_markRow_10 (n : Nat) (z : ix_Z)  (a0 : Nat) (x1 : Int32) (x2 : Int32) (x3 : Int32) (x4 : Int32) (d : ix_D2) : Option (ix_D2) := ix_fix (b_X12_markRow_10 n z  a0 x1 x2 x3) (fun _ _ => none) n x4 d
noncomputable def f_X12_markRow (n : Nat) (z : ix_Z) (a0 : Nat) (x1 : Int32) (x2 : Int32) (d : ix_D2) : Option (ix_D2) :=
  ix_ck (ix_ok z [11] a0) (ix_bd2 (f_X12_sizeOf n z a0 x1 x2 d) (fun r_4 d_1 => f_X12_markRow_10 n z  a0 x1 x2 r_4 0 d_1))
set_option maxRecDepth 20000 in
theorem tb_X12_markRow_10 {l : Launch} {p : Program} {e : Env} {s : State} {m : MethodId} {args : Array Value} {below : List Frame} {meth : Method} {c : Code} {K : ix_Cx} (hKp : ix_Kp K) {n : Nat} {z : ix_Z} (X : ix_X p s m args c K cX12_markRow RX12 5) (hr : meth.sig.returnType = (none : Option Jvm.ClassFile.FieldType)) (hlk : meth.locks = false)  {a0 : Nat} {x1 : Int32} {x2 : Int32} {x3 : Int32} {rec10 : Int32 → ix_D2 → Option (ix_D2)} {d1 : ix_D2} (hrec10 : ∀ (x4 : Int32) (d : ix_D2), rec10 x4 d = some d1 → ix_G p l e (ix_rm 1 23 0 0) s m args below meth c (MQ below (ix_Post K none (ix_w z d1)) args s 0 0 (ix_A K)) K 5 0 0 10 [(0, .ref (K.2.2.1 + a0)), (1, .int x1), (2, .int x2), (3, .int x3), (4, .int x4)] [] (ix_w z d)) {x4 : Int32} {d : ix_D2} (h : b_X12_markRow_10 n z  a0 x1 x2 x3 rec10 x4 d = some d1) : ix_G p l e (ix_rm 1 23 0 0) s m args below meth c (MQ below (ix_Post K none (ix_w z d1)) args s 0 0 (ix_A K)) K 5 0 0 10 [(0, .ref (K.2.2.1 + a0)), (1, .int x1), (2, .int x2), (3, .int x3), (4, .int x4)] [] (ix_w z d) := by
  unfold b_X12_markRow_10 at h
  refine ix_iload (i := 4) (j := 4) X (ix_tb_at tb_X12_markRow 7 rfl) rfl (pc1 := 12) rfl ?_
  refine ix_iload_n (i := 3) (j := 3) X (ix_tb_at tb_X12_markRow 8 rfl) rfl rfl (pc1 := 13) rfl ?_
  refine ix_icmp_ge (tgt := 39) X (ix_tb_at tb_X12_markRow 9 rfl) (by decide) (pc1 := 16) rfl (fun q_5 => ?_) (fun q_5 => ?_)
  · have h := ix_ift q_5 h
    exact ix_vret X hr hlk (ix_r1 (g := ix_w z) h) (ix_tb_at tb_X12_markRow 22 rfl)
  · have h := ix_iff q_5 h
    refine ix_aload_n (i := 0) (j := 0) X (ix_tb_at tb_X12_markRow 10 rfl) rfl rfl (pc1 := 17) rfl ?_
    obtain ⟨k_6, h⟩ := ix_ck_some h
    obtain ⟨b_7, q_8, h⟩ := ix_bd1_ex h
    refine iz_getR X fl_RX12_210 k_6 q_8 (ix_tb_at tb_X12_markRow 11 rfl) (pc1 := 20) rfl ?_
    refine ix_aload_n (i := 0) (j := 0) X (ix_tb_at tb_X12_markRow 12 rfl) rfl rfl (pc1 := 21) rfl ?_
    refine ix_iload_n (i := 1) (j := 1) X (ix_tb_at tb_X12_markRow 13 rfl) rfl rfl (pc1 := 22) rfl ?_
    refine ix_iload_n (i := 2) (j := 2) X (ix_tb_at tb_X12_markRow 14 rfl) rfl rfl (pc1 := 23) rfl ?_
    refine ix_iload (i := 4) (j := 4) X (ix_tb_at tb_X12_markRow 15 rfl) rfl (pc1 := 25) rfl ?_
    obtain ⟨r_11, d_9, h_10, h⟩ := ix_bd2_ex h
    refine ix_callV (As := [.int x1, .int x2, .int x4]) (rest := [.ref (K.2.2.1 + b_7)]) (ci := 11) (T := TX12) (nf := 116) X mf_X12_itemOf mi_X12_itemOf ms_X12_itemOf rfl (Nat.le_of_ble_eq_true rfl) ml_RX12_381 ⟨Nat.le_of_ble_eq_true rfl, Nat.le_of_ble_eq_true rfl⟩ ⟨Nat.le_of_ble_eq_true rfl, Nat.le_of_ble_eq_true rfl⟩ rfl (Nat.le_of_ble_eq_true rfl) (ix_tb_at tb_X12_markRow 16 rfl) ⟨k_6.1, List.mem_singleton.mp k_6.2⟩ (c_X12_itemOf hKp h_10) rfl (pc1 := 28) rfl ?_
    obtain ⟨r_14, d_12, h_13, h⟩ := ix_bd2_ex h
    refine ix_callS (As := [.int r_11]) (rest := [.ref (K.2.2.1 + b_7)]) X mf_X12_nameOf st_X12_nameOf ml_RX12_289 ⟨Nat.le_of_ble_eq_true rfl, Nat.le_of_ble_eq_true rfl⟩ ⟨Nat.le_of_ble_eq_true rfl, Nat.le_of_ble_eq_true rfl⟩ rfl (Nat.le_of_ble_eq_true rfl) (ix_tb_at tb_X12_markRow 17 rfl) (c_X12_nameOf hKp h_13) rfl (pc1 := 31) rfl ?_
    refine ix_iconst (v := 1) X (ix_tb_at tb_X12_markRow 18 rfl) (by decide) (pc1 := 32) rfl ?_
    obtain ⟨k_15, h⟩ := ix_ck_some h
    obtain ⟨d_16, e_17, h⟩ := ix_lt_ex h
    refine iz_zast X k_15 (ix_tb_at tb_X12_markRow 19 rfl) e_17 (pc1 := 33) rfl ?_
    obtain ⟨x4_18, e_19, h⟩ := ix_lt_ex h
    refine ix_iinc (i := 4) (j := 4) (v := x4_18) (L1 := [(4, .int x4_18), (0, .ref (K.2.2.1 + a0)), (1, .int x1), (2, .int x2), (3, .int x3)]) X (ix_tb_at tb_X12_markRow 20 rfl) rfl (by rw [oi_1]; exact e_19.symm) (Nat.le_of_ble_eq_true rfl) rfl (pc1 := 36) rfl ?_
    refine ix_goto (tgt := 10) X (ix_tb_at tb_X12_markRow 21 rfl) (by decide) ?_
    refine ix_sub (L1 := [(0, .ref (K.2.2.1 + a0)), (1, .int x1), (2, .int x2), (3, .int x3), (4, .int x4_18)]) [1, 2, 3, 4, 0] rfl ?_
    exact hrec10 x4_18 d_16 h
theorem t_X12_markRow_10 {l : Launch} {p : Program} {e : Env} {s : State} {m : MethodId} {args : Array Value} {below : List Frame} {meth : Method} {c : Code} {K : ix_Cx} (hKp : ix_Kp K) {n : Nat} {z : ix_Z} (X : ix_X p s m args c K cX12_markRow RX12 5) (hr : meth.sig.returnType = (none : Option Jvm.ClassFile.FieldType)) (hlk : meth.locks = false)  {a0 : Nat} {x1 : Int32} {x2 : Int32} {x3 : Int32} {d1 : ix_D2}  {x4 : Int32} {d : ix_D2} (h : f_X12_markRow_10 n z  a0 x1 x2 x3 x4 d = some d1) : ix_G p l e (ix_rm 1 23 0 0) s m args below meth c (MQ below (ix_Post K none (ix_w z d1)) args s 0 0 (ix_A K)) K 5 0 0 10 [(0, .ref (K.2.2.1 + a0)), (1, .int x1), (2, .int x2), (3, .int x3), (4, .int x4)] [] (ix_w z d) := by
  have key : ∀ (f : Nat) (x4 : Int32) (d : ix_D2), ix_fix (b_X12_markRow_10 n z  a0 x1 x2 x3) (fun _ _ => none) f x4 d = some d1 → ix_G p l e (ix_rm 1 23 0 0) s m args below meth c (MQ below (ix_Post K none (ix_w z d1)) args s 0 0 (ix_A K)) K 5 0 0 10 [(0, .ref (K.2.2.1 + a0)), (1, .int x1), (2, .int x2), (3, .int x3), (4, .int x4)] [] (ix_w z d) := by
    intro f
    induction f with
    | zero =>
      intro x4 d h
      have h : (none : Option (ix_D2)) = some d1 := h
      cases h
    | succ f ih =>
      intro x4 d h
      exact tb_X12_markRow_10 hKp X hr hlk (rec10 := ix_fix (b_X12_markRow_10 n z  a0 x1 x2 x3) (fun _ _ => none) f)  ih h
  exact key n x4 d h
set_option maxRecDepth 20000 in
theorem c_X12_markRow {l : Launch} {K : ix_Cx} (hKp : ix_Kp K) {n : Nat} {z : ix_Z} {a0 : Nat} {x1 : Int32} {x2 : Int32} {d : ix_D2} {d1 : ix_D2} (h : f_X12_markRow n z a0 x1 x2 d = some d1) : ix_M l K yX12_markRow cX12_markRow 5 (none : Option Jvm.ClassFile.FieldType) 1 23 0 0 [.ref (K.2.2.1 + a0), .int x1, .int x2] (ix_w z d) none (ix_w z d1) := by
  refine ix_met mf_X12_markRow hKp (Nat.le_of_ble_eq_true rfl) ?_
  intro p e s m args below meth c hr hlk hnm X
  have X : ix_X p s m args c K cX12_markRow RX12 5 := X
  show ix_G p l e (ix_rm 1 23 0 0) s m args below meth c (MQ below (ix_Post K none (ix_w z d1)) args s 0 0 (ix_A K)) K 5 0 0 0 [(0, .ref (K.2.2.1 + a0)), (1, .int x1), (2, .int x2)] [] (ix_w z d)
  unfold f_X12_markRow at h
  refine ix_aload_n (i := 0) (j := 0) X (ix_tb_at tb_X12_markRow 0 rfl) rfl rfl (pc1 := 1) rfl ?_
  refine ix_iload_n (i := 1) (j := 1) X (ix_tb_at tb_X12_markRow 1 rfl) rfl rfl (pc1 := 2) rfl ?_
  refine ix_iload_n (i := 2) (j := 2) X (ix_tb_at tb_X12_markRow 2 rfl) rfl rfl (pc1 := 3) rfl ?_
  obtain ⟨k_3, h⟩ := ix_ck_some h
  obtain ⟨r_4, d_1, h_2, h⟩ := ix_bd2_ex h
  refine ix_callV (As := [.int x1, .int x2]) (rest := []) (ci := 11) (T := TX12) (nf := 116) X mf_X12_sizeOf mi_X12_sizeOf ms_X12_sizeOf rfl (Nat.le_of_ble_eq_true rfl) ml_RX12_377 ⟨Nat.le_of_ble_eq_true rfl, Nat.le_of_ble_eq_true rfl⟩ ⟨Nat.le_of_ble_eq_true rfl, Nat.le_of_ble_eq_true rfl⟩ rfl (Nat.le_of_ble_eq_true rfl) (ix_tb_at tb_X12_markRow 3 rfl) ⟨k_3.1, List.mem_singleton.mp k_3.2⟩ (c_X12_sizeOf hKp h_2) rfl (pc1 := 6) rfl ?_
  refine ix_istore_n (i := 3) (L1 := [(3, .int r_4), (0, .ref (K.2.2.1 + a0)), (1, .int x1), (2, .int x2)]) X (ix_tb_at tb_X12_markRow 4 rfl) rfl (Nat.le_of_ble_eq_true rfl) rfl (pc1 := 7) rfl ?_
  refine ix_iconst (v := 0) X (ix_tb_at tb_X12_markRow 5 rfl) (by decide) (pc1 := 8) rfl ?_
  refine ix_istore (i := 4) (L1 := [(4, .int 0), (3, .int r_4), (0, .ref (K.2.2.1 + a0)), (1, .int x1), (2, .int x2)]) X (ix_tb_at tb_X12_markRow 6 rfl) (Nat.le_of_ble_eq_true rfl) rfl (pc1 := 10) rfl ?_
  refine ix_sub (L1 := [(0, .ref (K.2.2.1 + a0)), (1, .int x1), (2, .int x2), (3, .int r_4), (4, .int 0)]) [2, 3, 4, 1, 0] rfl ?_
  exact t_X12_markRow_10 hKp X hr hlk  h
def tab_X12_endAsked : List (Nat × Instr × Nat) := [(0, .aload_n 0, 1), (1, .invokevirtual 536, 3), (4, .aload_n 0, 1), (5, .invokevirtual 476, 3), (8, .aload_n 0, 1), (9, .getfield 210, 3), (12, .iload_n 2, 1), (13, .invokestatic 289, 3), (16, .iconst 1, 1), (17, .bastore, 1), (18, .aload_n 0, 1), (19, .getfield 156, 3), (22, .iload_n 1, 1), (23, .iaload, 1), (24, .iconst 1, 1), (25, .isub, 1), (26, .istore_n 3, 1), (27, .iload_n 3, 1), (28, .ifCond .lt 130, 3), (31, .aload_n 0, 1), (32, .getfield 153, 3), (35, .sipush 300, 3), (38, .iload_n 1, 1), (39, .imul, 1), (40, .iload_n 3, 1), (41, .iadd, 1), (42, .iaload, 1), (43, .invokestatic 289, 3), (46, .istore 4, 2), (48, .aload_n 0, 1), (49, .getfield 210, 3), (52, .iload 4, 2), (54, .baload, 1), (55, .ifCond .ne 6, 3), (58, .goto 94, 3), (61, .aload_n 0, 1), (62, .getfield 137, 3), (65, .sipush 301, 3), (68, .iload_n 1, 1), (69, .imul, 1), (70, .iload 4, 2), (72, .iadd, 1), (73, .iaload, 1), (74, .ifCond .ne 13, 3), (77, .aload_n 0, 1), (78, .iload_n 1, 1), (79, .iload 4, 2), (81, .invokevirtual 473, 3), (84, .goto 68, 3), (87, .aload_n 0, 1), (88, .getfield 140, 3), (91, .sipush 301, 3), (94, .iload_n 1, 1), (95, .imul, 1), (96, .iload 4, 2), (98, .iadd, 1), (99, .iaload, 1), (100, .bipush (-7), 2), (102, .if_icmp .ne 14, 3), (105, .aload_n 0, 1), (106, .getfield 213, 3), (109, .iload 4, 2), (111, .iconst 1, 1), (112, .bastore, 1), (113, .goto 39, 3), (116, .aload_n 0, 1), (117, .iload_n 1, 1), (118, .aload_n 0, 1), (119, .getfield 140, 3), (122, .sipush 301, 3), (125, .iload_n 1, 1), (126, .imul, 1), (127, .iload 4, 2), (129, .iadd, 1), (130, .iaload, 1), (131, .invokevirtual 479, 3), (134, .aload_n 0, 1), (135, .iload_n 1, 1), (136, .aload_n 0, 1), (137, .getfield 140, 3), (140, .sipush 301, 3), (143, .iload_n 1, 1), (144, .imul, 1), (145, .iload 4, 2), (147, .iadd, 1), (148, .iaload, 1), (149, .invokevirtual 539, 3), (152, .iinc 3 (-1), 3), (155, .goto (-128), 3), (158, .iconst 0, 1), (159, .istore_n 3, 1), (160, .iconst 0, 1), (161, .istore 4, 2), (163, .iload 4, 2), (165, .aload_n 0, 1), (166, .getfield 128, 3), (169, .iload_n 1, 1), (170, .iaload, 1), (171, .if_icmp .ge 65, 3), (174, .aload_n 0, 1), (175, .getfield 125, 3), (178, .bipush 20, 2), (180, .iload_n 1, 1), (181, .imul, 1), (182, .iload 4, 2), (184, .iadd, 1), (185, .iaload, 1), (186, .istore 5, 2), (188, .iload 5, 2), (190, .iload_n 2, 1), (191, .if_icmp .eq 27, 3), (194, .aload_n 0, 1), (195, .getfield 213, 3), (198, .iload 5, 2), (200, .invokestatic 289, 3), (203, .baload, 1), (204, .ifCond .eq 26, 3), (207, .aload_n 0, 1), (208, .iload_n 1, 1), (209, .iload 5, 2), (211, .invokevirtual 445, 3), (214, .iconst 1, 1), (215, .if_icmp .ne 15, 3), (218, .aload_n 0, 1), (219, .getfield 207, 3), (222, .iload_n 3, 1), (223, .iload 5, 2), (225, .ineg, 1), (226, .iastore, 1), (227, .iinc 3 1, 3), (230, .iinc 4 1, 3), (233, .goto (-70), 3), (236, .aload_n 0, 1), (237, .iload_n 1, 1), (238, .iload_n 3, 1), (239, .invokevirtual 517, 3), (242, .ifCond .ne 7, 3), (245, .sipush (-1003), 3), (248, .ireturn, 1), (249, .aload_n 0, 1), (250, .iload_n 1, 1), (251, .iload_n 3, 1), (252, .invokevirtual 520, 3), (255, .aload_n 0, 1), (256, .iload_n 1, 1), (257, .invokevirtual 523, 3), (260, .iconst 0, 1), (261, .istore 4, 2), (263, .iload 4, 2), (265, .iload_n 3, 1), (266, .if_icmp .ge 36, 3), (269, .iload_n 1, 1), (270, .ifCond .ne 32, 3), (273, .aload_n 0, 1), (274, .getfield 204, 3), (277, .iload 4, 2), (279, .aload_n 0, 1), (280, .getfield 207, 3), (283, .iload 4, 2), (285, .iaload, 1), (286, .ineg, 1), (287, .iastore, 1), (288, .aload_n 0, 1), (289, .iload 4, 2), (291, .iconst 1, 1), (292, .iadd, 1), (293, .putfield 526, 3), (296, .iinc 4 1, 3), (299, .goto (-36), 3), (302, .iconst 0, 1), (303, .ireturn, 1)]
theorem tb_X12_endAsked : ix_tab cX12_endAsked tab_X12_endAsked := by
  unfold ix_tab
  decide +kernel
noncomputable def b_X12_endAsked_263 (n : Nat) (z : ix_Z)  (a0 : Nat) (x1 : Int32) (x3 : Int32) (rec263 : Int32 → ix_D2 → Option (Int32 × ix_D2)) (x4 : Int32) (d : ix_D2) : Option (Int32 × ix_D2) :=
  ix_if (x3 ≤ x4) (some (0, d)) (ix_if (x1 = 0) (ix_ck (ix_ok z [11] a0) (ix_bd1 (z.1 a0 95) (fun b_36 => ix_bd1 (z.1 a0 101) (fun b_38 => ix_ck (ix_ix z 20 b_38 x4) (ix_ck (ix_ix z 20 b_36 x4) (ix_lt (ix_di d b_36 (ix_n x4) (-(d.1 b_38 (ix_n x4)))) (fun d_42 => ix_lt (ix_di d_42 a0 96 (x4 + 1)) (fun d_44 => ix_lt (x4 + 1) (fun x4_46 => rec263 x4_46 d_44))))))))) (some (0, d)))
noncomputable def f_X12_endAsked_263 (n : Nat) (z : ix_Z)  (a0 : Nat) (x1 : Int32) (x3 : Int32) (x4 : Int32) (d : ix_D2) : Option (Int32 × ix_D2) := ix_fix (b_X12_endAsked_263 n z  a0 x1 x3) (fun _ _ => none) n x4 d
noncomputable def f_X12_endAsked_230 (n : Nat) (z : ix_Z) (rec163 : Int32 → Int32 → ix_D2 → Option (Int32 × ix_D2)) (a0 : Nat) (x1 : Int32) (x2 : Int32) (x3 : Int32) (x4 : Int32) (d : ix_D2) : Option (Int32 × ix_D2) :=
  ix_lt (x4 + 1) (fun x4_62 => rec163 x3 x4_62 d)
noncomputable def f_X12_endAsked_218 (n : Nat) (z : ix_Z) (rec163 : Int32 → Int32 → ix_D2 → Option (Int32 × ix_D2)) (a0 : Nat) (x1 : Int32) (x2 : Int32) (x3 : Int32) (x4 : Int32) (x5 : Int32) (d : ix_D2) : Option (Int32 × ix_D2) :=
  ix_ck (ix_ok z [11] a0) (ix_bd1 (z.1 a0 101) (fun b_55 => ix_ck (ix_ix z 20 b_55 x3) (ix_lt (ix_di d b_55 (ix_n x3) (-x5)) (fun d_58 => ix_lt (x3 + 1) (fun x3_60 => f_X12_endAsked_230 n z rec163 a0 x1 x2 x3_60 x4 d_58)))))
noncomputable def b_X12_endAsked_163 (n : Nat) (z : ix_Z)  (a0 : Nat) (x1 : Int32) (x2 : Int32) (rec163 : Int32 → Int32 → ix_D2 → Option (Int32 × ix_D2)) (x3 : Int32) (x4 : Int32) (d : ix_D2) : Option (Int32 × ix_D2) :=
  ix_ck (ix_ok z [11] a0) (ix_bd1 (z.1 a0 65) (fun b_21 => ix_ck (ix_ix z 20 b_21 x1) (ix_if (d.1 b_21 (ix_n x1) ≤ x4) (ix_bd2 (f_X12_hasRoom n z a0 x1 x3 d) (fun r_27 d_25 => ix_if (r_27 = 0) (some ((-1003), d_25)) (ix_bd1 (f_X12_record n z a0 x1 x3 d_25) (fun d_29 => ix_bd1 (f_X12_keepCore n z a0 x1 d_29) (fun d_31 => f_X12_endAsked_263 n z  a0 x1 x3 0 d_31))))) (ix_bd1 (z.1 a0 64) (fun b_48 => ix_ck (ix_ix z 20 b_48 ((20 * x1) + x4)) (ix_lt (d.1 b_48 (ix_n ((20 * x1) + x4))) (fun x5_51 => ix_if (x5_51 = x2) (f_X12_endAsked_218 n z rec163 a0 x1 x2 x3 x4 x5_51 d) (ix_bd1 (z.1 a0 103) (fun b_64 => ix_bd2 (f_X12_nameOf n z x5_51 d) (fun r_68 d_66 => ix_ck (ix_ix z 22 b_64 r_68) (ix_if (d_66.1 b_64 (ix_n r_68) = 0) (f_X12_endAsked_230 n z rec163 a0 x1 x2 x3 x4 d_66) (ix_bd2 (f_X12_stateOf n z a0 x1 x5_51 d_66) (fun r_73 d_71 => ix_if (r_73 = 1) (f_X12_endAsked_218 n z rec163 a0 x1 x2 x3 x4 x5_51 d_71) (f_X12_endAsked_230 n z rec163 a0 x1 x2 x3 x4 d_71))))))))))))))
noncomputable def f_X12_endAsked_163 (n : Nat) (z : ix_Z)  (a0 : Nat) (x1 : Int32) (x2 : Int32) (x3 : Int32) (x4 : Int32) (d : ix_D2) : Option (Int32 × ix_D2) := ix_fix (b_X12_endAsked_163 n z  a0 x1 x2) (fun _ _ _ => none) n x3 x4 d
noncomputable def f_X12_endAsked_152 (n : Nat) (z : ix_Z) (rec27 : Int32 → ix_D2 → Option (Int32 × ix_D2)) (a0 : Nat) (x1 : Int32) (x2 : Int32) (x3 : Int32) (d : ix_D2) : Option (Int32 × ix_D2) :=
  ix_lt (x3 + (-1)) (fun x3_98 => rec27 x3_98 d)
noncomputable def b_X12_endAsked_27 (n : Nat) (z : ix_Z)  (a0 : Nat) (x1 : Int32) (x2 : Int32) (rec27 : Int32 → ix_D2 → Option (Int32 × ix_D2)) (x3 : Int32) (d : ix_D2) : Option (Int32 × ix_D2) :=
  ix_if (x3 < 0) (f_X12_endAsked_163 n z  a0 x1 x2 0 0 d) (ix_ck (ix_ok z [11] a0) (ix_bd1 (z.1 a0 75) (fun b_76 => ix_ck (ix_ix z 20 b_76 ((300 * x1) + x3)) (ix_bd2 (f_X12_nameOf n z (d.1 b_76 (ix_n ((300 * x1) + x3))) d) (fun r_81 d_79 => ix_bd1 (z.1 a0 102) (fun b_82 => ix_ck (ix_ix z 22 b_82 r_81) (ix_if (d_79.1 b_82 (ix_n r_81) = 0) (f_X12_endAsked_152 n z rec27 a0 x1 x2 x3 d_79) (ix_bd1 (z.1 a0 70) (fun b_86 => ix_ck (ix_ix z 20 b_86 ((301 * x1) + r_81)) (ix_if (d_79.1 b_86 (ix_n ((301 * x1) + r_81)) = 0) (ix_bd1 (f_X12_addNameSources n z a0 x1 r_81 d_79) (fun d_105 => f_X12_endAsked_152 n z rec27 a0 x1 x2 x3 d_105)) (ix_bd1 (z.1 a0 71) (fun b_90 => ix_ck (ix_ix z 20 b_90 ((301 * x1) + r_81)) (ix_if (d_79.1 b_90 (ix_n ((301 * x1) + r_81)) = (-7)) (ix_bd1 (z.1 a0 103) (fun b_100 => ix_ck (ix_ix z 22 b_100 r_81) (ix_lt (ix_di d_79 b_100 (ix_n r_81) (vp_nar .boolean 1)) (fun d_103 => f_X12_endAsked_152 n z rec27 a0 x1 x2 x3 d_103)))) (ix_bd1 (f_X12_addSources n z a0 x1 (d_79.1 b_90 (ix_n ((301 * x1) + r_81))) d_79) (fun d_94 => ix_bd1 (f_X12_markRow n z a0 x1 (d_94.1 b_90 (ix_n ((301 * x1) + r_81))) d_94) (fun d_96 => f_X12_endAsked_152 n z rec27 a0 x1 x2 x3 d_96))))))))))))))))
noncomputable def f_X12_endAsked_27 (n : Nat) (z : ix_Z)  (a0 : Nat) (x1 : Int32) (x2 : Int32) (x3 : Int32) (d : ix_D2) : Option (Int32 × ix_D2) := ix_fix (b_X12_endAsked_27 n z  a0 x1 x2) (fun _ _ => none) n x3 d
noncomputable def f_X12_endAsked (n : Nat) (z : ix_Z) (a0 : Nat) (x1 : Int32) (x2 : Int32) (d : ix_D2) : Option (Int32 × ix_D2) :=
  ix_ck (ix_ok z [11] a0) (ix_bd1 (f_X12_clearMarks n z a0 d) (fun d_1 => ix_bd1 (f_X12_clearSources n z a0 d_1) (fun d_4 => ix_bd1 (z.1 a0 102) (fun b_6 => ix_bd2 (f_X12_nameOf n z x2 d_4) (fun r_10 d_8 => ix_ck (ix_ix z 22 b_6 r_10) (ix_lt (ix_di d_8 b_6 (ix_n r_10) (vp_nar .boolean 1)) (fun d_12 => ix_bd1 (z.1 a0 76) (fun b_14 => ix_ck (ix_ix z 20 b_14 x1) (ix_lt ((d_12.1 b_14 (ix_n x1)) - 1) (fun x3_17 => f_X12_endAsked_27 n z  a0 x1 x2 x3_17 d_12))))))))))
set_option maxRecDepth 20000 in
theorem tb_X12_endAsked_263 {l : Launch} {p : Program} {e : Env} {s : State} {m : MethodId} {args : Array Value} {below : List Frame} {meth : Method} {c : Code} {K : ix_Cx} (hKp : ix_Kp K) {n : Nat} {z : ix_Z} (X : ix_X p s m args c K cX12_endAsked RX12 6) (hr : meth.sig.returnType = (some .int)) (hlk : meth.locks = false)  {a0 : Nat} {x1 : Int32} {x3 : Int32} {rec263 : Int32 → ix_D2 → Option (Int32 × ix_D2)} {r : Int32} {d1 : ix_D2} (hrec263 : ∀ (x4 : Int32) (d : ix_D2), rec263 x4 d = some (r, d1) → ix_G p l e (ix_rm 2 47 0 0) s m args below meth c (MQ below (ix_Post K (some (.int r)) (ix_w z d1)) args s 0 0 (ix_A K)) K 6 0 0 263 [(0, .ref (K.2.2.1 + a0)), (1, .int x1), (3, .int x3), (4, .int x4)] [] (ix_w z d)) {x4 : Int32} {d : ix_D2} (h : b_X12_endAsked_263 n z  a0 x1 x3 rec263 x4 d = some (r, d1)) : ix_G p l e (ix_rm 2 47 0 0) s m args below meth c (MQ below (ix_Post K (some (.int r)) (ix_w z d1)) args s 0 0 (ix_A K)) K 6 0 0 263 [(0, .ref (K.2.2.1 + a0)), (1, .int x1), (3, .int x3), (4, .int x4)] [] (ix_w z d) := by
  unfold b_X12_endAsked_263 at h
  refine ix_iload (i := 4) (j := 3) X (ix_tb_at tb_X12_endAsked 148 rfl) rfl (pc1 := 265) rfl ?_
  refine ix_iload_n (i := 3) (j := 2) X (ix_tb_at tb_X12_endAsked 149 rfl) rfl rfl (pc1 := 266) rfl ?_
  refine ix_icmp_ge (tgt := 302) X (ix_tb_at tb_X12_endAsked 150 rfl) (by decide) (pc1 := 269) rfl (fun q_33 => ?_) (fun q_33 => ?_)
  · have h := ix_ift q_33 h
    refine ix_iconst (v := 0) X (ix_tb_at tb_X12_endAsked 169 rfl) (by decide) (pc1 := 303) rfl ?_
    exact ix_iret X hr hlk (ix_r2 (f := fun r => some (.int r)) (g := ix_w z) h) (ix_tb_at tb_X12_endAsked 170 rfl)
  · have h := ix_iff q_33 h
    refine ix_iload_n (i := 1) (j := 1) X (ix_tb_at tb_X12_endAsked 151 rfl) rfl rfl (pc1 := 270) rfl ?_
    refine ix_if_ne (tgt := 302) X (ix_tb_at tb_X12_endAsked 152 rfl) (by decide) (pc1 := 273) rfl (fun q_34 => ?_) (fun q_34 => ?_)
    · have h := ix_iff q_34 h
      refine ix_iconst (v := 0) X (ix_tb_at tb_X12_endAsked 169 rfl) (by decide) (pc1 := 303) rfl ?_
      exact ix_iret X hr hlk (ix_r2 (f := fun r => some (.int r)) (g := ix_w z) h) (ix_tb_at tb_X12_endAsked 170 rfl)
    · have h := ix_ift q_34 h
      refine ix_aload_n (i := 0) (j := 0) X (ix_tb_at tb_X12_endAsked 153 rfl) rfl rfl (pc1 := 274) rfl ?_
      obtain ⟨k_35, h⟩ := ix_ck_some h
      obtain ⟨b_36, q_37, h⟩ := ix_bd1_ex h
      refine iz_getR X fl_RX12_204 k_35 q_37 (ix_tb_at tb_X12_endAsked 154 rfl) (pc1 := 277) rfl ?_
      refine ix_iload (i := 4) (j := 3) X (ix_tb_at tb_X12_endAsked 155 rfl) rfl (pc1 := 279) rfl ?_
      refine ix_aload_n (i := 0) (j := 0) X (ix_tb_at tb_X12_endAsked 156 rfl) rfl rfl (pc1 := 280) rfl ?_
      obtain ⟨b_38, q_39, h⟩ := ix_bd1_ex h
      refine iz_getR X fl_RX12_207 k_35 q_39 (ix_tb_at tb_X12_endAsked 157 rfl) (pc1 := 283) rfl ?_
      refine ix_iload (i := 4) (j := 3) X (ix_tb_at tb_X12_endAsked 158 rfl) rfl (pc1 := 285) rfl ?_
      obtain ⟨k_40, h⟩ := ix_ck_some h
      refine iz_iald X k_40 (ix_tb_at tb_X12_endAsked 159 rfl) (pc1 := 286) rfl ?_
      refine ix_ineg X (ix_tb_at tb_X12_endAsked 160 rfl) (pc1 := 287) rfl ?_
      obtain ⟨k_41, h⟩ := ix_ck_some h
      obtain ⟨d_42, e_43, h⟩ := ix_lt_ex h
      refine iz_iast X k_41 (ix_tb_at tb_X12_endAsked 161 rfl) e_43 (pc1 := 288) rfl ?_
      refine ix_aload_n (i := 0) (j := 0) X (ix_tb_at tb_X12_endAsked 162 rfl) rfl rfl (pc1 := 289) rfl ?_
      refine ix_iload (i := 4) (j := 3) X (ix_tb_at tb_X12_endAsked 163 rfl) rfl (pc1 := 291) rfl ?_
      refine ix_iconst (v := 1) X (ix_tb_at tb_X12_endAsked 164 rfl) (by decide) (pc1 := 292) rfl ?_
      refine ix_iadd X (ix_tb_at tb_X12_endAsked 165 rfl) (pc1 := 293) rfl ?_
      obtain ⟨d_44, e_45, h⟩ := ix_lt_ex h
      refine iz_putI X fp_RX12_526 k_35 (ix_tb_at tb_X12_endAsked 166 rfl) e_45 (pc1 := 296) rfl ?_
      obtain ⟨x4_46, e_47, h⟩ := ix_lt_ex h
      refine ix_iinc (i := 4) (j := 3) (v := x4_46) (L1 := [(4, .int x4_46), (0, .ref (K.2.2.1 + a0)), (1, .int x1), (3, .int x3)]) X (ix_tb_at tb_X12_endAsked 167 rfl) rfl (by rw [oi_1]; exact e_47.symm) (Nat.le_of_ble_eq_true rfl) rfl (pc1 := 299) rfl ?_
      refine ix_goto (tgt := 263) X (ix_tb_at tb_X12_endAsked 168 rfl) (by decide) ?_
      refine ix_sub (L1 := [(0, .ref (K.2.2.1 + a0)), (1, .int x1), (3, .int x3), (4, .int x4_46)]) [1, 2, 3, 0] rfl ?_
      exact hrec263 x4_46 d_44 h
theorem t_X12_endAsked_263 {l : Launch} {p : Program} {e : Env} {s : State} {m : MethodId} {args : Array Value} {below : List Frame} {meth : Method} {c : Code} {K : ix_Cx} (hKp : ix_Kp K) {n : Nat} {z : ix_Z} (X : ix_X p s m args c K cX12_endAsked RX12 6) (hr : meth.sig.returnType = (some .int)) (hlk : meth.locks = false)  {a0 : Nat} {x1 : Int32} {x3 : Int32} {r : Int32} {d1 : ix_D2}  {x4 : Int32} {d : ix_D2} (h : f_X12_endAsked_263 n z  a0 x1 x3 x4 d = some (r, d1)) : ix_G p l e (ix_rm 2 47 0 0) s m args below meth c (MQ below (ix_Post K (some (.int r)) (ix_w z d1)) args s 0 0 (ix_A K)) K 6 0 0 263 [(0, .ref (K.2.2.1 + a0)), (1, .int x1), (3, .int x3), (4, .int x4)] [] (ix_w z d) := by
  have key : ∀ (f : Nat) (x4 : Int32) (d : ix_D2), ix_fix (b_X12_endAsked_263 n z  a0 x1 x3) (fun _ _ => none) f x4 d = some (r, d1) → ix_G p l e (ix_rm 2 47 0 0) s m args below meth c (MQ below (ix_Post K (some (.int r)) (ix_w z d1)) args s 0 0 (ix_A K)) K 6 0 0 263 [(0, .ref (K.2.2.1 + a0)), (1, .int x1), (3, .int x3), (4, .int x4)] [] (ix_w z d) := by
    intro f
    induction f with
    | zero =>
      intro x4 d h
      have h : (none : Option (Int32 × ix_D2)) = some (r, d1) := h
      cases h
    | succ f ih =>
      intro x4 d h
      exact tb_X12_endAsked_263 hKp X hr hlk (rec263 := ix_fix (b_X12_endAsked_263 n z  a0 x1 x3) (fun _ _ => none) f)  ih h
  exact key n x4 d h
set_option maxRecDepth 20000 in
theorem t_X12_endAsked_230 {l : Launch} {p : Program} {e : Env} {s : State} {m : MethodId} {args : Array Value} {below : List Frame} {meth : Method} {c : Code} {K : ix_Cx} (hKp : ix_Kp K) {n : Nat} {z : ix_Z} (X : ix_X p s m args c K cX12_endAsked RX12 6) (hr : meth.sig.returnType = (some .int)) (hlk : meth.locks = false) {rec163 : Int32 → Int32 → ix_D2 → Option (Int32 × ix_D2)} {a0 : Nat} {x1 : Int32} {x2 : Int32} {x3 : Int32} {x4 : Int32} {r : Int32} {d1 : ix_D2} (hrec163 : ∀ (x3 : Int32) (x4 : Int32) (d : ix_D2), rec163 x3 x4 d = some (r, d1) → ix_G p l e (ix_rm 2 47 0 0) s m args below meth c (MQ below (ix_Post K (some (.int r)) (ix_w z d1)) args s 0 0 (ix_A K)) K 6 0 0 163 [(0, .ref (K.2.2.1 + a0)), (1, .int x1), (2, .int x2), (3, .int x3), (4, .int x4)] [] (ix_w z d)) {d : ix_D2} (h : f_X12_endAsked_230 n z rec163 a0 x1 x2 x3 x4 d = some (r, d1)) : ix_G p l e (ix_rm 2 47 0 0) s m args below meth c (MQ below (ix_Post K (some (.int r)) (ix_w z d1)) args s 0 0 (ix_A K)) K 6 0 0 230 [(0, .ref (K.2.2.1 + a0)), (1, .int x1), (2, .int x2), (3, .int x3), (4, .int x4)] [] (ix_w z d) := by
  unfold f_X12_endAsked_230 at h
  obtain ⟨x4_62, e_63, h⟩ := ix_lt_ex h
  refine ix_iinc (i := 4) (j := 4) (v := x4_62) (L1 := [(4, .int x4_62), (0, .ref (K.2.2.1 + a0)), (1, .int x1), (2, .int x2), (3, .int x3)]) X (ix_tb_at tb_X12_endAsked 130 rfl) rfl (by rw [oi_1]; exact e_63.symm) (Nat.le_of_ble_eq_true rfl) rfl (pc1 := 233) rfl ?_
  refine ix_goto (tgt := 163) X (ix_tb_at tb_X12_endAsked 131 rfl) (by decide) ?_
  refine ix_sub (L1 := [(0, .ref (K.2.2.1 + a0)), (1, .int x1), (2, .int x2), (3, .int x3), (4, .int x4_62)]) [1, 2, 3, 4, 0] rfl ?_
  exact hrec163 x3 x4_62 d h
set_option maxRecDepth 20000 in
theorem t_X12_endAsked_218 {l : Launch} {p : Program} {e : Env} {s : State} {m : MethodId} {args : Array Value} {below : List Frame} {meth : Method} {c : Code} {K : ix_Cx} (hKp : ix_Kp K) {n : Nat} {z : ix_Z} (X : ix_X p s m args c K cX12_endAsked RX12 6) (hr : meth.sig.returnType = (some .int)) (hlk : meth.locks = false) {rec163 : Int32 → Int32 → ix_D2 → Option (Int32 × ix_D2)} {a0 : Nat} {x1 : Int32} {x2 : Int32} {x3 : Int32} {x4 : Int32} {x5 : Int32} {r : Int32} {d1 : ix_D2} (hrec163 : ∀ (x3 : Int32) (x4 : Int32) (d : ix_D2), rec163 x3 x4 d = some (r, d1) → ix_G p l e (ix_rm 2 47 0 0) s m args below meth c (MQ below (ix_Post K (some (.int r)) (ix_w z d1)) args s 0 0 (ix_A K)) K 6 0 0 163 [(0, .ref (K.2.2.1 + a0)), (1, .int x1), (2, .int x2), (3, .int x3), (4, .int x4)] [] (ix_w z d)) {d : ix_D2} (h : f_X12_endAsked_218 n z rec163 a0 x1 x2 x3 x4 x5 d = some (r, d1)) : ix_G p l e (ix_rm 2 47 0 0) s m args below meth c (MQ below (ix_Post K (some (.int r)) (ix_w z d1)) args s 0 0 (ix_A K)) K 6 0 0 218 [(0, .ref (K.2.2.1 + a0)), (1, .int x1), (2, .int x2), (3, .int x3), (4, .int x4), (5, .int x5)] [] (ix_w z d) := by
  unfold f_X12_endAsked_218 at h
  refine ix_aload_n (i := 0) (j := 0) X (ix_tb_at tb_X12_endAsked 123 rfl) rfl rfl (pc1 := 219) rfl ?_
  obtain ⟨k_54, h⟩ := ix_ck_some h
  obtain ⟨b_55, q_56, h⟩ := ix_bd1_ex h
  refine iz_getR X fl_RX12_207 k_54 q_56 (ix_tb_at tb_X12_endAsked 124 rfl) (pc1 := 222) rfl ?_
  refine ix_iload_n (i := 3) (j := 3) X (ix_tb_at tb_X12_endAsked 125 rfl) rfl rfl (pc1 := 223) rfl ?_
  refine ix_iload (i := 5) (j := 5) X (ix_tb_at tb_X12_endAsked 126 rfl) rfl (pc1 := 225) rfl ?_
  refine ix_ineg X (ix_tb_at tb_X12_endAsked 127 rfl) (pc1 := 226) rfl ?_
  obtain ⟨k_57, h⟩ := ix_ck_some h
  obtain ⟨d_58, e_59, h⟩ := ix_lt_ex h
  refine iz_iast X k_57 (ix_tb_at tb_X12_endAsked 128 rfl) e_59 (pc1 := 227) rfl ?_
  obtain ⟨x3_60, e_61, h⟩ := ix_lt_ex h
  refine ix_iinc (i := 3) (j := 3) (v := x3_60) (L1 := [(3, .int x3_60), (0, .ref (K.2.2.1 + a0)), (1, .int x1), (2, .int x2), (4, .int x4), (5, .int x5)]) X (ix_tb_at tb_X12_endAsked 129 rfl) rfl (by rw [oi_1]; exact e_61.symm) (Nat.le_of_ble_eq_true rfl) rfl (pc1 := 230) rfl ?_
  refine ix_sub (L1 := [(0, .ref (K.2.2.1 + a0)), (1, .int x1), (2, .int x2), (3, .int x3_60), (4, .int x4)]) [1, 2, 3, 0, 4] rfl ?_
  exact t_X12_endAsked_230 hKp X hr hlk hrec163 h
set_option maxRecDepth 20000 in
theorem tb_X12_endAsked_163 {l : Launch} {p : Program} {e : Env} {s : State} {m : MethodId} {args : Array Value} {below : List Frame} {meth : Method} {c : Code} {K : ix_Cx} (hKp : ix_Kp K) {n : Nat} {z : ix_Z} (X : ix_X p s m args c K cX12_endAsked RX12 6) (hr : meth.sig.returnType = (some .int)) (hlk : meth.locks = false)  {a0 : Nat} {x1 : Int32} {x2 : Int32} {rec163 : Int32 → Int32 → ix_D2 → Option (Int32 × ix_D2)} {r : Int32} {d1 : ix_D2} (hrec163 : ∀ (x3 : Int32) (x4 : Int32) (d : ix_D2), rec163 x3 x4 d = some (r, d1) → ix_G p l e (ix_rm 2 47 0 0) s m args below meth c (MQ below (ix_Post K (some (.int r)) (ix_w z d1)) args s 0 0 (ix_A K)) K 6 0 0 163 [(0, .ref (K.2.2.1 + a0)), (1, .int x1), (2, .int x2), (3, .int x3), (4, .int x4)] [] (ix_w z d)) {x3 : Int32} {x4 : Int32} {d : ix_D2} (h : b_X12_endAsked_163 n z  a0 x1 x2 rec163 x3 x4 d = some (r, d1)) : ix_G p l e (ix_rm 2 47 0 0) s m args below meth c (MQ below (ix_Post K (some (.int r)) (ix_w z d1)) args s 0 0 (ix_A K)) K 6 0 0 163 [(0, .ref (K.2.2.1 + a0)), (1, .int x1), (2, .int x2), (3, .int x3), (4, .int x4)] [] (ix_w z d) := by
  unfold b_X12_endAsked_163 at h
  refine ix_iload (i := 4) (j := 4) X (ix_tb_at tb_X12_endAsked 93 rfl) rfl (pc1 := 165) rfl ?_
  refine ix_aload_n (i := 0) (j := 0) X (ix_tb_at tb_X12_endAsked 94 rfl) rfl rfl (pc1 := 166) rfl ?_
  obtain ⟨k_20, h⟩ := ix_ck_some h
  obtain ⟨b_21, q_22, h⟩ := ix_bd1_ex h
  refine iz_getR X fl_RX12_128 k_20 q_22 (ix_tb_at tb_X12_endAsked 95 rfl) (pc1 := 169) rfl ?_
  refine ix_iload_n (i := 1) (j := 1) X (ix_tb_at tb_X12_endAsked 96 rfl) rfl rfl (pc1 := 170) rfl ?_
  obtain ⟨k_23, h⟩ := ix_ck_some h
  refine iz_iald X k_23 (ix_tb_at tb_X12_endAsked 97 rfl) (pc1 := 171) rfl ?_
  refine ix_icmp_ge (tgt := 236) X (ix_tb_at tb_X12_endAsked 98 rfl) (by decide) (pc1 := 174) rfl (fun q_24 => ?_) (fun q_24 => ?_)
  · have h := ix_ift q_24 h
    refine ix_aload_n (i := 0) (j := 0) X (ix_tb_at tb_X12_endAsked 132 rfl) rfl rfl (pc1 := 237) rfl ?_
    refine ix_iload_n (i := 1) (j := 1) X (ix_tb_at tb_X12_endAsked 133 rfl) rfl rfl (pc1 := 238) rfl ?_
    refine ix_iload_n (i := 3) (j := 3) X (ix_tb_at tb_X12_endAsked 134 rfl) rfl rfl (pc1 := 239) rfl ?_
    obtain ⟨r_27, d_25, h_26, h⟩ := ix_bd2_ex h
    refine ix_callV (As := [.int x1, .int x3]) (rest := []) (ci := 11) (T := TX12) (nf := 116) X mf_X12_hasRoom mi_X12_hasRoom ms_X12_hasRoom rfl (Nat.le_of_ble_eq_true rfl) ml_RX12_517 ⟨Nat.le_of_ble_eq_true rfl, Nat.le_of_ble_eq_true rfl⟩ ⟨Nat.le_of_ble_eq_true rfl, Nat.le_of_ble_eq_true rfl⟩ rfl (Nat.le_of_ble_eq_true rfl) (ix_tb_at tb_X12_endAsked 135 rfl) ⟨k_20.1, List.mem_singleton.mp k_20.2⟩ (c_X12_hasRoom hKp h_26) rfl (pc1 := 242) rfl ?_
    refine ix_if_ne (tgt := 249) X (ix_tb_at tb_X12_endAsked 136 rfl) (by decide) (pc1 := 245) rfl (fun q_28 => ?_) (fun q_28 => ?_)
    · have h := ix_iff q_28 h
      refine ix_aload_n (i := 0) (j := 0) X (ix_tb_at tb_X12_endAsked 139 rfl) rfl rfl (pc1 := 250) rfl ?_
      refine ix_iload_n (i := 1) (j := 1) X (ix_tb_at tb_X12_endAsked 140 rfl) rfl rfl (pc1 := 251) rfl ?_
      refine ix_iload_n (i := 3) (j := 3) X (ix_tb_at tb_X12_endAsked 141 rfl) rfl rfl (pc1 := 252) rfl ?_
      obtain ⟨d_29, h_30, h⟩ := ix_bd1_ex h
      refine ix_callV (As := [.int x1, .int x3]) (rest := []) (ci := 11) (T := TX12) (nf := 116) X mf_X12_record mi_X12_record ms_X12_record rfl (Nat.le_of_ble_eq_true rfl) ml_RX12_520 ⟨Nat.le_of_ble_eq_true rfl, Nat.le_of_ble_eq_true rfl⟩ ⟨Nat.le_of_ble_eq_true rfl, Nat.le_of_ble_eq_true rfl⟩ rfl (Nat.le_of_ble_eq_true rfl) (ix_tb_at tb_X12_endAsked 142 rfl) ⟨k_20.1, List.mem_singleton.mp k_20.2⟩ (c_X12_record hKp h_30) rfl (pc1 := 255) rfl ?_
      refine ix_aload_n (i := 0) (j := 0) X (ix_tb_at tb_X12_endAsked 143 rfl) rfl rfl (pc1 := 256) rfl ?_
      refine ix_iload_n (i := 1) (j := 1) X (ix_tb_at tb_X12_endAsked 144 rfl) rfl rfl (pc1 := 257) rfl ?_
      obtain ⟨d_31, h_32, h⟩ := ix_bd1_ex h
      refine ix_callV (As := [.int x1]) (rest := []) (ci := 11) (T := TX12) (nf := 116) X mf_X12_keepCore mi_X12_keepCore ms_X12_keepCore rfl (Nat.le_of_ble_eq_true rfl) ml_RX12_523 ⟨Nat.le_of_ble_eq_true rfl, Nat.le_of_ble_eq_true rfl⟩ ⟨Nat.le_of_ble_eq_true rfl, Nat.le_of_ble_eq_true rfl⟩ rfl (Nat.le_of_ble_eq_true rfl) (ix_tb_at tb_X12_endAsked 145 rfl) ⟨k_20.1, List.mem_singleton.mp k_20.2⟩ (c_X12_keepCore hKp h_32) rfl (pc1 := 260) rfl ?_
      refine ix_iconst (v := 0) X (ix_tb_at tb_X12_endAsked 146 rfl) (by decide) (pc1 := 261) rfl ?_
      refine ix_istore (i := 4) (L1 := [(4, .int 0), (0, .ref (K.2.2.1 + a0)), (1, .int x1), (2, .int x2), (3, .int x3)]) X (ix_tb_at tb_X12_endAsked 147 rfl) (Nat.le_of_ble_eq_true rfl) rfl (pc1 := 263) rfl ?_
      refine ix_sub (L1 := [(0, .ref (K.2.2.1 + a0)), (1, .int x1), (3, .int x3), (4, .int 0)]) [1, 2, 4, 0] rfl ?_
      exact t_X12_endAsked_263 hKp X hr hlk  h
    · have h := ix_ift q_28 h
      refine ix_sipush (v := (-1003)) X (ix_tb_at tb_X12_endAsked 137 rfl) (by decide) (pc1 := 248) rfl ?_
      exact ix_iret X hr hlk (ix_r2 (f := fun r => some (.int r)) (g := ix_w z) h) (ix_tb_at tb_X12_endAsked 138 rfl)
  · have h := ix_iff q_24 h
    refine ix_aload_n (i := 0) (j := 0) X (ix_tb_at tb_X12_endAsked 99 rfl) rfl rfl (pc1 := 175) rfl ?_
    obtain ⟨b_48, q_49, h⟩ := ix_bd1_ex h
    refine iz_getR X fl_RX12_125 k_20 q_49 (ix_tb_at tb_X12_endAsked 100 rfl) (pc1 := 178) rfl ?_
    refine ix_bipush (v := 20) X (ix_tb_at tb_X12_endAsked 101 rfl) (by decide) (pc1 := 180) rfl ?_
    refine ix_iload_n (i := 1) (j := 1) X (ix_tb_at tb_X12_endAsked 102 rfl) rfl rfl (pc1 := 181) rfl ?_
    refine ix_imul X (ix_tb_at tb_X12_endAsked 103 rfl) (pc1 := 182) rfl ?_
    refine ix_iload (i := 4) (j := 4) X (ix_tb_at tb_X12_endAsked 104 rfl) rfl (pc1 := 184) rfl ?_
    refine ix_iadd X (ix_tb_at tb_X12_endAsked 105 rfl) (pc1 := 185) rfl ?_
    obtain ⟨k_50, h⟩ := ix_ck_some h
    refine iz_iald X k_50 (ix_tb_at tb_X12_endAsked 106 rfl) (pc1 := 186) rfl ?_
    obtain ⟨x5_51, e_52, h⟩ := ix_lt_ex h
    refine ix_nmi e_52 ?_
    refine ix_istore (i := 5) (L1 := [(5, .int x5_51), (0, .ref (K.2.2.1 + a0)), (1, .int x1), (2, .int x2), (3, .int x3), (4, .int x4)]) X (ix_tb_at tb_X12_endAsked 107 rfl) (Nat.le_of_ble_eq_true rfl) rfl (pc1 := 188) rfl ?_
    refine ix_iload (i := 5) (j := 0) X (ix_tb_at tb_X12_endAsked 108 rfl) rfl (pc1 := 190) rfl ?_
    refine ix_iload_n (i := 2) (j := 3) X (ix_tb_at tb_X12_endAsked 109 rfl) rfl rfl (pc1 := 191) rfl ?_
    refine ix_icmp_eq (tgt := 218) X (ix_tb_at tb_X12_endAsked 110 rfl) (by decide) (pc1 := 194) rfl (fun q_53 => ?_) (fun q_53 => ?_)
    · have h := ix_ift q_53 h
      refine ix_sub (L1 := [(0, .ref (K.2.2.1 + a0)), (1, .int x1), (2, .int x2), (3, .int x3), (4, .int x4), (5, .int x5_51)]) [1, 2, 3, 4, 5, 0] rfl ?_
      exact t_X12_endAsked_218 hKp X hr hlk hrec163 h
    · have h := ix_iff q_53 h
      refine ix_aload_n (i := 0) (j := 1) X (ix_tb_at tb_X12_endAsked 111 rfl) rfl rfl (pc1 := 195) rfl ?_
      obtain ⟨b_64, q_65, h⟩ := ix_bd1_ex h
      refine iz_getR X fl_RX12_213 k_20 q_65 (ix_tb_at tb_X12_endAsked 112 rfl) (pc1 := 198) rfl ?_
      refine ix_iload (i := 5) (j := 0) X (ix_tb_at tb_X12_endAsked 113 rfl) rfl (pc1 := 200) rfl ?_
      obtain ⟨r_68, d_66, h_67, h⟩ := ix_bd2_ex h
      refine ix_callS (As := [.int x5_51]) (rest := [.ref (K.2.2.1 + b_64)]) X mf_X12_nameOf st_X12_nameOf ml_RX12_289 ⟨Nat.le_of_ble_eq_true rfl, Nat.le_of_ble_eq_true rfl⟩ ⟨Nat.le_of_ble_eq_true rfl, Nat.le_of_ble_eq_true rfl⟩ rfl (Nat.le_of_ble_eq_true rfl) (ix_tb_at tb_X12_endAsked 114 rfl) (c_X12_nameOf hKp h_67) rfl (pc1 := 203) rfl ?_
      obtain ⟨k_69, h⟩ := ix_ck_some h
      refine iz_zald X k_69 (ix_tb_at tb_X12_endAsked 115 rfl) (pc1 := 204) rfl ?_
      refine ix_if_eq (tgt := 230) X (ix_tb_at tb_X12_endAsked 116 rfl) (by decide) (pc1 := 207) rfl (fun q_70 => ?_) (fun q_70 => ?_)
      · have h := ix_ift q_70 h
        refine ix_sub (L1 := [(0, .ref (K.2.2.1 + a0)), (1, .int x1), (2, .int x2), (3, .int x3), (4, .int x4)]) [1, 2, 3, 4, 5] rfl ?_
        exact t_X12_endAsked_230 hKp X hr hlk hrec163 h
      · have h := ix_iff q_70 h
        refine ix_aload_n (i := 0) (j := 1) X (ix_tb_at tb_X12_endAsked 117 rfl) rfl rfl (pc1 := 208) rfl ?_
        refine ix_iload_n (i := 1) (j := 2) X (ix_tb_at tb_X12_endAsked 118 rfl) rfl rfl (pc1 := 209) rfl ?_
        refine ix_iload (i := 5) (j := 0) X (ix_tb_at tb_X12_endAsked 119 rfl) rfl (pc1 := 211) rfl ?_
        obtain ⟨r_73, d_71, h_72, h⟩ := ix_bd2_ex h
        refine ix_callV (As := [.int x1, .int x5_51]) (rest := []) (ci := 11) (T := TX12) (nf := 116) X mf_X12_stateOf mi_X12_stateOf ms_X12_stateOf rfl (Nat.le_of_ble_eq_true rfl) ml_RX12_445 ⟨Nat.le_of_ble_eq_true rfl, Nat.le_of_ble_eq_true rfl⟩ ⟨Nat.le_of_ble_eq_true rfl, Nat.le_of_ble_eq_true rfl⟩ rfl (Nat.le_of_ble_eq_true rfl) (ix_tb_at tb_X12_endAsked 120 rfl) ⟨k_20.1, List.mem_singleton.mp k_20.2⟩ (c_X12_stateOf hKp h_72) rfl (pc1 := 214) rfl ?_
        refine ix_iconst (v := 1) X (ix_tb_at tb_X12_endAsked 121 rfl) (by decide) (pc1 := 215) rfl ?_
        refine ix_icmp_ne (tgt := 230) X (ix_tb_at tb_X12_endAsked 122 rfl) (by decide) (pc1 := 218) rfl (fun q_74 => ?_) (fun q_74 => ?_)
        · have h := ix_iff q_74 h
          refine ix_sub (L1 := [(0, .ref (K.2.2.1 + a0)), (1, .int x1), (2, .int x2), (3, .int x3), (4, .int x4)]) [1, 2, 3, 4, 5] rfl ?_
          exact t_X12_endAsked_230 hKp X hr hlk hrec163 h
        · have h := ix_ift q_74 h
          refine ix_sub (L1 := [(0, .ref (K.2.2.1 + a0)), (1, .int x1), (2, .int x2), (3, .int x3), (4, .int x4), (5, .int x5_51)]) [1, 2, 3, 4, 5, 0] rfl ?_
          exact t_X12_endAsked_218 hKp X hr hlk hrec163 h
theorem t_X12_endAsked_163 {l : Launch} {p : Program} {e : Env} {s : State} {m : MethodId} {args : Array Value} {below : List Frame} {meth : Method} {c : Code} {K : ix_Cx} (hKp : ix_Kp K) {n : Nat} {z : ix_Z} (X : ix_X p s m args c K cX12_endAsked RX12 6) (hr : meth.sig.returnType = (some .int)) (hlk : meth.locks = false)  {a0 : Nat} {x1 : Int32} {x2 : Int32} {r : Int32} {d1 : ix_D2}  {x3 : Int32} {x4 : Int32} {d : ix_D2} (h : f_X12_endAsked_163 n z  a0 x1 x2 x3 x4 d = some (r, d1)) : ix_G p l e (ix_rm 2 47 0 0) s m args below meth c (MQ below (ix_Post K (some (.int r)) (ix_w z d1)) args s 0 0 (ix_A K)) K 6 0 0 163 [(0, .ref (K.2.2.1 + a0)), (1, .int x1), (2, .int x2), (3, .int x3), (4, .int x4)] [] (ix_w z d) := by
  have key : ∀ (f : Nat) (x3 : Int32) (x4 : Int32) (d : ix_D2), ix_fix (b_X12_endAsked_163 n z  a0 x1 x2) (fun _ _ _ => none) f x3 x4 d = some (r, d1) → ix_G p l e (ix_rm 2 47 0 0) s m args below meth c (MQ below (ix_Post K (some (.int r)) (ix_w z d1)) args s 0 0 (ix_A K)) K 6 0 0 163 [(0, .ref (K.2.2.1 + a0)), (1, .int x1), (2, .int x2), (3, .int x3), (4, .int x4)] [] (ix_w z d) := by
    intro f
    induction f with
    | zero =>
      intro x3 x4 d h
      have h : (none : Option (Int32 × ix_D2)) = some (r, d1) := h
      cases h
    | succ f ih =>
      intro x3 x4 d h
      exact tb_X12_endAsked_163 hKp X hr hlk (rec163 := ix_fix (b_X12_endAsked_163 n z  a0 x1 x2) (fun _ _ _ => none) f)  ih h
  exact key n x3 x4 d h
set_option maxRecDepth 20000 in
theorem t_X12_endAsked_152 {l : Launch} {p : Program} {e : Env} {s : State} {m : MethodId} {args : Array Value} {below : List Frame} {meth : Method} {c : Code} {K : ix_Cx} (hKp : ix_Kp K) {n : Nat} {z : ix_Z} (X : ix_X p s m args c K cX12_endAsked RX12 6) (hr : meth.sig.returnType = (some .int)) (hlk : meth.locks = false) {rec27 : Int32 → ix_D2 → Option (Int32 × ix_D2)} {a0 : Nat} {x1 : Int32} {x2 : Int32} {x3 : Int32} {r : Int32} {d1 : ix_D2} (hrec27 : ∀ (x3 : Int32) (d : ix_D2), rec27 x3 d = some (r, d1) → ix_G p l e (ix_rm 2 47 0 0) s m args below meth c (MQ below (ix_Post K (some (.int r)) (ix_w z d1)) args s 0 0 (ix_A K)) K 6 0 0 27 [(0, .ref (K.2.2.1 + a0)), (1, .int x1), (2, .int x2), (3, .int x3)] [] (ix_w z d)) {d : ix_D2} (h : f_X12_endAsked_152 n z rec27 a0 x1 x2 x3 d = some (r, d1)) : ix_G p l e (ix_rm 2 47 0 0) s m args below meth c (MQ below (ix_Post K (some (.int r)) (ix_w z d1)) args s 0 0 (ix_A K)) K 6 0 0 152 [(0, .ref (K.2.2.1 + a0)), (1, .int x1), (2, .int x2), (3, .int x3)] [] (ix_w z d) := by
  unfold f_X12_endAsked_152 at h
  obtain ⟨x3_98, e_99, h⟩ := ix_lt_ex h
  refine ix_iinc (i := 3) (j := 3) (v := x3_98) (L1 := [(3, .int x3_98), (0, .ref (K.2.2.1 + a0)), (1, .int x1), (2, .int x2)]) X (ix_tb_at tb_X12_endAsked 87 rfl) rfl (by rw [oi_m1]; exact e_99.symm) (Nat.le_of_ble_eq_true rfl) rfl (pc1 := 155) rfl ?_
  refine ix_goto (tgt := 27) X (ix_tb_at tb_X12_endAsked 88 rfl) (by decide) ?_
  refine ix_sub (L1 := [(0, .ref (K.2.2.1 + a0)), (1, .int x1), (2, .int x2), (3, .int x3_98)]) [1, 2, 3, 0] rfl ?_
  exact hrec27 x3_98 d h
set_option maxRecDepth 20000 in
theorem tb_X12_endAsked_27 {l : Launch} {p : Program} {e : Env} {s : State} {m : MethodId} {args : Array Value} {below : List Frame} {meth : Method} {c : Code} {K : ix_Cx} (hKp : ix_Kp K) {n : Nat} {z : ix_Z} (X : ix_X p s m args c K cX12_endAsked RX12 6) (hr : meth.sig.returnType = (some .int)) (hlk : meth.locks = false)  {a0 : Nat} {x1 : Int32} {x2 : Int32} {rec27 : Int32 → ix_D2 → Option (Int32 × ix_D2)} {r : Int32} {d1 : ix_D2} (hrec27 : ∀ (x3 : Int32) (d : ix_D2), rec27 x3 d = some (r, d1) → ix_G p l e (ix_rm 2 47 0 0) s m args below meth c (MQ below (ix_Post K (some (.int r)) (ix_w z d1)) args s 0 0 (ix_A K)) K 6 0 0 27 [(0, .ref (K.2.2.1 + a0)), (1, .int x1), (2, .int x2), (3, .int x3)] [] (ix_w z d)) {x3 : Int32} {d : ix_D2} (h : b_X12_endAsked_27 n z  a0 x1 x2 rec27 x3 d = some (r, d1)) : ix_G p l e (ix_rm 2 47 0 0) s m args below meth c (MQ below (ix_Post K (some (.int r)) (ix_w z d1)) args s 0 0 (ix_A K)) K 6 0 0 27 [(0, .ref (K.2.2.1 + a0)), (1, .int x1), (2, .int x2), (3, .int x3)] [] (ix_w z d) := by
  unfold b_X12_endAsked_27 at h
  refine ix_iload_n (i := 3) (j := 3) X (ix_tb_at tb_X12_endAsked 17 rfl) rfl rfl (pc1 := 28) rfl ?_
  refine ix_if_lt (tgt := 158) X (ix_tb_at tb_X12_endAsked 18 rfl) (by decide) (pc1 := 31) rfl (fun q_19 => ?_) (fun q_19 => ?_)
  · have h := ix_ift q_19 h
    refine ix_iconst (v := 0) X (ix_tb_at tb_X12_endAsked 89 rfl) (by decide) (pc1 := 159) rfl ?_
    refine ix_istore_n (i := 3) (L1 := [(3, .int 0), (0, .ref (K.2.2.1 + a0)), (1, .int x1), (2, .int x2)]) X (ix_tb_at tb_X12_endAsked 90 rfl) rfl (Nat.le_of_ble_eq_true rfl) rfl (pc1 := 160) rfl ?_
    refine ix_iconst (v := 0) X (ix_tb_at tb_X12_endAsked 91 rfl) (by decide) (pc1 := 161) rfl ?_
    refine ix_istore (i := 4) (L1 := [(4, .int 0), (3, .int 0), (0, .ref (K.2.2.1 + a0)), (1, .int x1), (2, .int x2)]) X (ix_tb_at tb_X12_endAsked 92 rfl) (Nat.le_of_ble_eq_true rfl) rfl (pc1 := 163) rfl ?_
    refine ix_sub (L1 := [(0, .ref (K.2.2.1 + a0)), (1, .int x1), (2, .int x2), (3, .int 0), (4, .int 0)]) [2, 3, 4, 1, 0] rfl ?_
    exact t_X12_endAsked_163 hKp X hr hlk  h
  · have h := ix_iff q_19 h
    refine ix_aload_n (i := 0) (j := 0) X (ix_tb_at tb_X12_endAsked 19 rfl) rfl rfl (pc1 := 32) rfl ?_
    obtain ⟨k_75, h⟩ := ix_ck_some h
    obtain ⟨b_76, q_77, h⟩ := ix_bd1_ex h
    refine iz_getR X fl_RX12_153 k_75 q_77 (ix_tb_at tb_X12_endAsked 20 rfl) (pc1 := 35) rfl ?_
    refine ix_sipush (v := 300) X (ix_tb_at tb_X12_endAsked 21 rfl) (by decide) (pc1 := 38) rfl ?_
    refine ix_iload_n (i := 1) (j := 1) X (ix_tb_at tb_X12_endAsked 22 rfl) rfl rfl (pc1 := 39) rfl ?_
    refine ix_imul X (ix_tb_at tb_X12_endAsked 23 rfl) (pc1 := 40) rfl ?_
    refine ix_iload_n (i := 3) (j := 3) X (ix_tb_at tb_X12_endAsked 24 rfl) rfl rfl (pc1 := 41) rfl ?_
    refine ix_iadd X (ix_tb_at tb_X12_endAsked 25 rfl) (pc1 := 42) rfl ?_
    obtain ⟨k_78, h⟩ := ix_ck_some h
    refine iz_iald X k_78 (ix_tb_at tb_X12_endAsked 26 rfl) (pc1 := 43) rfl ?_
    obtain ⟨r_81, d_79, h_80, h⟩ := ix_bd2_ex h
    refine ix_callS (As := [.int (d.1 b_76 (ix_n ((300 * x1) + x3)))]) (rest := []) X mf_X12_nameOf st_X12_nameOf ml_RX12_289 ⟨Nat.le_of_ble_eq_true rfl, Nat.le_of_ble_eq_true rfl⟩ ⟨Nat.le_of_ble_eq_true rfl, Nat.le_of_ble_eq_true rfl⟩ rfl (Nat.le_of_ble_eq_true rfl) (ix_tb_at tb_X12_endAsked 27 rfl) (c_X12_nameOf hKp h_80) rfl (pc1 := 46) rfl ?_
    refine ix_istore (i := 4) (L1 := [(4, .int r_81), (0, .ref (K.2.2.1 + a0)), (1, .int x1), (2, .int x2), (3, .int x3)]) X (ix_tb_at tb_X12_endAsked 28 rfl) (Nat.le_of_ble_eq_true rfl) rfl (pc1 := 48) rfl ?_
    refine ix_aload_n (i := 0) (j := 1) X (ix_tb_at tb_X12_endAsked 29 rfl) rfl rfl (pc1 := 49) rfl ?_
    obtain ⟨b_82, q_83, h⟩ := ix_bd1_ex h
    refine iz_getR X fl_RX12_210 k_75 q_83 (ix_tb_at tb_X12_endAsked 30 rfl) (pc1 := 52) rfl ?_
    refine ix_iload (i := 4) (j := 0) X (ix_tb_at tb_X12_endAsked 31 rfl) rfl (pc1 := 54) rfl ?_
    obtain ⟨k_84, h⟩ := ix_ck_some h
    refine iz_zald X k_84 (ix_tb_at tb_X12_endAsked 32 rfl) (pc1 := 55) rfl ?_
    refine ix_if_ne (tgt := 61) X (ix_tb_at tb_X12_endAsked 33 rfl) (by decide) (pc1 := 58) rfl (fun q_85 => ?_) (fun q_85 => ?_)
    · have h := ix_iff q_85 h
      refine ix_aload_n (i := 0) (j := 1) X (ix_tb_at tb_X12_endAsked 35 rfl) rfl rfl (pc1 := 62) rfl ?_
      obtain ⟨b_86, q_87, h⟩ := ix_bd1_ex h
      refine iz_getR X fl_RX12_137 k_75 q_87 (ix_tb_at tb_X12_endAsked 36 rfl) (pc1 := 65) rfl ?_
      refine ix_sipush (v := 301) X (ix_tb_at tb_X12_endAsked 37 rfl) (by decide) (pc1 := 68) rfl ?_
      refine ix_iload_n (i := 1) (j := 2) X (ix_tb_at tb_X12_endAsked 38 rfl) rfl rfl (pc1 := 69) rfl ?_
      refine ix_imul X (ix_tb_at tb_X12_endAsked 39 rfl) (pc1 := 70) rfl ?_
      refine ix_iload (i := 4) (j := 0) X (ix_tb_at tb_X12_endAsked 40 rfl) rfl (pc1 := 72) rfl ?_
      refine ix_iadd X (ix_tb_at tb_X12_endAsked 41 rfl) (pc1 := 73) rfl ?_
      obtain ⟨k_88, h⟩ := ix_ck_some h
      refine iz_iald X k_88 (ix_tb_at tb_X12_endAsked 42 rfl) (pc1 := 74) rfl ?_
      refine ix_if_ne (tgt := 87) X (ix_tb_at tb_X12_endAsked 43 rfl) (by decide) (pc1 := 77) rfl (fun q_89 => ?_) (fun q_89 => ?_)
      · have h := ix_iff q_89 h
        refine ix_aload_n (i := 0) (j := 1) X (ix_tb_at tb_X12_endAsked 49 rfl) rfl rfl (pc1 := 88) rfl ?_
        obtain ⟨b_90, q_91, h⟩ := ix_bd1_ex h
        refine iz_getR X fl_RX12_140 k_75 q_91 (ix_tb_at tb_X12_endAsked 50 rfl) (pc1 := 91) rfl ?_
        refine ix_sipush (v := 301) X (ix_tb_at tb_X12_endAsked 51 rfl) (by decide) (pc1 := 94) rfl ?_
        refine ix_iload_n (i := 1) (j := 2) X (ix_tb_at tb_X12_endAsked 52 rfl) rfl rfl (pc1 := 95) rfl ?_
        refine ix_imul X (ix_tb_at tb_X12_endAsked 53 rfl) (pc1 := 96) rfl ?_
        refine ix_iload (i := 4) (j := 0) X (ix_tb_at tb_X12_endAsked 54 rfl) rfl (pc1 := 98) rfl ?_
        refine ix_iadd X (ix_tb_at tb_X12_endAsked 55 rfl) (pc1 := 99) rfl ?_
        obtain ⟨k_92, h⟩ := ix_ck_some h
        refine iz_iald X k_92 (ix_tb_at tb_X12_endAsked 56 rfl) (pc1 := 100) rfl ?_
        refine ix_bipush (v := (-7)) X (ix_tb_at tb_X12_endAsked 57 rfl) (by decide) (pc1 := 102) rfl ?_
        refine ix_icmp_ne (tgt := 116) X (ix_tb_at tb_X12_endAsked 58 rfl) (by decide) (pc1 := 105) rfl (fun q_93 => ?_) (fun q_93 => ?_)
        · have h := ix_iff q_93 h
          refine ix_aload_n (i := 0) (j := 1) X (ix_tb_at tb_X12_endAsked 65 rfl) rfl rfl (pc1 := 117) rfl ?_
          refine ix_iload_n (i := 1) (j := 2) X (ix_tb_at tb_X12_endAsked 66 rfl) rfl rfl (pc1 := 118) rfl ?_
          refine ix_aload_n (i := 0) (j := 1) X (ix_tb_at tb_X12_endAsked 67 rfl) rfl rfl (pc1 := 119) rfl ?_
          refine iz_getR X fl_RX12_140 k_75 q_91 (ix_tb_at tb_X12_endAsked 68 rfl) (pc1 := 122) rfl ?_
          refine ix_sipush (v := 301) X (ix_tb_at tb_X12_endAsked 69 rfl) (by decide) (pc1 := 125) rfl ?_
          refine ix_iload_n (i := 1) (j := 2) X (ix_tb_at tb_X12_endAsked 70 rfl) rfl rfl (pc1 := 126) rfl ?_
          refine ix_imul X (ix_tb_at tb_X12_endAsked 71 rfl) (pc1 := 127) rfl ?_
          refine ix_iload (i := 4) (j := 0) X (ix_tb_at tb_X12_endAsked 72 rfl) rfl (pc1 := 129) rfl ?_
          refine ix_iadd X (ix_tb_at tb_X12_endAsked 73 rfl) (pc1 := 130) rfl ?_
          refine iz_iald X k_92 (ix_tb_at tb_X12_endAsked 74 rfl) (pc1 := 131) rfl ?_
          obtain ⟨d_94, h_95, h⟩ := ix_bd1_ex h
          refine ix_callV (As := [.int x1, .int (d_79.1 b_90 (ix_n ((301 * x1) + r_81)))]) (rest := []) (ci := 11) (T := TX12) (nf := 116) X mf_X12_addSources mi_X12_addSources ms_X12_addSources rfl (Nat.le_of_ble_eq_true rfl) ml_RX12_479 ⟨Nat.le_of_ble_eq_true rfl, Nat.le_of_ble_eq_true rfl⟩ ⟨Nat.le_of_ble_eq_true rfl, Nat.le_of_ble_eq_true rfl⟩ rfl (Nat.le_of_ble_eq_true rfl) (ix_tb_at tb_X12_endAsked 75 rfl) ⟨k_75.1, List.mem_singleton.mp k_75.2⟩ (c_X12_addSources hKp h_95) rfl (pc1 := 134) rfl ?_
          refine ix_aload_n (i := 0) (j := 1) X (ix_tb_at tb_X12_endAsked 76 rfl) rfl rfl (pc1 := 135) rfl ?_
          refine ix_iload_n (i := 1) (j := 2) X (ix_tb_at tb_X12_endAsked 77 rfl) rfl rfl (pc1 := 136) rfl ?_
          refine ix_aload_n (i := 0) (j := 1) X (ix_tb_at tb_X12_endAsked 78 rfl) rfl rfl (pc1 := 137) rfl ?_
          refine iz_getR X fl_RX12_140 k_75 q_91 (ix_tb_at tb_X12_endAsked 79 rfl) (pc1 := 140) rfl ?_
          refine ix_sipush (v := 301) X (ix_tb_at tb_X12_endAsked 80 rfl) (by decide) (pc1 := 143) rfl ?_
          refine ix_iload_n (i := 1) (j := 2) X (ix_tb_at tb_X12_endAsked 81 rfl) rfl rfl (pc1 := 144) rfl ?_
          refine ix_imul X (ix_tb_at tb_X12_endAsked 82 rfl) (pc1 := 145) rfl ?_
          refine ix_iload (i := 4) (j := 0) X (ix_tb_at tb_X12_endAsked 83 rfl) rfl (pc1 := 147) rfl ?_
          refine ix_iadd X (ix_tb_at tb_X12_endAsked 84 rfl) (pc1 := 148) rfl ?_
          refine iz_iald X k_92 (ix_tb_at tb_X12_endAsked 85 rfl) (pc1 := 149) rfl ?_
          obtain ⟨d_96, h_97, h⟩ := ix_bd1_ex h
          refine ix_callV (As := [.int x1, .int (d_94.1 b_90 (ix_n ((301 * x1) + r_81)))]) (rest := []) (ci := 11) (T := TX12) (nf := 116) X mf_X12_markRow mi_X12_markRow ms_X12_markRow rfl (Nat.le_of_ble_eq_true rfl) ml_RX12_539 ⟨Nat.le_of_ble_eq_true rfl, Nat.le_of_ble_eq_true rfl⟩ ⟨Nat.le_of_ble_eq_true rfl, Nat.le_of_ble_eq_true rfl⟩ rfl (Nat.le_of_ble_eq_true rfl) (ix_tb_at tb_X12_endAsked 86 rfl) ⟨k_75.1, List.mem_singleton.mp k_75.2⟩ (c_X12_markRow hKp h_97) rfl (pc1 := 152) rfl ?_
          refine ix_sub (L1 := [(0, .ref (K.2.2.1 + a0)), (1, .int x1), (2, .int x2), (3, .int x3)]) [1, 2, 3, 4] rfl ?_
          exact t_X12_endAsked_152 hKp X hr hlk hrec27 h
        · have h := ix_ift q_93 h
          refine ix_aload_n (i := 0) (j := 1) X (ix_tb_at tb_X12_endAsked 59 rfl) rfl rfl (pc1 := 106) rfl ?_
          obtain ⟨b_100, q_101, h⟩ := ix_bd1_ex h
          refine iz_getR X fl_RX12_213 k_75 q_101 (ix_tb_at tb_X12_endAsked 60 rfl) (pc1 := 109) rfl ?_
          refine ix_iload (i := 4) (j := 0) X (ix_tb_at tb_X12_endAsked 61 rfl) rfl (pc1 := 111) rfl ?_
          refine ix_iconst (v := 1) X (ix_tb_at tb_X12_endAsked 62 rfl) (by decide) (pc1 := 112) rfl ?_
          obtain ⟨k_102, h⟩ := ix_ck_some h
          obtain ⟨d_103, e_104, h⟩ := ix_lt_ex h
          refine iz_zast X k_102 (ix_tb_at tb_X12_endAsked 63 rfl) e_104 (pc1 := 113) rfl ?_
          refine ix_goto (tgt := 152) X (ix_tb_at tb_X12_endAsked 64 rfl) (by decide) ?_
          refine ix_sub (L1 := [(0, .ref (K.2.2.1 + a0)), (1, .int x1), (2, .int x2), (3, .int x3)]) [1, 2, 3, 4] rfl ?_
          exact t_X12_endAsked_152 hKp X hr hlk hrec27 h
      · have h := ix_ift q_89 h
        refine ix_aload_n (i := 0) (j := 1) X (ix_tb_at tb_X12_endAsked 44 rfl) rfl rfl (pc1 := 78) rfl ?_
        refine ix_iload_n (i := 1) (j := 2) X (ix_tb_at tb_X12_endAsked 45 rfl) rfl rfl (pc1 := 79) rfl ?_
        refine ix_iload (i := 4) (j := 0) X (ix_tb_at tb_X12_endAsked 46 rfl) rfl (pc1 := 81) rfl ?_
        obtain ⟨d_105, h_106, h⟩ := ix_bd1_ex h
        refine ix_callV (As := [.int x1, .int r_81]) (rest := []) (ci := 11) (T := TX12) (nf := 116) X mf_X12_addNameSources mi_X12_addNameSources ms_X12_addNameSources rfl (Nat.le_of_ble_eq_true rfl) ml_RX12_473 ⟨Nat.le_of_ble_eq_true rfl, Nat.le_of_ble_eq_true rfl⟩ ⟨Nat.le_of_ble_eq_true rfl, Nat.le_of_ble_eq_true rfl⟩ rfl (Nat.le_of_ble_eq_true rfl) (ix_tb_at tb_X12_endAsked 47 rfl) ⟨k_75.1, List.mem_singleton.mp k_75.2⟩ (c_X12_addNameSources hKp h_106) rfl (pc1 := 84) rfl ?_
        refine ix_goto (tgt := 152) X (ix_tb_at tb_X12_endAsked 48 rfl) (by decide) ?_
        refine ix_sub (L1 := [(0, .ref (K.2.2.1 + a0)), (1, .int x1), (2, .int x2), (3, .int x3)]) [1, 2, 3, 4] rfl ?_
        exact t_X12_endAsked_152 hKp X hr hlk hrec27 h
    · have h := ix_ift q_85 h
      refine ix_goto (tgt := 152) X (ix_tb_at tb_X12_endAsked 34 rfl) (by decide) ?_
      refine ix_sub (L1 := [(0, .ref (K.2.2.1 + a0)), (1, .int x1), (2, .int x2), (3, .int x3)]) [1, 2, 3, 4] rfl ?_
      exact t_X12_endAsked_152 hKp X hr hlk hrec27 h
theorem t_X12_endAsked_27 {l : Launch} {p : Program} {e : Env} {s : State} {m : MethodId} {args : Array Value} {below : List Frame} {meth : Method} {c : Code} {K : ix_Cx} (hKp : ix_Kp K) {n : Nat} {z : ix_Z} (X : ix_X p s m args c K cX12_endAsked RX12 6) (hr : meth.sig.returnType = (some .int)) (hlk : meth.locks = false)  {a0 : Nat} {x1 : Int32} {x2 : Int32} {r : Int32} {d1 : ix_D2}  {x3 : Int32} {d : ix_D2} (h : f_X12_endAsked_27 n z  a0 x1 x2 x3 d = some (r, d1)) : ix_G p l e (ix_rm 2 47 0 0) s m args below meth c (MQ below (ix_Post K (some (.int r)) (ix_w z d1)) args s 0 0 (ix_A K)) K 6 0 0 27 [(0, .ref (K.2.2.1 + a0)), (1, .int x1), (2, .int x2), (3, .int x3)] [] (ix_w z d) := by
  have key : ∀ (f : Nat) (x3 : Int32) (d : ix_D2), ix_fix (b_X12_endAsked_27 n z  a0 x1 x2) (fun _ _ => none) f x3 d = some (r, d1) → ix_G p l e (ix_rm 2 47 0 0) s m args below meth c (MQ below (ix_Post K (some (.int r)) (ix_w z d1)) args s 0 0 (ix_A K)) K 6 0 0 27 [(0, .ref (K.2.2.1 + a0)), (1, .int x1), (2, .int x2), (3, .int x3)] [] (ix_w z d) := by
    intro f
    induction f with
    | zero =>
      intro x3 d h
      have h : (none : Option (Int32 × ix_D2)) = some (r, d1) := h
      cases h
    | succ f ih =>
      intro x3 d h
      exact tb_X12_endAsked_27 hKp X hr hlk (rec27 := ix_fix (b_X12_endAsked_27 n z  a0 x1 x2) (fun _ _ => none) f)  ih h
  exact key n x3 d h
set_option maxRecDepth 20000 in
theorem c_X12_endAsked {l : Launch} {K : ix_Cx} (hKp : ix_Kp K) {n : Nat} {z : ix_Z} {a0 : Nat} {x1 : Int32} {x2 : Int32} {d : ix_D2} {r : Int32} {d1 : ix_D2} (h : f_X12_endAsked n z a0 x1 x2 d = some (r, d1)) : ix_M l K yX12_endAsked cX12_endAsked 6 (some .int) 2 47 0 0 [.ref (K.2.2.1 + a0), .int x1, .int x2] (ix_w z d) (some (.int r)) (ix_w z d1) := by
  refine ix_met mf_X12_endAsked hKp (Nat.le_of_ble_eq_true rfl) ?_
  intro p e s m args below meth c hr hlk hnm X
  have X : ix_X p s m args c K cX12_endAsked RX12 6 := X
  show ix_G p l e (ix_rm 2 47 0 0) s m args below meth c (MQ below (ix_Post K (some (.int r)) (ix_w z d1)) args s 0 0 (ix_A K)) K 6 0 0 0 [(0, .ref (K.2.2.1 + a0)), (1, .int x1), (2, .int x2)] [] (ix_w z d)
  unfold f_X12_endAsked at h
  refine ix_aload_n (i := 0) (j := 0) X (ix_tb_at tb_X12_endAsked 0 rfl) rfl rfl (pc1 := 1) rfl ?_
  obtain ⟨k_3, h⟩ := ix_ck_some h
  obtain ⟨d_1, h_2, h⟩ := ix_bd1_ex h
  refine ix_callV (As := []) (rest := []) (ci := 11) (T := TX12) (nf := 116) X mf_X12_clearMarks mi_X12_clearMarks ms_X12_clearMarks rfl (Nat.le_of_ble_eq_true rfl) ml_RX12_536 ⟨Nat.le_of_ble_eq_true rfl, Nat.le_of_ble_eq_true rfl⟩ ⟨Nat.le_of_ble_eq_true rfl, Nat.le_of_ble_eq_true rfl⟩ rfl (Nat.le_of_ble_eq_true rfl) (ix_tb_at tb_X12_endAsked 1 rfl) ⟨k_3.1, List.mem_singleton.mp k_3.2⟩ (c_X12_clearMarks hKp h_2) rfl (pc1 := 4) rfl ?_
  refine ix_aload_n (i := 0) (j := 0) X (ix_tb_at tb_X12_endAsked 2 rfl) rfl rfl (pc1 := 5) rfl ?_
  obtain ⟨d_4, h_5, h⟩ := ix_bd1_ex h
  refine ix_callV (As := []) (rest := []) (ci := 11) (T := TX12) (nf := 116) X mf_X12_clearSources mi_X12_clearSources ms_X12_clearSources rfl (Nat.le_of_ble_eq_true rfl) ml_RX12_476 ⟨Nat.le_of_ble_eq_true rfl, Nat.le_of_ble_eq_true rfl⟩ ⟨Nat.le_of_ble_eq_true rfl, Nat.le_of_ble_eq_true rfl⟩ rfl (Nat.le_of_ble_eq_true rfl) (ix_tb_at tb_X12_endAsked 3 rfl) ⟨k_3.1, List.mem_singleton.mp k_3.2⟩ (c_X12_clearSources hKp h_5) rfl (pc1 := 8) rfl ?_
  refine ix_aload_n (i := 0) (j := 0) X (ix_tb_at tb_X12_endAsked 4 rfl) rfl rfl (pc1 := 9) rfl ?_
  obtain ⟨b_6, q_7, h⟩ := ix_bd1_ex h
  refine iz_getR X fl_RX12_210 k_3 q_7 (ix_tb_at tb_X12_endAsked 5 rfl) (pc1 := 12) rfl ?_
  refine ix_iload_n (i := 2) (j := 2) X (ix_tb_at tb_X12_endAsked 6 rfl) rfl rfl (pc1 := 13) rfl ?_
  obtain ⟨r_10, d_8, h_9, h⟩ := ix_bd2_ex h
  refine ix_callS (As := [.int x2]) (rest := [.ref (K.2.2.1 + b_6)]) X mf_X12_nameOf st_X12_nameOf ml_RX12_289 ⟨Nat.le_of_ble_eq_true rfl, Nat.le_of_ble_eq_true rfl⟩ ⟨Nat.le_of_ble_eq_true rfl, Nat.le_of_ble_eq_true rfl⟩ rfl (Nat.le_of_ble_eq_true rfl) (ix_tb_at tb_X12_endAsked 7 rfl) (c_X12_nameOf hKp h_9) rfl (pc1 := 16) rfl ?_
  refine ix_iconst (v := 1) X (ix_tb_at tb_X12_endAsked 8 rfl) (by decide) (pc1 := 17) rfl ?_
  obtain ⟨k_11, h⟩ := ix_ck_some h
  obtain ⟨d_12, e_13, h⟩ := ix_lt_ex h
  refine iz_zast X k_11 (ix_tb_at tb_X12_endAsked 9 rfl) e_13 (pc1 := 18) rfl ?_
  refine ix_aload_n (i := 0) (j := 0) X (ix_tb_at tb_X12_endAsked 10 rfl) rfl rfl (pc1 := 19) rfl ?_
  obtain ⟨b_14, q_15, h⟩ := ix_bd1_ex h
  refine iz_getR X fl_RX12_156 k_3 q_15 (ix_tb_at tb_X12_endAsked 11 rfl) (pc1 := 22) rfl ?_
  refine ix_iload_n (i := 1) (j := 1) X (ix_tb_at tb_X12_endAsked 12 rfl) rfl rfl (pc1 := 23) rfl ?_
  obtain ⟨k_16, h⟩ := ix_ck_some h
  refine iz_iald X k_16 (ix_tb_at tb_X12_endAsked 13 rfl) (pc1 := 24) rfl ?_
  refine ix_iconst (v := 1) X (ix_tb_at tb_X12_endAsked 14 rfl) (by decide) (pc1 := 25) rfl ?_
  refine ix_isub X (ix_tb_at tb_X12_endAsked 15 rfl) (pc1 := 26) rfl ?_
  obtain ⟨x3_17, e_18, h⟩ := ix_lt_ex h
  refine ix_nmi e_18 ?_
  refine ix_istore_n (i := 3) (L1 := [(3, .int x3_17), (0, .ref (K.2.2.1 + a0)), (1, .int x1), (2, .int x2)]) X (ix_tb_at tb_X12_endAsked 16 rfl) rfl (Nat.le_of_ble_eq_true rfl) rfl (pc1 := 27) rfl ?_
  refine ix_sub (L1 := [(0, .ref (K.2.2.1 + a0)), (1, .int x1), (2, .int x2), (3, .int x3_17)]) [1, 2, 3, 0] rfl ?_
  exact t_X12_endAsked_27 hKp X hr hlk  h

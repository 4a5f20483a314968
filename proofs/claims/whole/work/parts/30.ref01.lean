theorem ms_X12_takeItems : Cond.selects yX12_takeItems.cls yX12_takeItems yX12_takeItems ∈ lw_tbl := List.mem_append_left _ (List.mem_of_getElem? (i := 59) (by decide +kernel))
theorem ml_RX12_310 : tables_1[1965]? = some (Cond.methodLink RX12 310 yX12_takeItems) := by decide +kernel
theorem ms_X12_beginLaying : Cond.selects yX12_beginLaying.cls yX12_beginLaying yX12_beginLaying ∈ lw_tbl := List.mem_append_left _ (List.mem_of_getElem? (i := 61) (by decide +kernel))
theorem ml_RX12_313 : tables_1[1976]? = some (Cond.methodLink RX12 313 yX12_beginLaying) := by decide +kernel
theorem ms_X12_keepRule : Cond.selects yX12_keepRule.cls yX12_keepRule yX12_keepRule ∈ lw_tbl := List.mem_append_left _ (List.mem_of_getElem? (i := 64) (by decide +kernel))
theorem ml_RX12_316 : tables_1[1988]? = some (Cond.methodLink RX12 316 yX12_keepRule) := by decide +kernel
theorem mf_X12_clause : ix_mf yX12_clause cX12_clause 4 (some .int) 1 := ⟨ix_wm (i := 1964) (by decide +kernel), ix_wm (i := 8) (by decide +kernel), ⟨by decide +kernel, by decide +kernel⟩, by decide +kernel, by decide +kernel⟩
theorem mi_X12_clause : Cond.instanceMethod yX12_clause ∈ lw_tbl := ix_wm (i := 1962) (by decide +kernel)
theorem ms_X12_layAtMost : Cond.selects yX12_layAtMost.cls yX12_layAtMost yX12_layAtMost ∈ lw_tbl := List.mem_append_left _ (List.mem_of_getElem? (i := 66) (by decide +kernel))
theorem ml_RX12_320 : tables_1[2000]? = some (Cond.methodLink RX12 320 yX12_layAtMost) := by decide +kernel
theorem mf_X12_summed : ix_mf yX12_summed cX12_summed 5 (some .int) 3 := ⟨ix_wm (i := 1999) (by decide +kernel), ix_wm (i := 8) (by decide +kernel), ⟨by decide +kernel, by decide +kernel⟩, by decide +kernel, by decide +kernel⟩
theorem mi_X12_summed : Cond.instanceMethod yX12_summed ∈ lw_tbl := ix_wm (i := 1998) (by decide +kernel)
theorem ms_X12_summed : Cond.selects yX12_summed.cls yX12_summed yX12_summed ∈ lw_tbl := List.mem_append_left _ (List.mem_of_getElem? (i := 65) (by decide +kernel))
theorem ml_RX12_324 : tables_1[1996]? = some (Cond.methodLink RX12 324 yX12_summed) := by decide +kernel
theorem mf_X12_atMost : ix_mf yX12_atMost cX12_atMost 3 (some .int) 2 := ⟨ix_wm (i := 1995) (by decide +kernel), ix_wm (i := 8) (by decide +kernel), ⟨by decide +kernel, by decide +kernel⟩, by decide +kernel, by decide +kernel⟩
theorem mi_X12_atMost : Cond.instanceMethod yX12_atMost ∈ lw_tbl := ix_wm (i := 1993) (by decide +kernel)
theorem mf_X12_group : ix_mf yX12_group cX12_group 3 (some .int) 2 := ⟨ix_wm (i := 2019) (by decide +kernel), ix_wm (i := 8) (by decide +kernel), ⟨by decide +kernel, by decide +kernel⟩, by decide +kernel, by decide +kernel⟩
theorem mi_X12_group : Cond.instanceMethod yX12_group ∈ lw_tbl := ix_wm (i := 2017) (by decide +kernel)
theorem ms_X12_layParity : Cond.selects yX12_layParity.cls yX12_layParity yX12_layParity ∈ lw_tbl := List.mem_append_left _ (List.mem_of_getElem? (i := 70) (by decide +kernel))
theorem ml_RX12_327 : tables_1[2024]? = some (Cond.methodLink RX12 327 yX12_layParity) := by decide +kernel
theorem mf_X12_parity : ix_mf yX12_parity cX12_parity 4 (some .int) 2 := ⟨ix_wm (i := 2023) (by decide +kernel), ix_wm (i := 8) (by decide +kernel), ⟨by decide +kernel, by decide +kernel⟩, by decide +kernel, by decide +kernel⟩
theorem mi_X12_parity : Cond.instanceMethod yX12_parity ∈ lw_tbl := ix_wm (i := 2021) (by decide +kernel)
theorem mf_X12_byteAt : ix_mf yX12_byteAt cX12_byteAt 2 (some .int) 1 := ⟨ix_wm (i := 2043) (by decide +kernel), ix_wm (i := 8) (by decide +kernel), ⟨by decide +kernel, by decide +kernel⟩, by decide +kernel, by decide +kernel⟩
theorem mi_X12_byteAt : Cond.instanceMethod yX12_byteAt ∈ lw_tbl := ix_wm (i := 2042) (by decide +kernel)
theorem mf_X12_isDigit : ix_mf yX12_isDigit cX12_isDigit 1 (some .boolean) 1 := ⟨ix_wm (i := 2046) (by decide +kernel), ix_wm (i := 8) (by decide +kernel), ⟨by decide +kernel, by decide +kernel⟩, by decide +kernel, by decide +kernel⟩
theorem st_X12_isDigit : Cond.static yX12_isDigit ∈ lw_tbl := ix_wm (i := 2045) (by decide +kernel)
theorem fl_RX12_331 : ix_flb 1615 0 false RX12 331 "ClauseCourtModel" [11] 51 0 = true := by decide +kernel
theorem ms_X12_byteAt : Cond.selects yX12_byteAt.cls yX12_byteAt yX12_byteAt ∈ lw_tbl := List.mem_append_left _ (List.mem_of_getElem? (i := 73) (by decide +kernel))
theorem ml_RX12_334 : tables_1[2040]? = some (Cond.methodLink RX12 334 yX12_byteAt) := by decide +kernel
theorem fl_RX12_337 : ix_flb 1613 0 false RX12 337 "ClauseCourtModel" [11] 49 0 = true := by decide +kernel
theorem fp_RX12_331 : ix_fpb 1615 0 false RX12 331 "ClauseCourtModel" [11] 51 "I" false = true := by decide +kernel
theorem fl_RX12_349 : ix_flb 1614 0 false RX12 349 "ClauseCourtModel" [11] 50 0 = true := by decide +kernel
theorem fp_RX12_349 : ix_fpb 1614 0 false RX12 349 "ClauseCourtModel" [11] 50 "I" false = true := by decide +kernel
theorem fl_RX12_98 : ix_flb 1611 0 false RX12 98 "ClauseCourtModel" [11] 47 2 = true := by decide +kernel
theorem fl_RX12_101 : ix_flb 1612 0 false RX12 101 "ClauseCourtModel" [11] 48 2 = true := by decide +kernel
theorem fp_RX12_337 : ix_fpb 1613 0 false RX12 337 "ClauseCourtModel" [11] 49 "I" false = true := by decide +kernel
theorem ml_RX12_340 : tables_1[2044]? = some (Cond.methodLink RX12 340 yX12_isDigit) := by decide +kernel
theorem fl_RX12_95 : ix_flb 1609 0 false RX12 95 "ClauseCourtModel" [11] 45 2 = true := by decide +kernel
theorem fl_RX12_343 : ix_flb 1610 0 false RX12 343 "ClauseCourtModel" [11] 46 0 = true := by decide +kernel
theorem fp_RX12_343 : ix_fpb 1610 0 false RX12 343 "ClauseCourtModel" [11] 46 "I" false = true := by decide +kernel
theorem fp_RX12_346 : ix_fpb 1616 0 false RX12 346 "ClauseCourtModel" [11] 52 "Z" false = true := by decide +kernel
theorem mf_X12_beginPart : ix_mf yX12_beginPart cX12_beginPart 4 (some .boolean) 0 := ⟨ix_wm (i := 2039) (by decide +kernel), ix_wm (i := 8) (by decide +kernel), ⟨by decide +kernel, by decide +kernel⟩, by decide +kernel, by decide +kernel⟩
theorem mi_X12_beginPart : Cond.instanceMethod yX12_beginPart ∈ lw_tbl := ix_wm (i := 2038) (by decide +kernel)
theorem mf_X12_endPart : ix_mf yX12_endPart cX12_endPart 4 (some .boolean) 0 := ⟨ix_wm (i := 2050) (by decide +kernel), ix_wm (i := 8) (by decide +kernel), ⟨by decide +kernel, by decide +kernel⟩, by decide +kernel, by decide +kernel⟩
theorem mi_X12_endPart : Cond.instanceMethod yX12_endPart ∈ lw_tbl := ix_wm (i := 2049) (by decide +kernel)
theorem fl_RX12_346 : ix_flb 1616 0 false RX12 346 "ClauseCourtModel" [11] 52 0 = true := by decide +kernel
theorem ms_X12_endPart : Cond.selects yX12_endPart.cls yX12_endPart yX12_endPart ∈ lw_tbl := List.mem_append_left _ (List.mem_of_getElem? (i := 74) (by decide +kernel))
theorem ml_RX12_356 : tables_1[2047]? = some (Cond.methodLink RX12 356 yX12_endPart) := by decide +kernel
theorem ms_X12_beginPart : Cond.selects yX12_beginPart.cls yX12_beginPart yX12_beginPart ∈ lw_tbl := List.mem_append_left _ (List.mem_of_getElem? (i := 72) (by decide +kernel))
theorem ml_RX12_352 : tables_1[2036]? = some (Cond.methodLink RX12 352 yX12_beginPart) := by decide +kernel
theorem mf_X12_faultOfTape : ix_mf yX12_faultOfTape cX12_faultOfTape 2 (some .int) 0 := ⟨ix_wm (i := 2035) (by decide +kernel), ix_wm (i := 8) (by decide +kernel), ⟨by decide +kernel, by decide +kernel⟩, by decide +kernel, by decide +kernel⟩
theorem mi_X12_faultOfTape : Cond.instanceMethod yX12_faultOfTape ∈ lw_tbl := ix_wm (i := 2034) (by decide +kernel)
theorem fl_RX12_104 : ix_flb 1617 0 false RX12 104 "ClauseCourtModel" [11] 53 2 = true := by decide +kernel
theorem mf_X12_layJust : ix_mf yX12_layJust cX12_layJust 6 (none : Option Jvm.ClassFile.FieldType) 3 := ⟨ix_wm (i := 2058) (by decide +kernel), ix_wm (i := 8) (by decide +kernel), ⟨by decide +kernel, by decide +kernel⟩, by decide +kernel, by decide +kernel⟩
theorem mi_X12_layJust : Cond.instanceMethod yX12_layJust ∈ lw_tbl := ix_wm (i := 2057) (by decide +kernel)
theorem fl_RX12_359 : ix_flb 1618 0 false RX12 359 "ClauseCourtModel" [11] 54 0 = true := by decide +kernel
theorem ms_X12_layJust : Cond.selects yX12_layJust.cls yX12_layJust yX12_layJust ∈ lw_tbl := List.mem_append_left _ (List.mem_of_getElem? (i := 76) (by decide +kernel))
theorem ml_RX12_362 : tables_1[2055]? = some (Cond.methodLink RX12 362 yX12_layJust) := by decide +kernel
theorem fp_RX12_359 : ix_fpb 1618 0 false RX12 359 "ClauseCourtModel" [11] 54 "I" false = true := by decide +kernel
theorem mf_X12_layPart : ix_mf yX12_layPart cX12_layPart 8 (none : Option Jvm.ClassFile.FieldType) 1 := ⟨ix_wm (i := 2054) (by decide +kernel), ix_wm (i := 8) (by decide +kernel), ⟨by decide +kernel, by decide +kernel⟩, by decide +kernel, by decide +kernel⟩
theorem mi_X12_layPart : Cond.instanceMethod yX12_layPart ∈ lw_tbl := ix_wm (i := 2053) (by decide +kernel)
theorem ms_X12_faultOfTape : Cond.selects yX12_faultOfTape.cls yX12_faultOfTape yX12_faultOfTape ∈ lw_tbl := List.mem_append_left _ (List.mem_of_getElem? (i := 71) (by decide +kernel))
theorem ml_RX12_365 : tables_1[2032]? = some (Cond.methodLink RX12 365 yX12_faultOfTape) := by decide +kernel
theorem fl_RX12_53 : ix_flb 1584 0 false RX12 53 "ClauseCourtModel" [11] 20 2 = true := by decide +kernel
theorem fl_RX12_59 : ix_flb 1586 0 false RX12 59 "ClauseCourtModel" [11] 22 2 = true := by decide +kernel
theorem fl_RX12_56 : ix_flb 1585 0 false RX12 56 "ClauseCourtModel" [11] 21 2 = true := by decide +kernel
theorem fl_RX12_50 : ix_flb 1583 0 false RX12 50 "ClauseCourtModel" [11] 19 2 = true := by decide +kernel
theorem ms_X12_layPart : Cond.selects yX12_layPart.cls yX12_layPart yX12_layPart ∈ lw_tbl := List.mem_append_left _ (List.mem_of_getElem? (i := 75) (by decide +kernel))
theorem ml_RX12_368 : tables_1[2051]? = some (Cond.methodLink RX12 368 yX12_layPart) := by decide +kernel
theorem mf_X12_told : ix_mf yX12_told cX12_told 6 (some .int) 0 := ⟨ix_wm (i := 2031) (by decide +kernel), ix_wm (i := 8) (by decide +kernel), ⟨by decide +kernel, by decide +kernel⟩, by decide +kernel, by decide +kernel⟩
theorem mi_X12_told : Cond.instanceMethod yX12_told ∈ lw_tbl := ix_wm (i := 2029) (by decide +kernel)
theorem mf_X12_isRule : ix_mf yX12_isRule cX12_isRule 2 (some .boolean) 1 := ⟨ix_wm (i := 2066) (by decide +kernel), ix_wm (i := 8) (by decide +kernel), ⟨by decide +kernel, by decide +kernel⟩, by decide +kernel, by decide +kernel⟩
theorem mi_X12_isRule : Cond.instanceMethod yX12_isRule ∈ lw_tbl := ix_wm (i := 2065) (by decide +kernel)
theorem ms_X12_isRule : Cond.selects yX12_isRule.cls yX12_isRule yX12_isRule ∈ lw_tbl := List.mem_append_left _ (List.mem_of_getElem? (i := 77) (by decide +kernel))
theorem ml_RX12_371 : tables_1[2063]? = some (Cond.methodLink RX12 371 yX12_isRule) := by decide +kernel
theorem mf_X12_kind : ix_mf yX12_kind cX12_kind 2 (some .int) 1 := ⟨ix_wm (i := 2062) (by decide +kernel), ix_wm (i := 8) (by decide +kernel), ⟨by decide +kernel, by decide +kernel⟩, by decide +kernel, by decide +kernel⟩
theorem mi_X12_kind : Cond.instanceMethod yX12_kind ∈ lw_tbl := ix_wm (i := 2060) (by decide +kernel)
theorem mf_X12_as : ix_mf yX12_as cX12_as 5 (some .int) 2 := ⟨ix_wm (i := 2070) (by decide +kernel), ix_wm (i := 8) (by decide +kernel), ⟨by decide +kernel, by decide +kernel⟩, by decide +kernel, by decide +kernel⟩
theorem mi_X12_as : Cond.instanceMethod yX12_as ∈ lw_tbl := ix_wm (i := 2068) (by decide +kernel)
def tab_X12_clause : List (Nat × Instr × Nat) := [(0, .iload_n 1, 1), (1, .invokestatic 253, 3), (4, .ifCond .ne 11, 3), (7, .aload_n 0, 1), (8, .sipush (-1001), 3), (11, .invokevirtual 242, 3), (14, .ireturn, 1), (15, .aload_n 0, 1), (16, .iload_n 1, 1), (17, .invokevirtual 310, 3), (20, .istore_n 2, 1), (21, .iload_n 2, 1), (22, .ifCond .ge 9, 3), (25, .aload_n 0, 1), (26, .iload_n 2, 1), (27, .invokevirtual 242, 3), (30, .ireturn, 1), (31, .aload_n 0, 1), (32, .invokevirtual 313, 3), (35, .iconst 0, 1), (36, .istore_n 3, 1), (37, .iload_n 3, 1), (38, .aload_n 0, 1), (39, .getfield 292, 3), (42, .if_icmp .ge 19, 3), (45, .aload_n 0, 1), (46, .aload_n 0, 1), (47, .getfield 86, 3), (50, .iload_n 3, 1), (51, .iaload, 1), (52, .invokevirtual 282, 3), (55, .iinc 3 1, 3), (58, .goto (-21), 3), (61, .aload_n 0, 1), (62, .invokevirtual 286, 3), (65, .aload_n 0, 1), (66, .iconst 0, 1), (67, .iconst 0, 1), (68, .iconst 0, 1), (69, .invokevirtual 316, 3), (72, .ireturn, 1)]
theorem tb_X12_clause : ix_tab cX12_clause tab_X12_clause := by
  unfold ix_tab
  decide +kernel
noncomputable def b_X12_clause_37 (n : Nat) (z : ix_Z)  (a0 : Nat) (rec37 : Int32 → ix_D2 → Option (Int32 × ix_D2)) (x3 : Int32) (d : ix_D2) : Option (Int32 × ix_D2) :=
  ix_ck (ix_ok z [11] a0) (ix_if (d.1 a0 42 ≤ x3) (ix_bd1 (f_X12_endRow n z a0 d) (fun d_14 => ix_bd2 (f_X12_keepRule n z a0 0 0 0 d_14) (fun r_18 d_16 => some (r_18, d_16)))) (ix_bd1 (z.1 a0 41) (fun b_19 => ix_ck (ix_ix z 20 b_19 x3) (ix_bd1 (f_X12_lay n z a0 (d.1 b_19 (ix_n x3)) d) (fun d_22 => ix_lt (x3 + 1) (fun x3_24 => rec37 x3_24 d_22))))))
noncomputable def f_X12_clause_37 (n : Nat) (z : ix_Z)  (a0 : Nat) (x3 : Int32) (d : ix_D2) : Option (Int32 × ix_D2) := ix_fix (b_X12_clause_37 n z  a0) (fun _ _ => none) n x3 d
noncomputable def f_X12_clause (n : Nat) (z : ix_Z) (a0 : Nat) (x1 : Int32) (d : ix_D2) : Option (Int32 × ix_D2) :=
  ix_bd2 (f_X12_isRow n z x1 d) (fun r_3 d_1 => ix_if (r_3 = 0) (ix_ck (ix_ok z [11] a0) (ix_bd2 (f_X12_fail n z a0 ((-1001)) d_1) (fun r_32 d_29 => some (r_32, d_29)))) (ix_ck (ix_ok z [11] a0) (ix_bd2 (f_X12_takeItems n z a0 x1 d_1) (fun r_8 d_5 => ix_if (0 ≤ r_8) (ix_bd1 (f_X12_beginLaying n z a0 d_5) (fun d_10 => f_X12_clause_37 n z  a0 0 d_10)) (ix_bd2 (f_X12_fail n z a0 r_8 d_5) (fun r_28 d_26 => some (r_28, d_26)))))))
set_option maxRecDepth 20000 in
theorem tb_X12_clause_37 {l : Launch} {p : Program} {e : Env} {s : State} {m : MethodId} {args : Array Value} {below : List Frame} {meth : Method} {c : Code} {K : ix_Cx} (hKp : ix_Kp K) {n : Nat} {z : ix_Z} (X : ix_X p s m args c K cX12_clause RX12 4) (hr : meth.sig.returnType = (some .int)) (hlk : meth.locks = false)  {a0 : Nat} {rec37 : Int32 → ix_D2 → Option (Int32 × ix_D2)} {r : Int32} {d1 : ix_D2} (hrec37 : ∀ (x3 : Int32) (d : ix_D2), rec37 x3 d = some (r, d1) → ix_G p l e (ix_rm 3 64 0 0) s m args below meth c (MQ below (ix_Post K (some (.int r)) (ix_w z d1)) args s 0 0 (ix_A K)) K 4 0 0 37 [(0, .ref (K.2.2.1 + a0)), (3, .int x3)] [] (ix_w z d)) {x3 : Int32} {d : ix_D2} (h : b_X12_clause_37 n z  a0 rec37 x3 d = some (r, d1)) : ix_G p l e (ix_rm 3 64 0 0) s m args below meth c (MQ below (ix_Post K (some (.int r)) (ix_w z d1)) args s 0 0 (ix_A K)) K 4 0 0 37 [(0, .ref (K.2.2.1 + a0)), (3, .int x3)] [] (ix_w z d) := by
  unfold b_X12_clause_37 at h
  refine ix_iload_n (i := 3) (j := 1) X (ix_tb_at tb_X12_clause 21 rfl) rfl rfl (pc1 := 38) rfl ?_
  refine ix_aload_n (i := 0) (j := 0) X (ix_tb_at tb_X12_clause 22 rfl) rfl rfl (pc1 := 39) rfl ?_
  obtain ⟨k_12, h⟩ := ix_ck_some h
  refine iz_getI X fl_RX12_292 k_12 (ix_tb_at tb_X12_clause 23 rfl) (pc1 := 42) rfl ?_
  refine ix_icmp_ge (tgt := 61) X (ix_tb_at tb_X12_clause 24 rfl) (by decide) (pc1 := 45) rfl (fun q_13 => ?_) (fun q_13 => ?_)
  · have h := ix_ift q_13 h
    refine ix_aload_n (i := 0) (j := 0) X (ix_tb_at tb_X12_clause 33 rfl) rfl rfl (pc1 := 62) rfl ?_
    obtain ⟨d_14, h_15, h⟩ := ix_bd1_ex h
    refine ix_callV (As := []) (rest := []) (ci := 11) (T := TX12) (nf := 116) X mf_X12_endRow mi_X12_endRow ms_X12_endRow rfl (Nat.le_of_ble_eq_true rfl) ml_RX12_286 ⟨Nat.le_of_ble_eq_true rfl, Nat.le_of_ble_eq_true rfl⟩ ⟨Nat.le_of_ble_eq_true rfl, Nat.le_of_ble_eq_true rfl⟩ rfl (Nat.le_of_ble_eq_true rfl) (ix_tb_at tb_X12_clause 34 rfl) ⟨k_12.1, List.mem_singleton.mp k_12.2⟩ (c_X12_endRow hKp h_15) rfl (pc1 := 65) rfl ?_
    refine ix_aload_n (i := 0) (j := 0) X (ix_tb_at tb_X12_clause 35 rfl) rfl rfl (pc1 := 66) rfl ?_
    refine ix_iconst (v := 0) X (ix_tb_at tb_X12_clause 36 rfl) (by decide) (pc1 := 67) rfl ?_
    refine ix_iconst (v := 0) X (ix_tb_at tb_X12_clause 37 rfl) (by decide) (pc1 := 68) rfl ?_
    refine ix_iconst (v := 0) X (ix_tb_at tb_X12_clause 38 rfl) (by decide) (pc1 := 69) rfl ?_
    obtain ⟨r_18, d_16, h_17, h⟩ := ix_bd2_ex h
    refine ix_callV (As := [.int 0, .int 0, .int 0]) (rest := []) (ci := 11) (T := TX12) (nf := 116) X mf_X12_keepRule mi_X12_keepRule ms_X12_keepRule rfl (Nat.le_of_ble_eq_true rfl) ml_RX12_316 ⟨Nat.le_of_ble_eq_true rfl, Nat.le_of_ble_eq_true rfl⟩ ⟨Nat.le_of_ble_eq_true rfl, Nat.le_of_ble_eq_true rfl⟩ rfl (Nat.le_of_ble_eq_true rfl) (ix_tb_at tb_X12_clause 39 rfl) ⟨k_12.1, List.mem_singleton.mp k_12.2⟩ (c_X12_keepRule hKp h_17) rfl (pc1 := 72) rfl ?_
    exact ix_iret X hr hlk (ix_r2 (f := fun r => some (.int r)) (g := ix_w z) h) (ix_tb_at tb_X12_clause 40 rfl)
  · have h := ix_iff q_13 h
    refine ix_aload_n (i := 0) (j := 0) X (ix_tb_at tb_X12_clause 25 rfl) rfl rfl (pc1 := 46) rfl ?_
    refine ix_aload_n (i := 0) (j := 0) X (ix_tb_at tb_X12_clause 26 rfl) rfl rfl (pc1 := 47) rfl ?_
    obtain ⟨b_19, q_20, h⟩ := ix_bd1_ex h
    refine iz_getR X fl_RX12_86 k_12 q_20 (ix_tb_at tb_X12_clause 27 rfl) (pc1 := 50) rfl ?_
    refine ix_iload_n (i := 3) (j := 1) X (ix_tb_at tb_X12_clause 28 rfl) rfl rfl (pc1 := 51) rfl ?_
    obtain ⟨k_21, h⟩ := ix_ck_some h
    refine iz_iald X k_21 (ix_tb_at tb_X12_clause 29 rfl) (pc1 := 52) rfl ?_
    obtain ⟨d_22, h_23, h⟩ := ix_bd1_ex h
    refine ix_callV (As := [.int (d.1 b_19 (ix_n x3))]) (rest := []) (ci := 11) (T := TX12) (nf := 116) X mf_X12_lay mi_X12_lay ms_X12_lay rfl (Nat.le_of_ble_eq_true rfl) ml_RX12_282 ⟨Nat.le_of_ble_eq_true rfl, Nat.le_of_ble_eq_true rfl⟩ ⟨Nat.le_of_ble_eq_true rfl, Nat.le_of_ble_eq_true rfl⟩ rfl (Nat.le_of_ble_eq_true rfl) (ix_tb_at tb_X12_clause 30 rfl) ⟨k_12.1, List.mem_singleton.mp k_12.2⟩ (c_X12_lay hKp h_23) rfl (pc1 := 55) rfl ?_
    obtain ⟨x3_24, e_25, h⟩ := ix_lt_ex h
    refine ix_iinc (i := 3) (j := 1) (v := x3_24) (L1 := [(3, .int x3_24), (0, .ref (K.2.2.1 + a0))]) X (ix_tb_at tb_X12_clause 31 rfl) rfl (by rw [oi_1]; exact e_25.symm) (Nat.le_of_ble_eq_true rfl) rfl (pc1 := 58) rfl ?_
    refine ix_goto (tgt := 37) X (ix_tb_at tb_X12_clause 32 rfl) (by decide) ?_
    refine ix_sub (L1 := [(0, .ref (K.2.2.1 + a0)), (3, .int x3_24)]) [1, 0] rfl ?_
    exact hrec37 x3_24 d_22 h
theorem t_X12_clause_37 {l : Launch} {p : Program} {e : Env} {s : State} {m : MethodId} {args : Array Value} {below : List Frame} {meth : Method} {c : Code} {K : ix_Cx} (hKp : ix_Kp K) {n : Nat} {z : ix_Z} (X : ix_X p s m args c K cX12_clause RX12 4) (hr : meth.sig.returnType = (some .int)) (hlk : meth.locks = false)  {a0 : Nat} {r : Int32} {d1 : ix_D2}  {x3 : Int32} {d : ix_D2} (h : f_X12_clause_37 n z  a0 x3 d = some (r, d1)) : ix_G p l e (ix_rm 3 64 0 0) s m args below meth c (MQ below (ix_Post K (some (.int r)) (ix_w z d1)) args s 0 0 (ix_A K)) K 4 0 0 37 [(0, .ref (K.2.2.1 + a0)), (3, .int x3)] [] (ix_w z d) := by
  have key : ∀ (f : Nat) (x3 : Int32) (d : ix_D2), ix_fix (b_X12_clause_37 n z  a0) (fun _ _ => none) f x3 d = some (r, d1) → ix_G p l e (ix_rm 3 64 0 0) s m args below meth c (MQ below (ix_Post K (some (.int r)) (ix_w z d1)) args s 0 0 (ix_A K)) K 4 0 0 37 [(0, .ref (K.2.2.1 + a0)), (3, .int x3)] [] (ix_w z d) := by
    intro f
    induction f with
    | zero =>
      intro x3 d h
      have h : (none : Option (Int32 × ix_D2)) = some (r, d1) := h
      cases h
    | succ f ih =>
      intro x3 d h
      exact tb_X12_clause_37 hKp X hr hlk (rec37 := ix_fix (b_X12_clause_37 n z  a0) (fun _ _ => none) f)  ih h
  exact key n x3 d h
set_option maxRecDepth 20000 in
theorem c_X12_clause {l : Launch} {K : ix_Cx} (hKp : ix_Kp K) {n : Nat} {z : ix_Z} {a0 : Nat} {x1 : Int32} {d : ix_D2} {r : Int32} {d1 : ix_D2} (h : f_X12_clause n z a0 x1 d = some (r, d1)) : ix_M l K yX12_clause cX12_clause 4 (some .int) 3 64 0 0 [.ref (K.2.2.1 + a0), .int x1] (ix_w z d) (some (.int r)) (ix_w z d1) := by
  refine ix_met mf_X12_clause hKp (Nat.le_of_ble_eq_true rfl) ?_
  intro p e s m args below meth c hr hlk hnm X
  have X : ix_X p s m args c K cX12_clause RX12 4 := X
  show ix_G p l e (ix_rm 3 64 0 0) s m args below meth c (MQ below (ix_Post K (some (.int r)) (ix_w z d1)) args s 0 0 (ix_A K)) K 4 0 0 0 [(0, .ref (K.2.2.1 + a0)), (1, .int x1)] [] (ix_w z d)
  unfold f_X12_clause at h
  refine ix_iload_n (i := 1) (j := 1) X (ix_tb_at tb_X12_clause 0 rfl) rfl rfl (pc1 := 1) rfl ?_
  obtain ⟨r_3, d_1, h_2, h⟩ := ix_bd2_ex h
  refine ix_callS (As := [.int x1]) (rest := []) X mf_X12_isRow st_X12_isRow ml_RX12_253 ⟨Nat.le_of_ble_eq_true rfl, Nat.le_of_ble_eq_true rfl⟩ ⟨Nat.le_of_ble_eq_true rfl, Nat.le_of_ble_eq_true rfl⟩ rfl (Nat.le_of_ble_eq_true rfl) (ix_tb_at tb_X12_clause 1 rfl) (c_X12_isRow hKp h_2) rfl (pc1 := 4) rfl ?_
  refine ix_if_ne (tgt := 15) X (ix_tb_at tb_X12_clause 2 rfl) (by decide) (pc1 := 7) rfl (fun q_4 => ?_) (fun q_4 => ?_)
  · have h := ix_iff q_4 h
    refine ix_aload_n (i := 0) (j := 0) X (ix_tb_at tb_X12_clause 7 rfl) rfl rfl (pc1 := 16) rfl ?_
    refine ix_iload_n (i := 1) (j := 1) X (ix_tb_at tb_X12_clause 8 rfl) rfl rfl (pc1 := 17) rfl ?_
    obtain ⟨k_7, h⟩ := ix_ck_some h
    obtain ⟨r_8, d_5, h_6, h⟩ := ix_bd2_ex h
    refine ix_callV (As := [.int x1]) (rest := []) (ci := 11) (T := TX12) (nf := 116) X mf_X12_takeItems mi_X12_takeItems ms_X12_takeItems rfl (Nat.le_of_ble_eq_true rfl) ml_RX12_310 ⟨Nat.le_of_ble_eq_true rfl, Nat.le_of_ble_eq_true rfl⟩ ⟨Nat.le_of_ble_eq_true rfl, Nat.le_of_ble_eq_true rfl⟩ rfl (Nat.le_of_ble_eq_true rfl) (ix_tb_at tb_X12_clause 9 rfl) ⟨k_7.1, List.mem_singleton.mp k_7.2⟩ (c_X12_takeItems hKp h_6) rfl (pc1 := 20) rfl ?_
    refine ix_istore_n (i := 2) (L1 := [(2, .int r_8), (0, .ref (K.2.2.1 + a0)), (1, .int x1)]) X (ix_tb_at tb_X12_clause 10 rfl) rfl (Nat.le_of_ble_eq_true rfl) rfl (pc1 := 21) rfl ?_
    refine ix_iload_n (i := 2) (j := 0) X (ix_tb_at tb_X12_clause 11 rfl) rfl rfl (pc1 := 22) rfl ?_
    refine ix_if_ge (tgt := 31) X (ix_tb_at tb_X12_clause 12 rfl) (by decide) (pc1 := 25) rfl (fun q_9 => ?_) (fun q_9 => ?_)
    · have h := ix_ift q_9 h
      refine ix_aload_n (i := 0) (j := 1) X (ix_tb_at tb_X12_clause 17 rfl) rfl rfl (pc1 := 32) rfl ?_
      obtain ⟨d_10, h_11, h⟩ := ix_bd1_ex h
      refine ix_callV (As := []) (rest := []) (ci := 11) (T := TX12) (nf := 116) X mf_X12_beginLaying mi_X12_beginLaying ms_X12_beginLaying rfl (Nat.le_of_ble_eq_true rfl) ml_RX12_313 ⟨Nat.le_of_ble_eq_true rfl, Nat.le_of_ble_eq_true rfl⟩ ⟨Nat.le_of_ble_eq_true rfl, Nat.le_of_ble_eq_true rfl⟩ rfl (Nat.le_of_ble_eq_true rfl) (ix_tb_at tb_X12_clause 18 rfl) ⟨k_7.1, List.mem_singleton.mp k_7.2⟩ (c_X12_beginLaying hKp h_11) rfl (pc1 := 35) rfl ?_
      refine ix_iconst (v := 0) X (ix_tb_at tb_X12_clause 19 rfl) (by decide) (pc1 := 36) rfl ?_
      refine ix_istore_n (i := 3) (L1 := [(3, .int 0), (2, .int r_8), (0, .ref (K.2.2.1 + a0)), (1, .int x1)]) X (ix_tb_at tb_X12_clause 20 rfl) rfl (Nat.le_of_ble_eq_true rfl) rfl (pc1 := 37) rfl ?_
      refine ix_sub (L1 := [(0, .ref (K.2.2.1 + a0)), (3, .int 0)]) [2, 0] rfl ?_
      exact t_X12_clause_37 hKp X hr hlk  h
    · have h := ix_iff q_9 h
      refine ix_aload_n (i := 0) (j := 1) X (ix_tb_at tb_X12_clause 13 rfl) rfl rfl (pc1 := 26) rfl ?_
      refine ix_iload_n (i := 2) (j := 0) X (ix_tb_at tb_X12_clause 14 rfl) rfl rfl (pc1 := 27) rfl ?_
      obtain ⟨r_28, d_26, h_27, h⟩ := ix_bd2_ex h
      refine ix_callV (As := [.int r_8]) (rest := []) (ci := 11) (T := TX12) (nf := 116) X mf_X12_fail mi_X12_fail ms_X12_fail rfl (Nat.le_of_ble_eq_true rfl) ml_RX12_242 ⟨Nat.le_of_ble_eq_true rfl, Nat.le_of_ble_eq_true rfl⟩ ⟨Nat.le_of_ble_eq_true rfl, Nat.le_of_ble_eq_true rfl⟩ rfl (Nat.le_of_ble_eq_true rfl) (ix_tb_at tb_X12_clause 15 rfl) ⟨k_7.1, List.mem_singleton.mp k_7.2⟩ (c_X12_fail hKp h_27) rfl (pc1 := 30) rfl ?_
      exact ix_iret X hr hlk (ix_r2 (f := fun r => some (.int r)) (g := ix_w z) h) (ix_tb_at tb_X12_clause 16 rfl)
  · have h := ix_ift q_4 h
    refine ix_aload_n (i := 0) (j := 0) X (ix_tb_at tb_X12_clause 3 rfl) rfl rfl (pc1 := 8) rfl ?_
    refine ix_sipush (v := (-1001)) X (ix_tb_at tb_X12_clause 4 rfl) (by decide) (pc1 := 11) rfl ?_
    obtain ⟨k_31, h⟩ := ix_ck_some h
    obtain ⟨r_32, d_29, h_30, h⟩ := ix_bd2_ex h
    refine ix_callV (As := [.int ((-1001))]) (rest := []) (ci := 11) (T := TX12) (nf := 116) X mf_X12_fail mi_X12_fail ms_X12_fail rfl (Nat.le_of_ble_eq_true rfl) ml_RX12_242 ⟨Nat.le_of_ble_eq_true rfl, Nat.le_of_ble_eq_true rfl⟩ ⟨Nat.le_of_ble_eq_true rfl, Nat.le_of_ble_eq_true rfl⟩ rfl (Nat.le_of_ble_eq_true rfl) (ix_tb_at tb_X12_clause 5 rfl) ⟨k_31.1, List.mem_singleton.mp k_31.2⟩ (c_X12_fail hKp h_30) rfl (pc1 := 14) rfl ?_
    exact ix_iret X hr hlk (ix_r2 (f := fun r => some (.int r)) (g := ix_w z) h) (ix_tb_at tb_X12_clause 6 rfl)
def tab_X12_summed : List (Nat × Instr × Nat) := [(0, .iload_n 1, 1), (1, .invokestatic 253, 3), (4, .ifCond .eq 13, 3), (7, .iload_n 2, 1), (8, .iconst 0, 1), (9, .bipush 12, 2), (11, .invokestatic 238, 3), (14, .ifCond .ne 11, 3), (17, .aload_n 0, 1), (18, .sipush (-1001), 3), (21, .invokevirtual 242, 3), (24, .ireturn, 1), (25, .aload_n 0, 1), (26, .iload_n 1, 1), (27, .invokevirtual 310, 3), (30, .istore 4, 2), (32, .iload 4, 2), (34, .ifCond .ge 10, 3), (37, .aload_n 0, 1), (38, .iload 4, 2), (40, .invokevirtual 242, 3), (43, .ireturn, 1), (44, .aload_n 0, 1), (45, .invokevirtual 313, 3), (48, .aload_n 0, 1), (49, .iload_n 2, 1), (50, .iload_n 3, 1), (51, .invokevirtual 320, 3), (54, .aload_n 0, 1), (55, .iload_n 3, 1), (56, .ifCond .eq 7, 3), (59, .iconst 2, 1), (60, .goto 4, 3), (63, .iconst 1, 1), (64, .iload_n 2, 1), (65, .iconst 0, 1), (66, .invokevirtual 316, 3), (69, .ireturn, 1)]
theorem tb_X12_summed : ix_tab cX12_summed tab_X12_summed := by
  unfold ix_tab
  decide +kernel
noncomputable def f_X12_summed_17 (n : Nat) (z : ix_Z)  (a0 : Nat) (d : ix_D2) : Option (Int32 × ix_D2) :=
  ix_ck (ix_ok z [11] a0) (ix_bd2 (f_X12_fail n z a0 ((-1001)) d) (fun r_8 d_5 => some (r_8, d_5)))
noncomputable def f_X12_summed_64 (n : Nat) (z : ix_Z)  (x2 : Int32) (s0 : Int32) (s1 : Nat) (d : ix_D2) : Option (Int32 × ix_D2) :=
  ix_ck (ix_ok z [11] s1) (ix_bd2 (f_X12_keepRule n z s1 s0 x2 0 d) (fun r_26 d_23 => some (r_26, d_23)))
noncomputable def f_X12_summed (n : Nat) (z : ix_Z) (a0 : Nat) (x1 : Int32) (x2 : Int32) (x3 : Int32) (d : ix_D2) : Option (Int32 × ix_D2) :=
  ix_bd2 (f_X12_isRow n z x1 d) (fun r_3 d_1 => ix_if (r_3 = 0) (f_X12_summed_17 n z  a0 d_1) (ix_bd2 (f_X12_in n z x2 0 12 d_1) (fun r_11 d_9 => ix_if (r_11 = 0) (f_X12_summed_17 n z  a0 d_9) (ix_ck (ix_ok z [11] a0) (ix_bd2 (f_X12_takeItems n z a0 x1 d_9) (fun r_16 d_13 => ix_if (0 ≤ r_16) (ix_bd1 (f_X12_beginLaying n z a0 d_13) (fun d_18 => ix_bd1 (f_X12_layAtMost n z a0 x2 x3 d_18) (fun d_20 => ix_if (x3 = 0) (f_X12_summed_64 n z  x2 1 a0 d_20) (f_X12_summed_64 n z  x2 2 a0 d_20)))) (ix_bd2 (f_X12_fail n z a0 r_16 d_13) (fun r_29 d_27 => some (r_29, d_27)))))))))
set_option maxRecDepth 20000 in
theorem t_X12_summed_17 {l : Launch} {p : Program} {e : Env} {s : State} {m : MethodId} {args : Array Value} {below : List Frame} {meth : Method} {c : Code} {K : ix_Cx} (hKp : ix_Kp K) {n : Nat} {z : ix_Z} (X : ix_X p s m args c K cX12_summed RX12 5) (hr : meth.sig.returnType = (some .int)) (hlk : meth.locks = false)  {a0 : Nat} {r : Int32} {d1 : ix_D2}  {d : ix_D2} (h : f_X12_summed_17 n z  a0 d = some (r, d1)) : ix_G p l e (ix_rm 3 74 0 0) s m args below meth c (MQ below (ix_Post K (some (.int r)) (ix_w z d1)) args s 0 0 (ix_A K)) K 5 0 0 17 [(0, .ref (K.2.2.1 + a0))] [] (ix_w z d) := by
  unfold f_X12_summed_17 at h
  refine ix_aload_n (i := 0) (j := 0) X (ix_tb_at tb_X12_summed 8 rfl) rfl rfl (pc1 := 18) rfl ?_
  refine ix_sipush (v := (-1001)) X (ix_tb_at tb_X12_summed 9 rfl) (by decide) (pc1 := 21) rfl ?_
  obtain ⟨k_7, h⟩ := ix_ck_some h
  obtain ⟨r_8, d_5, h_6, h⟩ := ix_bd2_ex h
  refine ix_callV (As := [.int ((-1001))]) (rest := []) (ci := 11) (T := TX12) (nf := 116) X mf_X12_fail mi_X12_fail ms_X12_fail rfl (Nat.le_of_ble_eq_true rfl) ml_RX12_242 ⟨Nat.le_of_ble_eq_true rfl, Nat.le_of_ble_eq_true rfl⟩ ⟨Nat.le_of_ble_eq_true rfl, Nat.le_of_ble_eq_true rfl⟩ rfl (Nat.le_of_ble_eq_true rfl) (ix_tb_at tb_X12_summed 10 rfl) ⟨k_7.1, List.mem_singleton.mp k_7.2⟩ (c_X12_fail hKp h_6) rfl (pc1 := 24) rfl ?_
  exact ix_iret X hr hlk (ix_r2 (f := fun r => some (.int r)) (g := ix_w z) h) (ix_tb_at tb_X12_summed 11 rfl)
set_option maxRecDepth 20000 in
theorem t_X12_summed_64 {l : Launch} {p : Program} {e : Env} {s : State} {m : MethodId} {args : Array Value} {below : List Frame} {meth : Method} {c : Code} {K : ix_Cx} (hKp : ix_Kp K) {n : Nat} {z : ix_Z} (X : ix_X p s m args c K cX12_summed RX12 5) (hr : meth.sig.returnType = (some .int)) (hlk : meth.locks = false)  {x2 : Int32} {s0 : Int32} {s1 : Nat} {r : Int32} {d1 : ix_D2}  {d : ix_D2} (h : f_X12_summed_64 n z  x2 s0 s1 d = some (r, d1)) : ix_G p l e (ix_rm 3 74 0 0) s m args below meth c (MQ below (ix_Post K (some (.int r)) (ix_w z d1)) args s 0 0 (ix_A K)) K 5 0 0 64 [(2, .int x2)] [.int s0, .ref (K.2.2.1 + s1)] (ix_w z d) := by
  unfold f_X12_summed_64 at h
  refine ix_iload_n (i := 2) (j := 0) X (ix_tb_at tb_X12_summed 34 rfl) rfl rfl (pc1 := 65) rfl ?_
  refine ix_iconst (v := 0) X (ix_tb_at tb_X12_summed 35 rfl) (by decide) (pc1 := 66) rfl ?_
  obtain ⟨k_25, h⟩ := ix_ck_some h
  obtain ⟨r_26, d_23, h_24, h⟩ := ix_bd2_ex h
  refine ix_callV (As := [.int s0, .int x2, .int 0]) (rest := []) (ci := 11) (T := TX12) (nf := 116) X mf_X12_keepRule mi_X12_keepRule ms_X12_keepRule rfl (Nat.le_of_ble_eq_true rfl) ml_RX12_316 ⟨Nat.le_of_ble_eq_true rfl, Nat.le_of_ble_eq_true rfl⟩ ⟨Nat.le_of_ble_eq_true rfl, Nat.le_of_ble_eq_true rfl⟩ rfl (Nat.le_of_ble_eq_true rfl) (ix_tb_at tb_X12_summed 36 rfl) ⟨k_25.1, List.mem_singleton.mp k_25.2⟩ (c_X12_keepRule hKp h_24) rfl (pc1 := 69) rfl ?_
  exact ix_iret X hr hlk (ix_r2 (f := fun r => some (.int r)) (g := ix_w z) h) (ix_tb_at tb_X12_summed 37 rfl)
set_option maxRecDepth 20000 in
theorem c_X12_summed {l : Launch} {K : ix_Cx} (hKp : ix_Kp K) {n : Nat} {z : ix_Z} {a0 : Nat} {x1 : Int32} {x2 : Int32} {x3 : Int32} {d : ix_D2} {r : Int32} {d1 : ix_D2} (h : f_X12_summed n z a0 x1 x2 x3 d = some (r, d1)) : ix_M l K yX12_summed cX12_summed 5 (some .int) 3 74 0 0 [.ref (K.2.2.1 + a0), .int x1, .int x2, .int x3] (ix_w z d) (some (.int r)) (ix_w z d1) := by
  refine ix_met mf_X12_summed hKp (Nat.le_of_ble_eq_true rfl) ?_
  intro p e s m args below meth c hr hlk hnm X
  have X : ix_X p s m args c K cX12_summed RX12 5 := X
  show ix_G p l e (ix_rm 3 74 0 0) s m args below meth c (MQ below (ix_Post K (some (.int r)) (ix_w z d1)) args s 0 0 (ix_A K)) K 5 0 0 0 [(0, .ref (K.2.2.1 + a0)), (1, .int x1), (2, .int x2), (3, .int x3)] [] (ix_w z d)
  unfold f_X12_summed at h
  refine ix_iload_n (i := 1) (j := 1) X (ix_tb_at tb_X12_summed 0 rfl) rfl rfl (pc1 := 1) rfl ?_
  obtain ⟨r_3, d_1, h_2, h⟩ := ix_bd2_ex h
  refine ix_callS (As := [.int x1]) (rest := []) X mf_X12_isRow st_X12_isRow ml_RX12_253 ⟨Nat.le_of_ble_eq_true rfl, Nat.le_of_ble_eq_true rfl⟩ ⟨Nat.le_of_ble_eq_true rfl, Nat.le_of_ble_eq_true rfl⟩ rfl (Nat.le_of_ble_eq_true rfl) (ix_tb_at tb_X12_summed 1 rfl) (c_X12_isRow hKp h_2) rfl (pc1 := 4) rfl ?_
  refine ix_if_eq (tgt := 17) X (ix_tb_at tb_X12_summed 2 rfl) (by decide) (pc1 := 7) rfl (fun q_4 => ?_) (fun q_4 => ?_)
  · have h := ix_ift q_4 h
    refine ix_sub (L1 := [(0, .ref (K.2.2.1 + a0))]) [0] rfl ?_
    exact t_X12_summed_17 hKp X hr hlk  h
  · have h := ix_iff q_4 h
    refine ix_iload_n (i := 2) (j := 2) X (ix_tb_at tb_X12_summed 3 rfl) rfl rfl (pc1 := 8) rfl ?_
    refine ix_iconst (v := 0) X (ix_tb_at tb_X12_summed 4 rfl) (by decide) (pc1 := 9) rfl ?_
    refine ix_bipush (v := 12) X (ix_tb_at tb_X12_summed 5 rfl) (by decide) (pc1 := 11) rfl ?_
    obtain ⟨r_11, d_9, h_10, h⟩ := ix_bd2_ex h
    refine ix_callS (As := [.int x2, .int 0, .int 12]) (rest := []) X mf_X12_in st_X12_in ml_RX12_238 ⟨Nat.le_of_ble_eq_true rfl, Nat.le_of_ble_eq_true rfl⟩ ⟨Nat.le_of_ble_eq_true rfl, Nat.le_of_ble_eq_true rfl⟩ rfl (Nat.le_of_ble_eq_true rfl) (ix_tb_at tb_X12_summed 6 rfl) (c_X12_in hKp h_10) rfl (pc1 := 14) rfl ?_
    refine ix_if_ne (tgt := 25) X (ix_tb_at tb_X12_summed 7 rfl) (by decide) (pc1 := 17) rfl (fun q_12 => ?_) (fun q_12 => ?_)
    · have h := ix_iff q_12 h
      refine ix_aload_n (i := 0) (j := 0) X (ix_tb_at tb_X12_summed 12 rfl) rfl rfl (pc1 := 26) rfl ?_
      refine ix_iload_n (i := 1) (j := 1) X (ix_tb_at tb_X12_summed 13 rfl) rfl rfl (pc1 := 27) rfl ?_
      obtain ⟨k_15, h⟩ := ix_ck_some h
      obtain ⟨r_16, d_13, h_14, h⟩ := ix_bd2_ex h
      refine ix_callV (As := [.int x1]) (rest := []) (ci := 11) (T := TX12) (nf := 116) X mf_X12_takeItems mi_X12_takeItems ms_X12_takeItems rfl (Nat.le_of_ble_eq_true rfl) ml_RX12_310 ⟨Nat.le_of_ble_eq_true rfl, Nat.le_of_ble_eq_true rfl⟩ ⟨Nat.le_of_ble_eq_true rfl, Nat.le_of_ble_eq_true rfl⟩ rfl (Nat.le_of_ble_eq_true rfl) (ix_tb_at tb_X12_summed 14 rfl) ⟨k_15.1, List.mem_singleton.mp k_15.2⟩ (c_X12_takeItems hKp h_14) rfl (pc1 := 30) rfl ?_
      refine ix_istore (i := 4) (L1 := [(4, .int r_16), (0, .ref (K.2.2.1 + a0)), (1, .int x1), (2, .int x2), (3, .int x3)]) X (ix_tb_at tb_X12_summed 15 rfl) (Nat.le_of_ble_eq_true rfl) rfl (pc1 := 32) rfl ?_
      refine ix_iload (i := 4) (j := 0) X (ix_tb_at tb_X12_summed 16 rfl) rfl (pc1 := 34) rfl ?_
      refine ix_if_ge (tgt := 44) X (ix_tb_at tb_X12_summed 17 rfl) (by decide) (pc1 := 37) rfl (fun q_17 => ?_) (fun q_17 => ?_)
      · have h := ix_ift q_17 h
        refine ix_aload_n (i := 0) (j := 1) X (ix_tb_at tb_X12_summed 22 rfl) rfl rfl (pc1 := 45) rfl ?_
        obtain ⟨d_18, h_19, h⟩ := ix_bd1_ex h
        refine ix_callV (As := []) (rest := []) (ci := 11) (T := TX12) (nf := 116) X mf_X12_beginLaying mi_X12_beginLaying ms_X12_beginLaying rfl (Nat.le_of_ble_eq_true rfl) ml_RX12_313 ⟨Nat.le_of_ble_eq_true rfl, Nat.le_of_ble_eq_true rfl⟩ ⟨Nat.le_of_ble_eq_true rfl, Nat.le_of_ble_eq_true rfl⟩ rfl (Nat.le_of_ble_eq_true rfl) (ix_tb_at tb_X12_summed 23 rfl) ⟨k_15.1, List.mem_singleton.mp k_15.2⟩ (c_X12_beginLaying hKp h_19) rfl (pc1 := 48) rfl ?_
        refine ix_aload_n (i := 0) (j := 1) X (ix_tb_at tb_X12_summed 24 rfl) rfl rfl (pc1 := 49) rfl ?_
        refine ix_iload_n (i := 2) (j := 3) X (ix_tb_at tb_X12_summed 25 rfl) rfl rfl (pc1 := 50) rfl ?_
        refine ix_iload_n (i := 3) (j := 4) X (ix_tb_at tb_X12_summed 26 rfl) rfl rfl (pc1 := 51) rfl ?_
        obtain ⟨d_20, h_21, h⟩ := ix_bd1_ex h
        refine ix_callV (As := [.int x2, .int x3]) (rest := []) (ci := 11) (T := TX12) (nf := 116) X mf_X12_layAtMost mi_X12_layAtMost ms_X12_layAtMost rfl (Nat.le_of_ble_eq_true rfl) ml_RX12_320 ⟨Nat.le_of_ble_eq_true rfl, Nat.le_of_ble_eq_true rfl⟩ ⟨Nat.le_of_ble_eq_true rfl, Nat.le_of_ble_eq_true rfl⟩ rfl (Nat.le_of_ble_eq_true rfl) (ix_tb_at tb_X12_summed 27 rfl) ⟨k_15.1, List.mem_singleton.mp k_15.2⟩ (c_X12_layAtMost hKp h_21) rfl (pc1 := 54) rfl ?_
        refine ix_aload_n (i := 0) (j := 1) X (ix_tb_at tb_X12_summed 28 rfl) rfl rfl (pc1 := 55) rfl ?_
        refine ix_iload_n (i := 3) (j := 4) X (ix_tb_at tb_X12_summed 29 rfl) rfl rfl (pc1 := 56) rfl ?_
        refine ix_if_eq (tgt := 63) X (ix_tb_at tb_X12_summed 30 rfl) (by decide) (pc1 := 59) rfl (fun q_22 => ?_) (fun q_22 => ?_)
        · have h := ix_ift q_22 h
          refine ix_iconst (v := 1) X (ix_tb_at tb_X12_summed 33 rfl) (by decide) (pc1 := 64) rfl ?_
          refine ix_sub (L1 := [(2, .int x2)]) [3] rfl ?_
          exact t_X12_summed_64 hKp X hr hlk  h
        · have h := ix_iff q_22 h
          refine ix_iconst (v := 2) X (ix_tb_at tb_X12_summed 31 rfl) (by decide) (pc1 := 60) rfl ?_
          refine ix_goto (tgt := 64) X (ix_tb_at tb_X12_summed 32 rfl) (by decide) ?_
          refine ix_sub (L1 := [(2, .int x2)]) [3] rfl ?_
          exact t_X12_summed_64 hKp X hr hlk  h
      · have h := ix_iff q_17 h
        refine ix_aload_n (i := 0) (j := 1) X (ix_tb_at tb_X12_summed 18 rfl) rfl rfl (pc1 := 38) rfl ?_
        refine ix_iload (i := 4) (j := 0) X (ix_tb_at tb_X12_summed 19 rfl) rfl (pc1 := 40) rfl ?_
        obtain ⟨r_29, d_27, h_28, h⟩ := ix_bd2_ex h
        refine ix_callV (As := [.int r_16]) (rest := []) (ci := 11) (T := TX12) (nf := 116) X mf_X12_fail mi_X12_fail ms_X12_fail rfl (Nat.le_of_ble_eq_true rfl) ml_RX12_242 ⟨Nat.le_of_ble_eq_true rfl, Nat.le_of_ble_eq_true rfl⟩ ⟨Nat.le_of_ble_eq_true rfl, Nat.le_of_ble_eq_true rfl⟩ rfl (Nat.le_of_ble_eq_true rfl) (ix_tb_at tb_X12_summed 20 rfl) ⟨k_15.1, List.mem_singleton.mp k_15.2⟩ (c_X12_fail hKp h_28) rfl (pc1 := 43) rfl ?_
        exact ix_iret X hr hlk (ix_r2 (f := fun r => some (.int r)) (g := ix_w z) h) (ix_tb_at tb_X12_summed 21 rfl)
    · have h := ix_ift q_12 h
      refine ix_sub (L1 := [(0, .ref (K.2.2.1 + a0))]) [0] rfl ?_
      exact t_X12_summed_17 hKp X hr hlk  h
def tab_X12_atMost : List (Nat × Instr × Nat) := [(0, .aload_n 0, 1), (1, .iload_n 1, 1), (2, .iload_n 2, 1), (3, .iconst 0, 1), (4, .invokevirtual 324, 3), (7, .ireturn, 1)]
theorem tb_X12_atMost : ix_tab cX12_atMost tab_X12_atMost := by
  unfold ix_tab
  decide +kernel
noncomputable def f_X12_atMost (n : Nat) (z : ix_Z) (a0 : Nat) (x1 : Int32) (x2 : Int32) (d : ix_D2) : Option (Int32 × ix_D2) :=
  ix_ck (ix_ok z [11] a0) (ix_bd2 (f_X12_summed n z a0 x1 x2 0 d) (fun r_4 d_1 => some (r_4, d_1)))
set_option maxRecDepth 20000 in
theorem c_X12_atMost {l : Launch} {K : ix_Cx} (hKp : ix_Kp K) {n : Nat} {z : ix_Z} {a0 : Nat} {x1 : Int32} {x2 : Int32} {d : ix_D2} {r : Int32} {d1 : ix_D2} (h : f_X12_atMost n z a0 x1 x2 d = some (r, d1)) : ix_M l K yX12_atMost cX12_atMost 3 (some .int) 4 98 0 0 [.ref (K.2.2.1 + a0), .int x1, .int x2] (ix_w z d) (some (.int r)) (ix_w z d1) := by
  refine ix_met mf_X12_atMost hKp (Nat.le_of_ble_eq_true rfl) ?_
  intro p e s m args below meth c hr hlk hnm X
  have X : ix_X p s m args c K cX12_atMost RX12 3 := X
  show ix_G p l e (ix_rm 4 98 0 0) s m args below meth c (MQ below (ix_Post K (some (.int r)) (ix_w z d1)) args s 0 0 (ix_A K)) K 3 0 0 0 [(0, .ref (K.2.2.1 + a0)), (1, .int x1), (2, .int x2)] [] (ix_w z d)
  unfold f_X12_atMost at h
  refine ix_aload_n (i := 0) (j := 0) X (ix_tb_at tb_X12_atMost 0 rfl) rfl rfl (pc1 := 1) rfl ?_
  refine ix_iload_n (i := 1) (j := 1) X (ix_tb_at tb_X12_atMost 1 rfl) rfl rfl (pc1 := 2) rfl ?_
  refine ix_iload_n (i := 2) (j := 2) X (ix_tb_at tb_X12_atMost 2 rfl) rfl rfl (pc1 := 3) rfl ?_
  refine ix_iconst (v := 0) X (ix_tb_at tb_X12_atMost 3 rfl) (by decide) (pc1 := 4) rfl ?_
  obtain ⟨k_3, h⟩ := ix_ck_some h
  obtain ⟨r_4, d_1, h_2, h⟩ := ix_bd2_ex h
  refine ix_callV (As := [.int x1, .int x2, .int 0]) (rest := []) (ci := 11) (T := TX12) (nf := 116) X mf_X12_summed mi_X12_summed ms_X12_summed rfl (Nat.le_of_ble_eq_true rfl) ml_RX12_324 ⟨Nat.le_of_ble_eq_true rfl, Nat.le_of_ble_eq_true rfl⟩ ⟨Nat.le_of_ble_eq_true rfl, Nat.le_of_ble_eq_true rfl⟩ rfl (Nat.le_of_ble_eq_true rfl) (ix_tb_at tb_X12_atMost 4 rfl) ⟨k_3.1, List.mem_singleton.mp k_3.2⟩ (c_X12_summed hKp h_2) rfl (pc1 := 7) rfl ?_
  exact ix_iret X hr hlk (ix_r2 (f := fun r => some (.int r)) (g := ix_w z) h) (ix_tb_at tb_X12_atMost 5 rfl)
def tab_X12_group : List (Nat × Instr × Nat) := [(0, .aload_n 0, 1), (1, .iload_n 1, 1), (2, .iload_n 2, 1), (3, .iconst 1, 1), (4, .invokevirtual 324, 3), (7, .ireturn, 1)]
theorem tb_X12_group : ix_tab cX12_group tab_X12_group := by
  unfold ix_tab
  decide +kernel
noncomputable def f_X12_group (n : Nat) (z : ix_Z) (a0 : Nat) (x1 : Int32) (x2 : Int32) (d : ix_D2) : Option (Int32 × ix_D2) :=
  ix_ck (ix_ok z [11] a0) (ix_bd2 (f_X12_summed n z a0 x1 x2 1 d) (fun r_4 d_1 => some (r_4, d_1)))
set_option maxRecDepth 20000 in
theorem c_X12_group {l : Launch} {K : ix_Cx} (hKp : ix_Kp K) {n : Nat} {z : ix_Z} {a0 : Nat} {x1 : Int32} {x2 : Int32} {d : ix_D2} {r : Int32} {d1 : ix_D2} (h : f_X12_group n z a0 x1 x2 d = some (r, d1)) : ix_M l K yX12_group cX12_group 3 (some .int) 4 98 0 0 [.ref (K.2.2.1 + a0), .int x1, .int x2] (ix_w z d) (some (.int r)) (ix_w z d1) := by
  refine ix_met mf_X12_group hKp (Nat.le_of_ble_eq_true rfl) ?_
  intro p e s m args below meth c hr hlk hnm X
  have X : ix_X p s m args c K cX12_group RX12 3 := X
  show ix_G p l e (ix_rm 4 98 0 0) s m args below meth c (MQ below (ix_Post K (some (.int r)) (ix_w z d1)) args s 0 0 (ix_A K)) K 3 0 0 0 [(0, .ref (K.2.2.1 + a0)), (1, .int x1), (2, .int x2)] [] (ix_w z d)
  unfold f_X12_group at h
  refine ix_aload_n (i := 0) (j := 0) X (ix_tb_at tb_X12_group 0 rfl) rfl rfl (pc1 := 1) rfl ?_
  refine ix_iload_n (i := 1) (j := 1) X (ix_tb_at tb_X12_group 1 rfl) rfl rfl (pc1 := 2) rfl ?_
  refine ix_iload_n (i := 2) (j := 2) X (ix_tb_at tb_X12_group 2 rfl) rfl rfl (pc1 := 3) rfl ?_
  refine ix_iconst (v := 1) X (ix_tb_at tb_X12_group 3 rfl) (by decide) (pc1 := 4) rfl ?_
  obtain ⟨k_3, h⟩ := ix_ck_some h
  obtain ⟨r_4, d_1, h_2, h⟩ := ix_bd2_ex h
  refine ix_callV (As := [.int x1, .int x2, .int 1]) (rest := []) (ci := 11) (T := TX12) (nf := 116) X mf_X12_summed mi_X12_summed ms_X12_summed rfl (Nat.le_of_ble_eq_true rfl) ml_RX12_324 ⟨Nat.le_of_ble_eq_true rfl, Nat.le_of_ble_eq_true rfl⟩ ⟨Nat.le_of_ble_eq_true rfl, Nat.le_of_ble_eq_true rfl⟩ rfl (Nat.le_of_ble_eq_true rfl) (ix_tb_at tb_X12_group 4 rfl) ⟨k_3.1, List.mem_singleton.mp k_3.2⟩ (c_X12_summed hKp h_2) rfl (pc1 := 7) rfl ?_
  exact ix_iret X hr hlk (ix_r2 (f := fun r => some (.int r)) (g := ix_w z) h) (ix_tb_at tb_X12_group 5 rfl)
def tab_X12_parity : List (Nat × Instr × Nat) := [(0, .iload_n 1, 1), (1, .invokestatic 253, 3), (4, .ifCond .ne 11, 3), (7, .aload_n 0, 1), (8, .sipush (-1001), 3), (11, .invokevirtual 242, 3), (14, .ireturn, 1), (15, .aload_n 0, 1), (16, .iload_n 1, 1), (17, .invokevirtual 310, 3), (20, .istore_n 3, 1), (21, .iload_n 3, 1), (22, .ifCond .ge 9, 3), (25, .aload_n 0, 1), (26, .iload_n 3, 1), (27, .invokevirtual 242, 3), (30, .ireturn, 1), (31, .aload_n 0, 1), (32, .invokevirtual 313, 3), (35, .aload_n 0, 1), (36, .iload_n 2, 1), (37, .invokevirtual 327, 3), (40, .aload_n 0, 1), (41, .iconst 3, 1), (42, .iconst 0, 1), (43, .iload_n 2, 1), (44, .invokevirtual 316, 3), (47, .ireturn, 1)]
theorem tb_X12_parity : ix_tab cX12_parity tab_X12_parity := by
  unfold ix_tab
  decide +kernel
noncomputable def f_X12_parity (n : Nat) (z : ix_Z) (a0 : Nat) (x1 : Int32) (x2 : Int32) (d : ix_D2) : Option (Int32 × ix_D2) :=
  ix_bd2 (f_X12_isRow n z x1 d) (fun r_3 d_1 => ix_if (r_3 = 0) (ix_ck (ix_ok z [11] a0) (ix_bd2 (f_X12_fail n z a0 ((-1001)) d_1) (fun r_23 d_20 => some (r_23, d_20)))) (ix_ck (ix_ok z [11] a0) (ix_bd2 (f_X12_takeItems n z a0 x1 d_1) (fun r_8 d_5 => ix_if (0 ≤ r_8) (ix_bd1 (f_X12_beginLaying n z a0 d_5) (fun d_10 => ix_bd1 (f_X12_layParity n z a0 x2 d_10) (fun d_12 => ix_bd2 (f_X12_keepRule n z a0 3 0 x2 d_12) (fun r_16 d_14 => some (r_16, d_14))))) (ix_bd2 (f_X12_fail n z a0 r_8 d_5) (fun r_19 d_17 => some (r_19, d_17)))))))
set_option maxRecDepth 20000 in
theorem c_X12_parity {l : Launch} {K : ix_Cx} (hKp : ix_Kp K) {n : Nat} {z : ix_Z} {a0 : Nat} {x1 : Int32} {x2 : Int32} {d : ix_D2} {r : Int32} {d1 : ix_D2} (h : f_X12_parity n z a0 x1 x2 d = some (r, d1)) : ix_M l K yX12_parity cX12_parity 4 (some .int) 3 71 0 0 [.ref (K.2.2.1 + a0), .int x1, .int x2] (ix_w z d) (some (.int r)) (ix_w z d1) := by
  refine ix_met mf_X12_parity hKp (Nat.le_of_ble_eq_true rfl) ?_
  intro p e s m args below meth c hr hlk hnm X
  have X : ix_X p s m args c K cX12_parity RX12 4 := X
  show ix_G p l e (ix_rm 3 71 0 0) s m args below meth c (MQ below (ix_Post K (some (.int r)) (ix_w z d1)) args s 0 0 (ix_A K)) K 4 0 0 0 [(0, .ref (K.2.2.1 + a0)), (1, .int x1), (2, .int x2)] [] (ix_w z d)
  unfold f_X12_parity at h
  refine ix_iload_n (i := 1) (j := 1) X (ix_tb_at tb_X12_parity 0 rfl) rfl rfl (pc1 := 1) rfl ?_
  obtain ⟨r_3, d_1, h_2, h⟩ := ix_bd2_ex h
  refine ix_callS (As := [.int x1]) (rest := []) X mf_X12_isRow st_X12_isRow ml_RX12_253 ⟨Nat.le_of_ble_eq_true rfl, Nat.le_of_ble_eq_true rfl⟩ ⟨Nat.le_of_ble_eq_true rfl, Nat.le_of_ble_eq_true rfl⟩ rfl (Nat.le_of_ble_eq_true rfl) (ix_tb_at tb_X12_parity 1 rfl) (c_X12_isRow hKp h_2) rfl (pc1 := 4) rfl ?_
  refine ix_if_ne (tgt := 15) X (ix_tb_at tb_X12_parity 2 rfl) (by decide) (pc1 := 7) rfl (fun q_4 => ?_) (fun q_4 => ?_)
  · have h := ix_iff q_4 h
    refine ix_aload_n (i := 0) (j := 0) X (ix_tb_at tb_X12_parity 7 rfl) rfl rfl (pc1 := 16) rfl ?_
    refine ix_iload_n (i := 1) (j := 1) X (ix_tb_at tb_X12_parity 8 rfl) rfl rfl (pc1 := 17) rfl ?_
    obtain ⟨k_7, h⟩ := ix_ck_some h
    obtain ⟨r_8, d_5, h_6, h⟩ := ix_bd2_ex h
    refine ix_callV (As := [.int x1]) (rest := []) (ci := 11) (T := TX12) (nf := 116) X mf_X12_takeItems mi_X12_takeItems ms_X12_takeItems rfl (Nat.le_of_ble_eq_true rfl) ml_RX12_310 ⟨Nat.le_of_ble_eq_true rfl, Nat.le_of_ble_eq_true rfl⟩ ⟨Nat.le_of_ble_eq_true rfl, Nat.le_of_ble_eq_true rfl⟩ rfl (Nat.le_of_ble_eq_true rfl) (ix_tb_at tb_X12_parity 9 rfl) ⟨k_7.1, List.mem_singleton.mp k_7.2⟩ (c_X12_takeItems hKp h_6) rfl (pc1 := 20) rfl ?_
    refine ix_istore_n (i := 3) (L1 := [(3, .int r_8), (0, .ref (K.2.2.1 + a0)), (1, .int x1), (2, .int x2)]) X (ix_tb_at tb_X12_parity 10 rfl) rfl (Nat.le_of_ble_eq_true rfl) rfl (pc1 := 21) rfl ?_
    refine ix_iload_n (i := 3) (j := 0) X (ix_tb_at tb_X12_parity 11 rfl) rfl rfl (pc1 := 22) rfl ?_
    refine ix_if_ge (tgt := 31) X (ix_tb_at tb_X12_parity 12 rfl) (by decide) (pc1 := 25) rfl (fun q_9 => ?_) (fun q_9 => ?_)
    · have h := ix_ift q_9 h
      refine ix_aload_n (i := 0) (j := 1) X (ix_tb_at tb_X12_parity 17 rfl) rfl rfl (pc1 := 32) rfl ?_
      obtain ⟨d_10, h_11, h⟩ := ix_bd1_ex h
      refine ix_callV (As := []) (rest := []) (ci := 11) (T := TX12) (nf := 116) X mf_X12_beginLaying mi_X12_beginLaying ms_X12_beginLaying rfl (Nat.le_of_ble_eq_true rfl) ml_RX12_313 ⟨Nat.le_of_ble_eq_true rfl, Nat.le_of_ble_eq_true rfl⟩ ⟨Nat.le_of_ble_eq_true rfl, Nat.le_of_ble_eq_true rfl⟩ rfl (Nat.le_of_ble_eq_true rfl) (ix_tb_at tb_X12_parity 18 rfl) ⟨k_7.1, List.mem_singleton.mp k_7.2⟩ (c_X12_beginLaying hKp h_11) rfl (pc1 := 35) rfl ?_
      refine ix_aload_n (i := 0) (j := 1) X (ix_tb_at tb_X12_parity 19 rfl) rfl rfl (pc1 := 36) rfl ?_
      refine ix_iload_n (i := 2) (j := 3) X (ix_tb_at tb_X12_parity 20 rfl) rfl rfl (pc1 := 37) rfl ?_
      obtain ⟨d_12, h_13, h⟩ := ix_bd1_ex h
      refine ix_callV (As := [.int x2]) (rest := []) (ci := 11) (T := TX12) (nf := 116) X mf_X12_layParity mi_X12_layParity ms_X12_layParity rfl (Nat.le_of_ble_eq_true rfl) ml_RX12_327 ⟨Nat.le_of_ble_eq_true rfl, Nat.le_of_ble_eq_true rfl⟩ ⟨Nat.le_of_ble_eq_true rfl, Nat.le_of_ble_eq_true rfl⟩ rfl (Nat.le_of_ble_eq_true rfl) (ix_tb_at tb_X12_parity 21 rfl) ⟨k_7.1, List.mem_singleton.mp k_7.2⟩ (c_X12_layParity hKp h_13) rfl (pc1 := 40) rfl ?_
      refine ix_aload_n (i := 0) (j := 1) X (ix_tb_at tb_X12_parity 22 rfl) rfl rfl (pc1 := 41) rfl ?_
      refine ix_iconst (v := 3) X (ix_tb_at tb_X12_parity 23 rfl) (by decide) (pc1 := 42) rfl ?_
      refine ix_iconst (v := 0) X (ix_tb_at tb_X12_parity 24 rfl) (by decide) (pc1 := 43) rfl ?_
      refine ix_iload_n (i := 2) (j := 3) X (ix_tb_at tb_X12_parity 25 rfl) rfl rfl (pc1 := 44) rfl ?_
      obtain ⟨r_16, d_14, h_15, h⟩ := ix_bd2_ex h
      refine ix_callV (As := [.int 3, .int 0, .int x2]) (rest := []) (ci := 11) (T := TX12) (nf := 116) X mf_X12_keepRule mi_X12_keepRule ms_X12_keepRule rfl (Nat.le_of_ble_eq_true rfl) ml_RX12_316 ⟨Nat.le_of_ble_eq_true rfl, Nat.le_of_ble_eq_true rfl⟩ ⟨Nat.le_of_ble_eq_true rfl, Nat.le_of_ble_eq_true rfl⟩ rfl (Nat.le_of_ble_eq_true rfl) (ix_tb_at tb_X12_parity 26 rfl) ⟨k_7.1, List.mem_singleton.mp k_7.2⟩ (c_X12_keepRule hKp h_15) rfl (pc1 := 47) rfl ?_
      exact ix_iret X hr hlk (ix_r2 (f := fun r => some (.int r)) (g := ix_w z) h) (ix_tb_at tb_X12_parity 27 rfl)
    · have h := ix_iff q_9 h
      refine ix_aload_n (i := 0) (j := 1) X (ix_tb_at tb_X12_parity 13 rfl) rfl rfl (pc1 := 26) rfl ?_
      refine ix_iload_n (i := 3) (j := 0) X (ix_tb_at tb_X12_parity 14 rfl) rfl rfl (pc1 := 27) rfl ?_
      obtain ⟨r_19, d_17, h_18, h⟩ := ix_bd2_ex h
      refine ix_callV (As := [.int r_8]) (rest := []) (ci := 11) (T := TX12) (nf := 116) X mf_X12_fail mi_X12_fail ms_X12_fail rfl (Nat.le_of_ble_eq_true rfl) ml_RX12_242 ⟨Nat.le_of_ble_eq_true rfl, Nat.le_of_ble_eq_true rfl⟩ ⟨Nat.le_of_ble_eq_true rfl, Nat.le_of_ble_eq_true rfl⟩ rfl (Nat.le_of_ble_eq_true rfl) (ix_tb_at tb_X12_parity 15 rfl) ⟨k_7.1, List.mem_singleton.mp k_7.2⟩ (c_X12_fail hKp h_18) rfl (pc1 := 30) rfl ?_
      exact ix_iret X hr hlk (ix_r2 (f := fun r => some (.int r)) (g := ix_w z) h) (ix_tb_at tb_X12_parity 16 rfl)
  · have h := ix_ift q_4 h
    refine ix_aload_n (i := 0) (j := 0) X (ix_tb_at tb_X12_parity 3 rfl) rfl rfl (pc1 := 8) rfl ?_
    refine ix_sipush (v := (-1001)) X (ix_tb_at tb_X12_parity 4 rfl) (by decide) (pc1 := 11) rfl ?_
    obtain ⟨k_22, h⟩ := ix_ck_some h
    obtain ⟨r_23, d_20, h_21, h⟩ := ix_bd2_ex h
    refine ix_callV (As := [.int ((-1001))]) (rest := []) (ci := 11) (T := TX12) (nf := 116) X mf_X12_fail mi_X12_fail ms_X12_fail rfl (Nat.le_of_ble_eq_true rfl) ml_RX12_242 ⟨Nat.le_of_ble_eq_true rfl, Nat.le_of_ble_eq_true rfl⟩ ⟨Nat.le_of_ble_eq_true rfl, Nat.le_of_ble_eq_true rfl⟩ rfl (Nat.le_of_ble_eq_true rfl) (ix_tb_at tb_X12_parity 5 rfl) ⟨k_22.1, List.mem_singleton.mp k_22.2⟩ (c_X12_fail hKp h_21) rfl (pc1 := 14) rfl ?_
    exact ix_iret X hr hlk (ix_r2 (f := fun r => some (.int r)) (g := ix_w z) h) (ix_tb_at tb_X12_parity 6 rfl)
def tab_X12_byteAt : List (Nat × Instr × Nat) := [(0, .iload_n 1, 1), (1, .aload_n 0, 1), (2, .getfield 259, 3), (5, .if_icmp .ge 12, 3), (8, .aload_n 0, 1), (9, .getfield 23, 3), (12, .iload_n 1, 1), (13, .iaload, 1), (14, .goto 4, 3), (17, .iconst (-1), 1), (18, .ireturn, 1)]
theorem tb_X12_byteAt : ix_tab cX12_byteAt tab_X12_byteAt := by
  unfold ix_tab
  decide +kernel
noncomputable def f_X12_byteAt (n : Nat) (z : ix_Z) (a0 : Nat) (x1 : Int32) (d : ix_D2) : Option (Int32 × ix_D2) :=
  ix_ck (ix_ok z [11] a0) (ix_if (d.1 a0 8 ≤ x1) (some ((-1), d)) (ix_bd1 (z.1 a0 7) (fun b_3 => ix_ck (ix_ix z 20 b_3 x1) (some (d.1 b_3 (ix_n x1), d)))))
set_option maxRecDepth 20000 in
theorem c_X12_byteAt {l : Launch} {K : ix_Cx} (hKp : ix_Kp K) {n : Nat} {z : ix_Z} {a0 : Nat} {x1 : Int32} {d : ix_D2} {r : Int32} {d1 : ix_D2} (h : f_X12_byteAt n z a0 x1 d = some (r, d1)) : ix_M l K yX12_byteAt cX12_byteAt 2 (some .int) 0 0 0 0 [.ref (K.2.2.1 + a0), .int x1] (ix_w z d) (some (.int r)) (ix_w z d1) := by
  refine ix_met mf_X12_byteAt hKp (Nat.le_of_ble_eq_true rfl) ?_
  intro p e s m args below meth c hr hlk hnm X
  have X : ix_X p s m args c K cX12_byteAt RX12 2 := X
  show ix_G p l e (ix_rm 0 0 0 0) s m args below meth c (MQ below (ix_Post K (some (.int r)) (ix_w z d1)) args s 0 0 (ix_A K)) K 2 0 0 0 [(0, .ref (K.2.2.1 + a0)), (1, .int x1)] [] (ix_w z d)
  unfold f_X12_byteAt at h
  refine ix_iload_n (i := 1) (j := 1) X (ix_tb_at tb_X12_byteAt 0 rfl) rfl rfl (pc1 := 1) rfl ?_
  refine ix_aload_n (i := 0) (j := 0) X (ix_tb_at tb_X12_byteAt 1 rfl) rfl rfl (pc1 := 2) rfl ?_
  obtain ⟨k_1, h⟩ := ix_ck_some h
  refine iz_getI X fl_RX12_259 k_1 (ix_tb_at tb_X12_byteAt 2 rfl) (pc1 := 5) rfl ?_
  refine ix_icmp_ge (tgt := 17) X (ix_tb_at tb_X12_byteAt 3 rfl) (by decide) (pc1 := 8) rfl (fun q_2 => ?_) (fun q_2 => ?_)
  · have h := ix_ift q_2 h
    refine ix_iconst (v := (-1)) X (ix_tb_at tb_X12_byteAt 9 rfl) (by decide) (pc1 := 18) rfl ?_
    exact ix_iret X hr hlk (ix_r2 (f := fun r => some (.int r)) (g := ix_w z) h) (ix_tb_at tb_X12_byteAt 10 rfl)
  · have h := ix_iff q_2 h
    refine ix_aload_n (i := 0) (j := 0) X (ix_tb_at tb_X12_byteAt 4 rfl) rfl rfl (pc1 := 9) rfl ?_
    obtain ⟨b_3, q_4, h⟩ := ix_bd1_ex h
    refine iz_getR X fl_RX12_23 k_1 q_4 (ix_tb_at tb_X12_byteAt 5 rfl) (pc1 := 12) rfl ?_
    refine ix_iload_n (i := 1) (j := 1) X (ix_tb_at tb_X12_byteAt 6 rfl) rfl rfl (pc1 := 13) rfl ?_
    obtain ⟨k_5, h⟩ := ix_ck_some h
    refine iz_iald X k_5 (ix_tb_at tb_X12_byteAt 7 rfl) (pc1 := 14) rfl ?_
    refine ix_goto (tgt := 18) X (ix_tb_at tb_X12_byteAt 8 rfl) (by decide) ?_
    exact ix_iret X hr hlk (ix_r2 (f := fun r => some (.int r)) (g := ix_w z) h) (ix_tb_at tb_X12_byteAt 10 rfl)
def tab_X12_isDigit : List (Nat × Instr × Nat) := [(0, .iload_n 0, 1), (1, .bipush 48, 2), (3, .if_icmp .lt 13, 3), (6, .iload_n 0, 1), (7, .bipush 57, 2), (9, .if_icmp .gt 7, 3), (12, .iconst 1, 1), (13, .goto 4, 3), (16, .iconst 0, 1), (17, .ireturn, 1)]
theorem tb_X12_isDigit : ix_tab cX12_isDigit tab_X12_isDigit := by
  unfold ix_tab
  decide +kernel
noncomputable def f_X12_isDigit (n : Nat) (z : ix_Z) (x0 : Int32) (d : ix_D2) : Option (Int32 × ix_D2) :=
  ix_if (x0 < 48) (some (0, d)) (ix_if (57 < x0) (some (0, d)) (some (1, d)))
set_option maxRecDepth 20000 in
theorem c_X12_isDigit {l : Launch} {K : ix_Cx} (hKp : ix_Kp K) {n : Nat} {z : ix_Z} {x0 : Int32} {d : ix_D2} {r : Int32} {d1 : ix_D2} (h : f_X12_isDigit n z x0 d = some (r, d1)) : ix_M l K yX12_isDigit cX12_isDigit 1 (some .boolean) 0 0 0 0 [.int x0] (ix_w z d) (some (.int r)) (ix_w z d1) := by
  refine ix_met mf_X12_isDigit hKp (Nat.le_of_ble_eq_true rfl) ?_
  intro p e s m args below meth c hr hlk hnm X
  have X : ix_X p s m args c K cX12_isDigit RX12 1 := X
  show ix_G p l e (ix_rm 0 0 0 0) s m args below meth c (MQ below (ix_Post K (some (.int r)) (ix_w z d1)) args s 0 0 (ix_A K)) K 1 0 0 0 [(0, .int x0)] [] (ix_w z d)
  unfold f_X12_isDigit at h
  refine ix_iload_n (i := 0) (j := 0) X (ix_tb_at tb_X12_isDigit 0 rfl) rfl rfl (pc1 := 1) rfl ?_
  refine ix_bipush (v := 48) X (ix_tb_at tb_X12_isDigit 1 rfl) (by decide) (pc1 := 3) rfl ?_
  refine ix_icmp_lt (tgt := 16) X (ix_tb_at tb_X12_isDigit 2 rfl) (by decide) (pc1 := 6) rfl (fun q_1 => ?_) (fun q_1 => ?_)
  · have h := ix_ift q_1 h
    refine ix_iconst (v := 0) X (ix_tb_at tb_X12_isDigit 8 rfl) (by decide) (pc1 := 17) rfl ?_
    exact ix_zret X hr hlk (by decide) (ix_r2 (f := fun r => some (.int r)) (g := ix_w z) h) (ix_tb_at tb_X12_isDigit 9 rfl)
  · have h := ix_iff q_1 h
    refine ix_iload_n (i := 0) (j := 0) X (ix_tb_at tb_X12_isDigit 3 rfl) rfl rfl (pc1 := 7) rfl ?_
    refine ix_bipush (v := 57) X (ix_tb_at tb_X12_isDigit 4 rfl) (by decide) (pc1 := 9) rfl ?_
    refine ix_icmp_gt (tgt := 16) X (ix_tb_at tb_X12_isDigit 5 rfl) (by decide) (pc1 := 12) rfl (fun q_2 => ?_) (fun q_2 => ?_)
    · have h := ix_ift q_2 h
      refine ix_iconst (v := 0) X (ix_tb_at tb_X12_isDigit 8 rfl) (by decide) (pc1 := 17) rfl ?_
      exact ix_zret X hr hlk (by decide) (ix_r2 (f := fun r => some (.int r)) (g := ix_w z) h) (ix_tb_at tb_X12_isDigit 9 rfl)
    · have h := ix_iff q_2 h
      refine ix_iconst (v := 1) X (ix_tb_at tb_X12_isDigit 6 rfl) (by decide) (pc1 := 13) rfl ?_
      refine ix_goto (tgt := 17) X (ix_tb_at tb_X12_isDigit 7 rfl) (by decide) ?_
      exact ix_zret X hr hlk (by decide) (ix_r2 (f := fun r => some (.int r)) (g := ix_w z) h) (ix_tb_at tb_X12_isDigit 9 rfl)
def tab_X12_beginPart : List (Nat × Instr × Nat) := [(0, .aload_n 0, 1), (1, .aload_n 0, 1), (2, .getfield 331, 3), (5, .invokevirtual 334, 3), (8, .istore_n 1, 1), (9, .aload_n 0, 1), (10, .getfield 337, 3), (13, .ifCond .le 35, 3), (16, .aload_n 0, 1), (17, .getfield 98, 3), (20, .aload_n 0, 1), (21, .getfield 337, 3), (24, .iconst 1, 1), (25, .isub, 1), (26, .iaload, 1), (27, .ifCond .le 21, 3), (30, .aload_n 0, 1), (31, .getfield 101, 3), (34, .aload_n 0, 1), (35, .getfield 337, 3), (38, .iconst 1, 1), (39, .isub, 1), (40, .iaload, 1), (41, .bipush 8, 2), (43, .if_icmp .ne 5, 3), (46, .iconst 0, 1), (47, .ireturn, 1), (48, .iload_n 1, 1), (49, .bipush 120, 2), (51, .if_icmp .ne 140, 3), (54, .aload_n 0, 1), (55, .dup, 1), (56, .getfield 331, 3), (59, .iconst 1, 1), (60, .iadd, 1), (61, .putfield 331, 3), (64, .iconst 0, 1), (65, .istore_n 2, 1), (66, .iconst 0, 1), (67, .istore_n 3, 1), (68, .iload_n 3, 1), (69, .iconst 3, 1), (70, .if_icmp .ge 50, 3), (73, .aload_n 0, 1), (74, .aload_n 0, 1), (75, .getfield 331, 3), (78, .invokevirtual 334, 3), (81, .invokestatic 340, 3), (84, .ifCond .eq 36, 3), (87, .bipush 10, 2), (89, .iload_n 2, 1), (90, .imul, 1), (91, .aload_n 0, 1), (92, .aload_n 0, 1), (93, .getfield 331, 3), (96, .invokevirtual 334, 3), (99, .iadd, 1), (100, .bipush 48, 2), (102, .isub, 1), (103, .istore_n 2, 1), (104, .iinc 3 1, 3), (107, .aload_n 0, 1), (108, .dup, 1), (109, .getfield 331, 3), (112, .iconst 1, 1), (113, .iadd, 1), (114, .putfield 331, 3), (117, .goto (-49), 3), (120, .iload_n 3, 1), (121, .ifCond .eq 17, 3), (124, .aload_n 0, 1), (125, .aload_n 0, 1), (126, .getfield 331, 3), (129, .invokevirtual 334, 3), (132, .invokestatic 340, 3), (135, .ifCond .eq 5, 3), (138, .iconst 0, 1), (139, .ireturn, 1), (140, .aload_n 0, 1), (141, .getfield 86, 3), (144, .aload_n 0, 1), (145, .getfield 292, 3), (148, .iload_n 2, 1), (149, .iastore, 1), (150, .aload_n 0, 1), (151, .dup, 1), (152, .getfield 292, 3), (155, .iconst 1, 1), (156, .iadd, 1), (157, .putfield 292, 3), (160, .aload_n 0, 1), (161, .getfield 95, 3), (164, .aload_n 0, 1), (165, .getfield 343, 3), (168, .aload_n 0, 1), (169, .getfield 292, 3), (172, .ineg, 1), (173, .iastore, 1), (174, .aload_n 0, 1), (175, .dup, 1), (176, .getfield 343, 3), (179, .iconst 1, 1), (180, .iadd, 1), (181, .putfield 343, 3), (184, .aload_n 0, 1), (185, .iconst 0, 1), (186, .putfield 346, 3), (189, .iconst 1, 1), (190, .ireturn, 1), (191, .iload_n 1, 1), (192, .bipush 33, 2), (194, .if_icmp .ne 35, 3), (197, .aload_n 0, 1), (198, .getfield 98, 3), (201, .aload_n 0, 1), (202, .getfield 337, 3), (205, .iconst 0, 1), (206, .iastore, 1), (207, .aload_n 0, 1), (208, .dup, 1), (209, .getfield 337, 3), (212, .iconst 1, 1), (213, .iadd, 1), (214, .putfield 337, 3), (217, .aload_n 0, 1), (218, .dup, 1), (219, .getfield 331, 3), (222, .iconst 1, 1), (223, .iadd, 1), (224, .putfield 331, 3), (227, .iconst 1, 1), (228, .ireturn, 1), (229, .iload_n 1, 1), (230, .bipush 38, 2), (232, .if_icmp .eq 23, 3), (235, .iload_n 1, 1), (236, .bipush 124, 2), (238, .if_icmp .eq 17, 3), (241, .iload_n 1, 1), (242, .bipush 106, 2), (244, .if_icmp .eq 11, 3), (247, .iload_n 1, 1), (248, .bipush 62, 2), (250, .if_icmp .eq 5, 3), (253, .iconst 0, 1), (254, .ireturn, 1), (255, .aload_n 0, 1), (256, .dup, 1), (257, .getfield 331, 3), (260, .iconst 1, 1), (261, .iadd, 1), (262, .putfield 331, 3), (265, .aload_n 0, 1), (266, .aload_n 0, 1), (267, .getfield 331, 3), (270, .invokevirtual 334, 3), (273, .bipush 40, 2), (275, .if_icmp .ne 12, 3), (278, .aload_n 0, 1), (279, .getfield 349, 3), (282, .bipush 8, 2), (284, .if_icmp .ne 5, 3), (287, .iconst 0, 1), (288, .ireturn, 1), (289, .aload_n 0, 1), (290, .dup, 1), (291, .getfield 331, 3), (294, .iconst 1, 1), (295, .iadd, 1), (296, .putfield 331, 3), (299, .aload_n 0, 1), (300, .dup, 1), (301, .getfield 349, 3), (304, .iconst 1, 1), (305, .iadd, 1), (306, .putfield 349, 3), (309, .aload_n 0, 1), (310, .getfield 98, 3), (313, .aload_n 0, 1), (314, .getfield 337, 3), (317, .iload_n 1, 1), (318, .iastore, 1), (319, .aload_n 0, 1), (320, .getfield 101, 3), (323, .aload_n 0, 1), (324, .getfield 337, 3), (327, .iconst 0, 1), (328, .iastore, 1), (329, .aload_n 0, 1), (330, .dup, 1), (331, .getfield 337, 3), (334, .iconst 1, 1), (335, .iadd, 1), (336, .putfield 337, 3), (339, .iconst 1, 1), (340, .ireturn, 1)]
theorem tb_X12_beginPart : ix_tab cX12_beginPart tab_X12_beginPart := by
  unfold ix_tab
  decide +kernel
noncomputable def f_X12_beginPart_255 (n : Nat) (z : ix_Z)  (a0 : Nat) (x1 : Int32) (d : ix_D2) : Option (Int32 × ix_D2) :=
  ix_ck (ix_ok z [11] a0) (ix_lt (ix_di d a0 51 ((d.1 a0 51) + 1)) (fun d_10 => ix_bd2 (f_X12_byteAt n z a0 (d_10.1 a0 51) d_10) (fun r_14 d_12 => ix_if (r_14 = 40) (ix_if (d_12.1 a0 50 = 8) (some (0, d_12)) (ix_lt (ix_di d_12 a0 51 ((d_12.1 a0 51) + 1)) (fun d_17 => ix_lt (ix_di d_17 a0 50 ((d_17.1 a0 50) + 1)) (fun d_19 => ix_bd1 (z.1 a0 47) (fun b_21 => ix_ck (ix_ix z 20 b_21 (d_19.1 a0 49)) (ix_lt (ix_di d_19 b_21 (ix_n (d_19.1 a0 49)) x1) (fun d_24 => ix_bd1 (z.1 a0 48) (fun b_26 => ix_ck (ix_ix z 20 b_26 (d_24.1 a0 49)) (ix_lt (ix_di d_24 b_26 (ix_n (d_24.1 a0 49)) 0) (fun d_29 => ix_lt (ix_di d_29 a0 49 ((d_29.1 a0 49) + 1)) (fun d_31 => some (1, d_31)))))))))))) (some (0, d_12)))))
noncomputable def f_X12_beginPart_120 (n : Nat) (z : ix_Z)  (a0 : Nat) (x2 : Int32) (x3 : Int32) (d : ix_D2) : Option (Int32 × ix_D2) :=
  ix_if (x3 = 0) (some (0, d)) (ix_ck (ix_ok z [11] a0) (ix_bd2 (f_X12_byteAt n z a0 (d.1 a0 51) d) (fun r_54 d_52 => ix_bd2 (f_X12_isDigit n z r_54 d_52) (fun r_57 d_55 => ix_if (r_57 = 0) (ix_bd1 (z.1 a0 41) (fun b_59 => ix_ck (ix_ix z 20 b_59 (d_55.1 a0 42)) (ix_lt (ix_di d_55 b_59 (ix_n (d_55.1 a0 42)) x2) (fun d_62 => ix_lt (ix_di d_62 a0 42 ((d_62.1 a0 42) + 1)) (fun d_64 => ix_bd1 (z.1 a0 45) (fun b_66 => ix_ck (ix_ix z 20 b_66 (d_64.1 a0 46)) (ix_lt (ix_di d_64 b_66 (ix_n (d_64.1 a0 46)) (-(d_64.1 a0 42))) (fun d_69 => ix_lt (ix_di d_69 a0 46 ((d_69.1 a0 46) + 1)) (fun d_71 => ix_lt (ix_di d_71 a0 52 0) (fun d_73 => some (1, d_73))))))))))) (some (0, d_55))))))
noncomputable def b_X12_beginPart_68 (n : Nat) (z : ix_Z)  (a0 : Nat) (rec68 : Int32 → Int32 → ix_D2 → Option (Int32 × ix_D2)) (x2 : Int32) (x3 : Int32) (d : ix_D2) : Option (Int32 × ix_D2) :=
  ix_if (3 ≤ x3) (f_X12_beginPart_120 n z  a0 x2 x3 d) (ix_ck (ix_ok z [11] a0) (ix_bd2 (f_X12_byteAt n z a0 (d.1 a0 51) d) (fun r_78 d_76 => ix_bd2 (f_X12_isDigit n z r_78 d_76) (fun r_81 d_79 => ix_if (r_81 = 0) (f_X12_beginPart_120 n z  a0 x2 x3 d_79) (ix_bd2 (f_X12_byteAt n z a0 (d_79.1 a0 51) d_79) (fun r_85 d_83 => ix_lt (((10 * x2) + r_85) - 48) (fun x2_86 => ix_lt (x3 + 1) (fun x3_88 => ix_lt (ix_di d_83 a0 51 ((d_83.1 a0 51) + 1)) (fun d_90 => rec68 x2_86 x3_88 d_90)))))))))
noncomputable def f_X12_beginPart_68 (n : Nat) (z : ix_Z)  (a0 : Nat) (x2 : Int32) (x3 : Int32) (d : ix_D2) : Option (Int32 × ix_D2) := ix_fix (b_X12_beginPart_68 n z  a0) (fun _ _ _ => none) n x2 x3 d
noncomputable def f_X12_beginPart_48 (n : Nat) (z : ix_Z)  (a0 : Nat) (x1 : Int32) (d : ix_D2) : Option (Int32 × ix_D2) :=
  ix_if (x1 = 120) (ix_ck (ix_ok z [11] a0) (ix_lt (ix_di d a0 51 ((d.1 a0 51) + 1)) (fun d_47 => f_X12_beginPart_68 n z  a0 0 0 d_47))) (ix_if (x1 = 33) (ix_ck (ix_ok z [11] a0) (ix_bd1 (z.1 a0 47) (fun b_37 => ix_ck (ix_ix z 20 b_37 (d.1 a0 49)) (ix_lt (ix_di d b_37 (ix_n (d.1 a0 49)) 0) (fun d_40 => ix_lt (ix_di d_40 a0 49 ((d_40.1 a0 49) + 1)) (fun d_42 => ix_lt (ix_di d_42 a0 51 ((d_42.1 a0 51) + 1)) (fun d_44 => some (1, d_44)))))))) (ix_if (x1 = 38) (f_X12_beginPart_255 n z  a0 x1 d) (ix_if (x1 = 124) (f_X12_beginPart_255 n z  a0 x1 d) (ix_if (x1 = 106) (f_X12_beginPart_255 n z  a0 x1 d) (ix_if (x1 = 62) (f_X12_beginPart_255 n z  a0 x1 d) (some (0, d)))))))
noncomputable def f_X12_beginPart (n : Nat) (z : ix_Z) (a0 : Nat) (d : ix_D2) : Option (Int32 × ix_D2) :=
  ix_ck (ix_ok z [11] a0) (ix_bd2 (f_X12_byteAt n z a0 (d.1 a0 51) d) (fun r_4 d_2 => ix_if (d_2.1 a0 49 ≤ 0) (f_X12_beginPart_48 n z  a0 r_4 d_2) (ix_bd1 (z.1 a0 47) (fun b_92 => ix_ck (ix_ix z 20 b_92 ((d_2.1 a0 49) - 1)) (ix_if (d_2.1 b_92 (ix_n ((d_2.1 a0 49) - 1)) ≤ 0) (f_X12_beginPart_48 n z  a0 r_4 d_2) (ix_bd1 (z.1 a0 48) (fun b_96 => ix_ck (ix_ix z 20 b_96 ((d_2.1 a0 49) - 1)) (ix_if (d_2.1 b_96 (ix_n ((d_2.1 a0 49) - 1)) = 8) (some (0, d_2)) (f_X12_beginPart_48 n z  a0 r_4 d_2)))))))))
set_option maxRecDepth 20000 in
theorem t_X12_beginPart_255 {l : Launch} {p : Program} {e : Env} {s : State} {m : MethodId} {args : Array Value} {below : List Frame} {meth : Method} {c : Code} {K : ix_Cx} (hKp : ix_Kp K) {n : Nat} {z : ix_Z} (X : ix_X p s m args c K cX12_beginPart RX12 4) (hr : meth.sig.returnType = (some .boolean)) (hlk : meth.locks = false)  {a0 : Nat} {x1 : Int32} {r : Int32} {d1 : ix_D2}  {d : ix_D2} (h : f_X12_beginPart_255 n z  a0 x1 d = some (r, d1)) : ix_G p l e (ix_rm 1 21 0 0) s m args below meth c (MQ below (ix_Post K (some (.int r)) (ix_w z d1)) args s 0 0 (ix_A K)) K 4 0 0 255 [(0, .ref (K.2.2.1 + a0)), (1, .int x1)] [] (ix_w z d) := by
  unfold f_X12_beginPart_255 at h
  refine ix_aload_n (i := 0) (j := 0) X (ix_tb_at tb_X12_beginPart 146 rfl) rfl rfl (pc1 := 256) rfl ?_
  refine ix_dup X (ix_tb_at tb_X12_beginPart 147 rfl) rfl (pc1 := 257) rfl ?_
  obtain ⟨k_9, h⟩ := ix_ck_some h
  refine iz_getI X fl_RX12_331 k_9 (ix_tb_at tb_X12_beginPart 148 rfl) (pc1 := 260) rfl ?_
  refine ix_iconst (v := 1) X (ix_tb_at tb_X12_beginPart 149 rfl) (by decide) (pc1 := 261) rfl ?_
  refine ix_iadd X (ix_tb_at tb_X12_beginPart 150 rfl) (pc1 := 262) rfl ?_
  obtain ⟨d_10, e_11, h⟩ := ix_lt_ex h
  refine iz_putI X fp_RX12_331 k_9 (ix_tb_at tb_X12_beginPart 151 rfl) e_11 (pc1 := 265) rfl ?_
  refine ix_aload_n (i := 0) (j := 0) X (ix_tb_at tb_X12_beginPart 152 rfl) rfl rfl (pc1 := 266) rfl ?_
  refine ix_aload_n (i := 0) (j := 0) X (ix_tb_at tb_X12_beginPart 153 rfl) rfl rfl (pc1 := 267) rfl ?_
  refine iz_getI X fl_RX12_331 k_9 (ix_tb_at tb_X12_beginPart 154 rfl) (pc1 := 270) rfl ?_
  obtain ⟨r_14, d_12, h_13, h⟩ := ix_bd2_ex h
  refine ix_callV (As := [.int (d_10.1 a0 51)]) (rest := []) (ci := 11) (T := TX12) (nf := 116) X mf_X12_byteAt mi_X12_byteAt ms_X12_byteAt rfl (Nat.le_of_ble_eq_true rfl) ml_RX12_334 ⟨Nat.le_of_ble_eq_true rfl, Nat.le_of_ble_eq_true rfl⟩ ⟨Nat.le_of_ble_eq_true rfl, Nat.le_of_ble_eq_true rfl⟩ rfl (Nat.le_of_ble_eq_true rfl) (ix_tb_at tb_X12_beginPart 155 rfl) ⟨k_9.1, List.mem_singleton.mp k_9.2⟩ (c_X12_byteAt hKp h_13) rfl (pc1 := 273) rfl ?_
  refine ix_bipush (v := 40) X (ix_tb_at tb_X12_beginPart 156 rfl) (by decide) (pc1 := 275) rfl ?_
  refine ix_icmp_ne (tgt := 287) X (ix_tb_at tb_X12_beginPart 157 rfl) (by decide) (pc1 := 278) rfl (fun q_15 => ?_) (fun q_15 => ?_)
  · have h := ix_iff q_15 h
    refine ix_iconst (v := 0) X (ix_tb_at tb_X12_beginPart 162 rfl) (by decide) (pc1 := 288) rfl ?_
    exact ix_zret X hr hlk (by decide) (ix_r2 (f := fun r => some (.int r)) (g := ix_w z) h) (ix_tb_at tb_X12_beginPart 163 rfl)
  · have h := ix_ift q_15 h
    refine ix_aload_n (i := 0) (j := 0) X (ix_tb_at tb_X12_beginPart 158 rfl) rfl rfl (pc1 := 279) rfl ?_
    refine iz_getI X fl_RX12_349 k_9 (ix_tb_at tb_X12_beginPart 159 rfl) (pc1 := 282) rfl ?_
    refine ix_bipush (v := 8) X (ix_tb_at tb_X12_beginPart 160 rfl) (by decide) (pc1 := 284) rfl ?_
    refine ix_icmp_ne (tgt := 289) X (ix_tb_at tb_X12_beginPart 161 rfl) (by decide) (pc1 := 287) rfl (fun q_16 => ?_) (fun q_16 => ?_)
    · have h := ix_iff q_16 h
      refine ix_aload_n (i := 0) (j := 0) X (ix_tb_at tb_X12_beginPart 164 rfl) rfl rfl (pc1 := 290) rfl ?_
      refine ix_dup X (ix_tb_at tb_X12_beginPart 165 rfl) rfl (pc1 := 291) rfl ?_
      refine iz_getI X fl_RX12_331 k_9 (ix_tb_at tb_X12_beginPart 166 rfl) (pc1 := 294) rfl ?_
      refine ix_iconst (v := 1) X (ix_tb_at tb_X12_beginPart 167 rfl) (by decide) (pc1 := 295) rfl ?_
      refine ix_iadd X (ix_tb_at tb_X12_beginPart 168 rfl) (pc1 := 296) rfl ?_
      obtain ⟨d_17, e_18, h⟩ := ix_lt_ex h
      refine iz_putI X fp_RX12_331 k_9 (ix_tb_at tb_X12_beginPart 169 rfl) e_18 (pc1 := 299) rfl ?_
      refine ix_aload_n (i := 0) (j := 0) X (ix_tb_at tb_X12_beginPart 170 rfl) rfl rfl (pc1 := 300) rfl ?_
      refine ix_dup X (ix_tb_at tb_X12_beginPart 171 rfl) rfl (pc1 := 301) rfl ?_
      refine iz_getI X fl_RX12_349 k_9 (ix_tb_at tb_X12_beginPart 172 rfl) (pc1 := 304) rfl ?_
      refine ix_iconst (v := 1) X (ix_tb_at tb_X12_beginPart 173 rfl) (by decide) (pc1 := 305) rfl ?_
      refine ix_iadd X (ix_tb_at tb_X12_beginPart 174 rfl) (pc1 := 306) rfl ?_
      obtain ⟨d_19, e_20, h⟩ := ix_lt_ex h
      refine iz_putI X fp_RX12_349 k_9 (ix_tb_at tb_X12_beginPart 175 rfl) e_20 (pc1 := 309) rfl ?_
      refine ix_aload_n (i := 0) (j := 0) X (ix_tb_at tb_X12_beginPart 176 rfl) rfl rfl (pc1 := 310) rfl ?_
      obtain ⟨b_21, q_22, h⟩ := ix_bd1_ex h
      refine iz_getR X fl_RX12_98 k_9 q_22 (ix_tb_at tb_X12_beginPart 177 rfl) (pc1 := 313) rfl ?_
      refine ix_aload_n (i := 0) (j := 0) X (ix_tb_at tb_X12_beginPart 178 rfl) rfl rfl (pc1 := 314) rfl ?_
      refine iz_getI X fl_RX12_337 k_9 (ix_tb_at tb_X12_beginPart 179 rfl) (pc1 := 317) rfl ?_
      refine ix_iload_n (i := 1) (j := 1) X (ix_tb_at tb_X12_beginPart 180 rfl) rfl rfl (pc1 := 318) rfl ?_
      obtain ⟨k_23, h⟩ := ix_ck_some h
      obtain ⟨d_24, e_25, h⟩ := ix_lt_ex h
      refine iz_iast X k_23 (ix_tb_at tb_X12_beginPart 181 rfl) e_25 (pc1 := 319) rfl ?_
      refine ix_aload_n (i := 0) (j := 0) X (ix_tb_at tb_X12_beginPart 182 rfl) rfl rfl (pc1 := 320) rfl ?_
      obtain ⟨b_26, q_27, h⟩ := ix_bd1_ex h
      refine iz_getR X fl_RX12_101 k_9 q_27 (ix_tb_at tb_X12_beginPart 183 rfl) (pc1 := 323) rfl ?_
      refine ix_aload_n (i := 0) (j := 0) X (ix_tb_at tb_X12_beginPart 184 rfl) rfl rfl (pc1 := 324) rfl ?_
      refine iz_getI X fl_RX12_337 k_9 (ix_tb_at tb_X12_beginPart 185 rfl) (pc1 := 327) rfl ?_
      refine ix_iconst (v := 0) X (ix_tb_at tb_X12_beginPart 186 rfl) (by decide) (pc1 := 328) rfl ?_
      obtain ⟨k_28, h⟩ := ix_ck_some h
      obtain ⟨d_29, e_30, h⟩ := ix_lt_ex h
      refine iz_iast X k_28 (ix_tb_at tb_X12_beginPart 187 rfl) e_30 (pc1 := 329) rfl ?_
      refine ix_aload_n (i := 0) (j := 0) X (ix_tb_at tb_X12_beginPart 188 rfl) rfl rfl (pc1 := 330) rfl ?_
      refine ix_dup X (ix_tb_at tb_X12_beginPart 189 rfl) rfl (pc1 := 331) rfl ?_
      refine iz_getI X fl_RX12_337 k_9 (ix_tb_at tb_X12_beginPart 190 rfl) (pc1 := 334) rfl ?_
      refine ix_iconst (v := 1) X (ix_tb_at tb_X12_beginPart 191 rfl) (by decide) (pc1 := 335) rfl ?_
      refine ix_iadd X (ix_tb_at tb_X12_beginPart 192 rfl) (pc1 := 336) rfl ?_
      obtain ⟨d_31, e_32, h⟩ := ix_lt_ex h
      refine iz_putI X fp_RX12_337 k_9 (ix_tb_at tb_X12_beginPart 193 rfl) e_32 (pc1 := 339) rfl ?_
      refine ix_iconst (v := 1) X (ix_tb_at tb_X12_beginPart 194 rfl) (by decide) (pc1 := 340) rfl ?_
      exact ix_zret X hr hlk (by decide) (ix_r2 (f := fun r => some (.int r)) (g := ix_w z) h) (ix_tb_at tb_X12_beginPart 195 rfl)
    · have h := ix_ift q_16 h
      refine ix_iconst (v := 0) X (ix_tb_at tb_X12_beginPart 162 rfl) (by decide) (pc1 := 288) rfl ?_
      exact ix_zret X hr hlk (by decide) (ix_r2 (f := fun r => some (.int r)) (g := ix_w z) h) (ix_tb_at tb_X12_beginPart 163 rfl)
set_option maxRecDepth 20000 in
theorem t_X12_beginPart_120 {l : Launch} {p : Program} {e : Env} {s : State} {m : MethodId} {args : Array Value} {below : List Frame} {meth : Method} {c : Code} {K : ix_Cx} (hKp : ix_Kp K) {n : Nat} {z : ix_Z} (X : ix_X p s m args c K cX12_beginPart RX12 4) (hr : meth.sig.returnType = (some .boolean)) (hlk : meth.locks = false)  {a0 : Nat} {x2 : Int32} {x3 : Int32} {r : Int32} {d1 : ix_D2}  {d : ix_D2} (h : f_X12_beginPart_120 n z  a0 x2 x3 d = some (r, d1)) : ix_G p l e (ix_rm 1 21 0 0) s m args below meth c (MQ below (ix_Post K (some (.int r)) (ix_w z d1)) args s 0 0 (ix_A K)) K 4 0 0 120 [(0, .ref (K.2.2.1 + a0)), (2, .int x2), (3, .int x3)] [] (ix_w z d) := by
  unfold f_X12_beginPart_120 at h
  refine ix_iload_n (i := 3) (j := 2) X (ix_tb_at tb_X12_beginPart 68 rfl) rfl rfl (pc1 := 121) rfl ?_
  refine ix_if_eq (tgt := 138) X (ix_tb_at tb_X12_beginPart 69 rfl) (by decide) (pc1 := 124) rfl (fun q_50 => ?_) (fun q_50 => ?_)
  · have h := ix_ift q_50 h
    refine ix_iconst (v := 0) X (ix_tb_at tb_X12_beginPart 76 rfl) (by decide) (pc1 := 139) rfl ?_
    exact ix_zret X hr hlk (by decide) (ix_r2 (f := fun r => some (.int r)) (g := ix_w z) h) (ix_tb_at tb_X12_beginPart 77 rfl)
  · have h := ix_iff q_50 h
    refine ix_aload_n (i := 0) (j := 0) X (ix_tb_at tb_X12_beginPart 70 rfl) rfl rfl (pc1 := 125) rfl ?_
    refine ix_aload_n (i := 0) (j := 0) X (ix_tb_at tb_X12_beginPart 71 rfl) rfl rfl (pc1 := 126) rfl ?_
    obtain ⟨k_51, h⟩ := ix_ck_some h
    refine iz_getI X fl_RX12_331 k_51 (ix_tb_at tb_X12_beginPart 72 rfl) (pc1 := 129) rfl ?_
    obtain ⟨r_54, d_52, h_53, h⟩ := ix_bd2_ex h
    refine ix_callV (As := [.int (d.1 a0 51)]) (rest := []) (ci := 11) (T := TX12) (nf := 116) X mf_X12_byteAt mi_X12_byteAt ms_X12_byteAt rfl (Nat.le_of_ble_eq_true rfl) ml_RX12_334 ⟨Nat.le_of_ble_eq_true rfl, Nat.le_of_ble_eq_true rfl⟩ ⟨Nat.le_of_ble_eq_true rfl, Nat.le_of_ble_eq_true rfl⟩ rfl (Nat.le_of_ble_eq_true rfl) (ix_tb_at tb_X12_beginPart 73 rfl) ⟨k_51.1, List.mem_singleton.mp k_51.2⟩ (c_X12_byteAt hKp h_53) rfl (pc1 := 132) rfl ?_
    obtain ⟨r_57, d_55, h_56, h⟩ := ix_bd2_ex h
    refine ix_callS (As := [.int r_54]) (rest := []) X mf_X12_isDigit st_X12_isDigit ml_RX12_340 ⟨Nat.le_of_ble_eq_true rfl, Nat.le_of_ble_eq_true rfl⟩ ⟨Nat.le_of_ble_eq_true rfl, Nat.le_of_ble_eq_true rfl⟩ rfl (Nat.le_of_ble_eq_true rfl) (ix_tb_at tb_X12_beginPart 74 rfl) (c_X12_isDigit hKp h_56) rfl (pc1 := 135) rfl ?_
    refine ix_if_eq (tgt := 140) X (ix_tb_at tb_X12_beginPart 75 rfl) (by decide) (pc1 := 138) rfl (fun q_58 => ?_) (fun q_58 => ?_)
    · have h := ix_ift q_58 h
      refine ix_aload_n (i := 0) (j := 0) X (ix_tb_at tb_X12_beginPart 78 rfl) rfl rfl (pc1 := 141) rfl ?_
      obtain ⟨b_59, q_60, h⟩ := ix_bd1_ex h
      refine iz_getR X fl_RX12_86 k_51 q_60 (ix_tb_at tb_X12_beginPart 79 rfl) (pc1 := 144) rfl ?_
      refine ix_aload_n (i := 0) (j := 0) X (ix_tb_at tb_X12_beginPart 80 rfl) rfl rfl (pc1 := 145) rfl ?_
      refine iz_getI X fl_RX12_292 k_51 (ix_tb_at tb_X12_beginPart 81 rfl) (pc1 := 148) rfl ?_
      refine ix_iload_n (i := 2) (j := 1) X (ix_tb_at tb_X12_beginPart 82 rfl) rfl rfl (pc1 := 149) rfl ?_
      obtain ⟨k_61, h⟩ := ix_ck_some h
      obtain ⟨d_62, e_63, h⟩ := ix_lt_ex h
      refine iz_iast X k_61 (ix_tb_at tb_X12_beginPart 83 rfl) e_63 (pc1 := 150) rfl ?_
      refine ix_aload_n (i := 0) (j := 0) X (ix_tb_at tb_X12_beginPart 84 rfl) rfl rfl (pc1 := 151) rfl ?_
      refine ix_dup X (ix_tb_at tb_X12_beginPart 85 rfl) rfl (pc1 := 152) rfl ?_
      refine iz_getI X fl_RX12_292 k_51 (ix_tb_at tb_X12_beginPart 86 rfl) (pc1 := 155) rfl ?_
      refine ix_iconst (v := 1) X (ix_tb_at tb_X12_beginPart 87 rfl) (by decide) (pc1 := 156) rfl ?_
      refine ix_iadd X (ix_tb_at tb_X12_beginPart 88 rfl) (pc1 := 157) rfl ?_
      obtain ⟨d_64, e_65, h⟩ := ix_lt_ex h
      refine iz_putI X fp_RX12_292 k_51 (ix_tb_at tb_X12_beginPart 89 rfl) e_65 (pc1 := 160) rfl ?_
      refine ix_aload_n (i := 0) (j := 0) X (ix_tb_at tb_X12_beginPart 90 rfl) rfl rfl (pc1 := 161) rfl ?_
      obtain ⟨b_66, q_67, h⟩ := ix_bd1_ex h
      refine iz_getR X fl_RX12_95 k_51 q_67 (ix_tb_at tb_X12_beginPart 91 rfl) (pc1 := 164) rfl ?_
      refine ix_aload_n (i := 0) (j := 0) X (ix_tb_at tb_X12_beginPart 92 rfl) rfl rfl (pc1 := 165) rfl ?_
      refine iz_getI X fl_RX12_343 k_51 (ix_tb_at tb_X12_beginPart 93 rfl) (pc1 := 168) rfl ?_
      refine ix_aload_n (i := 0) (j := 0) X (ix_tb_at tb_X12_beginPart 94 rfl) rfl rfl (pc1 := 169) rfl ?_
      refine iz_getI X fl_RX12_292 k_51 (ix_tb_at tb_X12_beginPart 95 rfl) (pc1 := 172) rfl ?_
      refine ix_ineg X (ix_tb_at tb_X12_beginPart 96 rfl) (pc1 := 173) rfl ?_
      obtain ⟨k_68, h⟩ := ix_ck_some h
      obtain ⟨d_69, e_70, h⟩ := ix_lt_ex h
      refine iz_iast X k_68 (ix_tb_at tb_X12_beginPart 97 rfl) e_70 (pc1 := 174) rfl ?_
      refine ix_aload_n (i := 0) (j := 0) X (ix_tb_at tb_X12_beginPart 98 rfl) rfl rfl (pc1 := 175) rfl ?_
      refine ix_dup X (ix_tb_at tb_X12_beginPart 99 rfl) rfl (pc1 := 176) rfl ?_
      refine iz_getI X fl_RX12_343 k_51 (ix_tb_at tb_X12_beginPart 100 rfl) (pc1 := 179) rfl ?_
      refine ix_iconst (v := 1) X (ix_tb_at tb_X12_beginPart 101 rfl) (by decide) (pc1 := 180) rfl ?_
      refine ix_iadd X (ix_tb_at tb_X12_beginPart 102 rfl) (pc1 := 181) rfl ?_
      obtain ⟨d_71, e_72, h⟩ := ix_lt_ex h
      refine iz_putI X fp_RX12_343 k_51 (ix_tb_at tb_X12_beginPart 103 rfl) e_72 (pc1 := 184) rfl ?_
      refine ix_aload_n (i := 0) (j := 0) X (ix_tb_at tb_X12_beginPart 104 rfl) rfl rfl (pc1 := 185) rfl ?_
      refine ix_iconst (v := 0) X (ix_tb_at tb_X12_beginPart 105 rfl) (by decide) (pc1 := 186) rfl ?_
      obtain ⟨d_73, e_74, h⟩ := ix_lt_ex h
      refine iz_putZ X fp_RX12_346 k_51 (ix_tb_at tb_X12_beginPart 106 rfl) (by decide) e_74 (pc1 := 189) rfl ?_
      refine ix_iconst (v := 1) X (ix_tb_at tb_X12_beginPart 107 rfl) (by decide) (pc1 := 190) rfl ?_
      exact ix_zret X hr hlk (by decide) (ix_r2 (f := fun r => some (.int r)) (g := ix_w z) h) (ix_tb_at tb_X12_beginPart 108 rfl)
    · have h := ix_iff q_58 h
      refine ix_iconst (v := 0) X (ix_tb_at tb_X12_beginPart 76 rfl) (by decide) (pc1 := 139) rfl ?_
      exact ix_zret X hr hlk (by decide) (ix_r2 (f := fun r => some (.int r)) (g := ix_w z) h) (ix_tb_at tb_X12_beginPart 77 rfl)
set_option maxRecDepth 20000 in
theorem tb_X12_beginPart_68 {l : Launch} {p : Program} {e : Env} {s : State} {m : MethodId} {args : Array Value} {below : List Frame} {meth : Method} {c : Code} {K : ix_Cx} (hKp : ix_Kp K) {n : Nat} {z : ix_Z} (X : ix_X p s m args c K cX12_beginPart RX12 4) (hr : meth.sig.returnType = (some .boolean)) (hlk : meth.locks = false)  {a0 : Nat} {rec68 : Int32 → Int32 → ix_D2 → Option (Int32 × ix_D2)} {r : Int32} {d1 : ix_D2} (hrec68 : ∀ (x2 : Int32) (x3 : Int32) (d : ix_D2), rec68 x2 x3 d = some (r, d1) → ix_G p l e (ix_rm 1 21 0 0) s m args below meth c (MQ below (ix_Post K (some (.int r)) (ix_w z d1)) args s 0 0 (ix_A K)) K 4 0 0 68 [(0, .ref (K.2.2.1 + a0)), (2, .int x2), (3, .int x3)] [] (ix_w z d)) {x2 : Int32} {x3 : Int32} {d : ix_D2} (h : b_X12_beginPart_68 n z  a0 rec68 x2 x3 d = some (r, d1)) : ix_G p l e (ix_rm 1 21 0 0) s m args below meth c (MQ below (ix_Post K (some (.int r)) (ix_w z d1)) args s 0 0 (ix_A K)) K 4 0 0 68 [(0, .ref (K.2.2.1 + a0)), (2, .int x2), (3, .int x3)] [] (ix_w z d) := by
  unfold b_X12_beginPart_68 at h
  refine ix_iload_n (i := 3) (j := 2) X (ix_tb_at tb_X12_beginPart 40 rfl) rfl rfl (pc1 := 69) rfl ?_
  refine ix_iconst (v := 3) X (ix_tb_at tb_X12_beginPart 41 rfl) (by decide) (pc1 := 70) rfl ?_
  refine ix_icmp_ge (tgt := 120) X (ix_tb_at tb_X12_beginPart 42 rfl) (by decide) (pc1 := 73) rfl (fun q_49 => ?_) (fun q_49 => ?_)
  · have h := ix_ift q_49 h
    refine ix_sub (L1 := [(0, .ref (K.2.2.1 + a0)), (2, .int x2), (3, .int x3)]) [0, 1, 2] rfl ?_
    exact t_X12_beginPart_120 hKp X hr hlk  h
  · have h := ix_iff q_49 h
    refine ix_aload_n (i := 0) (j := 0) X (ix_tb_at tb_X12_beginPart 43 rfl) rfl rfl (pc1 := 74) rfl ?_
    refine ix_aload_n (i := 0) (j := 0) X (ix_tb_at tb_X12_beginPart 44 rfl) rfl rfl (pc1 := 75) rfl ?_
    obtain ⟨k_75, h⟩ := ix_ck_some h
    refine iz_getI X fl_RX12_331 k_75 (ix_tb_at tb_X12_beginPart 45 rfl) (pc1 := 78) rfl ?_
    obtain ⟨r_78, d_76, h_77, h⟩ := ix_bd2_ex h
    refine ix_callV (As := [.int (d.1 a0 51)]) (rest := []) (ci := 11) (T := TX12) (nf := 116) X mf_X12_byteAt mi_X12_byteAt ms_X12_byteAt rfl (Nat.le_of_ble_eq_true rfl) ml_RX12_334 ⟨Nat.le_of_ble_eq_true rfl, Nat.le_of_ble_eq_true rfl⟩ ⟨Nat.le_of_ble_eq_true rfl, Nat.le_of_ble_eq_true rfl⟩ rfl (Nat.le_of_ble_eq_true rfl) (ix_tb_at tb_X12_beginPart 46 rfl) ⟨k_75.1, List.mem_singleton.mp k_75.2⟩ (c_X12_byteAt hKp h_77) rfl (pc1 := 81) rfl ?_
    obtain ⟨r_81, d_79, h_80, h⟩ := ix_bd2_ex h
    refine ix_callS (As := [.int r_78]) (rest := []) X mf_X12_isDigit st_X12_isDigit ml_RX12_340 ⟨Nat.le_of_ble_eq_true rfl, Nat.le_of_ble_eq_true rfl⟩ ⟨Nat.le_of_ble_eq_true rfl, Nat.le_of_ble_eq_true rfl⟩ rfl (Nat.le_of_ble_eq_true rfl) (ix_tb_at tb_X12_beginPart 47 rfl) (c_X12_isDigit hKp h_80) rfl (pc1 := 84) rfl ?_
    refine ix_if_eq (tgt := 120) X (ix_tb_at tb_X12_beginPart 48 rfl) (by decide) (pc1 := 87) rfl (fun q_82 => ?_) (fun q_82 => ?_)
    · have h := ix_ift q_82 h
      refine ix_sub (L1 := [(0, .ref (K.2.2.1 + a0)), (2, .int x2), (3, .int x3)]) [0, 1, 2] rfl ?_
      exact t_X12_beginPart_120 hKp X hr hlk  h
    · have h := ix_iff q_82 h
      refine ix_bipush (v := 10) X (ix_tb_at tb_X12_beginPart 49 rfl) (by decide) (pc1 := 89) rfl ?_
      refine ix_iload_n (i := 2) (j := 1) X (ix_tb_at tb_X12_beginPart 50 rfl) rfl rfl (pc1 := 90) rfl ?_
      refine ix_imul X (ix_tb_at tb_X12_beginPart 51 rfl) (pc1 := 91) rfl ?_
      refine ix_aload_n (i := 0) (j := 0) X (ix_tb_at tb_X12_beginPart 52 rfl) rfl rfl (pc1 := 92) rfl ?_
      refine ix_aload_n (i := 0) (j := 0) X (ix_tb_at tb_X12_beginPart 53 rfl) rfl rfl (pc1 := 93) rfl ?_
      refine iz_getI X fl_RX12_331 k_75 (ix_tb_at tb_X12_beginPart 54 rfl) (pc1 := 96) rfl ?_
      obtain ⟨r_85, d_83, h_84, h⟩ := ix_bd2_ex h
      refine ix_callV (As := [.int (d_79.1 a0 51)]) (rest := [.int (10 * x2)]) (ci := 11) (T := TX12) (nf := 116) X mf_X12_byteAt mi_X12_byteAt ms_X12_byteAt rfl (Nat.le_of_ble_eq_true rfl) ml_RX12_334 ⟨Nat.le_of_ble_eq_true rfl, Nat.le_of_ble_eq_true rfl⟩ ⟨Nat.le_of_ble_eq_true rfl, Nat.le_of_ble_eq_true rfl⟩ rfl (Nat.le_of_ble_eq_true rfl) (ix_tb_at tb_X12_beginPart 55 rfl) ⟨k_75.1, List.mem_singleton.mp k_75.2⟩ (c_X12_byteAt hKp h_84) rfl (pc1 := 99) rfl ?_
      refine ix_iadd X (ix_tb_at tb_X12_beginPart 56 rfl) (pc1 := 100) rfl ?_
      refine ix_bipush (v := 48) X (ix_tb_at tb_X12_beginPart 57 rfl) (by decide) (pc1 := 102) rfl ?_
      refine ix_isub X (ix_tb_at tb_X12_beginPart 58 rfl) (pc1 := 103) rfl ?_
      obtain ⟨x2_86, e_87, h⟩ := ix_lt_ex h
      refine ix_nmi e_87 ?_
      refine ix_istore_n (i := 2) (L1 := [(2, .int x2_86), (0, .ref (K.2.2.1 + a0)), (3, .int x3)]) X (ix_tb_at tb_X12_beginPart 59 rfl) rfl (Nat.le_of_ble_eq_true rfl) rfl (pc1 := 104) rfl ?_
      obtain ⟨x3_88, e_89, h⟩ := ix_lt_ex h
      refine ix_iinc (i := 3) (j := 2) (v := x3_88) (L1 := [(3, .int x3_88), (2, .int x2_86), (0, .ref (K.2.2.1 + a0))]) X (ix_tb_at tb_X12_beginPart 60 rfl) rfl (by rw [oi_1]; exact e_89.symm) (Nat.le_of_ble_eq_true rfl) rfl (pc1 := 107) rfl ?_
      refine ix_aload_n (i := 0) (j := 2) X (ix_tb_at tb_X12_beginPart 61 rfl) rfl rfl (pc1 := 108) rfl ?_
      refine ix_dup X (ix_tb_at tb_X12_beginPart 62 rfl) rfl (pc1 := 109) rfl ?_
      refine iz_getI X fl_RX12_331 k_75 (ix_tb_at tb_X12_beginPart 63 rfl) (pc1 := 112) rfl ?_
      refine ix_iconst (v := 1) X (ix_tb_at tb_X12_beginPart 64 rfl) (by decide) (pc1 := 113) rfl ?_
      refine ix_iadd X (ix_tb_at tb_X12_beginPart 65 rfl) (pc1 := 114) rfl ?_
      obtain ⟨d_90, e_91, h⟩ := ix_lt_ex h
      refine iz_putI X fp_RX12_331 k_75 (ix_tb_at tb_X12_beginPart 66 rfl) e_91 (pc1 := 117) rfl ?_
      refine ix_goto (tgt := 68) X (ix_tb_at tb_X12_beginPart 67 rfl) (by decide) ?_
      refine ix_sub (L1 := [(0, .ref (K.2.2.1 + a0)), (2, .int x2_86), (3, .int x3_88)]) [2, 1, 0] rfl ?_
      exact hrec68 x2_86 x3_88 d_90 h
theorem t_X12_beginPart_68 {l : Launch} {p : Program} {e : Env} {s : State} {m : MethodId} {args : Array Value} {below : List Frame} {meth : Method} {c : Code} {K : ix_Cx} (hKp : ix_Kp K) {n : Nat} {z : ix_Z} (X : ix_X p s m args c K cX12_beginPart RX12 4) (hr : meth.sig.returnType = (some .boolean)) (hlk : meth.locks = false)  {a0 : Nat} {r : Int32} {d1 : ix_D2}  {x2 : Int32} {x3 : Int32} {d : ix_D2} (h : f_X12_beginPart_68 n z  a0 x2 x3 d = some (r, d1)) : ix_G p l e (ix_rm 1 21 0 0) s m args below meth c (MQ below (ix_Post K (some (.int r)) (ix_w z d1)) args s 0 0 (ix_A K)) K 4 0 0 68 [(0, .ref (K.2.2.1 + a0)), (2, .int x2), (3, .int x3)] [] (ix_w z d) := by
  have key : ∀ (f : Nat) (x2 : Int32) (x3 : Int32) (d : ix_D2), ix_fix (b_X12_beginPart_68 n z  a0) (fun _ _ _ => none) f x2 x3 d = some (r, d1) → ix_G p l e (ix_rm 1 21 0 0) s m args below meth c (MQ below (ix_Post K (some (.int r)) (ix_w z d1)) args s 0 0 (ix_A K)) K 4 0 0 68 [(0, .ref (K.2.2.1 + a0)), (2, .int x2), (3, .int x3)] [] (ix_w z d) := by
    intro f
    induction f with
    | zero =>
      intro x2 x3 d h
      have h : (none : Option (Int32 × ix_D2)) = some (r, d1) := h
      cases h
    | succ f ih =>
      intro x2 x3 d h
      exact tb_X12_beginPart_68 hKp X hr hlk (rec68 := ix_fix (b_X12_beginPart_68 n z  a0) (fun _ _ _ => none) f)  ih h
  exact key n x2 x3 d h
set_option maxRecDepth 20000 in
theorem t_X12_beginPart_48 {l : Launch} {p : Program} {e : Env} {s : State} {m : MethodId} {args : Array Value} {below : List Frame} {meth : Method} {c : Code} {K : ix_Cx} (hKp : ix_Kp K) {n : Nat} {z : ix_Z} (X : ix_X p s m args c K cX12_beginPart RX12 4) (hr : meth.sig.returnType = (some .boolean)) (hlk : meth.locks = false)  {a0 : Nat} {x1 : Int32} {r : Int32} {d1 : ix_D2}  {d : ix_D2} (h : f_X12_beginPart_48 n z  a0 x1 d = some (r, d1)) : ix_G p l e (ix_rm 1 21 0 0) s m args below meth c (MQ below (ix_Post K (some (.int r)) (ix_w z d1)) args s 0 0 (ix_A K)) K 4 0 0 48 [(0, .ref (K.2.2.1 + a0)), (1, .int x1)] [] (ix_w z d) := by
  unfold f_X12_beginPart_48 at h
  refine ix_iload_n (i := 1) (j := 1) X (ix_tb_at tb_X12_beginPart 27 rfl) rfl rfl (pc1 := 49) rfl ?_
  refine ix_bipush (v := 120) X (ix_tb_at tb_X12_beginPart 28 rfl) (by decide) (pc1 := 51) rfl ?_
  refine ix_icmp_ne (tgt := 191) X (ix_tb_at tb_X12_beginPart 29 rfl) (by decide) (pc1 := 54) rfl (fun q_6 => ?_) (fun q_6 => ?_)
  · have h := ix_iff q_6 h
    refine ix_iload_n (i := 1) (j := 1) X (ix_tb_at tb_X12_beginPart 109 rfl) rfl rfl (pc1 := 192) rfl ?_
    refine ix_bipush (v := 33) X (ix_tb_at tb_X12_beginPart 110 rfl) (by decide) (pc1 := 194) rfl ?_
    refine ix_icmp_ne (tgt := 229) X (ix_tb_at tb_X12_beginPart 111 rfl) (by decide) (pc1 := 197) rfl (fun q_7 => ?_) (fun q_7 => ?_)
    · have h := ix_iff q_7 h
      refine ix_iload_n (i := 1) (j := 1) X (ix_tb_at tb_X12_beginPart 132 rfl) rfl rfl (pc1 := 230) rfl ?_
      refine ix_bipush (v := 38) X (ix_tb_at tb_X12_beginPart 133 rfl) (by decide) (pc1 := 232) rfl ?_
      refine ix_icmp_eq (tgt := 255) X (ix_tb_at tb_X12_beginPart 134 rfl) (by decide) (pc1 := 235) rfl (fun q_8 => ?_) (fun q_8 => ?_)
      · have h := ix_ift q_8 h
        refine ix_sub (L1 := [(0, .ref (K.2.2.1 + a0)), (1, .int x1)]) [0, 1] rfl ?_
        exact t_X12_beginPart_255 hKp X hr hlk  h
      · have h := ix_iff q_8 h
        refine ix_iload_n (i := 1) (j := 1) X (ix_tb_at tb_X12_beginPart 135 rfl) rfl rfl (pc1 := 236) rfl ?_
        refine ix_bipush (v := 124) X (ix_tb_at tb_X12_beginPart 136 rfl) (by decide) (pc1 := 238) rfl ?_
        refine ix_icmp_eq (tgt := 255) X (ix_tb_at tb_X12_beginPart 137 rfl) (by decide) (pc1 := 241) rfl (fun q_33 => ?_) (fun q_33 => ?_)
        · have h := ix_ift q_33 h
          refine ix_sub (L1 := [(0, .ref (K.2.2.1 + a0)), (1, .int x1)]) [0, 1] rfl ?_
          exact t_X12_beginPart_255 hKp X hr hlk  h
        · have h := ix_iff q_33 h
          refine ix_iload_n (i := 1) (j := 1) X (ix_tb_at tb_X12_beginPart 138 rfl) rfl rfl (pc1 := 242) rfl ?_
          refine ix_bipush (v := 106) X (ix_tb_at tb_X12_beginPart 139 rfl) (by decide) (pc1 := 244) rfl ?_
          refine ix_icmp_eq (tgt := 255) X (ix_tb_at tb_X12_beginPart 140 rfl) (by decide) (pc1 := 247) rfl (fun q_34 => ?_) (fun q_34 => ?_)
          · have h := ix_ift q_34 h
            refine ix_sub (L1 := [(0, .ref (K.2.2.1 + a0)), (1, .int x1)]) [0, 1] rfl ?_
            exact t_X12_beginPart_255 hKp X hr hlk  h
          · have h := ix_iff q_34 h
            refine ix_iload_n (i := 1) (j := 1) X (ix_tb_at tb_X12_beginPart 141 rfl) rfl rfl (pc1 := 248) rfl ?_
            refine ix_bipush (v := 62) X (ix_tb_at tb_X12_beginPart 142 rfl) (by decide) (pc1 := 250) rfl ?_
            refine ix_icmp_eq (tgt := 255) X (ix_tb_at tb_X12_beginPart 143 rfl) (by decide) (pc1 := 253) rfl (fun q_35 => ?_) (fun q_35 => ?_)
            · have h := ix_ift q_35 h
              refine ix_sub (L1 := [(0, .ref (K.2.2.1 + a0)), (1, .int x1)]) [0, 1] rfl ?_
              exact t_X12_beginPart_255 hKp X hr hlk  h
            · have h := ix_iff q_35 h
              refine ix_iconst (v := 0) X (ix_tb_at tb_X12_beginPart 144 rfl) (by decide) (pc1 := 254) rfl ?_
              exact ix_zret X hr hlk (by decide) (ix_r2 (f := fun r => some (.int r)) (g := ix_w z) h) (ix_tb_at tb_X12_beginPart 145 rfl)
    · have h := ix_ift q_7 h
      refine ix_aload_n (i := 0) (j := 0) X (ix_tb_at tb_X12_beginPart 112 rfl) rfl rfl (pc1 := 198) rfl ?_
      obtain ⟨k_36, h⟩ := ix_ck_some h
      obtain ⟨b_37, q_38, h⟩ := ix_bd1_ex h
      refine iz_getR X fl_RX12_98 k_36 q_38 (ix_tb_at tb_X12_beginPart 113 rfl) (pc1 := 201) rfl ?_
      refine ix_aload_n (i := 0) (j := 0) X (ix_tb_at tb_X12_beginPart 114 rfl) rfl rfl (pc1 := 202) rfl ?_
      refine iz_getI X fl_RX12_337 k_36 (ix_tb_at tb_X12_beginPart 115 rfl) (pc1 := 205) rfl ?_
      refine ix_iconst (v := 0) X (ix_tb_at tb_X12_beginPart 116 rfl) (by decide) (pc1 := 206) rfl ?_
      obtain ⟨k_39, h⟩ := ix_ck_some h
      obtain ⟨d_40, e_41, h⟩ := ix_lt_ex h
      refine iz_iast X k_39 (ix_tb_at tb_X12_beginPart 117 rfl) e_41 (pc1 := 207) rfl ?_
      refine ix_aload_n (i := 0) (j := 0) X (ix_tb_at tb_X12_beginPart 118 rfl) rfl rfl (pc1 := 208) rfl ?_
      refine ix_dup X (ix_tb_at tb_X12_beginPart 119 rfl) rfl (pc1 := 209) rfl ?_
      refine iz_getI X fl_RX12_337 k_36 (ix_tb_at tb_X12_beginPart 120 rfl) (pc1 := 212) rfl ?_
      refine ix_iconst (v := 1) X (ix_tb_at tb_X12_beginPart 121 rfl) (by decide) (pc1 := 213) rfl ?_
      refine ix_iadd X (ix_tb_at tb_X12_beginPart 122 rfl) (pc1 := 214) rfl ?_
      obtain ⟨d_42, e_43, h⟩ := ix_lt_ex h
      refine iz_putI X fp_RX12_337 k_36 (ix_tb_at tb_X12_beginPart 123 rfl) e_43 (pc1 := 217) rfl ?_
      refine ix_aload_n (i := 0) (j := 0) X (ix_tb_at tb_X12_beginPart 124 rfl) rfl rfl (pc1 := 218) rfl ?_
      refine ix_dup X (ix_tb_at tb_X12_beginPart 125 rfl) rfl (pc1 := 219) rfl ?_
      refine iz_getI X fl_RX12_331 k_36 (ix_tb_at tb_X12_beginPart 126 rfl) (pc1 := 222) rfl ?_
      refine ix_iconst (v := 1) X (ix_tb_at tb_X12_beginPart 127 rfl) (by decide) (pc1 := 223) rfl ?_
      refine ix_iadd X (ix_tb_at tb_X12_beginPart 128 rfl) (pc1 := 224) rfl ?_
      obtain ⟨d_44, e_45, h⟩ := ix_lt_ex h
      refine iz_putI X fp_RX12_331 k_36 (ix_tb_at tb_X12_beginPart 129 rfl) e_45 (pc1 := 227) rfl ?_
      refine ix_iconst (v := 1) X (ix_tb_at tb_X12_beginPart 130 rfl) (by decide) (pc1 := 228) rfl ?_
      exact ix_zret X hr hlk (by decide) (ix_r2 (f := fun r => some (.int r)) (g := ix_w z) h) (ix_tb_at tb_X12_beginPart 131 rfl)
  · have h := ix_ift q_6 h
    refine ix_aload_n (i := 0) (j := 0) X (ix_tb_at tb_X12_beginPart 30 rfl) rfl rfl (pc1 := 55) rfl ?_
    refine ix_dup X (ix_tb_at tb_X12_beginPart 31 rfl) rfl (pc1 := 56) rfl ?_
    obtain ⟨k_46, h⟩ := ix_ck_some h
    refine iz_getI X fl_RX12_331 k_46 (ix_tb_at tb_X12_beginPart 32 rfl) (pc1 := 59) rfl ?_
    refine ix_iconst (v := 1) X (ix_tb_at tb_X12_beginPart 33 rfl) (by decide) (pc1 := 60) rfl ?_
    refine ix_iadd X (ix_tb_at tb_X12_beginPart 34 rfl) (pc1 := 61) rfl ?_
    obtain ⟨d_47, e_48, h⟩ := ix_lt_ex h
    refine iz_putI X fp_RX12_331 k_46 (ix_tb_at tb_X12_beginPart 35 rfl) e_48 (pc1 := 64) rfl ?_
    refine ix_iconst (v := 0) X (ix_tb_at tb_X12_beginPart 36 rfl) (by decide) (pc1 := 65) rfl ?_
    refine ix_istore_n (i := 2) (L1 := [(2, .int 0), (0, .ref (K.2.2.1 + a0)), (1, .int x1)]) X (ix_tb_at tb_X12_beginPart 37 rfl) rfl (Nat.le_of_ble_eq_true rfl) rfl (pc1 := 66) rfl ?_
    refine ix_iconst (v := 0) X (ix_tb_at tb_X12_beginPart 38 rfl) (by decide) (pc1 := 67) rfl ?_
    refine ix_istore_n (i := 3) (L1 := [(3, .int 0), (2, .int 0), (0, .ref (K.2.2.1 + a0)), (1, .int x1)]) X (ix_tb_at tb_X12_beginPart 39 rfl) rfl (Nat.le_of_ble_eq_true rfl) rfl (pc1 := 68) rfl ?_
    refine ix_sub (L1 := [(0, .ref (K.2.2.1 + a0)), (2, .int 0), (3, .int 0)]) [2, 1, 0] rfl ?_
    exact t_X12_beginPart_68 hKp X hr hlk  h
set_option maxRecDepth 20000 in
theorem c_X12_beginPart {l : Launch} {K : ix_Cx} (hKp : ix_Kp K) {n : Nat} {z : ix_Z} {a0 : Nat} {d : ix_D2} {r : Int32} {d1 : ix_D2} (h : f_X12_beginPart n z a0 d = some (r, d1)) : ix_M l K yX12_beginPart cX12_beginPart 4 (some .boolean) 1 21 0 0 [.ref (K.2.2.1 + a0)] (ix_w z d) (some (.int r)) (ix_w z d1) := by
  refine ix_met mf_X12_beginPart hKp (Nat.le_of_ble_eq_true rfl) ?_
  intro p e s m args below meth c hr hlk hnm X
  have X : ix_X p s m args c K cX12_beginPart RX12 4 := X
  show ix_G p l e (ix_rm 1 21 0 0) s m args below meth c (MQ below (ix_Post K (some (.int r)) (ix_w z d1)) args s 0 0 (ix_A K)) K 4 0 0 0 [(0, .ref (K.2.2.1 + a0))] [] (ix_w z d)
  unfold f_X12_beginPart at h
  refine ix_aload_n (i := 0) (j := 0) X (ix_tb_at tb_X12_beginPart 0 rfl) rfl rfl (pc1 := 1) rfl ?_
  refine ix_aload_n (i := 0) (j := 0) X (ix_tb_at tb_X12_beginPart 1 rfl) rfl rfl (pc1 := 2) rfl ?_
  obtain ⟨k_1, h⟩ := ix_ck_some h
  refine iz_getI X fl_RX12_331 k_1 (ix_tb_at tb_X12_beginPart 2 rfl) (pc1 := 5) rfl ?_
  obtain ⟨r_4, d_2, h_3, h⟩ := ix_bd2_ex h
  refine ix_callV (As := [.int (d.1 a0 51)]) (rest := []) (ci := 11) (T := TX12) (nf := 116) X mf_X12_byteAt mi_X12_byteAt ms_X12_byteAt rfl (Nat.le_of_ble_eq_true rfl) ml_RX12_334 ⟨Nat.le_of_ble_eq_true rfl, Nat.le_of_ble_eq_true rfl⟩ ⟨Nat.le_of_ble_eq_true rfl, Nat.le_of_ble_eq_true rfl⟩ rfl (Nat.le_of_ble_eq_true rfl) (ix_tb_at tb_X12_beginPart 3 rfl) ⟨k_1.1, List.mem_singleton.mp k_1.2⟩ (c_X12_byteAt hKp h_3) rfl (pc1 := 8) rfl ?_
  refine ix_istore_n (i := 1) (L1 := [(1, .int r_4), (0, .ref (K.2.2.1 + a0))]) X (ix_tb_at tb_X12_beginPart 4 rfl) rfl (Nat.le_of_ble_eq_true rfl) rfl (pc1 := 9) rfl ?_
  refine ix_aload_n (i := 0) (j := 1) X (ix_tb_at tb_X12_beginPart 5 rfl) rfl rfl (pc1 := 10) rfl ?_
  refine iz_getI X fl_RX12_337 k_1 (ix_tb_at tb_X12_beginPart 6 rfl) (pc1 := 13) rfl ?_
  refine ix_if_le (tgt := 48) X (ix_tb_at tb_X12_beginPart 7 rfl) (by decide) (pc1 := 16) rfl (fun q_5 => ?_) (fun q_5 => ?_)
  · have h := ix_ift q_5 h
    refine ix_sub (L1 := [(0, .ref (K.2.2.1 + a0)), (1, .int r_4)]) [1, 0] rfl ?_
    exact t_X12_beginPart_48 hKp X hr hlk  h
  · have h := ix_iff q_5 h
    refine ix_aload_n (i := 0) (j := 1) X (ix_tb_at tb_X12_beginPart 8 rfl) rfl rfl (pc1 := 17) rfl ?_
    obtain ⟨b_92, q_93, h⟩ := ix_bd1_ex h
    refine iz_getR X fl_RX12_98 k_1 q_93 (ix_tb_at tb_X12_beginPart 9 rfl) (pc1 := 20) rfl ?_
    refine ix_aload_n (i := 0) (j := 1) X (ix_tb_at tb_X12_beginPart 10 rfl) rfl rfl (pc1 := 21) rfl ?_
    refine iz_getI X fl_RX12_337 k_1 (ix_tb_at tb_X12_beginPart 11 rfl) (pc1 := 24) rfl ?_
    refine ix_iconst (v := 1) X (ix_tb_at tb_X12_beginPart 12 rfl) (by decide) (pc1 := 25) rfl ?_
    refine ix_isub X (ix_tb_at tb_X12_beginPart 13 rfl) (pc1 := 26) rfl ?_
    obtain ⟨k_94, h⟩ := ix_ck_some h
    refine iz_iald X k_94 (ix_tb_at tb_X12_beginPart 14 rfl) (pc1 := 27) rfl ?_
    refine ix_if_le (tgt := 48) X (ix_tb_at tb_X12_beginPart 15 rfl) (by decide) (pc1 := 30) rfl (fun q_95 => ?_) (fun q_95 => ?_)
    · have h := ix_ift q_95 h
      refine ix_sub (L1 := [(0, .ref (K.2.2.1 + a0)), (1, .int r_4)]) [1, 0] rfl ?_
      exact t_X12_beginPart_48 hKp X hr hlk  h
    · have h := ix_iff q_95 h
      refine ix_aload_n (i := 0) (j := 1) X (ix_tb_at tb_X12_beginPart 16 rfl) rfl rfl (pc1 := 31) rfl ?_
      obtain ⟨b_96, q_97, h⟩ := ix_bd1_ex h
      refine iz_getR X fl_RX12_101 k_1 q_97 (ix_tb_at tb_X12_beginPart 17 rfl) (pc1 := 34) rfl ?_
      refine ix_aload_n (i := 0) (j := 1) X (ix_tb_at tb_X12_beginPart 18 rfl) rfl rfl (pc1 := 35) rfl ?_
      refine iz_getI X fl_RX12_337 k_1 (ix_tb_at tb_X12_beginPart 19 rfl) (pc1 := 38) rfl ?_
      refine ix_iconst (v := 1) X (ix_tb_at tb_X12_beginPart 20 rfl) (by decide) (pc1 := 39) rfl ?_
      refine ix_isub X (ix_tb_at tb_X12_beginPart 21 rfl) (pc1 := 40) rfl ?_
      obtain ⟨k_98, h⟩ := ix_ck_some h
      refine iz_iald X k_98 (ix_tb_at tb_X12_beginPart 22 rfl) (pc1 := 41) rfl ?_
      refine ix_bipush (v := 8) X (ix_tb_at tb_X12_beginPart 23 rfl) (by decide) (pc1 := 43) rfl ?_
      refine ix_icmp_ne (tgt := 48) X (ix_tb_at tb_X12_beginPart 24 rfl) (by decide) (pc1 := 46) rfl (fun q_99 => ?_) (fun q_99 => ?_)
      · have h := ix_iff q_99 h
        refine ix_sub (L1 := [(0, .ref (K.2.2.1 + a0)), (1, .int r_4)]) [1, 0] rfl ?_
        exact t_X12_beginPart_48 hKp X hr hlk  h
      · have h := ix_ift q_99 h
        refine ix_iconst (v := 0) X (ix_tb_at tb_X12_beginPart 25 rfl) (by decide) (pc1 := 47) rfl ?_
        exact ix_zret X hr hlk (by decide) (ix_r2 (f := fun r => some (.int r)) (g := ix_w z) h) (ix_tb_at tb_X12_beginPart 26 rfl)
def tab_X12_endPart : List (Nat × Instr × Nat) := [(0, .aload_n 0, 1), (1, .getfield 337, 3), (4, .ifCond .le 50, 3), (7, .aload_n 0, 1), (8, .getfield 98, 3), (11, .aload_n 0, 1), (12, .getfield 337, 3), (15, .iconst 1, 1), (16, .isub, 1), (17, .iaload, 1), (18, .ifCond .ne 36, 3), (21, .aload_n 0, 1), (22, .getfield 95, 3), (25, .aload_n 0, 1), (26, .getfield 343, 3), (29, .iconst 0, 1), (30, .iastore, 1), (31, .aload_n 0, 1), (32, .dup, 1), (33, .getfield 343, 3), (36, .iconst 1, 1), (37, .iadd, 1), (38, .putfield 343, 3), (41, .aload_n 0, 1), (42, .dup, 1), (43, .getfield 337, 3), (46, .iconst 1, 1), (47, .isub, 1), (48, .putfield 337, 3), (51, .goto (-51), 3), (54, .aload_n 0, 1), (55, .getfield 337, 3), (58, .ifCond .ne 5, 3), (61, .iconst 0, 1), (62, .ireturn, 1), (63, .aload_n 0, 1), (64, .getfield 337, 3), (67, .iconst 1, 1), (68, .isub, 1), (69, .istore_n 1, 1), (70, .aload_n 0, 1), (71, .getfield 101, 3), (74, .iload_n 1, 1), (75, .dup2, 1), (76, .iaload, 1), (77, .iconst 1, 1), (78, .iadd, 1), (79, .iastore, 1), (80, .aload_n 0, 1), (81, .aload_n 0, 1), (82, .getfield 331, 3), (85, .invokevirtual 334, 3), (88, .istore_n 2, 1), (89, .aload_n 0, 1), (90, .getfield 98, 3), (93, .iload_n 1, 1), (94, .iaload, 1), (95, .bipush 62, 2), (97, .if_icmp .ne 7, 3), (100, .iconst 1, 1), (101, .goto 4, 3), (104, .iconst 0, 1), (105, .istore_n 3, 1), (106, .iload_n 2, 1), (107, .bipush 44, 2), (109, .if_icmp .ne 34, 3), (112, .iload_n 3, 1), (113, .ifCond .eq 13, 3), (116, .aload_n 0, 1), (117, .getfield 101, 3), (120, .iload_n 1, 1), (121, .iaload, 1), (122, .iconst 2, 1), (123, .if_icmp .eq 20, 3), (126, .aload_n 0, 1), (127, .dup, 1), (128, .getfield 331, 3), (131, .iconst 1, 1), (132, .iadd, 1), (133, .putfield 331, 3), (136, .aload_n 0, 1), (137, .iconst 1, 1), (138, .putfield 346, 3), (141, .iconst 1, 1), (142, .ireturn, 1), (143, .iload_n 2, 1), (144, .bipush 41, 2), (146, .if_icmp .ne 17, 3), (149, .iload_n 3, 1), (150, .ifCond .eq 15, 3), (153, .aload_n 0, 1), (154, .getfield 101, 3), (157, .iload_n 1, 1), (158, .iaload, 1), (159, .iconst 2, 1), (160, .if_icmp .ge 5, 3), (163, .iconst 0, 1), (164, .ireturn, 1), (165, .aload_n 0, 1), (166, .getfield 95, 3), (169, .aload_n 0, 1), (170, .getfield 343, 3), (173, .sipush 1000, 3), (176, .aload_n 0, 1), (177, .getfield 98, 3), (180, .iload_n 1, 1), (181, .iaload, 1), (182, .imul, 1), (183, .aload_n 0, 1), (184, .getfield 101, 3), (187, .iload_n 1, 1), (188, .iaload, 1), (189, .iadd, 1), (190, .iastore, 1), (191, .aload_n 0, 1), (192, .dup, 1), (193, .getfield 343, 3), (196, .iconst 1, 1), (197, .iadd, 1), (198, .putfield 343, 3), (201, .aload_n 0, 1), (202, .dup, 1), (203, .getfield 337, 3), (206, .iconst 1, 1), (207, .isub, 1), (208, .putfield 337, 3), (211, .aload_n 0, 1), (212, .dup, 1), (213, .getfield 349, 3), (216, .iconst 1, 1), (217, .isub, 1), (218, .putfield 349, 3), (221, .aload_n 0, 1), (222, .dup, 1), (223, .getfield 331, 3), (226, .iconst 1, 1), (227, .iadd, 1), (228, .putfield 331, 3), (231, .iconst 1, 1), (232, .ireturn, 1)]
theorem tb_X12_endPart : ix_tab cX12_endPart tab_X12_endPart := by
  unfold ix_tab
  decide +kernel
noncomputable def f_X12_endPart_165 (n : Nat) (z : ix_Z)  (a0 : Nat) (x1 : Int32) (d : ix_D2) : Option (Int32 × ix_D2) :=
  ix_ck (ix_ok z [11] a0) (ix_bd1 (z.1 a0 45) (fun b_23 => ix_bd1 (z.1 a0 47) (fun b_25 => ix_ck (ix_ix z 20 b_25 x1) (ix_bd1 (z.1 a0 48) (fun b_28 => ix_ck (ix_ix z 20 b_28 x1) (ix_ck (ix_ix z 20 b_23 (d.1 a0 46)) (ix_lt (ix_di d b_23 (ix_n (d.1 a0 46)) ((1000 * (d.1 b_25 (ix_n x1))) + (d.1 b_28 (ix_n x1)))) (fun d_32 => ix_lt (ix_di d_32 a0 46 ((d_32.1 a0 46) + 1)) (fun d_34 => ix_lt (ix_di d_34 a0 49 ((d_34.1 a0 49) - 1)) (fun d_36 => ix_lt (ix_di d_36 a0 50 ((d_36.1 a0 50) - 1)) (fun d_38 => ix_lt (ix_di d_38 a0 51 ((d_38.1 a0 51) + 1)) (fun d_40 => some (1, d_40)))))))))))))
noncomputable def f_X12_endPart_143 (n : Nat) (z : ix_Z)  (a0 : Nat) (x1 : Int32) (x2 : Int32) (x3 : Int32) (d : ix_D2) : Option (Int32 × ix_D2) :=
  ix_if (x2 = 41) (ix_if (x3 = 0) (f_X12_endPart_165 n z  a0 x1 d) (ix_ck (ix_ok z [11] a0) (ix_bd1 (z.1 a0 48) (fun b_43 => ix_ck (ix_ix z 20 b_43 x1) (ix_if (2 ≤ d.1 b_43 (ix_n x1)) (f_X12_endPart_165 n z  a0 x1 d) (some (0, d))))))) (some (0, d))
noncomputable def f_X12_endPart_126 (n : Nat) (z : ix_Z)  (a0 : Nat) (d : ix_D2) : Option (Int32 × ix_D2) :=
  ix_ck (ix_ok z [11] a0) (ix_lt (ix_di d a0 51 ((d.1 a0 51) + 1)) (fun d_49 => ix_lt (ix_di d_49 a0 52 1) (fun d_51 => some (1, d_51))))
noncomputable def f_X12_endPart_105 (n : Nat) (z : ix_Z)  (a0 : Nat) (x1 : Int32) (x2 : Int32) (s0 : Int32) (d : ix_D2) : Option (Int32 × ix_D2) :=
  ix_if (x2 = 44) (ix_if (s0 = 0) (f_X12_endPart_126 n z  a0 d) (ix_ck (ix_ok z [11] a0) (ix_bd1 (z.1 a0 48) (fun b_54 => ix_ck (ix_ix z 20 b_54 x1) (ix_if (d.1 b_54 (ix_n x1) = 2) (f_X12_endPart_143 n z  a0 x1 x2 s0 d) (f_X12_endPart_126 n z  a0 d)))))) (f_X12_endPart_143 n z  a0 x1 x2 s0 d)
noncomputable def f_X12_endPart_54 (n : Nat) (z : ix_Z)  (a0 : Nat) (d : ix_D2) : Option (Int32 × ix_D2) :=
  ix_ck (ix_ok z [11] a0) (ix_if (d.1 a0 49 = 0) (some (0, d)) (ix_lt ((d.1 a0 49) - 1) (fun x1_5 => ix_bd1 (z.1 a0 48) (fun b_7 => ix_ck (ix_ix z 20 b_7 x1_5) (ix_lt (ix_di d b_7 (ix_n x1_5) ((d.1 b_7 (ix_n x1_5)) + 1)) (fun d_10 => ix_bd2 (f_X12_byteAt n z a0 (d_10.1 a0 51) d_10) (fun r_14 d_12 => ix_bd1 (z.1 a0 47) (fun b_15 => ix_ck (ix_ix z 20 b_15 x1_5) (ix_if (d_12.1 b_15 (ix_n x1_5) = 62) (f_X12_endPart_105 n z  a0 x1_5 r_14 1 d_12) (f_X12_endPart_105 n z  a0 x1_5 r_14 0 d_12))))))))))
noncomputable def b_X12_endPart_0 (n : Nat) (z : ix_Z)  (a0 : Nat) (rec0 : ix_D2 → Option (Int32 × ix_D2))  (d : ix_D2) : Option (Int32 × ix_D2) :=
  ix_ck (ix_ok z [11] a0) (ix_if (d.1 a0 49 ≤ 0) (f_X12_endPart_54 n z  a0 d) (ix_bd1 (z.1 a0 47) (fun b_58 => ix_ck (ix_ix z 20 b_58 ((d.1 a0 49) - 1)) (ix_if (d.1 b_58 (ix_n ((d.1 a0 49) - 1)) = 0) (ix_bd1 (z.1 a0 45) (fun b_62 => ix_ck (ix_ix z 20 b_62 (d.1 a0 46)) (ix_lt (ix_di d b_62 (ix_n (d.1 a0 46)) 0) (fun d_65 => ix_lt (ix_di d_65 a0 46 ((d_65.1 a0 46) + 1)) (fun d_67 => ix_lt (ix_di d_67 a0 49 ((d_67.1 a0 49) - 1)) (fun d_69 => rec0  d_69)))))) (f_X12_endPart_54 n z  a0 d)))))
noncomputable def f_X12_endPart_0 (n : Nat) (z : ix_Z)  (a0 : Nat)  (d : ix_D2) : Option (Int32 × ix_D2) := ix_fix (b_X12_endPart_0 n z  a0) (fun  _ => none) n  d
noncomputable def f_X12_endPart (n : Nat) (z : ix_Z) (a0 : Nat) (d : ix_D2) : Option (Int32 × ix_D2) :=
  f_X12_endPart_0 n z  a0  d
set_option maxRecDepth 20000 in
theorem t_X12_endPart_165 {l : Launch} {p : Program} {e : Env} {s : State} {m : MethodId} {args : Array Value} {below : List Frame} {meth : Method} {c : Code} {K : ix_Cx} (hKp : ix_Kp K) {n : Nat} {z : ix_Z} (X : ix_X p s m args c K cX12_endPart RX12 4) (hr : meth.sig.returnType = (some .boolean)) (hlk : meth.locks = false)  {a0 : Nat} {x1 : Int32} {r : Int32} {d1 : ix_D2}  {d : ix_D2} (h : f_X12_endPart_165 n z  a0 x1 d = some (r, d1)) : ix_G p l e (ix_rm 1 21 0 0) s m args below meth c (MQ below (ix_Post K (some (.int r)) (ix_w z d1)) args s 0 0 (ix_A K)) K 4 0 0 165 [(0, .ref (K.2.2.1 + a0)), (1, .int x1)] [] (ix_w z d) := by
  unfold f_X12_endPart_165 at h
  refine ix_aload_n (i := 0) (j := 0) X (ix_tb_at tb_X12_endPart 98 rfl) rfl rfl (pc1 := 166) rfl ?_
  obtain ⟨k_22, h⟩ := ix_ck_some h
  obtain ⟨b_23, q_24, h⟩ := ix_bd1_ex h
  refine iz_getR X fl_RX12_95 k_22 q_24 (ix_tb_at tb_X12_endPart 99 rfl) (pc1 := 169) rfl ?_
  refine ix_aload_n (i := 0) (j := 0) X (ix_tb_at tb_X12_endPart 100 rfl) rfl rfl (pc1 := 170) rfl ?_
  refine iz_getI X fl_RX12_343 k_22 (ix_tb_at tb_X12_endPart 101 rfl) (pc1 := 173) rfl ?_
  refine ix_sipush (v := 1000) X (ix_tb_at tb_X12_endPart 102 rfl) (by decide) (pc1 := 176) rfl ?_
  refine ix_aload_n (i := 0) (j := 0) X (ix_tb_at tb_X12_endPart 103 rfl) rfl rfl (pc1 := 177) rfl ?_
  obtain ⟨b_25, q_26, h⟩ := ix_bd1_ex h
  refine iz_getR X fl_RX12_98 k_22 q_26 (ix_tb_at tb_X12_endPart 104 rfl) (pc1 := 180) rfl ?_
  refine ix_iload_n (i := 1) (j := 1) X (ix_tb_at tb_X12_endPart 105 rfl) rfl rfl (pc1 := 181) rfl ?_
  obtain ⟨k_27, h⟩ := ix_ck_some h
  refine iz_iald X k_27 (ix_tb_at tb_X12_endPart 106 rfl) (pc1 := 182) rfl ?_
  refine ix_imul X (ix_tb_at tb_X12_endPart 107 rfl) (pc1 := 183) rfl ?_
  refine ix_aload_n (i := 0) (j := 0) X (ix_tb_at tb_X12_endPart 108 rfl) rfl rfl (pc1 := 184) rfl ?_
  obtain ⟨b_28, q_29, h⟩ := ix_bd1_ex h
  refine iz_getR X fl_RX12_101 k_22 q_29 (ix_tb_at tb_X12_endPart 109 rfl) (pc1 := 187) rfl ?_
  refine ix_iload_n (i := 1) (j := 1) X (ix_tb_at tb_X12_endPart 110 rfl) rfl rfl (pc1 := 188) rfl ?_
  obtain ⟨k_30, h⟩ := ix_ck_some h
  refine iz_iald X k_30 (ix_tb_at tb_X12_endPart 111 rfl) (pc1 := 189) rfl ?_
  refine ix_iadd X (ix_tb_at tb_X12_endPart 112 rfl) (pc1 := 190) rfl ?_
  obtain ⟨k_31, h⟩ := ix_ck_some h
  obtain ⟨d_32, e_33, h⟩ := ix_lt_ex h
  refine iz_iast X k_31 (ix_tb_at tb_X12_endPart 113 rfl) e_33 (pc1 := 191) rfl ?_
  refine ix_aload_n (i := 0) (j := 0) X (ix_tb_at tb_X12_endPart 114 rfl) rfl rfl (pc1 := 192) rfl ?_
  refine ix_dup X (ix_tb_at tb_X12_endPart 115 rfl) rfl (pc1 := 193) rfl ?_
  refine iz_getI X fl_RX12_343 k_22 (ix_tb_at tb_X12_endPart 116 rfl) (pc1 := 196) rfl ?_
  refine ix_iconst (v := 1) X (ix_tb_at tb_X12_endPart 117 rfl) (by decide) (pc1 := 197) rfl ?_
  refine ix_iadd X (ix_tb_at tb_X12_endPart 118 rfl) (pc1 := 198) rfl ?_
  obtain ⟨d_34, e_35, h⟩ := ix_lt_ex h
  refine iz_putI X fp_RX12_343 k_22 (ix_tb_at tb_X12_endPart 119 rfl) e_35 (pc1 := 201) rfl ?_
  refine ix_aload_n (i := 0) (j := 0) X (ix_tb_at tb_X12_endPart 120 rfl) rfl rfl (pc1 := 202) rfl ?_
  refine ix_dup X (ix_tb_at tb_X12_endPart 121 rfl) rfl (pc1 := 203) rfl ?_
  refine iz_getI X fl_RX12_337 k_22 (ix_tb_at tb_X12_endPart 122 rfl) (pc1 := 206) rfl ?_
  refine ix_iconst (v := 1) X (ix_tb_at tb_X12_endPart 123 rfl) (by decide) (pc1 := 207) rfl ?_
  refine ix_isub X (ix_tb_at tb_X12_endPart 124 rfl) (pc1 := 208) rfl ?_
  obtain ⟨d_36, e_37, h⟩ := ix_lt_ex h
  refine iz_putI X fp_RX12_337 k_22 (ix_tb_at tb_X12_endPart 125 rfl) e_37 (pc1 := 211) rfl ?_
  refine ix_aload_n (i := 0) (j := 0) X (ix_tb_at tb_X12_endPart 126 rfl) rfl rfl (pc1 := 212) rfl ?_
  refine ix_dup X (ix_tb_at tb_X12_endPart 127 rfl) rfl (pc1 := 213) rfl ?_
  refine iz_getI X fl_RX12_349 k_22 (ix_tb_at tb_X12_endPart 128 rfl) (pc1 := 216) rfl ?_
  refine ix_iconst (v := 1) X (ix_tb_at tb_X12_endPart 129 rfl) (by decide) (pc1 := 217) rfl ?_
  refine ix_isub X (ix_tb_at tb_X12_endPart 130 rfl) (pc1 := 218) rfl ?_
  obtain ⟨d_38, e_39, h⟩ := ix_lt_ex h
  refine iz_putI X fp_RX12_349 k_22 (ix_tb_at tb_X12_endPart 131 rfl) e_39 (pc1 := 221) rfl ?_
  refine ix_aload_n (i := 0) (j := 0) X (ix_tb_at tb_X12_endPart 132 rfl) rfl rfl (pc1 := 222) rfl ?_
  refine ix_dup X (ix_tb_at tb_X12_endPart 133 rfl) rfl (pc1 := 223) rfl ?_
  refine iz_getI X fl_RX12_331 k_22 (ix_tb_at tb_X12_endPart 134 rfl) (pc1 := 226) rfl ?_
  refine ix_iconst (v := 1) X (ix_tb_at tb_X12_endPart 135 rfl) (by decide) (pc1 := 227) rfl ?_
  refine ix_iadd X (ix_tb_at tb_X12_endPart 136 rfl) (pc1 := 228) rfl ?_
  obtain ⟨d_40, e_41, h⟩ := ix_lt_ex h
  refine iz_putI X fp_RX12_331 k_22 (ix_tb_at tb_X12_endPart 137 rfl) e_41 (pc1 := 231) rfl ?_
  refine ix_iconst (v := 1) X (ix_tb_at tb_X12_endPart 138 rfl) (by decide) (pc1 := 232) rfl ?_
  exact ix_zret X hr hlk (by decide) (ix_r2 (f := fun r => some (.int r)) (g := ix_w z) h) (ix_tb_at tb_X12_endPart 139 rfl)
set_option maxRecDepth 20000 in
theorem t_X12_endPart_143 {l : Launch} {p : Program} {e : Env} {s : State} {m : MethodId} {args : Array Value} {below : List Frame} {meth : Method} {c : Code} {K : ix_Cx} (hKp : ix_Kp K) {n : Nat} {z : ix_Z} (X : ix_X p s m args c K cX12_endPart RX12 4) (hr : meth.sig.returnType = (some .boolean)) (hlk : meth.locks = false)  {a0 : Nat} {x1 : Int32} {x2 : Int32} {x3 : Int32} {r : Int32} {d1 : ix_D2}  {d : ix_D2} (h : f_X12_endPart_143 n z  a0 x1 x2 x3 d = some (r, d1)) : ix_G p l e (ix_rm 1 21 0 0) s m args below meth c (MQ below (ix_Post K (some (.int r)) (ix_w z d1)) args s 0 0 (ix_A K)) K 4 0 0 143 [(0, .ref (K.2.2.1 + a0)), (1, .int x1), (2, .int x2), (3, .int x3)] [] (ix_w z d) := by
  unfold f_X12_endPart_143 at h
  refine ix_iload_n (i := 2) (j := 2) X (ix_tb_at tb_X12_endPart 85 rfl) rfl rfl (pc1 := 144) rfl ?_
  refine ix_bipush (v := 41) X (ix_tb_at tb_X12_endPart 86 rfl) (by decide) (pc1 := 146) rfl ?_
  refine ix_icmp_ne (tgt := 163) X (ix_tb_at tb_X12_endPart 87 rfl) (by decide) (pc1 := 149) rfl (fun q_20 => ?_) (fun q_20 => ?_)
  · have h := ix_iff q_20 h
    refine ix_iconst (v := 0) X (ix_tb_at tb_X12_endPart 96 rfl) (by decide) (pc1 := 164) rfl ?_
    exact ix_zret X hr hlk (by decide) (ix_r2 (f := fun r => some (.int r)) (g := ix_w z) h) (ix_tb_at tb_X12_endPart 97 rfl)
  · have h := ix_ift q_20 h
    refine ix_iload_n (i := 3) (j := 3) X (ix_tb_at tb_X12_endPart 88 rfl) rfl rfl (pc1 := 150) rfl ?_
    refine ix_if_eq (tgt := 165) X (ix_tb_at tb_X12_endPart 89 rfl) (by decide) (pc1 := 153) rfl (fun q_21 => ?_) (fun q_21 => ?_)
    · have h := ix_ift q_21 h
      refine ix_sub (L1 := [(0, .ref (K.2.2.1 + a0)), (1, .int x1)]) [0, 1] rfl ?_
      exact t_X12_endPart_165 hKp X hr hlk  h
    · have h := ix_iff q_21 h
      refine ix_aload_n (i := 0) (j := 0) X (ix_tb_at tb_X12_endPart 90 rfl) rfl rfl (pc1 := 154) rfl ?_
      obtain ⟨k_42, h⟩ := ix_ck_some h
      obtain ⟨b_43, q_44, h⟩ := ix_bd1_ex h
      refine iz_getR X fl_RX12_101 k_42 q_44 (ix_tb_at tb_X12_endPart 91 rfl) (pc1 := 157) rfl ?_
      refine ix_iload_n (i := 1) (j := 1) X (ix_tb_at tb_X12_endPart 92 rfl) rfl rfl (pc1 := 158) rfl ?_
      obtain ⟨k_45, h⟩ := ix_ck_some h
      refine iz_iald X k_45 (ix_tb_at tb_X12_endPart 93 rfl) (pc1 := 159) rfl ?_
      refine ix_iconst (v := 2) X (ix_tb_at tb_X12_endPart 94 rfl) (by decide) (pc1 := 160) rfl ?_
      refine ix_icmp_ge (tgt := 165) X (ix_tb_at tb_X12_endPart 95 rfl) (by decide) (pc1 := 163) rfl (fun q_46 => ?_) (fun q_46 => ?_)
      · have h := ix_ift q_46 h
        refine ix_sub (L1 := [(0, .ref (K.2.2.1 + a0)), (1, .int x1)]) [0, 1] rfl ?_
        exact t_X12_endPart_165 hKp X hr hlk  h
      · have h := ix_iff q_46 h
        refine ix_iconst (v := 0) X (ix_tb_at tb_X12_endPart 96 rfl) (by decide) (pc1 := 164) rfl ?_
        exact ix_zret X hr hlk (by decide) (ix_r2 (f := fun r => some (.int r)) (g := ix_w z) h) (ix_tb_at tb_X12_endPart 97 rfl)
set_option maxRecDepth 20000 in
theorem t_X12_endPart_126 {l : Launch} {p : Program} {e : Env} {s : State} {m : MethodId} {args : Array Value} {below : List Frame} {meth : Method} {c : Code} {K : ix_Cx} (hKp : ix_Kp K) {n : Nat} {z : ix_Z} (X : ix_X p s m args c K cX12_endPart RX12 4) (hr : meth.sig.returnType = (some .boolean)) (hlk : meth.locks = false)  {a0 : Nat} {r : Int32} {d1 : ix_D2}  {d : ix_D2} (h : f_X12_endPart_126 n z  a0 d = some (r, d1)) : ix_G p l e (ix_rm 1 21 0 0) s m args below meth c (MQ below (ix_Post K (some (.int r)) (ix_w z d1)) args s 0 0 (ix_A K)) K 4 0 0 126 [(0, .ref (K.2.2.1 + a0))] [] (ix_w z d) := by
  unfold f_X12_endPart_126 at h
  refine ix_aload_n (i := 0) (j := 0) X (ix_tb_at tb_X12_endPart 74 rfl) rfl rfl (pc1 := 127) rfl ?_
  refine ix_dup X (ix_tb_at tb_X12_endPart 75 rfl) rfl (pc1 := 128) rfl ?_
  obtain ⟨k_48, h⟩ := ix_ck_some h
  refine iz_getI X fl_RX12_331 k_48 (ix_tb_at tb_X12_endPart 76 rfl) (pc1 := 131) rfl ?_
  refine ix_iconst (v := 1) X (ix_tb_at tb_X12_endPart 77 rfl) (by decide) (pc1 := 132) rfl ?_
  refine ix_iadd X (ix_tb_at tb_X12_endPart 78 rfl) (pc1 := 133) rfl ?_
  obtain ⟨d_49, e_50, h⟩ := ix_lt_ex h
  refine iz_putI X fp_RX12_331 k_48 (ix_tb_at tb_X12_endPart 79 rfl) e_50 (pc1 := 136) rfl ?_
  refine ix_aload_n (i := 0) (j := 0) X (ix_tb_at tb_X12_endPart 80 rfl) rfl rfl (pc1 := 137) rfl ?_
  refine ix_iconst (v := 1) X (ix_tb_at tb_X12_endPart 81 rfl) (by decide) (pc1 := 138) rfl ?_
  obtain ⟨d_51, e_52, h⟩ := ix_lt_ex h
  refine iz_putZ X fp_RX12_346 k_48 (ix_tb_at tb_X12_endPart 82 rfl) (by decide) e_52 (pc1 := 141) rfl ?_
  refine ix_iconst (v := 1) X (ix_tb_at tb_X12_endPart 83 rfl) (by decide) (pc1 := 142) rfl ?_
  exact ix_zret X hr hlk (by decide) (ix_r2 (f := fun r => some (.int r)) (g := ix_w z) h) (ix_tb_at tb_X12_endPart 84 rfl)
set_option maxRecDepth 20000 in
theorem t_X12_endPart_105 {l : Launch} {p : Program} {e : Env} {s : State} {m : MethodId} {args : Array Value} {below : List Frame} {meth : Method} {c : Code} {K : ix_Cx} (hKp : ix_Kp K) {n : Nat} {z : ix_Z} (X : ix_X p s m args c K cX12_endPart RX12 4) (hr : meth.sig.returnType = (some .boolean)) (hlk : meth.locks = false)  {a0 : Nat} {x1 : Int32} {x2 : Int32} {s0 : Int32} {r : Int32} {d1 : ix_D2}  {d : ix_D2} (h : f_X12_endPart_105 n z  a0 x1 x2 s0 d = some (r, d1)) : ix_G p l e (ix_rm 1 21 0 0) s m args below meth c (MQ below (ix_Post K (some (.int r)) (ix_w z d1)) args s 0 0 (ix_A K)) K 4 0 0 105 [(0, .ref (K.2.2.1 + a0)), (1, .int x1), (2, .int x2)] [.int s0] (ix_w z d) := by
  unfold f_X12_endPart_105 at h
  refine ix_istore_n (i := 3) (L1 := [(3, .int s0), (0, .ref (K.2.2.1 + a0)), (1, .int x1), (2, .int x2)]) X (ix_tb_at tb_X12_endPart 62 rfl) rfl (Nat.le_of_ble_eq_true rfl) rfl (pc1 := 106) rfl ?_
  refine ix_iload_n (i := 2) (j := 3) X (ix_tb_at tb_X12_endPart 63 rfl) rfl rfl (pc1 := 107) rfl ?_
  refine ix_bipush (v := 44) X (ix_tb_at tb_X12_endPart 64 rfl) (by decide) (pc1 := 109) rfl ?_
  refine ix_icmp_ne (tgt := 143) X (ix_tb_at tb_X12_endPart 65 rfl) (by decide) (pc1 := 112) rfl (fun q_19 => ?_) (fun q_19 => ?_)
  · have h := ix_iff q_19 h
    refine ix_sub (L1 := [(0, .ref (K.2.2.1 + a0)), (1, .int x1), (2, .int x2), (3, .int s0)]) [1, 2, 3, 0] rfl ?_
    exact t_X12_endPart_143 hKp X hr hlk  h
  · have h := ix_ift q_19 h
    refine ix_iload_n (i := 3) (j := 0) X (ix_tb_at tb_X12_endPart 66 rfl) rfl rfl (pc1 := 113) rfl ?_
    refine ix_if_eq (tgt := 126) X (ix_tb_at tb_X12_endPart 67 rfl) (by decide) (pc1 := 116) rfl (fun q_47 => ?_) (fun q_47 => ?_)
    · have h := ix_ift q_47 h
      refine ix_sub (L1 := [(0, .ref (K.2.2.1 + a0))]) [1] rfl ?_
      exact t_X12_endPart_126 hKp X hr hlk  h
    · have h := ix_iff q_47 h
      refine ix_aload_n (i := 0) (j := 1) X (ix_tb_at tb_X12_endPart 68 rfl) rfl rfl (pc1 := 117) rfl ?_
      obtain ⟨k_53, h⟩ := ix_ck_some h
      obtain ⟨b_54, q_55, h⟩ := ix_bd1_ex h
      refine iz_getR X fl_RX12_101 k_53 q_55 (ix_tb_at tb_X12_endPart 69 rfl) (pc1 := 120) rfl ?_
      refine ix_iload_n (i := 1) (j := 2) X (ix_tb_at tb_X12_endPart 70 rfl) rfl rfl (pc1 := 121) rfl ?_
      obtain ⟨k_56, h⟩ := ix_ck_some h
      refine iz_iald X k_56 (ix_tb_at tb_X12_endPart 71 rfl) (pc1 := 122) rfl ?_
      refine ix_iconst (v := 2) X (ix_tb_at tb_X12_endPart 72 rfl) (by decide) (pc1 := 123) rfl ?_
      refine ix_icmp_eq (tgt := 143) X (ix_tb_at tb_X12_endPart 73 rfl) (by decide) (pc1 := 126) rfl (fun q_57 => ?_) (fun q_57 => ?_)
      · have h := ix_ift q_57 h
        refine ix_sub (L1 := [(0, .ref (K.2.2.1 + a0)), (1, .int x1), (2, .int x2), (3, .int s0)]) [1, 2, 3, 0] rfl ?_
        exact t_X12_endPart_143 hKp X hr hlk  h
      · have h := ix_iff q_57 h
        refine ix_sub (L1 := [(0, .ref (K.2.2.1 + a0))]) [1] rfl ?_
        exact t_X12_endPart_126 hKp X hr hlk  h
set_option maxRecDepth 20000 in
theorem t_X12_endPart_54 {l : Launch} {p : Program} {e : Env} {s : State} {m : MethodId} {args : Array Value} {below : List Frame} {meth : Method} {c : Code} {K : ix_Cx} (hKp : ix_Kp K) {n : Nat} {z : ix_Z} (X : ix_X p s m args c K cX12_endPart RX12 4) (hr : meth.sig.returnType = (some .boolean)) (hlk : meth.locks = false)  {a0 : Nat} {r : Int32} {d1 : ix_D2}  {d : ix_D2} (h : f_X12_endPart_54 n z  a0 d = some (r, d1)) : ix_G p l e (ix_rm 1 21 0 0) s m args below meth c (MQ below (ix_Post K (some (.int r)) (ix_w z d1)) args s 0 0 (ix_A K)) K 4 0 0 54 [(0, .ref (K.2.2.1 + a0))] [] (ix_w z d) := by
  unfold f_X12_endPart_54 at h
  refine ix_aload_n (i := 0) (j := 0) X (ix_tb_at tb_X12_endPart 30 rfl) rfl rfl (pc1 := 55) rfl ?_
  obtain ⟨k_3, h⟩ := ix_ck_some h
  refine iz_getI X fl_RX12_337 k_3 (ix_tb_at tb_X12_endPart 31 rfl) (pc1 := 58) rfl ?_
  refine ix_if_ne (tgt := 63) X (ix_tb_at tb_X12_endPart 32 rfl) (by decide) (pc1 := 61) rfl (fun q_4 => ?_) (fun q_4 => ?_)
  · have h := ix_iff q_4 h
    refine ix_aload_n (i := 0) (j := 0) X (ix_tb_at tb_X12_endPart 35 rfl) rfl rfl (pc1 := 64) rfl ?_
    refine iz_getI X fl_RX12_337 k_3 (ix_tb_at tb_X12_endPart 36 rfl) (pc1 := 67) rfl ?_
    refine ix_iconst (v := 1) X (ix_tb_at tb_X12_endPart 37 rfl) (by decide) (pc1 := 68) rfl ?_
    refine ix_isub X (ix_tb_at tb_X12_endPart 38 rfl) (pc1 := 69) rfl ?_
    obtain ⟨x1_5, e_6, h⟩ := ix_lt_ex h
    refine ix_nmi e_6 ?_
    refine ix_istore_n (i := 1) (L1 := [(1, .int x1_5), (0, .ref (K.2.2.1 + a0))]) X (ix_tb_at tb_X12_endPart 39 rfl) rfl (Nat.le_of_ble_eq_true rfl) rfl (pc1 := 70) rfl ?_
    refine ix_aload_n (i := 0) (j := 1) X (ix_tb_at tb_X12_endPart 40 rfl) rfl rfl (pc1 := 71) rfl ?_
    obtain ⟨b_7, q_8, h⟩ := ix_bd1_ex h
    refine iz_getR X fl_RX12_101 k_3 q_8 (ix_tb_at tb_X12_endPart 41 rfl) (pc1 := 74) rfl ?_
    refine ix_iload_n (i := 1) (j := 0) X (ix_tb_at tb_X12_endPart 42 rfl) rfl rfl (pc1 := 75) rfl ?_
    refine ix_dup2 X (ix_tb_at tb_X12_endPart 43 rfl) rfl rfl (pc1 := 76) rfl ?_
    obtain ⟨k_9, h⟩ := ix_ck_some h
    refine iz_iald X k_9 (ix_tb_at tb_X12_endPart 44 rfl) (pc1 := 77) rfl ?_
    refine ix_iconst (v := 1) X (ix_tb_at tb_X12_endPart 45 rfl) (by decide) (pc1 := 78) rfl ?_
    refine ix_iadd X (ix_tb_at tb_X12_endPart 46 rfl) (pc1 := 79) rfl ?_
    obtain ⟨d_10, e_11, h⟩ := ix_lt_ex h
    refine iz_iast X k_9 (ix_tb_at tb_X12_endPart 47 rfl) e_11 (pc1 := 80) rfl ?_
    refine ix_aload_n (i := 0) (j := 1) X (ix_tb_at tb_X12_endPart 48 rfl) rfl rfl (pc1 := 81) rfl ?_
    refine ix_aload_n (i := 0) (j := 1) X (ix_tb_at tb_X12_endPart 49 rfl) rfl rfl (pc1 := 82) rfl ?_
    refine iz_getI X fl_RX12_331 k_3 (ix_tb_at tb_X12_endPart 50 rfl) (pc1 := 85) rfl ?_
    obtain ⟨r_14, d_12, h_13, h⟩ := ix_bd2_ex h
    refine ix_callV (As := [.int (d_10.1 a0 51)]) (rest := []) (ci := 11) (T := TX12) (nf := 116) X mf_X12_byteAt mi_X12_byteAt ms_X12_byteAt rfl (Nat.le_of_ble_eq_true rfl) ml_RX12_334 ⟨Nat.le_of_ble_eq_true rfl, Nat.le_of_ble_eq_true rfl⟩ ⟨Nat.le_of_ble_eq_true rfl, Nat.le_of_ble_eq_true rfl⟩ rfl (Nat.le_of_ble_eq_true rfl) (ix_tb_at tb_X12_endPart 51 rfl) ⟨k_3.1, List.mem_singleton.mp k_3.2⟩ (c_X12_byteAt hKp h_13) rfl (pc1 := 88) rfl ?_
    refine ix_istore_n (i := 2) (L1 := [(2, .int r_14), (1, .int x1_5), (0, .ref (K.2.2.1 + a0))]) X (ix_tb_at tb_X12_endPart 52 rfl) rfl (Nat.le_of_ble_eq_true rfl) rfl (pc1 := 89) rfl ?_
    refine ix_aload_n (i := 0) (j := 2) X (ix_tb_at tb_X12_endPart 53 rfl) rfl rfl (pc1 := 90) rfl ?_
    obtain ⟨b_15, q_16, h⟩ := ix_bd1_ex h
    refine iz_getR X fl_RX12_98 k_3 q_16 (ix_tb_at tb_X12_endPart 54 rfl) (pc1 := 93) rfl ?_
    refine ix_iload_n (i := 1) (j := 1) X (ix_tb_at tb_X12_endPart 55 rfl) rfl rfl (pc1 := 94) rfl ?_
    obtain ⟨k_17, h⟩ := ix_ck_some h
    refine iz_iald X k_17 (ix_tb_at tb_X12_endPart 56 rfl) (pc1 := 95) rfl ?_
    refine ix_bipush (v := 62) X (ix_tb_at tb_X12_endPart 57 rfl) (by decide) (pc1 := 97) rfl ?_
    refine ix_icmp_ne (tgt := 104) X (ix_tb_at tb_X12_endPart 58 rfl) (by decide) (pc1 := 100) rfl (fun q_18 => ?_) (fun q_18 => ?_)
    · have h := ix_iff q_18 h
      refine ix_iconst (v := 0) X (ix_tb_at tb_X12_endPart 61 rfl) (by decide) (pc1 := 105) rfl ?_
      refine ix_sub (L1 := [(0, .ref (K.2.2.1 + a0)), (1, .int x1_5), (2, .int r_14)]) [2, 1, 0] rfl ?_
      exact t_X12_endPart_105 hKp X hr hlk  h
    · have h := ix_ift q_18 h
      refine ix_iconst (v := 1) X (ix_tb_at tb_X12_endPart 59 rfl) (by decide) (pc1 := 101) rfl ?_
      refine ix_goto (tgt := 105) X (ix_tb_at tb_X12_endPart 60 rfl) (by decide) ?_
      refine ix_sub (L1 := [(0, .ref (K.2.2.1 + a0)), (1, .int x1_5), (2, .int r_14)]) [2, 1, 0] rfl ?_
      exact t_X12_endPart_105 hKp X hr hlk  h
  · have h := ix_ift q_4 h
    refine ix_iconst (v := 0) X (ix_tb_at tb_X12_endPart 33 rfl) (by decide) (pc1 := 62) rfl ?_
    exact ix_zret X hr hlk (by decide) (ix_r2 (f := fun r => some (.int r)) (g := ix_w z) h) (ix_tb_at tb_X12_endPart 34 rfl)
set_option maxRecDepth 20000 in
theorem tb_X12_endPart_0 {l : Launch} {p : Program} {e : Env} {s : State} {m : MethodId} {args : Array Value} {below : List Frame} {meth : Method} {c : Code} {K : ix_Cx} (hKp : ix_Kp K) {n : Nat} {z : ix_Z} (X : ix_X p s m args c K cX12_endPart RX12 4) (hr : meth.sig.returnType = (some .boolean)) (hlk : meth.locks = false)  {a0 : Nat} {rec0 : ix_D2 → Option (Int32 × ix_D2)} {r : Int32} {d1 : ix_D2} (hrec0 : ∀  (d : ix_D2), rec0  d = some (r, d1) → ix_G p l e (ix_rm 1 21 0 0) s m args below meth c (MQ below (ix_Post K (some (.int r)) (ix_w z d1)) args s 0 0 (ix_A K)) K 4 0 0 0 [(0, .ref (K.2.2.1 + a0))] [] (ix_w z d))  {d : ix_D2} (h : b_X12_endPart_0 n z  a0 rec0  d = some (r, d1)) : ix_G p l e (ix_rm 1 21 0 0) s m args below meth c (MQ below (ix_Post K (some (.int r)) (ix_w z d1)) args s 0 0 (ix_A K)) K 4 0 0 0 [(0, .ref (K.2.2.1 + a0))] [] (ix_w z d) := by
  unfold b_X12_endPart_0 at h
  refine ix_aload_n (i := 0) (j := 0) X (ix_tb_at tb_X12_endPart 0 rfl) rfl rfl (pc1 := 1) rfl ?_
  obtain ⟨k_1, h⟩ := ix_ck_some h
  refine iz_getI X fl_RX12_337 k_1 (ix_tb_at tb_X12_endPart 1 rfl) (pc1 := 4) rfl ?_
  refine ix_if_le (tgt := 54) X (ix_tb_at tb_X12_endPart 2 rfl) (by decide) (pc1 := 7) rfl (fun q_2 => ?_) (fun q_2 => ?_)
  · have h := ix_ift q_2 h
    refine ix_sub (L1 := [(0, .ref (K.2.2.1 + a0))]) [0] rfl ?_
    exact t_X12_endPart_54 hKp X hr hlk  h
  · have h := ix_iff q_2 h
    refine ix_aload_n (i := 0) (j := 0) X (ix_tb_at tb_X12_endPart 3 rfl) rfl rfl (pc1 := 8) rfl ?_
    obtain ⟨b_58, q_59, h⟩ := ix_bd1_ex h
    refine iz_getR X fl_RX12_98 k_1 q_59 (ix_tb_at tb_X12_endPart 4 rfl) (pc1 := 11) rfl ?_
    refine ix_aload_n (i := 0) (j := 0) X (ix_tb_at tb_X12_endPart 5 rfl) rfl rfl (pc1 := 12) rfl ?_
    refine iz_getI X fl_RX12_337 k_1 (ix_tb_at tb_X12_endPart 6 rfl) (pc1 := 15) rfl ?_
    refine ix_iconst (v := 1) X (ix_tb_at tb_X12_endPart 7 rfl) (by decide) (pc1 := 16) rfl ?_
    refine ix_isub X (ix_tb_at tb_X12_endPart 8 rfl) (pc1 := 17) rfl ?_
    obtain ⟨k_60, h⟩ := ix_ck_some h
    refine iz_iald X k_60 (ix_tb_at tb_X12_endPart 9 rfl) (pc1 := 18) rfl ?_
    refine ix_if_ne (tgt := 54) X (ix_tb_at tb_X12_endPart 10 rfl) (by decide) (pc1 := 21) rfl (fun q_61 => ?_) (fun q_61 => ?_)
    · have h := ix_iff q_61 h
      refine ix_sub (L1 := [(0, .ref (K.2.2.1 + a0))]) [0] rfl ?_
      exact t_X12_endPart_54 hKp X hr hlk  h
    · have h := ix_ift q_61 h
      refine ix_aload_n (i := 0) (j := 0) X (ix_tb_at tb_X12_endPart 11 rfl) rfl rfl (pc1 := 22) rfl ?_
      obtain ⟨b_62, q_63, h⟩ := ix_bd1_ex h
      refine iz_getR X fl_RX12_95 k_1 q_63 (ix_tb_at tb_X12_endPart 12 rfl) (pc1 := 25) rfl ?_
      refine ix_aload_n (i := 0) (j := 0) X (ix_tb_at tb_X12_endPart 13 rfl) rfl rfl (pc1 := 26) rfl ?_
      refine iz_getI X fl_RX12_343 k_1 (ix_tb_at tb_X12_endPart 14 rfl) (pc1 := 29) rfl ?_
      refine ix_iconst (v := 0) X (ix_tb_at tb_X12_endPart 15 rfl) (by decide) (pc1 := 30) rfl ?_
      obtain ⟨k_64, h⟩ := ix_ck_some h
      obtain ⟨d_65, e_66, h⟩ := ix_lt_ex h
      refine iz_iast X k_64 (ix_tb_at tb_X12_endPart 16 rfl) e_66 (pc1 := 31) rfl ?_
      refine ix_aload_n (i := 0) (j := 0) X (ix_tb_at tb_X12_endPart 17 rfl) rfl rfl (pc1 := 32) rfl ?_
      refine ix_dup X (ix_tb_at tb_X12_endPart 18 rfl) rfl (pc1 := 33) rfl ?_
      refine iz_getI X fl_RX12_343 k_1 (ix_tb_at tb_X12_endPart 19 rfl) (pc1 := 36) rfl ?_
      refine ix_iconst (v := 1) X (ix_tb_at tb_X12_endPart 20 rfl) (by decide) (pc1 := 37) rfl ?_
      refine ix_iadd X (ix_tb_at tb_X12_endPart 21 rfl) (pc1 := 38) rfl ?_
      obtain ⟨d_67, e_68, h⟩ := ix_lt_ex h
      refine iz_putI X fp_RX12_343 k_1 (ix_tb_at tb_X12_endPart 22 rfl) e_68 (pc1 := 41) rfl ?_
      refine ix_aload_n (i := 0) (j := 0) X (ix_tb_at tb_X12_endPart 23 rfl) rfl rfl (pc1 := 42) rfl ?_
      refine ix_dup X (ix_tb_at tb_X12_endPart 24 rfl) rfl (pc1 := 43) rfl ?_
      refine iz_getI X fl_RX12_337 k_1 (ix_tb_at tb_X12_endPart 25 rfl) (pc1 := 46) rfl ?_
      refine ix_iconst (v := 1) X (ix_tb_at tb_X12_endPart 26 rfl) (by decide) (pc1 := 47) rfl ?_
      refine ix_isub X (ix_tb_at tb_X12_endPart 27 rfl) (pc1 := 48) rfl ?_
      obtain ⟨d_69, e_70, h⟩ := ix_lt_ex h
      refine iz_putI X fp_RX12_337 k_1 (ix_tb_at tb_X12_endPart 28 rfl) e_70 (pc1 := 51) rfl ?_
      refine ix_goto (tgt := 0) X (ix_tb_at tb_X12_endPart 29 rfl) (by decide) ?_
      refine ix_sub (L1 := [(0, .ref (K.2.2.1 + a0))]) [0] rfl ?_
      exact hrec0  d_69 h
theorem t_X12_endPart_0 {l : Launch} {p : Program} {e : Env} {s : State} {m : MethodId} {args : Array Value} {below : List Frame} {meth : Method} {c : Code} {K : ix_Cx} (hKp : ix_Kp K) {n : Nat} {z : ix_Z} (X : ix_X p s m args c K cX12_endPart RX12 4) (hr : meth.sig.returnType = (some .boolean)) (hlk : meth.locks = false)  {a0 : Nat} {r : Int32} {d1 : ix_D2}   {d : ix_D2} (h : f_X12_endPart_0 n z  a0  d = some (r, d1)) : ix_G p l e (ix_rm 1 21 0 0) s m args below meth c (MQ below (ix_Post K (some (.int r)) (ix_w z d1)) args s 0 0 (ix_A K)) K 4 0 0 0 [(0, .ref (K.2.2.1 + a0))] [] (ix_w z d) := by
  have key : ∀ (f : Nat)  (d : ix_D2), ix_fix (b_X12_endPart_0 n z  a0) (fun  _ => none) f  d = some (r, d1) → ix_G p l e (ix_rm 1 21 0 0) s m args below meth c (MQ below (ix_Post K (some (.int r)) (ix_w z d1)) args s 0 0 (ix_A K)) K 4 0 0 0 [(0, .ref (K.2.2.1 + a0))] [] (ix_w z d) := by
    intro f
    induction f with
    | zero =>
      intro  d h
      have h : (none : Option (Int32 × ix_D2)) = some (r, d1) := h
      cases h
    | succ f ih =>
      intro  d h
      exact tb_X12_endPart_0 hKp X hr hlk (rec0 := ix_fix (b_X12_endPart_0 n z  a0) (fun  _ => none) f)  ih h
  exact key n  d h
set_option maxRecDepth 20000 in
theorem c_X12_endPart {l : Launch} {K : ix_Cx} (hKp : ix_Kp K) {n : Nat} {z : ix_Z} {a0 : Nat} {d : ix_D2} {r : Int32} {d1 : ix_D2} (h : f_X12_endPart n z a0 d = some (r, d1)) : ix_M l K yX12_endPart cX12_endPart 4 (some .boolean) 1 21 0 0 [.ref (K.2.2.1 + a0)] (ix_w z d) (some (.int r)) (ix_w z d1) := by
  refine ix_met mf_X12_endPart hKp (Nat.le_of_ble_eq_true rfl) ?_
  intro p e s m args below meth c hr hlk hnm X
  have X : ix_X p s m args c K cX12_endPart RX12 4 := X
  show ix_G p l e (ix_rm 1 21 0 0) s m args below meth c (MQ below (ix_Post K (some (.int r)) (ix_w z d1)) args s 0 0 (ix_A K)) K 4 0 0 0 [(0, .ref (K.2.2.1 + a0))] [] (ix_w z d)
  unfold f_X12_endPart at h
  refine ix_sub (L1 := [(0, .ref (K.2.2.1 + a0))]) [0] rfl ?_
  exact t_X12_endPart_0 hKp X hr hlk  h
def tab_X12_faultOfTape : List (Nat × Instr × Nat) := [(0, .aload_n 0, 1), (1, .iconst 0, 1), (2, .putfield 343, 3), (5, .aload_n 0, 1), (6, .iconst 0, 1), (7, .putfield 292, 3), (10, .aload_n 0, 1), (11, .iconst 0, 1), (12, .putfield 337, 3), (15, .aload_n 0, 1), (16, .iconst 0, 1), (17, .putfield 349, 3), (20, .aload_n 0, 1), (21, .iconst 0, 1), (22, .putfield 331, 3), (25, .aload_n 0, 1), (26, .iconst 1, 1), (27, .putfield 346, 3), (30, .iconst 1, 1), (31, .istore_n 1, 1), (32, .iload_n 1, 1), (33, .ifCond .eq 25, 3), (36, .aload_n 0, 1), (37, .getfield 346, 3), (40, .ifCond .eq 10, 3), (43, .aload_n 0, 1), (44, .invokevirtual 352, 3), (47, .goto 7, 3), (50, .aload_n 0, 1), (51, .invokevirtual 356, 3), (54, .istore_n 1, 1), (55, .goto (-23), 3), (58, .aload_n 0, 1), (59, .getfield 346, 3), (62, .ifCond .ne 25, 3), (65, .aload_n 0, 1), (66, .getfield 337, 3), (69, .ifCond .ne 18, 3), (72, .aload_n 0, 1), (73, .getfield 331, 3), (76, .aload_n 0, 1), (77, .getfield 259, 3), (80, .if_icmp .ne 7, 3), (83, .iconst (-1), 1), (84, .goto 7, 3), (87, .aload_n 0, 1), (88, .getfield 331, 3), (91, .ireturn, 1)]
theorem tb_X12_faultOfTape : ix_tab cX12_faultOfTape tab_X12_faultOfTape := by
  unfold ix_tab
  decide +kernel
noncomputable def f_X12_faultOfTape_87 (n : Nat) (z : ix_Z)  (a0 : Nat) (d : ix_D2) : Option (Int32 × ix_D2) :=
  ix_ck (ix_ok z [11] a0) (some (d.1 a0 51, d))
noncomputable def f_X12_faultOfTape_54 (n : Nat) (z : ix_Z) (rec32 : Int32 → ix_D2 → Option (Int32 × ix_D2)) (a0 : Nat) (s0 : Int32) (d : ix_D2) : Option (Int32 × ix_D2) :=
  rec32 s0 d
noncomputable def b_X12_faultOfTape_32 (n : Nat) (z : ix_Z)  (a0 : Nat) (rec32 : Int32 → ix_D2 → Option (Int32 × ix_D2)) (x1 : Int32) (d : ix_D2) : Option (Int32 × ix_D2) :=
  ix_if (x1 = 0) (ix_ck (ix_ok z [11] a0) (ix_if (d.1 a0 52 = 0) (ix_if (d.1 a0 49 = 0) (ix_if (d.1 a0 51 = d.1 a0 8) (some ((-1), d)) (f_X12_faultOfTape_87 n z  a0 d)) (f_X12_faultOfTape_87 n z  a0 d)) (f_X12_faultOfTape_87 n z  a0 d))) (ix_ck (ix_ok z [11] a0) (ix_if (d.1 a0 52 = 0) (ix_bd2 (f_X12_endPart n z a0 d) (fun r_24 d_22 => f_X12_faultOfTape_54 n z rec32 a0 r_24 d_22)) (ix_bd2 (f_X12_beginPart n z a0 d) (fun r_27 d_25 => f_X12_faultOfTape_54 n z rec32 a0 r_27 d_25))))
noncomputable def f_X12_faultOfTape_32 (n : Nat) (z : ix_Z)  (a0 : Nat) (x1 : Int32) (d : ix_D2) : Option (Int32 × ix_D2) := ix_fix (b_X12_faultOfTape_32 n z  a0) (fun _ _ => none) n x1 d
noncomputable def f_X12_faultOfTape (n : Nat) (z : ix_Z) (a0 : Nat) (d : ix_D2) : Option (Int32 × ix_D2) :=
  ix_ck (ix_ok z [11] a0) (ix_lt (ix_di d a0 46 0) (fun d_2 => ix_lt (ix_di d_2 a0 42 0) (fun d_4 => ix_lt (ix_di d_4 a0 49 0) (fun d_6 => ix_lt (ix_di d_6 a0 50 0) (fun d_8 => ix_lt (ix_di d_8 a0 51 0) (fun d_10 => ix_lt (ix_di d_10 a0 52 1) (fun d_12 => f_X12_faultOfTape_32 n z  a0 1 d_12)))))))
set_option maxRecDepth 20000 in
theorem t_X12_faultOfTape_87 {l : Launch} {p : Program} {e : Env} {s : State} {m : MethodId} {args : Array Value} {below : List Frame} {meth : Method} {c : Code} {K : ix_Cx} (hKp : ix_Kp K) {n : Nat} {z : ix_Z} (X : ix_X p s m args c K cX12_faultOfTape RX12 2) (hr : meth.sig.returnType = (some .int)) (hlk : meth.locks = false)  {a0 : Nat} {r : Int32} {d1 : ix_D2}  {d : ix_D2} (h : f_X12_faultOfTape_87 n z  a0 d = some (r, d1)) : ix_G p l e (ix_rm 2 44 0 0) s m args below meth c (MQ below (ix_Post K (some (.int r)) (ix_w z d1)) args s 0 0 (ix_A K)) K 2 0 0 87 [(0, .ref (K.2.2.1 + a0))] [] (ix_w z d) := by
  unfold f_X12_faultOfTape_87 at h
  refine ix_aload_n (i := 0) (j := 0) X (ix_tb_at tb_X12_faultOfTape 45 rfl) rfl rfl (pc1 := 88) rfl ?_
  obtain ⟨k_17, h⟩ := ix_ck_some h
  refine iz_getI X fl_RX12_331 k_17 (ix_tb_at tb_X12_faultOfTape 46 rfl) (pc1 := 91) rfl ?_
  exact ix_iret X hr hlk (ix_r2 (f := fun r => some (.int r)) (g := ix_w z) h) (ix_tb_at tb_X12_faultOfTape 47 rfl)
set_option maxRecDepth 20000 in
theorem t_X12_faultOfTape_54 {l : Launch} {p : Program} {e : Env} {s : State} {m : MethodId} {args : Array Value} {below : List Frame} {meth : Method} {c : Code} {K : ix_Cx} (hKp : ix_Kp K) {n : Nat} {z : ix_Z} (X : ix_X p s m args c K cX12_faultOfTape RX12 2) (hr : meth.sig.returnType = (some .int)) (hlk : meth.locks = false) {rec32 : Int32 → ix_D2 → Option (Int32 × ix_D2)} {a0 : Nat} {s0 : Int32} {r : Int32} {d1 : ix_D2} (hrec32 : ∀ (x1 : Int32) (d : ix_D2), rec32 x1 d = some (r, d1) → ix_G p l e (ix_rm 2 44 0 0) s m args below meth c (MQ below (ix_Post K (some (.int r)) (ix_w z d1)) args s 0 0 (ix_A K)) K 2 0 0 32 [(0, .ref (K.2.2.1 + a0)), (1, .int x1)] [] (ix_w z d)) {d : ix_D2} (h : f_X12_faultOfTape_54 n z rec32 a0 s0 d = some (r, d1)) : ix_G p l e (ix_rm 2 44 0 0) s m args below meth c (MQ below (ix_Post K (some (.int r)) (ix_w z d1)) args s 0 0 (ix_A K)) K 2 0 0 54 [(0, .ref (K.2.2.1 + a0))] [.int s0] (ix_w z d) := by
  unfold f_X12_faultOfTape_54 at h
  refine ix_istore_n (i := 1) (L1 := [(1, .int s0), (0, .ref (K.2.2.1 + a0))]) X (ix_tb_at tb_X12_faultOfTape 30 rfl) rfl (Nat.le_of_ble_eq_true rfl) rfl (pc1 := 55) rfl ?_
  refine ix_goto (tgt := 32) X (ix_tb_at tb_X12_faultOfTape 31 rfl) (by decide) ?_
  refine ix_sub (L1 := [(0, .ref (K.2.2.1 + a0)), (1, .int s0)]) [1, 0] rfl ?_
  exact hrec32 s0 d h
set_option maxRecDepth 20000 in
theorem tb_X12_faultOfTape_32 {l : Launch} {p : Program} {e : Env} {s : State} {m : MethodId} {args : Array Value} {below : List Frame} {meth : Method} {c : Code} {K : ix_Cx} (hKp : ix_Kp K) {n : Nat} {z : ix_Z} (X : ix_X p s m args c K cX12_faultOfTape RX12 2) (hr : meth.sig.returnType = (some .int)) (hlk : meth.locks = false)  {a0 : Nat} {rec32 : Int32 → ix_D2 → Option (Int32 × ix_D2)} {r : Int32} {d1 : ix_D2} (hrec32 : ∀ (x1 : Int32) (d : ix_D2), rec32 x1 d = some (r, d1) → ix_G p l e (ix_rm 2 44 0 0) s m args below meth c (MQ below (ix_Post K (some (.int r)) (ix_w z d1)) args s 0 0 (ix_A K)) K 2 0 0 32 [(0, .ref (K.2.2.1 + a0)), (1, .int x1)] [] (ix_w z d)) {x1 : Int32} {d : ix_D2} (h : b_X12_faultOfTape_32 n z  a0 rec32 x1 d = some (r, d1)) : ix_G p l e (ix_rm 2 44 0 0) s m args below meth c (MQ below (ix_Post K (some (.int r)) (ix_w z d1)) args s 0 0 (ix_A K)) K 2 0 0 32 [(0, .ref (K.2.2.1 + a0)), (1, .int x1)] [] (ix_w z d) := by
  unfold b_X12_faultOfTape_32 at h
  refine ix_iload_n (i := 1) (j := 1) X (ix_tb_at tb_X12_faultOfTape 20 rfl) rfl rfl (pc1 := 33) rfl ?_
  refine ix_if_eq (tgt := 58) X (ix_tb_at tb_X12_faultOfTape 21 rfl) (by decide) (pc1 := 36) rfl (fun q_14 => ?_) (fun q_14 => ?_)
  · have h := ix_ift q_14 h
    refine ix_aload_n (i := 0) (j := 0) X (ix_tb_at tb_X12_faultOfTape 32 rfl) rfl rfl (pc1 := 59) rfl ?_
    obtain ⟨k_15, h⟩ := ix_ck_some h
    refine iz_getI X fl_RX12_346 k_15 (ix_tb_at tb_X12_faultOfTape 33 rfl) (pc1 := 62) rfl ?_
    refine ix_if_ne (tgt := 87) X (ix_tb_at tb_X12_faultOfTape 34 rfl) (by decide) (pc1 := 65) rfl (fun q_16 => ?_) (fun q_16 => ?_)
    · have h := ix_iff q_16 h
      refine ix_sub (L1 := [(0, .ref (K.2.2.1 + a0))]) [0] rfl ?_
      exact t_X12_faultOfTape_87 hKp X hr hlk  h
    · have h := ix_ift q_16 h
      refine ix_aload_n (i := 0) (j := 0) X (ix_tb_at tb_X12_faultOfTape 35 rfl) rfl rfl (pc1 := 66) rfl ?_
      refine iz_getI X fl_RX12_337 k_15 (ix_tb_at tb_X12_faultOfTape 36 rfl) (pc1 := 69) rfl ?_
      refine ix_if_ne (tgt := 87) X (ix_tb_at tb_X12_faultOfTape 37 rfl) (by decide) (pc1 := 72) rfl (fun q_18 => ?_) (fun q_18 => ?_)
      · have h := ix_iff q_18 h
        refine ix_sub (L1 := [(0, .ref (K.2.2.1 + a0))]) [0] rfl ?_
        exact t_X12_faultOfTape_87 hKp X hr hlk  h
      · have h := ix_ift q_18 h
        refine ix_aload_n (i := 0) (j := 0) X (ix_tb_at tb_X12_faultOfTape 38 rfl) rfl rfl (pc1 := 73) rfl ?_
        refine iz_getI X fl_RX12_331 k_15 (ix_tb_at tb_X12_faultOfTape 39 rfl) (pc1 := 76) rfl ?_
        refine ix_aload_n (i := 0) (j := 0) X (ix_tb_at tb_X12_faultOfTape 40 rfl) rfl rfl (pc1 := 77) rfl ?_
        refine iz_getI X fl_RX12_259 k_15 (ix_tb_at tb_X12_faultOfTape 41 rfl) (pc1 := 80) rfl ?_
        refine ix_icmp_ne (tgt := 87) X (ix_tb_at tb_X12_faultOfTape 42 rfl) (by decide) (pc1 := 83) rfl (fun q_19 => ?_) (fun q_19 => ?_)
        · have h := ix_iff q_19 h
          refine ix_sub (L1 := [(0, .ref (K.2.2.1 + a0))]) [0] rfl ?_
          exact t_X12_faultOfTape_87 hKp X hr hlk  h
        · have h := ix_ift q_19 h
          refine ix_iconst (v := (-1)) X (ix_tb_at tb_X12_faultOfTape 43 rfl) (by decide) (pc1 := 84) rfl ?_
          refine ix_goto (tgt := 91) X (ix_tb_at tb_X12_faultOfTape 44 rfl) (by decide) ?_
          exact ix_iret X hr hlk (ix_r2 (f := fun r => some (.int r)) (g := ix_w z) h) (ix_tb_at tb_X12_faultOfTape 47 rfl)
  · have h := ix_iff q_14 h
    refine ix_aload_n (i := 0) (j := 0) X (ix_tb_at tb_X12_faultOfTape 22 rfl) rfl rfl (pc1 := 37) rfl ?_
    obtain ⟨k_20, h⟩ := ix_ck_some h
    refine iz_getI X fl_RX12_346 k_20 (ix_tb_at tb_X12_faultOfTape 23 rfl) (pc1 := 40) rfl ?_
    refine ix_if_eq (tgt := 50) X (ix_tb_at tb_X12_faultOfTape 24 rfl) (by decide) (pc1 := 43) rfl (fun q_21 => ?_) (fun q_21 => ?_)
    · have h := ix_ift q_21 h
      refine ix_aload_n (i := 0) (j := 0) X (ix_tb_at tb_X12_faultOfTape 28 rfl) rfl rfl (pc1 := 51) rfl ?_
      obtain ⟨r_24, d_22, h_23, h⟩ := ix_bd2_ex h
      refine ix_callV (As := []) (rest := []) (ci := 11) (T := TX12) (nf := 116) X mf_X12_endPart mi_X12_endPart ms_X12_endPart rfl (Nat.le_of_ble_eq_true rfl) ml_RX12_356 ⟨Nat.le_of_ble_eq_true rfl, Nat.le_of_ble_eq_true rfl⟩ ⟨Nat.le_of_ble_eq_true rfl, Nat.le_of_ble_eq_true rfl⟩ rfl (Nat.le_of_ble_eq_true rfl) (ix_tb_at tb_X12_faultOfTape 29 rfl) ⟨k_20.1, List.mem_singleton.mp k_20.2⟩ (c_X12_endPart hKp h_23) rfl (pc1 := 54) rfl ?_
      refine ix_sub (L1 := [(0, .ref (K.2.2.1 + a0))]) [0] rfl ?_
      exact t_X12_faultOfTape_54 hKp X hr hlk hrec32 h
    · have h := ix_iff q_21 h
      refine ix_aload_n (i := 0) (j := 0) X (ix_tb_at tb_X12_faultOfTape 25 rfl) rfl rfl (pc1 := 44) rfl ?_
      obtain ⟨r_27, d_25, h_26, h⟩ := ix_bd2_ex h
      refine ix_callV (As := []) (rest := []) (ci := 11) (T := TX12) (nf := 116) X mf_X12_beginPart mi_X12_beginPart ms_X12_beginPart rfl (Nat.le_of_ble_eq_true rfl) ml_RX12_352 ⟨Nat.le_of_ble_eq_true rfl, Nat.le_of_ble_eq_true rfl⟩ ⟨Nat.le_of_ble_eq_true rfl, Nat.le_of_ble_eq_true rfl⟩ rfl (Nat.le_of_ble_eq_true rfl) (ix_tb_at tb_X12_faultOfTape 26 rfl) ⟨k_20.1, List.mem_singleton.mp k_20.2⟩ (c_X12_beginPart hKp h_26) rfl (pc1 := 47) rfl ?_
      refine ix_goto (tgt := 54) X (ix_tb_at tb_X12_faultOfTape 27 rfl) (by decide) ?_
      refine ix_sub (L1 := [(0, .ref (K.2.2.1 + a0))]) [0] rfl ?_
      exact t_X12_faultOfTape_54 hKp X hr hlk hrec32 h
theorem t_X12_faultOfTape_32 {l : Launch} {p : Program} {e : Env} {s : State} {m : MethodId} {args : Array Value} {below : List Frame} {meth : Method} {c : Code} {K : ix_Cx} (hKp : ix_Kp K) {n : Nat} {z : ix_Z} (X : ix_X p s m args c K cX12_faultOfTape RX12 2) (hr : meth.sig.returnType = (some .int)) (hlk : meth.locks = false)  {a0 : Nat} {r : Int32} {d1 : ix_D2}  {x1 : Int32} {d : ix_D2} (h : f_X12_faultOfTape_32 n z  a0 x1 d = some (r, d1)) : ix_G p l e (ix_rm 2 44 0 0) s m args below meth c (MQ below (ix_Post K (some (.int r)) (ix_w z d1)) args s 0 0 (ix_A K)) K 2 0 0 32 [(0, .ref (K.2.2.1 + a0)), (1, .int x1)] [] (ix_w z d) := by
  have key : ∀ (f : Nat) (x1 : Int32) (d : ix_D2), ix_fix (b_X12_faultOfTape_32 n z  a0) (fun _ _ => none) f x1 d = some (r, d1) → ix_G p l e (ix_rm 2 44 0 0) s m args below meth c (MQ below (ix_Post K (some (.int r)) (ix_w z d1)) args s 0 0 (ix_A K)) K 2 0 0 32 [(0, .ref (K.2.2.1 + a0)), (1, .int x1)] [] (ix_w z d) := by
    intro f
    induction f with
    | zero =>
      intro x1 d h
      have h : (none : Option (Int32 × ix_D2)) = some (r, d1) := h
      cases h
    | succ f ih =>
      intro x1 d h
      exact tb_X12_faultOfTape_32 hKp X hr hlk (rec32 := ix_fix (b_X12_faultOfTape_32 n z  a0) (fun _ _ => none) f)  ih h
  exact key n x1 d h
set_option maxRecDepth 20000 in
theorem c_X12_faultOfTape {l : Launch} {K : ix_Cx} (hKp : ix_Kp K) {n : Nat} {z : ix_Z} {a0 : Nat} {d : ix_D2} {r : Int32} {d1 : ix_D2} (h : f_X12_faultOfTape n z a0 d = some (r, d1)) : ix_M l K yX12_faultOfTape cX12_faultOfTape 2 (some .int) 2 44 0 0 [.ref (K.2.2.1 + a0)] (ix_w z d) (some (.int r)) (ix_w z d1) := by
  refine ix_met mf_X12_faultOfTape hKp (Nat.le_of_ble_eq_true rfl) ?_
  intro p e s m args below meth c hr hlk hnm X
  have X : ix_X p s m args c K cX12_faultOfTape RX12 2 := X
  show ix_G p l e (ix_rm 2 44 0 0) s m args below meth c (MQ below (ix_Post K (some (.int r)) (ix_w z d1)) args s 0 0 (ix_A K)) K 2 0 0 0 [(0, .ref (K.2.2.1 + a0))] [] (ix_w z d)
  unfold f_X12_faultOfTape at h
  refine ix_aload_n (i := 0) (j := 0) X (ix_tb_at tb_X12_faultOfTape 0 rfl) rfl rfl (pc1 := 1) rfl ?_
  refine ix_iconst (v := 0) X (ix_tb_at tb_X12_faultOfTape 1 rfl) (by decide) (pc1 := 2) rfl ?_
  obtain ⟨k_1, h⟩ := ix_ck_some h
  obtain ⟨d_2, e_3, h⟩ := ix_lt_ex h
  refine iz_putI X fp_RX12_343 k_1 (ix_tb_at tb_X12_faultOfTape 2 rfl) e_3 (pc1 := 5) rfl ?_
  refine ix_aload_n (i := 0) (j := 0) X (ix_tb_at tb_X12_faultOfTape 3 rfl) rfl rfl (pc1 := 6) rfl ?_
  refine ix_iconst (v := 0) X (ix_tb_at tb_X12_faultOfTape 4 rfl) (by decide) (pc1 := 7) rfl ?_
  obtain ⟨d_4, e_5, h⟩ := ix_lt_ex h
  refine iz_putI X fp_RX12_292 k_1 (ix_tb_at tb_X12_faultOfTape 5 rfl) e_5 (pc1 := 10) rfl ?_
  refine ix_aload_n (i := 0) (j := 0) X (ix_tb_at tb_X12_faultOfTape 6 rfl) rfl rfl (pc1 := 11) rfl ?_
  refine ix_iconst (v := 0) X (ix_tb_at tb_X12_faultOfTape 7 rfl) (by decide) (pc1 := 12) rfl ?_
  obtain ⟨d_6, e_7, h⟩ := ix_lt_ex h
  refine iz_putI X fp_RX12_337 k_1 (ix_tb_at tb_X12_faultOfTape 8 rfl) e_7 (pc1 := 15) rfl ?_
  refine ix_aload_n (i := 0) (j := 0) X (ix_tb_at tb_X12_faultOfTape 9 rfl) rfl rfl (pc1 := 16) rfl ?_
  refine ix_iconst (v := 0) X (ix_tb_at tb_X12_faultOfTape 10 rfl) (by decide) (pc1 := 17) rfl ?_
  obtain ⟨d_8, e_9, h⟩ := ix_lt_ex h
  refine iz_putI X fp_RX12_349 k_1 (ix_tb_at tb_X12_faultOfTape 11 rfl) e_9 (pc1 := 20) rfl ?_
  refine ix_aload_n (i := 0) (j := 0) X (ix_tb_at tb_X12_faultOfTape 12 rfl) rfl rfl (pc1 := 21) rfl ?_
  refine ix_iconst (v := 0) X (ix_tb_at tb_X12_faultOfTape 13 rfl) (by decide) (pc1 := 22) rfl ?_
  obtain ⟨d_10, e_11, h⟩ := ix_lt_ex h
  refine iz_putI X fp_RX12_331 k_1 (ix_tb_at tb_X12_faultOfTape 14 rfl) e_11 (pc1 := 25) rfl ?_
  refine ix_aload_n (i := 0) (j := 0) X (ix_tb_at tb_X12_faultOfTape 15 rfl) rfl rfl (pc1 := 26) rfl ?_
  refine ix_iconst (v := 1) X (ix_tb_at tb_X12_faultOfTape 16 rfl) (by decide) (pc1 := 27) rfl ?_
  obtain ⟨d_12, e_13, h⟩ := ix_lt_ex h
  refine iz_putZ X fp_RX12_346 k_1 (ix_tb_at tb_X12_faultOfTape 17 rfl) (by decide) e_13 (pc1 := 30) rfl ?_
  refine ix_iconst (v := 1) X (ix_tb_at tb_X12_faultOfTape 18 rfl) (by decide) (pc1 := 31) rfl ?_
  refine ix_istore_n (i := 1) (L1 := [(1, .int 1), (0, .ref (K.2.2.1 + a0))]) X (ix_tb_at tb_X12_faultOfTape 19 rfl) rfl (Nat.le_of_ble_eq_true rfl) rfl (pc1 := 32) rfl ?_
  refine ix_sub (L1 := [(0, .ref (K.2.2.1 + a0)), (1, .int 1)]) [1, 0] rfl ?_
  exact t_X12_faultOfTape_32 hKp X hr hlk  h
def tab_X12_layJust : List (Nat × Instr × Nat) := [(0, .iconst 0, 1), (1, .istore 4, 2), (3, .iload 4, 2), (5, .iload_n 3, 1), (6, .if_icmp .ge 22, 3), (9, .aload_n 0, 1), (10, .aload_n 0, 1), (11, .getfield 104, 3), (14, .iload_n 2, 1), (15, .iload 4, 2), (17, .iadd, 1), (18, .iaload, 1), (19, .invokevirtual 282, 3), (22, .iinc 4 1, 3), (25, .goto (-22), 3), (28, .aload_n 0, 1), (29, .iload_n 1, 1), (30, .ineg, 1), (31, .invokevirtual 282, 3), (34, .aload_n 0, 1), (35, .invokevirtual 286, 3), (38, .iconst 0, 1), (39, .istore 4, 2), (41, .iload 4, 2), (43, .iload_n 3, 1), (44, .if_icmp .ge 53, 3), (47, .iload 4, 2), (49, .iconst 1, 1), (50, .iadd, 1), (51, .istore 5, 2), (53, .iload 5, 2), (55, .iload_n 3, 1), (56, .if_icmp .ge 35, 3), (59, .aload_n 0, 1), (60, .aload_n 0, 1), (61, .getfield 104, 3), (64, .iload_n 2, 1), (65, .iload 4, 2), (67, .iadd, 1), (68, .iaload, 1), (69, .ineg, 1), (70, .aload_n 0, 1), (71, .getfield 104, 3), (74, .iload_n 2, 1), (75, .iload 5, 2), (77, .iadd, 1), (78, .iaload, 1), (79, .ineg, 1), (80, .iload_n 1, 1), (81, .ineg, 1), (82, .invokevirtual 306, 3), (85, .iinc 5 1, 3), (88, .goto (-35), 3), (91, .iinc 4 1, 3), (94, .goto (-53), 3), (97, .iconst 0, 1), (98, .istore 4, 2), (100, .iload 4, 2), (102, .iload_n 3, 1), (103, .if_icmp .ge 67, 3), (106, .aload_n 0, 1), (107, .iload_n 1, 1), (108, .invokevirtual 282, 3), (111, .aload_n 0, 1), (112, .aload_n 0, 1), (113, .getfield 104, 3), (116, .iload_n 2, 1), (117, .iload 4, 2), (119, .iadd, 1), (120, .iaload, 1), (121, .ineg, 1), (122, .invokevirtual 282, 3), (125, .iconst 0, 1), (126, .istore 5, 2), (128, .iload 5, 2), (130, .iload_n 3, 1), (131, .if_icmp .ge 29, 3), (134, .iload 5, 2), (136, .iload 4, 2), (138, .if_icmp .eq 16, 3), (141, .aload_n 0, 1), (142, .aload_n 0, 1), (143, .getfield 104, 3), (146, .iload_n 2, 1), (147, .iload 5, 2), (149, .iadd, 1), (150, .iaload, 1), (151, .invokevirtual 282, 3), (154, .iinc 5 1, 3), (157, .goto (-29), 3), (160, .aload_n 0, 1), (161, .invokevirtual 286, 3), (164, .iinc 4 1, 3), (167, .goto (-67), 3), (170, .return_, 1)]
theorem tb_X12_layJust : ix_tab cX12_layJust tab_X12_layJust := by
  unfold ix_tab
  decide +kernel
noncomputable def f_X12_layJust_154 (n : Nat) (z : ix_Z) (rec100 : Int32 → ix_D2 → Option (ix_D2)) (rec128 : Int32 → ix_D2 → Option (ix_D2)) (a0 : Nat) (x1 : Int32) (x2 : Int32) (x3 : Int32) (x4 : Int32) (x5 : Int32) (d : ix_D2) : Option (ix_D2) :=
  ix_lt (x5 + 1) (fun x5_24 => rec128 x5_24 d)
noncomputable def b_X12_layJust_128 (n : Nat) (z : ix_Z) (rec100 : Int32 → ix_D2 → Option (ix_D2)) (a0 : Nat) (x1 : Int32) (x2 : Int32) (x3 : Int32) (x4 : Int32) (rec128 : Int32 → ix_D2 → Option (ix_D2)) (x5 : Int32) (d : ix_D2) : Option (ix_D2) :=
  ix_if (x3 ≤ x5) (ix_ck (ix_ok z [11] a0) (ix_bd1 (f_X12_endRow n z a0 d) (fun d_18 => ix_lt (x4 + 1) (fun x4_21 => rec100 x4_21 d_18)))) (ix_if (x5 = x4) (f_X12_layJust_154 n z rec100 rec128 a0 x1 x2 x3 x4 x5 d) (ix_ck (ix_ok z [11] a0) (ix_bd1 (z.1 a0 53) (fun b_27 => ix_ck (ix_ix z 20 b_27 (x2 + x5)) (ix_bd1 (f_X12_lay n z a0 (d.1 b_27 (ix_n (x2 + x5))) d) (fun d_30 => f_X12_layJust_154 n z rec100 rec128 a0 x1 x2 x3 x4 x5 d_30))))))
noncomputable def f_X12_layJust_128 (n : Nat) (z : ix_Z) (rec100 : Int32 → ix_D2 → Option (ix_D2)) (a0 : Nat) (x1 : Int32) (x2 : Int32) (x3 : Int32) (x4 : Int32) (x5 : Int32) (d : ix_D2) : Option (ix_D2) := ix_fix (b_X12_layJust_128 n z rec100 a0 x1 x2 x3 x4) (fun _ _ => none) n x5 d
noncomputable def b_X12_layJust_100 (n : Nat) (z : ix_Z)  (a0 : Nat) (x1 : Int32) (x2 : Int32) (x3 : Int32) (rec100 : Int32 → ix_D2 → Option (ix_D2)) (x4 : Int32) (d : ix_D2) : Option (ix_D2) :=
  ix_if (x3 ≤ x4) (some d) (ix_ck (ix_ok z [11] a0) (ix_bd1 (f_X12_lay n z a0 x1 d) (fun d_9 => ix_bd1 (z.1 a0 53) (fun b_12 => ix_ck (ix_ix z 20 b_12 (x2 + x4)) (ix_bd1 (f_X12_lay n z a0 (-(d_9.1 b_12 (ix_n (x2 + x4)))) d_9) (fun d_15 => f_X12_layJust_128 n z rec100 a0 x1 x2 x3 x4 0 d_15))))))
noncomputable def f_X12_layJust_100 (n : Nat) (z : ix_Z)  (a0 : Nat) (x1 : Int32) (x2 : Int32) (x3 : Int32) (x4 : Int32) (d : ix_D2) : Option (ix_D2) := ix_fix (b_X12_layJust_100 n z  a0 x1 x2 x3) (fun _ _ => none) n x4 d
noncomputable def b_X12_layJust_53 (n : Nat) (z : ix_Z) (rec41 : Int32 → ix_D2 → Option (ix_D2)) (a0 : Nat) (x1 : Int32) (x2 : Int32) (x3 : Int32) (x4 : Int32) (rec53 : Int32 → ix_D2 → Option (ix_D2)) (x5 : Int32) (d : ix_D2) : Option (ix_D2) :=
  ix_if (x3 ≤ x5) (ix_lt (x4 + 1) (fun x4_35 => rec41 x4_35 d)) (ix_ck (ix_ok z [11] a0) (ix_bd1 (z.1 a0 53) (fun b_38 => ix_ck (ix_ix z 20 b_38 (x2 + x4)) (ix_ck (ix_ix z 20 b_38 (x2 + x5)) (ix_bd1 (f_X12_layThree n z a0 (-(d.1 b_38 (ix_n (x2 + x4)))) (-(d.1 b_38 (ix_n (x2 + x5)))) (-x1) d) (fun d_42 => ix_lt (x5 + 1) (fun x5_44 => rec53 x5_44 d_42)))))))
noncomputable def f_X12_layJust_53 (n : Nat) (z : ix_Z) (rec41 : Int32 → ix_D2 → Option (ix_D2)) (a0 : Nat) (x1 : Int32) (x2 : Int32) (x3 : Int32) (x4 : Int32) (x5 : Int32) (d : ix_D2) : Option (ix_D2) := ix_fix (b_X12_layJust_53 n z rec41 a0 x1 x2 x3 x4) (fun _ _ => none) n x5 d
noncomputable def b_X12_layJust_41 (n : Nat) (z : ix_Z)  (a0 : Nat) (x1 : Int32) (x2 : Int32) (x3 : Int32) (rec41 : Int32 → ix_D2 → Option (ix_D2)) (x4 : Int32) (d : ix_D2) : Option (ix_D2) :=
  ix_if (x3 ≤ x4) (f_X12_layJust_100 n z  a0 x1 x2 x3 0 d) (ix_lt (x4 + 1) (fun x5_32 => f_X12_layJust_53 n z rec41 a0 x1 x2 x3 x4 x5_32 d))
noncomputable def f_X12_layJust_41 (n : Nat) (z : ix_Z)  (a0 : Nat) (x1 : Int32) (x2 : Int32) (x3 : Int32) (x4 : Int32) (d : ix_D2) : Option (ix_D2) := ix_fix (b_X12_layJust_41 n z  a0 x1 x2 x3) (fun _ _ => none) n x4 d
noncomputable def b_X12_layJust_3 (n : Nat) (z : ix_Z)  (a0 : Nat) (x1 : Int32) (x2 : Int32) (x3 : Int32) (rec3 : Int32 → ix_D2 → Option (ix_D2)) (x4 : Int32) (d : ix_D2) : Option (ix_D2) :=
  ix_if (x3 ≤ x4) (ix_ck (ix_ok z [11] a0) (ix_bd1 (f_X12_lay n z a0 (-x1) d) (fun d_2 => ix_bd1 (f_X12_endRow n z a0 d_2) (fun d_5 => f_X12_layJust_41 n z  a0 x1 x2 x3 0 d_5)))) (ix_ck (ix_ok z [11] a0) (ix_bd1 (z.1 a0 53) (fun b_47 => ix_ck (ix_ix z 20 b_47 (x2 + x4)) (ix_bd1 (f_X12_lay n z a0 (d.1 b_47 (ix_n (x2 + x4))) d) (fun d_50 => ix_lt (x4 + 1) (fun x4_52 => rec3 x4_52 d_50))))))
noncomputable def f_X12_layJust_3 (n : Nat) (z : ix_Z)  (a0 : Nat) (x1 : Int32) (x2 : Int32) (x3 : Int32) (x4 : Int32) (d : ix_D2) : Option (ix_D2) := ix_fix (b_X12_layJust_3 n z  a0 x1 x2 x3) (fun _ _ => none) n x4 d
noncomputable def f_X12_layJust (n : Nat) (z : ix_Z) (a0 : Nat) (x1 : Int32) (x2 : Int32) (x3 : Int32) (d : ix_D2) : Option (ix_D2) :=
  f_X12_layJust_3 n z  a0 x1 x2 x3 0 d
set_option maxRecDepth 20000 in
theorem t_X12_layJust_154 {l : Launch} {p : Program} {e : Env} {s : State} {m : MethodId} {args : Array Value} {below : List Frame} {meth : Method} {c : Code} {K : ix_Cx} (hKp : ix_Kp K) {n : Nat} {z : ix_Z} (X : ix_X p s m args c K cX12_layJust RX12 6) (hr : meth.sig.returnType = (none : Option Jvm.ClassFile.FieldType)) (hlk : meth.locks = false) {rec100 : Int32 → ix_D2 → Option (ix_D2)} {rec128 : Int32 → ix_D2 → Option (ix_D2)} {a0 : Nat} {x1 : Int32} {x2 : Int32} {x3 : Int32} {x4 : Int32} {x5 : Int32} {d1 : ix_D2} (hrec100 : ∀ (x4 : Int32) (d : ix_D2), rec100 x4 d = some d1 → ix_G p l e (ix_rm 2 46 0 0) s m args below meth c (MQ below (ix_Post K none (ix_w z d1)) args s 0 0 (ix_A K)) K 6 0 0 100 [(0, .ref (K.2.2.1 + a0)), (1, .int x1), (2, .int x2), (3, .int x3), (4, .int x4)] [] (ix_w z d)) (hrec128 : ∀ (x5 : Int32) (d : ix_D2), rec128 x5 d = some d1 → ix_G p l e (ix_rm 2 46 0 0) s m args below meth c (MQ below (ix_Post K none (ix_w z d1)) args s 0 0 (ix_A K)) K 6 0 0 128 [(0, .ref (K.2.2.1 + a0)), (1, .int x1), (2, .int x2), (3, .int x3), (4, .int x4), (5, .int x5)] [] (ix_w z d)) {d : ix_D2} (h : f_X12_layJust_154 n z rec100 rec128 a0 x1 x2 x3 x4 x5 d = some d1) : ix_G p l e (ix_rm 2 46 0 0) s m args below meth c (MQ below (ix_Post K none (ix_w z d1)) args s 0 0 (ix_A K)) K 6 0 0 154 [(0, .ref (K.2.2.1 + a0)), (1, .int x1), (2, .int x2), (3, .int x3), (4, .int x4), (5, .int x5)] [] (ix_w z d) := by
  unfold f_X12_layJust_154 at h
  obtain ⟨x5_24, e_25, h⟩ := ix_lt_ex h
  refine ix_iinc (i := 5) (j := 5) (v := x5_24) (L1 := [(5, .int x5_24), (0, .ref (K.2.2.1 + a0)), (1, .int x1), (2, .int x2), (3, .int x3), (4, .int x4)]) X (ix_tb_at tb_X12_layJust 88 rfl) rfl (by rw [oi_1]; exact e_25.symm) (Nat.le_of_ble_eq_true rfl) rfl (pc1 := 157) rfl ?_
  refine ix_goto (tgt := 128) X (ix_tb_at tb_X12_layJust 89 rfl) (by decide) ?_
  refine ix_sub (L1 := [(0, .ref (K.2.2.1 + a0)), (1, .int x1), (2, .int x2), (3, .int x3), (4, .int x4), (5, .int x5_24)]) [1, 2, 3, 4, 5, 0] rfl ?_
  exact hrec128 x5_24 d h
set_option maxRecDepth 20000 in
theorem tb_X12_layJust_128 {l : Launch} {p : Program} {e : Env} {s : State} {m : MethodId} {args : Array Value} {below : List Frame} {meth : Method} {c : Code} {K : ix_Cx} (hKp : ix_Kp K) {n : Nat} {z : ix_Z} (X : ix_X p s m args c K cX12_layJust RX12 6) (hr : meth.sig.returnType = (none : Option Jvm.ClassFile.FieldType)) (hlk : meth.locks = false) {rec100 : Int32 → ix_D2 → Option (ix_D2)} {a0 : Nat} {x1 : Int32} {x2 : Int32} {x3 : Int32} {x4 : Int32} {rec128 : Int32 → ix_D2 → Option (ix_D2)} {d1 : ix_D2} (hrec100 : ∀ (x4 : Int32) (d : ix_D2), rec100 x4 d = some d1 → ix_G p l e (ix_rm 2 46 0 0) s m args below meth c (MQ below (ix_Post K none (ix_w z d1)) args s 0 0 (ix_A K)) K 6 0 0 100 [(0, .ref (K.2.2.1 + a0)), (1, .int x1), (2, .int x2), (3, .int x3), (4, .int x4)] [] (ix_w z d)) (hrec128 : ∀ (x5 : Int32) (d : ix_D2), rec128 x5 d = some d1 → ix_G p l e (ix_rm 2 46 0 0) s m args below meth c (MQ below (ix_Post K none (ix_w z d1)) args s 0 0 (ix_A K)) K 6 0 0 128 [(0, .ref (K.2.2.1 + a0)), (1, .int x1), (2, .int x2), (3, .int x3), (4, .int x4), (5, .int x5)] [] (ix_w z d)) {x5 : Int32} {d : ix_D2} (h : b_X12_layJust_128 n z rec100 a0 x1 x2 x3 x4 rec128 x5 d = some d1) : ix_G p l e (ix_rm 2 46 0 0) s m args below meth c (MQ below (ix_Post K none (ix_w z d1)) args s 0 0 (ix_A K)) K 6 0 0 128 [(0, .ref (K.2.2.1 + a0)), (1, .int x1), (2, .int x2), (3, .int x3), (4, .int x4), (5, .int x5)] [] (ix_w z d) := by
  unfold b_X12_layJust_128 at h
  refine ix_iload (i := 5) (j := 5) X (ix_tb_at tb_X12_layJust 74 rfl) rfl (pc1 := 130) rfl ?_
  refine ix_iload_n (i := 3) (j := 3) X (ix_tb_at tb_X12_layJust 75 rfl) rfl rfl (pc1 := 131) rfl ?_
  refine ix_icmp_ge (tgt := 160) X (ix_tb_at tb_X12_layJust 76 rfl) (by decide) (pc1 := 134) rfl (fun q_17 => ?_) (fun q_17 => ?_)
  · have h := ix_ift q_17 h
    refine ix_aload_n (i := 0) (j := 0) X (ix_tb_at tb_X12_layJust 90 rfl) rfl rfl (pc1 := 161) rfl ?_
    obtain ⟨k_20, h⟩ := ix_ck_some h
    obtain ⟨d_18, h_19, h⟩ := ix_bd1_ex h
    refine ix_callV (As := []) (rest := []) (ci := 11) (T := TX12) (nf := 116) X mf_X12_endRow mi_X12_endRow ms_X12_endRow rfl (Nat.le_of_ble_eq_true rfl) ml_RX12_286 ⟨Nat.le_of_ble_eq_true rfl, Nat.le_of_ble_eq_true rfl⟩ ⟨Nat.le_of_ble_eq_true rfl, Nat.le_of_ble_eq_true rfl⟩ rfl (Nat.le_of_ble_eq_true rfl) (ix_tb_at tb_X12_layJust 91 rfl) ⟨k_20.1, List.mem_singleton.mp k_20.2⟩ (c_X12_endRow hKp h_19) rfl (pc1 := 164) rfl ?_
    obtain ⟨x4_21, e_22, h⟩ := ix_lt_ex h
    refine ix_iinc (i := 4) (j := 4) (v := x4_21) (L1 := [(4, .int x4_21), (0, .ref (K.2.2.1 + a0)), (1, .int x1), (2, .int x2), (3, .int x3), (5, .int x5)]) X (ix_tb_at tb_X12_layJust 92 rfl) rfl (by rw [oi_1]; exact e_22.symm) (Nat.le_of_ble_eq_true rfl) rfl (pc1 := 167) rfl ?_
    refine ix_goto (tgt := 100) X (ix_tb_at tb_X12_layJust 93 rfl) (by decide) ?_
    refine ix_sub (L1 := [(0, .ref (K.2.2.1 + a0)), (1, .int x1), (2, .int x2), (3, .int x3), (4, .int x4_21)]) [1, 2, 3, 4, 0] rfl ?_
    exact hrec100 x4_21 d_18 h
  · have h := ix_iff q_17 h
    refine ix_iload (i := 5) (j := 5) X (ix_tb_at tb_X12_layJust 77 rfl) rfl (pc1 := 136) rfl ?_
    refine ix_iload (i := 4) (j := 4) X (ix_tb_at tb_X12_layJust 78 rfl) rfl (pc1 := 138) rfl ?_
    refine ix_icmp_eq (tgt := 154) X (ix_tb_at tb_X12_layJust 79 rfl) (by decide) (pc1 := 141) rfl (fun q_23 => ?_) (fun q_23 => ?_)
    · have h := ix_ift q_23 h
      refine ix_sub (L1 := [(0, .ref (K.2.2.1 + a0)), (1, .int x1), (2, .int x2), (3, .int x3), (4, .int x4), (5, .int x5)]) [0, 1, 2, 3, 4, 5] rfl ?_
      exact t_X12_layJust_154 hKp X hr hlk hrec100 hrec128 h
    · have h := ix_iff q_23 h
      refine ix_aload_n (i := 0) (j := 0) X (ix_tb_at tb_X12_layJust 80 rfl) rfl rfl (pc1 := 142) rfl ?_
      refine ix_aload_n (i := 0) (j := 0) X (ix_tb_at tb_X12_layJust 81 rfl) rfl rfl (pc1 := 143) rfl ?_
      obtain ⟨k_26, h⟩ := ix_ck_some h
      obtain ⟨b_27, q_28, h⟩ := ix_bd1_ex h
      refine iz_getR X fl_RX12_104 k_26 q_28 (ix_tb_at tb_X12_layJust 82 rfl) (pc1 := 146) rfl ?_
      refine ix_iload_n (i := 2) (j := 2) X (ix_tb_at tb_X12_layJust 83 rfl) rfl rfl (pc1 := 147) rfl ?_
      refine ix_iload (i := 5) (j := 5) X (ix_tb_at tb_X12_layJust 84 rfl) rfl (pc1 := 149) rfl ?_
      refine ix_iadd X (ix_tb_at tb_X12_layJust 85 rfl) (pc1 := 150) rfl ?_
      obtain ⟨k_29, h⟩ := ix_ck_some h
      refine iz_iald X k_29 (ix_tb_at tb_X12_layJust 86 rfl) (pc1 := 151) rfl ?_
      obtain ⟨d_30, h_31, h⟩ := ix_bd1_ex h
      refine ix_callV (As := [.int (d.1 b_27 (ix_n (x2 + x5)))]) (rest := []) (ci := 11) (T := TX12) (nf := 116) X mf_X12_lay mi_X12_lay ms_X12_lay rfl (Nat.le_of_ble_eq_true rfl) ml_RX12_282 ⟨Nat.le_of_ble_eq_true rfl, Nat.le_of_ble_eq_true rfl⟩ ⟨Nat.le_of_ble_eq_true rfl, Nat.le_of_ble_eq_true rfl⟩ rfl (Nat.le_of_ble_eq_true rfl) (ix_tb_at tb_X12_layJust 87 rfl) ⟨k_26.1, List.mem_singleton.mp k_26.2⟩ (c_X12_lay hKp h_31) rfl (pc1 := 154) rfl ?_
      refine ix_sub (L1 := [(0, .ref (K.2.2.1 + a0)), (1, .int x1), (2, .int x2), (3, .int x3), (4, .int x4), (5, .int x5)]) [0, 1, 2, 3, 4, 5] rfl ?_
      exact t_X12_layJust_154 hKp X hr hlk hrec100 hrec128 h
theorem t_X12_layJust_128 {l : Launch} {p : Program} {e : Env} {s : State} {m : MethodId} {args : Array Value} {below : List Frame} {meth : Method} {c : Code} {K : ix_Cx} (hKp : ix_Kp K) {n : Nat} {z : ix_Z} (X : ix_X p s m args c K cX12_layJust RX12 6) (hr : meth.sig.returnType = (none : Option Jvm.ClassFile.FieldType)) (hlk : meth.locks = false) {rec100 : Int32 → ix_D2 → Option (ix_D2)} {a0 : Nat} {x1 : Int32} {x2 : Int32} {x3 : Int32} {x4 : Int32} {d1 : ix_D2} (hrec100 : ∀ (x4 : Int32) (d : ix_D2), rec100 x4 d = some d1 → ix_G p l e (ix_rm 2 46 0 0) s m args below meth c (MQ below (ix_Post K none (ix_w z d1)) args s 0 0 (ix_A K)) K 6 0 0 100 [(0, .ref (K.2.2.1 + a0)), (1, .int x1), (2, .int x2), (3, .int x3), (4, .int x4)] [] (ix_w z d)) {x5 : Int32} {d : ix_D2} (h : f_X12_layJust_128 n z rec100 a0 x1 x2 x3 x4 x5 d = some d1) : ix_G p l e (ix_rm 2 46 0 0) s m args below meth c (MQ below (ix_Post K none (ix_w z d1)) args s 0 0 (ix_A K)) K 6 0 0 128 [(0, .ref (K.2.2.1 + a0)), (1, .int x1), (2, .int x2), (3, .int x3), (4, .int x4), (5, .int x5)] [] (ix_w z d) := by
  have key : ∀ (f : Nat) (x5 : Int32) (d : ix_D2), ix_fix (b_X12_layJust_128 n z rec100 a0 x1 x2 x3 x4) (fun _ _ => none) f x5 d = some d1 → ix_G p l e (ix_rm 2 46 0 0) s m args below meth c (MQ below (ix_Post K none (ix_w z d1)) args s 0 0 (ix_A K)) K 6 0 0 128 [(0, .ref (K.2.2.1 + a0)), (1, .int x1), (2, .int x2), (3, .int x3), (4, .int x4), (5, .int x5)] [] (ix_w z d) := by
    intro f
    induction f with
    | zero =>
      intro x5 d h
      have h : (none : Option (ix_D2)) = some d1 := h
      cases h
    | succ f ih =>
      intro x5 d h
      exact tb_X12_layJust_128 hKp X hr hlk (rec128 := ix_fix (b_X12_layJust_128 n z rec100 a0 x1 x2 x3 x4) (fun _ _ => none) f) hrec100 ih h
  exact key n x5 d h
set_option maxRecDepth 20000 in
theorem tb_X12_layJust_100 {l : Launch} {p : Program} {e : Env} {s : State} {m : MethodId} {args : Array Value} {below : List Frame} {meth : Method} {c : Code} {K : ix_Cx} (hKp : ix_Kp K) {n : Nat} {z : ix_Z} (X : ix_X p s m args c K cX12_layJust RX12 6) (hr : meth.sig.returnType = (none : Option Jvm.ClassFile.FieldType)) (hlk : meth.locks = false)  {a0 : Nat} {x1 : Int32} {x2 : Int32} {x3 : Int32} {rec100 : Int32 → ix_D2 → Option (ix_D2)} {d1 : ix_D2} (hrec100 : ∀ (x4 : Int32) (d : ix_D2), rec100 x4 d = some d1 → ix_G p l e (ix_rm 2 46 0 0) s m args below meth c (MQ below (ix_Post K none (ix_w z d1)) args s 0 0 (ix_A K)) K 6 0 0 100 [(0, .ref (K.2.2.1 + a0)), (1, .int x1), (2, .int x2), (3, .int x3), (4, .int x4)] [] (ix_w z d)) {x4 : Int32} {d : ix_D2} (h : b_X12_layJust_100 n z  a0 x1 x2 x3 rec100 x4 d = some d1) : ix_G p l e (ix_rm 2 46 0 0) s m args below meth c (MQ below (ix_Post K none (ix_w z d1)) args s 0 0 (ix_A K)) K 6 0 0 100 [(0, .ref (K.2.2.1 + a0)), (1, .int x1), (2, .int x2), (3, .int x3), (4, .int x4)] [] (ix_w z d) := by
  unfold b_X12_layJust_100 at h
  refine ix_iload (i := 4) (j := 4) X (ix_tb_at tb_X12_layJust 57 rfl) rfl (pc1 := 102) rfl ?_
  refine ix_iload_n (i := 3) (j := 3) X (ix_tb_at tb_X12_layJust 58 rfl) rfl rfl (pc1 := 103) rfl ?_
  refine ix_icmp_ge (tgt := 170) X (ix_tb_at tb_X12_layJust 59 rfl) (by decide) (pc1 := 106) rfl (fun q_8 => ?_) (fun q_8 => ?_)
  · have h := ix_ift q_8 h
    exact ix_vret X hr hlk (ix_r1 (g := ix_w z) h) (ix_tb_at tb_X12_layJust 94 rfl)
  · have h := ix_iff q_8 h
    refine ix_aload_n (i := 0) (j := 0) X (ix_tb_at tb_X12_layJust 60 rfl) rfl rfl (pc1 := 107) rfl ?_
    refine ix_iload_n (i := 1) (j := 1) X (ix_tb_at tb_X12_layJust 61 rfl) rfl rfl (pc1 := 108) rfl ?_
    obtain ⟨k_11, h⟩ := ix_ck_some h
    obtain ⟨d_9, h_10, h⟩ := ix_bd1_ex h
    refine ix_callV (As := [.int x1]) (rest := []) (ci := 11) (T := TX12) (nf := 116) X mf_X12_lay mi_X12_lay ms_X12_lay rfl (Nat.le_of_ble_eq_true rfl) ml_RX12_282 ⟨Nat.le_of_ble_eq_true rfl, Nat.le_of_ble_eq_true rfl⟩ ⟨Nat.le_of_ble_eq_true rfl, Nat.le_of_ble_eq_true rfl⟩ rfl (Nat.le_of_ble_eq_true rfl) (ix_tb_at tb_X12_layJust 62 rfl) ⟨k_11.1, List.mem_singleton.mp k_11.2⟩ (c_X12_lay hKp h_10) rfl (pc1 := 111) rfl ?_
    refine ix_aload_n (i := 0) (j := 0) X (ix_tb_at tb_X12_layJust 63 rfl) rfl rfl (pc1 := 112) rfl ?_
    refine ix_aload_n (i := 0) (j := 0) X (ix_tb_at tb_X12_layJust 64 rfl) rfl rfl (pc1 := 113) rfl ?_
    obtain ⟨b_12, q_13, h⟩ := ix_bd1_ex h
    refine iz_getR X fl_RX12_104 k_11 q_13 (ix_tb_at tb_X12_layJust 65 rfl) (pc1 := 116) rfl ?_
    refine ix_iload_n (i := 2) (j := 2) X (ix_tb_at tb_X12_layJust 66 rfl) rfl rfl (pc1 := 117) rfl ?_
    refine ix_iload (i := 4) (j := 4) X (ix_tb_at tb_X12_layJust 67 rfl) rfl (pc1 := 119) rfl ?_
    refine ix_iadd X (ix_tb_at tb_X12_layJust 68 rfl) (pc1 := 120) rfl ?_
    obtain ⟨k_14, h⟩ := ix_ck_some h
    refine iz_iald X k_14 (ix_tb_at tb_X12_layJust 69 rfl) (pc1 := 121) rfl ?_
    refine ix_ineg X (ix_tb_at tb_X12_layJust 70 rfl) (pc1 := 122) rfl ?_
    obtain ⟨d_15, h_16, h⟩ := ix_bd1_ex h
    refine ix_callV (As := [.int (-(d_9.1 b_12 (ix_n (x2 + x4))))]) (rest := []) (ci := 11) (T := TX12) (nf := 116) X mf_X12_lay mi_X12_lay ms_X12_lay rfl (Nat.le_of_ble_eq_true rfl) ml_RX12_282 ⟨Nat.le_of_ble_eq_true rfl, Nat.le_of_ble_eq_true rfl⟩ ⟨Nat.le_of_ble_eq_true rfl, Nat.le_of_ble_eq_true rfl⟩ rfl (Nat.le_of_ble_eq_true rfl) (ix_tb_at tb_X12_layJust 71 rfl) ⟨k_11.1, List.mem_singleton.mp k_11.2⟩ (c_X12_lay hKp h_16) rfl (pc1 := 125) rfl ?_
    refine ix_iconst (v := 0) X (ix_tb_at tb_X12_layJust 72 rfl) (by decide) (pc1 := 126) rfl ?_
    refine ix_istore (i := 5) (L1 := [(5, .int 0), (0, .ref (K.2.2.1 + a0)), (1, .int x1), (2, .int x2), (3, .int x3), (4, .int x4)]) X (ix_tb_at tb_X12_layJust 73 rfl) (Nat.le_of_ble_eq_true rfl) rfl (pc1 := 128) rfl ?_
    refine ix_sub (L1 := [(0, .ref (K.2.2.1 + a0)), (1, .int x1), (2, .int x2), (3, .int x3), (4, .int x4), (5, .int 0)]) [1, 2, 3, 4, 5, 0] rfl ?_
    exact t_X12_layJust_128 hKp X hr hlk hrec100 h
theorem t_X12_layJust_100 {l : Launch} {p : Program} {e : Env} {s : State} {m : MethodId} {args : Array Value} {below : List Frame} {meth : Method} {c : Code} {K : ix_Cx} (hKp : ix_Kp K) {n : Nat} {z : ix_Z} (X : ix_X p s m args c K cX12_layJust RX12 6) (hr : meth.sig.returnType = (none : Option Jvm.ClassFile.FieldType)) (hlk : meth.locks = false)  {a0 : Nat} {x1 : Int32} {x2 : Int32} {x3 : Int32} {d1 : ix_D2}  {x4 : Int32} {d : ix_D2} (h : f_X12_layJust_100 n z  a0 x1 x2 x3 x4 d = some d1) : ix_G p l e (ix_rm 2 46 0 0) s m args below meth c (MQ below (ix_Post K none (ix_w z d1)) args s 0 0 (ix_A K)) K 6 0 0 100 [(0, .ref (K.2.2.1 + a0)), (1, .int x1), (2, .int x2), (3, .int x3), (4, .int x4)] [] (ix_w z d) := by
  have key : ∀ (f : Nat) (x4 : Int32) (d : ix_D2), ix_fix (b_X12_layJust_100 n z  a0 x1 x2 x3) (fun _ _ => none) f x4 d = some d1 → ix_G p l e (ix_rm 2 46 0 0) s m args below meth c (MQ below (ix_Post K none (ix_w z d1)) args s 0 0 (ix_A K)) K 6 0 0 100 [(0, .ref (K.2.2.1 + a0)), (1, .int x1), (2, .int x2), (3, .int x3), (4, .int x4)] [] (ix_w z d) := by
    intro f
    induction f with
    | zero =>
      intro x4 d h
      have h : (none : Option (ix_D2)) = some d1 := h
      cases h
    | succ f ih =>
      intro x4 d h
      exact tb_X12_layJust_100 hKp X hr hlk (rec100 := ix_fix (b_X12_layJust_100 n z  a0 x1 x2 x3) (fun _ _ => none) f)  ih h
  exact key n x4 d h
set_option maxRecDepth 20000 in
theorem tb_X12_layJust_53 {l : Launch} {p : Program} {e : Env} {s : State} {m : MethodId} {args : Array Value} {below : List Frame} {meth : Method} {c : Code} {K : ix_Cx} (hKp : ix_Kp K) {n : Nat} {z : ix_Z} (X : ix_X p s m args c K cX12_layJust RX12 6) (hr : meth.sig.returnType = (none : Option Jvm.ClassFile.FieldType)) (hlk : meth.locks = false) {rec41 : Int32 → ix_D2 → Option (ix_D2)} {a0 : Nat} {x1 : Int32} {x2 : Int32} {x3 : Int32} {x4 : Int32} {rec53 : Int32 → ix_D2 → Option (ix_D2)} {d1 : ix_D2} (hrec41 : ∀ (x4 : Int32) (d : ix_D2), rec41 x4 d = some d1 → ix_G p l e (ix_rm 2 46 0 0) s m args below meth c (MQ below (ix_Post K none (ix_w z d1)) args s 0 0 (ix_A K)) K 6 0 0 41 [(0, .ref (K.2.2.1 + a0)), (1, .int x1), (2, .int x2), (3, .int x3), (4, .int x4)] [] (ix_w z d)) (hrec53 : ∀ (x5 : Int32) (d : ix_D2), rec53 x5 d = some d1 → ix_G p l e (ix_rm 2 46 0 0) s m args below meth c (MQ below (ix_Post K none (ix_w z d1)) args s 0 0 (ix_A K)) K 6 0 0 53 [(0, .ref (K.2.2.1 + a0)), (1, .int x1), (2, .int x2), (3, .int x3), (4, .int x4), (5, .int x5)] [] (ix_w z d)) {x5 : Int32} {d : ix_D2} (h : b_X12_layJust_53 n z rec41 a0 x1 x2 x3 x4 rec53 x5 d = some d1) : ix_G p l e (ix_rm 2 46 0 0) s m args below meth c (MQ below (ix_Post K none (ix_w z d1)) args s 0 0 (ix_A K)) K 6 0 0 53 [(0, .ref (K.2.2.1 + a0)), (1, .int x1), (2, .int x2), (3, .int x3), (4, .int x4), (5, .int x5)] [] (ix_w z d) := by
  unfold b_X12_layJust_53 at h
  refine ix_iload (i := 5) (j := 5) X (ix_tb_at tb_X12_layJust 30 rfl) rfl (pc1 := 55) rfl ?_
  refine ix_iload_n (i := 3) (j := 3) X (ix_tb_at tb_X12_layJust 31 rfl) rfl rfl (pc1 := 56) rfl ?_
  refine ix_icmp_ge (tgt := 91) X (ix_tb_at tb_X12_layJust 32 rfl) (by decide) (pc1 := 59) rfl (fun q_34 => ?_) (fun q_34 => ?_)
  · have h := ix_ift q_34 h
    obtain ⟨x4_35, e_36, h⟩ := ix_lt_ex h
    refine ix_iinc (i := 4) (j := 4) (v := x4_35) (L1 := [(4, .int x4_35), (0, .ref (K.2.2.1 + a0)), (1, .int x1), (2, .int x2), (3, .int x3), (5, .int x5)]) X (ix_tb_at tb_X12_layJust 53 rfl) rfl (by rw [oi_1]; exact e_36.symm) (Nat.le_of_ble_eq_true rfl) rfl (pc1 := 94) rfl ?_
    refine ix_goto (tgt := 41) X (ix_tb_at tb_X12_layJust 54 rfl) (by decide) ?_
    refine ix_sub (L1 := [(0, .ref (K.2.2.1 + a0)), (1, .int x1), (2, .int x2), (3, .int x3), (4, .int x4_35)]) [1, 2, 3, 4, 0] rfl ?_
    exact hrec41 x4_35 d h
  · have h := ix_iff q_34 h
    refine ix_aload_n (i := 0) (j := 0) X (ix_tb_at tb_X12_layJust 33 rfl) rfl rfl (pc1 := 60) rfl ?_
    refine ix_aload_n (i := 0) (j := 0) X (ix_tb_at tb_X12_layJust 34 rfl) rfl rfl (pc1 := 61) rfl ?_
    obtain ⟨k_37, h⟩ := ix_ck_some h
    obtain ⟨b_38, q_39, h⟩ := ix_bd1_ex h
    refine iz_getR X fl_RX12_104 k_37 q_39 (ix_tb_at tb_X12_layJust 35 rfl) (pc1 := 64) rfl ?_
    refine ix_iload_n (i := 2) (j := 2) X (ix_tb_at tb_X12_layJust 36 rfl) rfl rfl (pc1 := 65) rfl ?_
    refine ix_iload (i := 4) (j := 4) X (ix_tb_at tb_X12_layJust 37 rfl) rfl (pc1 := 67) rfl ?_
    refine ix_iadd X (ix_tb_at tb_X12_layJust 38 rfl) (pc1 := 68) rfl ?_
    obtain ⟨k_40, h⟩ := ix_ck_some h
    refine iz_iald X k_40 (ix_tb_at tb_X12_layJust 39 rfl) (pc1 := 69) rfl ?_
    refine ix_ineg X (ix_tb_at tb_X12_layJust 40 rfl) (pc1 := 70) rfl ?_
    refine ix_aload_n (i := 0) (j := 0) X (ix_tb_at tb_X12_layJust 41 rfl) rfl rfl (pc1 := 71) rfl ?_
    refine iz_getR X fl_RX12_104 k_37 q_39 (ix_tb_at tb_X12_layJust 42 rfl) (pc1 := 74) rfl ?_
    refine ix_iload_n (i := 2) (j := 2) X (ix_tb_at tb_X12_layJust 43 rfl) rfl rfl (pc1 := 75) rfl ?_
    refine ix_iload (i := 5) (j := 5) X (ix_tb_at tb_X12_layJust 44 rfl) rfl (pc1 := 77) rfl ?_
    refine ix_iadd X (ix_tb_at tb_X12_layJust 45 rfl) (pc1 := 78) rfl ?_
    obtain ⟨k_41, h⟩ := ix_ck_some h
    refine iz_iald X k_41 (ix_tb_at tb_X12_layJust 46 rfl) (pc1 := 79) rfl ?_
    refine ix_ineg X (ix_tb_at tb_X12_layJust 47 rfl) (pc1 := 80) rfl ?_
    refine ix_iload_n (i := 1) (j := 1) X (ix_tb_at tb_X12_layJust 48 rfl) rfl rfl (pc1 := 81) rfl ?_
    refine ix_ineg X (ix_tb_at tb_X12_layJust 49 rfl) (pc1 := 82) rfl ?_
    obtain ⟨d_42, h_43, h⟩ := ix_bd1_ex h
    refine ix_callV (As := [.int (-(d.1 b_38 (ix_n (x2 + x4)))), .int (-(d.1 b_38 (ix_n (x2 + x5)))), .int (-x1)]) (rest := []) (ci := 11) (T := TX12) (nf := 116) X mf_X12_layThree mi_X12_layThree ms_X12_layThree rfl (Nat.le_of_ble_eq_true rfl) ml_RX12_306 ⟨Nat.le_of_ble_eq_true rfl, Nat.le_of_ble_eq_true rfl⟩ ⟨Nat.le_of_ble_eq_true rfl, Nat.le_of_ble_eq_true rfl⟩ rfl (Nat.le_of_ble_eq_true rfl) (ix_tb_at tb_X12_layJust 50 rfl) ⟨k_37.1, List.mem_singleton.mp k_37.2⟩ (c_X12_layThree hKp h_43) rfl (pc1 := 85) rfl ?_
    obtain ⟨x5_44, e_45, h⟩ := ix_lt_ex h
    refine ix_iinc (i := 5) (j := 5) (v := x5_44) (L1 := [(5, .int x5_44), (0, .ref (K.2.2.1 + a0)), (1, .int x1), (2, .int x2), (3, .int x3), (4, .int x4)]) X (ix_tb_at tb_X12_layJust 51 rfl) rfl (by rw [oi_1]; exact e_45.symm) (Nat.le_of_ble_eq_true rfl) rfl (pc1 := 88) rfl ?_
    refine ix_goto (tgt := 53) X (ix_tb_at tb_X12_layJust 52 rfl) (by decide) ?_
    refine ix_sub (L1 := [(0, .ref (K.2.2.1 + a0)), (1, .int x1), (2, .int x2), (3, .int x3), (4, .int x4), (5, .int x5_44)]) [1, 2, 3, 4, 5, 0] rfl ?_
    exact hrec53 x5_44 d_42 h
theorem t_X12_layJust_53 {l : Launch} {p : Program} {e : Env} {s : State} {m : MethodId} {args : Array Value} {below : List Frame} {meth : Method} {c : Code} {K : ix_Cx} (hKp : ix_Kp K) {n : Nat} {z : ix_Z} (X : ix_X p s m args c K cX12_layJust RX12 6) (hr : meth.sig.returnType = (none : Option Jvm.ClassFile.FieldType)) (hlk : meth.locks = false) {rec41 : Int32 → ix_D2 → Option (ix_D2)} {a0 : Nat} {x1 : Int32} {x2 : Int32} {x3 : Int32} {x4 : Int32} {d1 : ix_D2} (hrec41 : ∀ (x4 : Int32) (d : ix_D2), rec41 x4 d = some d1 → ix_G p l e (ix_rm 2 46 0 0) s m args below meth c (MQ below (ix_Post K none (ix_w z d1)) args s 0 0 (ix_A K)) K 6 0 0 41 [(0, .ref (K.2.2.1 + a0)), (1, .int x1), (2, .int x2), (3, .int x3), (4, .int x4)] [] (ix_w z d)) {x5 : Int32} {d : ix_D2} (h : f_X12_layJust_53 n z rec41 a0 x1 x2 x3 x4 x5 d = some d1) : ix_G p l e (ix_rm 2 46 0 0) s m args below meth c (MQ below (ix_Post K none (ix_w z d1)) args s 0 0 (ix_A K)) K 6 0 0 53 [(0, .ref (K.2.2.1 + a0)), (1, .int x1), (2, .int x2), (3, .int x3), (4, .int x4), (5, .int x5)] [] (ix_w z d) := by
  have key : ∀ (f : Nat) (x5 : Int32) (d : ix_D2), ix_fix (b_X12_layJust_53 n z rec41 a0 x1 x2 x3 x4) (fun _ _ => none) f x5 d = some d1 → ix_G p l e (ix_rm 2 46 0 0) s m args below meth c (MQ below (ix_Post K none (ix_w z d1)) args s 0 0 (ix_A K)) K 6 0 0 53 [(0, .ref (K.2.2.1 + a0)), (1, .int x1), (2, .int x2), (3, .int x3), (4, .int x4), (5, .int x5)] [] (ix_w z d) := by
    intro f
    induction f with
    | zero =>
      intro x5 d h
      have h : (none : Option (ix_D2)) = some d1 := h
      cases h
    | succ f ih =>
      intro x5 d h
      exact tb_X12_layJust_53 hKp X hr hlk (rec53 := ix_fix (b_X12_layJust_53 n z rec41 a0 x1 x2 x3 x4) (fun _ _ => none) f) hrec41 ih h
  exact key n x5 d h
set_option maxRecDepth 20000 in
theorem tb_X12_layJust_41 {l : Launch} {p : Program} {e : Env} {s : State} {m : MethodId} {args : Array Value} {below : List Frame} {meth : Method} {c : Code} {K : ix_Cx} (hKp : ix_Kp K) {n : Nat} {z : ix_Z} (X : ix_X p s m args c K cX12_layJust RX12 6) (hr : meth.sig.returnType = (none : Option Jvm.ClassFile.FieldType)) (hlk : meth.locks = false)  {a0 : Nat} {x1 : Int32} {x2 : Int32} {x3 : Int32} {rec41 : Int32 → ix_D2 → Option (ix_D2)} {d1 : ix_D2} (hrec41 : ∀ (x4 : Int32) (d : ix_D2), rec41 x4 d = some d1 → ix_G p l e (ix_rm 2 46 0 0) s m args below meth c (MQ below (ix_Post K none (ix_w z d1)) args s 0 0 (ix_A K)) K 6 0 0 41 [(0, .ref (K.2.2.1 + a0)), (1, .int x1), (2, .int x2), (3, .int x3), (4, .int x4)] [] (ix_w z d)) {x4 : Int32} {d : ix_D2} (h : b_X12_layJust_41 n z  a0 x1 x2 x3 rec41 x4 d = some d1) : ix_G p l e (ix_rm 2 46 0 0) s m args below meth c (MQ below (ix_Post K none (ix_w z d1)) args s 0 0 (ix_A K)) K 6 0 0 41 [(0, .ref (K.2.2.1 + a0)), (1, .int x1), (2, .int x2), (3, .int x3), (4, .int x4)] [] (ix_w z d) := by
  unfold b_X12_layJust_41 at h
  refine ix_iload (i := 4) (j := 4) X (ix_tb_at tb_X12_layJust 23 rfl) rfl (pc1 := 43) rfl ?_
  refine ix_iload_n (i := 3) (j := 3) X (ix_tb_at tb_X12_layJust 24 rfl) rfl rfl (pc1 := 44) rfl ?_
  refine ix_icmp_ge (tgt := 97) X (ix_tb_at tb_X12_layJust 25 rfl) (by decide) (pc1 := 47) rfl (fun q_7 => ?_) (fun q_7 => ?_)
  · have h := ix_ift q_7 h
    refine ix_iconst (v := 0) X (ix_tb_at tb_X12_layJust 55 rfl) (by decide) (pc1 := 98) rfl ?_
    refine ix_istore (i := 4) (L1 := [(4, .int 0), (0, .ref (K.2.2.1 + a0)), (1, .int x1), (2, .int x2), (3, .int x3)]) X (ix_tb_at tb_X12_layJust 56 rfl) (Nat.le_of_ble_eq_true rfl) rfl (pc1 := 100) rfl ?_
    refine ix_sub (L1 := [(0, .ref (K.2.2.1 + a0)), (1, .int x1), (2, .int x2), (3, .int x3), (4, .int 0)]) [1, 2, 3, 4, 0] rfl ?_
    exact t_X12_layJust_100 hKp X hr hlk  h
  · have h := ix_iff q_7 h
    refine ix_iload (i := 4) (j := 4) X (ix_tb_at tb_X12_layJust 26 rfl) rfl (pc1 := 49) rfl ?_
    refine ix_iconst (v := 1) X (ix_tb_at tb_X12_layJust 27 rfl) (by decide) (pc1 := 50) rfl ?_
    refine ix_iadd X (ix_tb_at tb_X12_layJust 28 rfl) (pc1 := 51) rfl ?_
    obtain ⟨x5_32, e_33, h⟩ := ix_lt_ex h
    refine ix_nmi e_33 ?_
    refine ix_istore (i := 5) (L1 := [(5, .int x5_32), (0, .ref (K.2.2.1 + a0)), (1, .int x1), (2, .int x2), (3, .int x3), (4, .int x4)]) X (ix_tb_at tb_X12_layJust 29 rfl) (Nat.le_of_ble_eq_true rfl) rfl (pc1 := 53) rfl ?_
    refine ix_sub (L1 := [(0, .ref (K.2.2.1 + a0)), (1, .int x1), (2, .int x2), (3, .int x3), (4, .int x4), (5, .int x5_32)]) [1, 2, 3, 4, 5, 0] rfl ?_
    exact t_X12_layJust_53 hKp X hr hlk hrec41 h
theorem t_X12_layJust_41 {l : Launch} {p : Program} {e : Env} {s : State} {m : MethodId} {args : Array Value} {below : List Frame} {meth : Method} {c : Code} {K : ix_Cx} (hKp : ix_Kp K) {n : Nat} {z : ix_Z} (X : ix_X p s m args c K cX12_layJust RX12 6) (hr : meth.sig.returnType = (none : Option Jvm.ClassFile.FieldType)) (hlk : meth.locks = false)  {a0 : Nat} {x1 : Int32} {x2 : Int32} {x3 : Int32} {d1 : ix_D2}  {x4 : Int32} {d : ix_D2} (h : f_X12_layJust_41 n z  a0 x1 x2 x3 x4 d = some d1) : ix_G p l e (ix_rm 2 46 0 0) s m args below meth c (MQ below (ix_Post K none (ix_w z d1)) args s 0 0 (ix_A K)) K 6 0 0 41 [(0, .ref (K.2.2.1 + a0)), (1, .int x1), (2, .int x2), (3, .int x3), (4, .int x4)] [] (ix_w z d) := by
  have key : ∀ (f : Nat) (x4 : Int32) (d : ix_D2), ix_fix (b_X12_layJust_41 n z  a0 x1 x2 x3) (fun _ _ => none) f x4 d = some d1 → ix_G p l e (ix_rm 2 46 0 0) s m args below meth c (MQ below (ix_Post K none (ix_w z d1)) args s 0 0 (ix_A K)) K 6 0 0 41 [(0, .ref (K.2.2.1 + a0)), (1, .int x1), (2, .int x2), (3, .int x3), (4, .int x4)] [] (ix_w z d) := by
    intro f
    induction f with
    | zero =>
      intro x4 d h
      have h : (none : Option (ix_D2)) = some d1 := h
      cases h
    | succ f ih =>
      intro x4 d h
      exact tb_X12_layJust_41 hKp X hr hlk (rec41 := ix_fix (b_X12_layJust_41 n z  a0 x1 x2 x3) (fun _ _ => none) f)  ih h
  exact key n x4 d h
set_option maxRecDepth 20000 in
theorem tb_X12_layJust_3 {l : Launch} {p : Program} {e : Env} {s : State} {m : MethodId} {args : Array Value} {below : List Frame} {meth : Method} {c : Code} {K : ix_Cx} (hKp : ix_Kp K) {n : Nat} {z : ix_Z} (X : ix_X p s m args c K cX12_layJust RX12 6) (hr : meth.sig.returnType = (none : Option Jvm.ClassFile.FieldType)) (hlk : meth.locks = false)  {a0 : Nat} {x1 : Int32} {x2 : Int32} {x3 : Int32} {rec3 : Int32 → ix_D2 → Option (ix_D2)} {d1 : ix_D2} (hrec3 : ∀ (x4 : Int32) (d : ix_D2), rec3 x4 d = some d1 → ix_G p l e (ix_rm 2 46 0 0) s m args below meth c (MQ below (ix_Post K none (ix_w z d1)) args s 0 0 (ix_A K)) K 6 0 0 3 [(0, .ref (K.2.2.1 + a0)), (1, .int x1), (2, .int x2), (3, .int x3), (4, .int x4)] [] (ix_w z d)) {x4 : Int32} {d : ix_D2} (h : b_X12_layJust_3 n z  a0 x1 x2 x3 rec3 x4 d = some d1) : ix_G p l e (ix_rm 2 46 0 0) s m args below meth c (MQ below (ix_Post K none (ix_w z d1)) args s 0 0 (ix_A K)) K 6 0 0 3 [(0, .ref (K.2.2.1 + a0)), (1, .int x1), (2, .int x2), (3, .int x3), (4, .int x4)] [] (ix_w z d) := by
  unfold b_X12_layJust_3 at h
  refine ix_iload (i := 4) (j := 4) X (ix_tb_at tb_X12_layJust 2 rfl) rfl (pc1 := 5) rfl ?_
  refine ix_iload_n (i := 3) (j := 3) X (ix_tb_at tb_X12_layJust 3 rfl) rfl rfl (pc1 := 6) rfl ?_
  refine ix_icmp_ge (tgt := 28) X (ix_tb_at tb_X12_layJust 4 rfl) (by decide) (pc1 := 9) rfl (fun q_1 => ?_) (fun q_1 => ?_)
  · have h := ix_ift q_1 h
    refine ix_aload_n (i := 0) (j := 0) X (ix_tb_at tb_X12_layJust 15 rfl) rfl rfl (pc1 := 29) rfl ?_
    refine ix_iload_n (i := 1) (j := 1) X (ix_tb_at tb_X12_layJust 16 rfl) rfl rfl (pc1 := 30) rfl ?_
    refine ix_ineg X (ix_tb_at tb_X12_layJust 17 rfl) (pc1 := 31) rfl ?_
    obtain ⟨k_4, h⟩ := ix_ck_some h
    obtain ⟨d_2, h_3, h⟩ := ix_bd1_ex h
    refine ix_callV (As := [.int (-x1)]) (rest := []) (ci := 11) (T := TX12) (nf := 116) X mf_X12_lay mi_X12_lay ms_X12_lay rfl (Nat.le_of_ble_eq_true rfl) ml_RX12_282 ⟨Nat.le_of_ble_eq_true rfl, Nat.le_of_ble_eq_true rfl⟩ ⟨Nat.le_of_ble_eq_true rfl, Nat.le_of_ble_eq_true rfl⟩ rfl (Nat.le_of_ble_eq_true rfl) (ix_tb_at tb_X12_layJust 18 rfl) ⟨k_4.1, List.mem_singleton.mp k_4.2⟩ (c_X12_lay hKp h_3) rfl (pc1 := 34) rfl ?_
    refine ix_aload_n (i := 0) (j := 0) X (ix_tb_at tb_X12_layJust 19 rfl) rfl rfl (pc1 := 35) rfl ?_
    obtain ⟨d_5, h_6, h⟩ := ix_bd1_ex h
    refine ix_callV (As := []) (rest := []) (ci := 11) (T := TX12) (nf := 116) X mf_X12_endRow mi_X12_endRow ms_X12_endRow rfl (Nat.le_of_ble_eq_true rfl) ml_RX12_286 ⟨Nat.le_of_ble_eq_true rfl, Nat.le_of_ble_eq_true rfl⟩ ⟨Nat.le_of_ble_eq_true rfl, Nat.le_of_ble_eq_true rfl⟩ rfl (Nat.le_of_ble_eq_true rfl) (ix_tb_at tb_X12_layJust 20 rfl) ⟨k_4.1, List.mem_singleton.mp k_4.2⟩ (c_X12_endRow hKp h_6) rfl (pc1 := 38) rfl ?_
    refine ix_iconst (v := 0) X (ix_tb_at tb_X12_layJust 21 rfl) (by decide) (pc1 := 39) rfl ?_
    refine ix_istore (i := 4) (L1 := [(4, .int 0), (0, .ref (K.2.2.1 + a0)), (1, .int x1), (2, .int x2), (3, .int x3)]) X (ix_tb_at tb_X12_layJust 22 rfl) (Nat.le_of_ble_eq_true rfl) rfl (pc1 := 41) rfl ?_
    refine ix_sub (L1 := [(0, .ref (K.2.2.1 + a0)), (1, .int x1), (2, .int x2), (3, .int x3), (4, .int 0)]) [1, 2, 3, 4, 0] rfl ?_
    exact t_X12_layJust_41 hKp X hr hlk  h
  · have h := ix_iff q_1 h
    refine ix_aload_n (i := 0) (j := 0) X (ix_tb_at tb_X12_layJust 5 rfl) rfl rfl (pc1 := 10) rfl ?_
    refine ix_aload_n (i := 0) (j := 0) X (ix_tb_at tb_X12_layJust 6 rfl) rfl rfl (pc1 := 11) rfl ?_
    obtain ⟨k_46, h⟩ := ix_ck_some h
    obtain ⟨b_47, q_48, h⟩ := ix_bd1_ex h
    refine iz_getR X fl_RX12_104 k_46 q_48 (ix_tb_at tb_X12_layJust 7 rfl) (pc1 := 14) rfl ?_
    refine ix_iload_n (i := 2) (j := 2) X (ix_tb_at tb_X12_layJust 8 rfl) rfl rfl (pc1 := 15) rfl ?_
    refine ix_iload (i := 4) (j := 4) X (ix_tb_at tb_X12_layJust 9 rfl) rfl (pc1 := 17) rfl ?_
    refine ix_iadd X (ix_tb_at tb_X12_layJust 10 rfl) (pc1 := 18) rfl ?_
    obtain ⟨k_49, h⟩ := ix_ck_some h
    refine iz_iald X k_49 (ix_tb_at tb_X12_layJust 11 rfl) (pc1 := 19) rfl ?_
    obtain ⟨d_50, h_51, h⟩ := ix_bd1_ex h
    refine ix_callV (As := [.int (d.1 b_47 (ix_n (x2 + x4)))]) (rest := []) (ci := 11) (T := TX12) (nf := 116) X mf_X12_lay mi_X12_lay ms_X12_lay rfl (Nat.le_of_ble_eq_true rfl) ml_RX12_282 ⟨Nat.le_of_ble_eq_true rfl, Nat.le_of_ble_eq_true rfl⟩ ⟨Nat.le_of_ble_eq_true rfl, Nat.le_of_ble_eq_true rfl⟩ rfl (Nat.le_of_ble_eq_true rfl) (ix_tb_at tb_X12_layJust 12 rfl) ⟨k_46.1, List.mem_singleton.mp k_46.2⟩ (c_X12_lay hKp h_51) rfl (pc1 := 22) rfl ?_
    obtain ⟨x4_52, e_53, h⟩ := ix_lt_ex h
    refine ix_iinc (i := 4) (j := 4) (v := x4_52) (L1 := [(4, .int x4_52), (0, .ref (K.2.2.1 + a0)), (1, .int x1), (2, .int x2), (3, .int x3)]) X (ix_tb_at tb_X12_layJust 13 rfl) rfl (by rw [oi_1]; exact e_53.symm) (Nat.le_of_ble_eq_true rfl) rfl (pc1 := 25) rfl ?_
    refine ix_goto (tgt := 3) X (ix_tb_at tb_X12_layJust 14 rfl) (by decide) ?_
    refine ix_sub (L1 := [(0, .ref (K.2.2.1 + a0)), (1, .int x1), (2, .int x2), (3, .int x3), (4, .int x4_52)]) [1, 2, 3, 4, 0] rfl ?_
    exact hrec3 x4_52 d_50 h
theorem t_X12_layJust_3 {l : Launch} {p : Program} {e : Env} {s : State} {m : MethodId} {args : Array Value} {below : List Frame} {meth : Method} {c : Code} {K : ix_Cx} (hKp : ix_Kp K) {n : Nat} {z : ix_Z} (X : ix_X p s m args c K cX12_layJust RX12 6) (hr : meth.sig.returnType = (none : Option Jvm.ClassFile.FieldType)) (hlk : meth.locks = false)  {a0 : Nat} {x1 : Int32} {x2 : Int32} {x3 : Int32} {d1 : ix_D2}  {x4 : Int32} {d : ix_D2} (h : f_X12_layJust_3 n z  a0 x1 x2 x3 x4 d = some d1) : ix_G p l e (ix_rm 2 46 0 0) s m args below meth c (MQ below (ix_Post K none (ix_w z d1)) args s 0 0 (ix_A K)) K 6 0 0 3 [(0, .ref (K.2.2.1 + a0)), (1, .int x1), (2, .int x2), (3, .int x3), (4, .int x4)] [] (ix_w z d) := by
  have key : ∀ (f : Nat) (x4 : Int32) (d : ix_D2), ix_fix (b_X12_layJust_3 n z  a0 x1 x2 x3) (fun _ _ => none) f x4 d = some d1 → ix_G p l e (ix_rm 2 46 0 0) s m args below meth c (MQ below (ix_Post K none (ix_w z d1)) args s 0 0 (ix_A K)) K 6 0 0 3 [(0, .ref (K.2.2.1 + a0)), (1, .int x1), (2, .int x2), (3, .int x3), (4, .int x4)] [] (ix_w z d) := by
    intro f
    induction f with
    | zero =>
      intro x4 d h
      have h : (none : Option (ix_D2)) = some d1 := h
      cases h
    | succ f ih =>
      intro x4 d h
      exact tb_X12_layJust_3 hKp X hr hlk (rec3 := ix_fix (b_X12_layJust_3 n z  a0 x1 x2 x3) (fun _ _ => none) f)  ih h
  exact key n x4 d h
set_option maxRecDepth 20000 in
theorem c_X12_layJust {l : Launch} {K : ix_Cx} (hKp : ix_Kp K) {n : Nat} {z : ix_Z} {a0 : Nat} {x1 : Int32} {x2 : Int32} {x3 : Int32} {d : ix_D2} {d1 : ix_D2} (h : f_X12_layJust n z a0 x1 x2 x3 d = some d1) : ix_M l K yX12_layJust cX12_layJust 6 (none : Option Jvm.ClassFile.FieldType) 2 46 0 0 [.ref (K.2.2.1 + a0), .int x1, .int x2, .int x3] (ix_w z d) none (ix_w z d1) := by
  refine ix_met mf_X12_layJust hKp (Nat.le_of_ble_eq_true rfl) ?_
  intro p e s m args below meth c hr hlk hnm X
  have X : ix_X p s m args c K cX12_layJust RX12 6 := X
  show ix_G p l e (ix_rm 2 46 0 0) s m args below meth c (MQ below (ix_Post K none (ix_w z d1)) args s 0 0 (ix_A K)) K 6 0 0 0 [(0, .ref (K.2.2.1 + a0)), (1, .int x1), (2, .int x2), (3, .int x3)] [] (ix_w z d)
  unfold f_X12_layJust at h
  refine ix_iconst (v := 0) X (ix_tb_at tb_X12_layJust 0 rfl) (by decide) (pc1 := 1) rfl ?_
  refine ix_istore (i := 4) (L1 := [(4, .int 0), (0, .ref (K.2.2.1 + a0)), (1, .int x1), (2, .int x2), (3, .int x3)]) X (ix_tb_at tb_X12_layJust 1 rfl) (Nat.le_of_ble_eq_true rfl) rfl (pc1 := 3) rfl ?_
  refine ix_sub (L1 := [(0, .ref (K.2.2.1 + a0)), (1, .int x1), (2, .int x2), (3, .int x3), (4, .int 0)]) [1, 2, 3, 4, 0] rfl ?_
  exact t_X12_layJust_3 hKp X hr hlk  h
def tab_X12_layPart : List (Nat × Instr × Nat) := [(0, .iload_n 1, 1), (1, .ifCond .ge 32, 3), (4, .aload_n 0, 1), (5, .getfield 104, 3), (8, .aload_n 0, 1), (9, .getfield 359, 3), (12, .aload_n 0, 1), (13, .getfield 86, 3), (16, .iload_n 1, 1), (17, .ineg, 1), (18, .iconst 1, 1), (19, .isub, 1), (20, .iaload, 1), (21, .iastore, 1), (22, .aload_n 0, 1), (23, .dup, 1), (24, .getfield 359, 3), (27, .iconst 1, 1), (28, .iadd, 1), (29, .putfield 359, 3), (32, .return_, 1), (33, .iload_n 1, 1), (34, .ifCond .ne 27, 3), (37, .aload_n 0, 1), (38, .getfield 104, 3), (41, .aload_n 0, 1), (42, .getfield 359, 3), (45, .iconst 1, 1), (46, .isub, 1), (47, .aload_n 0, 1), (48, .getfield 104, 3), (51, .aload_n 0, 1), (52, .getfield 359, 3), (55, .iconst 1, 1), (56, .isub, 1), (57, .iaload, 1), (58, .ineg, 1), (59, .iastore, 1), (60, .return_, 1), (61, .iload_n 1, 1), (62, .sipush 1000, 3), (65, .irem, 1), (66, .istore_n 2, 1), (67, .iload_n 1, 1), (68, .sipush 1000, 3), (71, .idiv, 1), (72, .istore_n 3, 1), (73, .aload_n 0, 1), (74, .invokevirtual 298, 3), (77, .istore 4, 2), (79, .aload_n 0, 1), (80, .getfield 359, 3), (83, .iload_n 2, 1), (84, .isub, 1), (85, .istore 5, 2), (87, .iload_n 3, 1), (88, .bipush 38, 2), (90, .if_icmp .ne 78, 3), (93, .iconst 0, 1), (94, .istore 6, 2), (96, .iload 6, 2), (98, .iload_n 2, 1), (99, .if_icmp .ge 26, 3), (102, .aload_n 0, 1), (103, .aload_n 0, 1), (104, .getfield 104, 3), (107, .iload 5, 2), (109, .iload 6, 2), (111, .iadd, 1), (112, .iaload, 1), (113, .iload 4, 2), (115, .ineg, 1), (116, .invokevirtual 302, 3), (119, .iinc 6 1, 3), (122, .goto (-26), 3), (125, .aload_n 0, 1), (126, .iload 4, 2), (128, .invokevirtual 282, 3), (131, .iconst 0, 1), (132, .istore 6, 2), (134, .iload 6, 2), (136, .iload_n 2, 1), (137, .if_icmp .ge 24, 3), (140, .aload_n 0, 1), (141, .aload_n 0, 1), (142, .getfield 104, 3), (145, .iload 5, 2), (147, .iload 6, 2), (149, .iadd, 1), (150, .iaload, 1), (151, .ineg, 1), (152, .invokevirtual 282, 3), (155, .iinc 6 1, 3), (158, .goto (-24), 3), (161, .aload_n 0, 1), (162, .invokevirtual 286, 3), (165, .goto 151, 3), (168, .iload_n 3, 1), (169, .bipush 124, 2), (171, .if_icmp .ne 78, 3), (174, .iconst 0, 1), (175, .istore 6, 2), (177, .iload 6, 2), (179, .iload_n 2, 1), (180, .if_icmp .ge 26, 3), (183, .aload_n 0, 1), (184, .aload_n 0, 1), (185, .getfield 104, 3), (188, .iload 5, 2), (190, .iload 6, 2), (192, .iadd, 1), (193, .iaload, 1), (194, .ineg, 1), (195, .iload 4, 2), (197, .invokevirtual 302, 3), (200, .iinc 6 1, 3), (203, .goto (-26), 3), (206, .iconst 0, 1), (207, .istore 6, 2), (209, .iload 6, 2), (211, .iload_n 2, 1), (212, .if_icmp .ge 23, 3), (215, .aload_n 0, 1), (216, .aload_n 0, 1), (217, .getfield 104, 3), (220, .iload 5, 2), (222, .iload 6, 2), (224, .iadd, 1), (225, .iaload, 1), (226, .invokevirtual 282, 3), (229, .iinc 6 1, 3), (232, .goto (-23), 3), (235, .aload_n 0, 1), (236, .iload 4, 2), (238, .ineg, 1), (239, .invokevirtual 282, 3), (242, .aload_n 0, 1), (243, .invokevirtual 286, 3), (246, .goto 70, 3), (249, .iload_n 3, 1), (250, .bipush 62, 2), (252, .if_icmp .ne 55, 3), (255, .aload_n 0, 1), (256, .getfield 104, 3), (259, .iload 5, 2), (261, .iaload, 1), (262, .istore 6, 2), (264, .aload_n 0, 1), (265, .getfield 104, 3), (268, .iload 5, 2), (270, .iconst 1, 1), (271, .iadd, 1), (272, .iaload, 1), (273, .istore 7, 2), (275, .aload_n 0, 1), (276, .iload 6, 2), (278, .iload 4, 2), (280, .invokevirtual 302, 3), (283, .aload_n 0, 1), (284, .iload 7, 2), (286, .ineg, 1), (287, .iload 4, 2), (289, .invokevirtual 302, 3), (292, .aload_n 0, 1), (293, .iload 6, 2), (295, .ineg, 1), (296, .iload 7, 2), (298, .iload 4, 2), (300, .ineg, 1), (301, .invokevirtual 306, 3), (304, .goto 12, 3), (307, .aload_n 0, 1), (308, .iload 4, 2), (310, .iload 5, 2), (312, .iload_n 2, 1), (313, .invokevirtual 362, 3), (316, .aload_n 0, 1), (317, .iload 5, 2), (319, .iconst 1, 1), (320, .iadd, 1), (321, .putfield 359, 3), (324, .aload_n 0, 1), (325, .getfield 104, 3), (328, .iload 5, 2), (330, .iload 4, 2), (332, .iastore, 1), (333, .return_, 1)]
theorem tb_X12_layPart : ix_tab cX12_layPart tab_X12_layPart := by
  unfold ix_tab
  decide +kernel
noncomputable def f_X12_layPart_316 (n : Nat) (z : ix_Z)  (a0 : Nat) (x4 : Int32) (x5 : Int32) (d : ix_D2) : Option (ix_D2) :=
  ix_ck (ix_ok z [11] a0) (ix_lt (ix_di d a0 54 (x5 + 1)) (fun d_19 => ix_bd1 (z.1 a0 53) (fun b_21 => ix_ck (ix_ix z 20 b_21 x5) (ix_lt (ix_di d_19 b_21 (ix_n x5) x4) (fun d_24 => some d_24)))))
noncomputable def b_X12_layPart_209 (n : Nat) (z : ix_Z)  (a0 : Nat) (x2 : Int32) (x4 : Int32) (x5 : Int32) (rec209 : Int32 → ix_D2 → Option (ix_D2)) (x6 : Int32) (d : ix_D2) : Option (ix_D2) :=
  ix_if (x2 ≤ x6) (ix_ck (ix_ok z [11] a0) (ix_bd1 (f_X12_lay n z a0 (-x4) d) (fun d_42 => ix_bd1 (f_X12_endRow n z a0 d_42) (fun d_45 => f_X12_layPart_316 n z  a0 x4 x5 d_45)))) (ix_ck (ix_ok z [11] a0) (ix_bd1 (z.1 a0 53) (fun b_48 => ix_ck (ix_ix z 20 b_48 (x5 + x6)) (ix_bd1 (f_X12_lay n z a0 (d.1 b_48 (ix_n (x5 + x6))) d) (fun d_51 => ix_lt (x6 + 1) (fun x6_53 => rec209 x6_53 d_51))))))
noncomputable def f_X12_layPart_209 (n : Nat) (z : ix_Z)  (a0 : Nat) (x2 : Int32) (x4 : Int32) (x5 : Int32) (x6 : Int32) (d : ix_D2) : Option (ix_D2) := ix_fix (b_X12_layPart_209 n z  a0 x2 x4 x5) (fun _ _ => none) n x6 d
noncomputable def b_X12_layPart_177 (n : Nat) (z : ix_Z)  (a0 : Nat) (x2 : Int32) (x4 : Int32) (x5 : Int32) (rec177 : Int32 → ix_D2 → Option (ix_D2)) (x6 : Int32) (d : ix_D2) : Option (ix_D2) :=
  ix_if (x2 ≤ x6) (f_X12_layPart_209 n z  a0 x2 x4 x5 0 d) (ix_ck (ix_ok z [11] a0) (ix_bd1 (z.1 a0 53) (fun b_56 => ix_ck (ix_ix z 20 b_56 (x5 + x6)) (ix_bd1 (f_X12_layTwo n z a0 (-(d.1 b_56 (ix_n (x5 + x6)))) x4 d) (fun d_59 => ix_lt (x6 + 1) (fun x6_61 => rec177 x6_61 d_59))))))
noncomputable def f_X12_layPart_177 (n : Nat) (z : ix_Z)  (a0 : Nat) (x2 : Int32) (x4 : Int32) (x5 : Int32) (x6 : Int32) (d : ix_D2) : Option (ix_D2) := ix_fix (b_X12_layPart_177 n z  a0 x2 x4 x5) (fun _ _ => none) n x6 d
noncomputable def b_X12_layPart_134 (n : Nat) (z : ix_Z)  (a0 : Nat) (x2 : Int32) (x4 : Int32) (x5 : Int32) (rec134 : Int32 → ix_D2 → Option (ix_D2)) (x6 : Int32) (d : ix_D2) : Option (ix_D2) :=
  ix_if (x2 ≤ x6) (ix_ck (ix_ok z [11] a0) (ix_bd1 (f_X12_endRow n z a0 d) (fun d_68 => f_X12_layPart_316 n z  a0 x4 x5 d_68))) (ix_ck (ix_ok z [11] a0) (ix_bd1 (z.1 a0 53) (fun b_72 => ix_ck (ix_ix z 20 b_72 (x5 + x6)) (ix_bd1 (f_X12_lay n z a0 (-(d.1 b_72 (ix_n (x5 + x6)))) d) (fun d_75 => ix_lt (x6 + 1) (fun x6_77 => rec134 x6_77 d_75))))))
noncomputable def f_X12_layPart_134 (n : Nat) (z : ix_Z)  (a0 : Nat) (x2 : Int32) (x4 : Int32) (x5 : Int32) (x6 : Int32) (d : ix_D2) : Option (ix_D2) := ix_fix (b_X12_layPart_134 n z  a0 x2 x4 x5) (fun _ _ => none) n x6 d
noncomputable def b_X12_layPart_96 (n : Nat) (z : ix_Z)  (a0 : Nat) (x2 : Int32) (x4 : Int32) (x5 : Int32) (rec96 : Int32 → ix_D2 → Option (ix_D2)) (x6 : Int32) (d : ix_D2) : Option (ix_D2) :=
  ix_if (x2 ≤ x6) (ix_ck (ix_ok z [11] a0) (ix_bd1 (f_X12_lay n z a0 x4 d) (fun d_64 => f_X12_layPart_134 n z  a0 x2 x4 x5 0 d_64))) (ix_ck (ix_ok z [11] a0) (ix_bd1 (z.1 a0 53) (fun b_80 => ix_ck (ix_ix z 20 b_80 (x5 + x6)) (ix_bd1 (f_X12_layTwo n z a0 (d.1 b_80 (ix_n (x5 + x6))) (-x4) d) (fun d_83 => ix_lt (x6 + 1) (fun x6_85 => rec96 x6_85 d_83))))))
noncomputable def f_X12_layPart_96 (n : Nat) (z : ix_Z)  (a0 : Nat) (x2 : Int32) (x4 : Int32) (x5 : Int32) (x6 : Int32) (d : ix_D2) : Option (ix_D2) := ix_fix (b_X12_layPart_96 n z  a0 x2 x4 x5) (fun _ _ => none) n x6 d
noncomputable def f_X12_layPart (n : Nat) (z : ix_Z) (a0 : Nat) (x1 : Int32) (d : ix_D2) : Option (ix_D2) :=
  ix_if (0 ≤ x1) (ix_if (x1 = 0) (ix_ck (ix_ok z [11] a0) (ix_bd1 (z.1 a0 53) (fun b_88 => ix_ck (ix_ix z 20 b_88 ((d.1 a0 54) - 1)) (ix_lt (ix_di d b_88 (ix_n ((d.1 a0 54) - 1)) (-(d.1 b_88 (ix_n ((d.1 a0 54) - 1))))) (fun d_91 => some d_91))))) (ix_lt (x1 - x1 / 1000 * 1000) (fun x2_3 => ix_lt (x1 / 1000) (fun x3_5 => ix_ck (ix_ok z [11] a0) (ix_bd2 (f_X12_newName n z a0 d) (fun r_10 d_7 => ix_lt ((d_7.1 a0 54) - x2_3) (fun x5_11 => ix_if (x3_5 = 38) (f_X12_layPart_96 n z  a0 x2_3 r_10 x5_11 0 d_7) (ix_if (x3_5 = 124) (f_X12_layPart_177 n z  a0 x2_3 r_10 x5_11 0 d_7) (ix_if (x3_5 = 62) (ix_bd1 (z.1 a0 53) (fun b_26 => ix_ck (ix_ix z 20 b_26 x5_11) (ix_lt (d_7.1 b_26 (ix_n x5_11)) (fun x6_29 => ix_ck (ix_ix z 20 b_26 (x5_11 + 1)) (ix_lt (d_7.1 b_26 (ix_n (x5_11 + 1))) (fun x7_32 => ix_bd1 (f_X12_layTwo n z a0 x6_29 r_10 d_7) (fun d_34 => ix_bd1 (f_X12_layTwo n z a0 (-x7_32) r_10 d_34) (fun d_36 => ix_bd1 (f_X12_layThree n z a0 (-x6_29) x7_32 (-r_10) d_36) (fun d_38 => f_X12_layPart_316 n z  a0 r_10 x5_11 d_38))))))))) (ix_bd1 (f_X12_layJust n z a0 r_10 x5_11 x2_3 d_7) (fun d_16 => f_X12_layPart_316 n z  a0 r_10 x5_11 d_16))))))))))) (ix_ck (ix_ok z [11] a0) (ix_bd1 (z.1 a0 53) (fun b_94 => ix_bd1 (z.1 a0 41) (fun b_96 => ix_ck (ix_ix z 20 b_96 ((-x1) - 1)) (ix_ck (ix_ix z 20 b_94 (d.1 a0 54)) (ix_lt (ix_di d b_94 (ix_n (d.1 a0 54)) (d.1 b_96 (ix_n ((-x1) - 1)))) (fun d_100 => ix_lt (ix_di d_100 a0 54 ((d_100.1 a0 54) + 1)) (fun d_102 => some d_102))))))))
set_option maxRecDepth 20000 in
theorem t_X12_layPart_316 {l : Launch} {p : Program} {e : Env} {s : State} {m : MethodId} {args : Array Value} {below : List Frame} {meth : Method} {c : Code} {K : ix_Cx} (hKp : ix_Kp K) {n : Nat} {z : ix_Z} (X : ix_X p s m args c K cX12_layPart RX12 8) (hr : meth.sig.returnType = (none : Option Jvm.ClassFile.FieldType)) (hlk : meth.locks = false)  {a0 : Nat} {x4 : Int32} {x5 : Int32} {d1 : ix_D2}  {d : ix_D2} (h : f_X12_layPart_316 n z  a0 x4 x5 d = some d1) : ix_G p l e (ix_rm 3 71 0 0) s m args below meth c (MQ below (ix_Post K none (ix_w z d1)) args s 0 0 (ix_A K)) K 8 0 0 316 [(0, .ref (K.2.2.1 + a0)), (4, .int x4), (5, .int x5)] [] (ix_w z d) := by
  unfold f_X12_layPart_316 at h
  refine ix_aload_n (i := 0) (j := 0) X (ix_tb_at tb_X12_layPart 176 rfl) rfl rfl (pc1 := 317) rfl ?_
  refine ix_iload (i := 5) (j := 2) X (ix_tb_at tb_X12_layPart 177 rfl) rfl (pc1 := 319) rfl ?_
  refine ix_iconst (v := 1) X (ix_tb_at tb_X12_layPart 178 rfl) (by decide) (pc1 := 320) rfl ?_
  refine ix_iadd X (ix_tb_at tb_X12_layPart 179 rfl) (pc1 := 321) rfl ?_
  obtain ⟨k_18, h⟩ := ix_ck_some h
  obtain ⟨d_19, e_20, h⟩ := ix_lt_ex h
  refine iz_putI X fp_RX12_359 k_18 (ix_tb_at tb_X12_layPart 180 rfl) e_20 (pc1 := 324) rfl ?_
  refine ix_aload_n (i := 0) (j := 0) X (ix_tb_at tb_X12_layPart 181 rfl) rfl rfl (pc1 := 325) rfl ?_
  obtain ⟨b_21, q_22, h⟩ := ix_bd1_ex h
  refine iz_getR X fl_RX12_104 k_18 q_22 (ix_tb_at tb_X12_layPart 182 rfl) (pc1 := 328) rfl ?_
  refine ix_iload (i := 5) (j := 2) X (ix_tb_at tb_X12_layPart 183 rfl) rfl (pc1 := 330) rfl ?_
  refine ix_iload (i := 4) (j := 1) X (ix_tb_at tb_X12_layPart 184 rfl) rfl (pc1 := 332) rfl ?_
  obtain ⟨k_23, h⟩ := ix_ck_some h
  obtain ⟨d_24, e_25, h⟩ := ix_lt_ex h
  refine iz_iast X k_23 (ix_tb_at tb_X12_layPart 185 rfl) e_25 (pc1 := 333) rfl ?_
  exact ix_vret X hr hlk (ix_r1 (g := ix_w z) h) (ix_tb_at tb_X12_layPart 186 rfl)
set_option maxRecDepth 20000 in
theorem tb_X12_layPart_209 {l : Launch} {p : Program} {e : Env} {s : State} {m : MethodId} {args : Array Value} {below : List Frame} {meth : Method} {c : Code} {K : ix_Cx} (hKp : ix_Kp K) {n : Nat} {z : ix_Z} (X : ix_X p s m args c K cX12_layPart RX12 8) (hr : meth.sig.returnType = (none : Option Jvm.ClassFile.FieldType)) (hlk : meth.locks = false)  {a0 : Nat} {x2 : Int32} {x4 : Int32} {x5 : Int32} {rec209 : Int32 → ix_D2 → Option (ix_D2)} {d1 : ix_D2} (hrec209 : ∀ (x6 : Int32) (d : ix_D2), rec209 x6 d = some d1 → ix_G p l e (ix_rm 3 71 0 0) s m args below meth c (MQ below (ix_Post K none (ix_w z d1)) args s 0 0 (ix_A K)) K 8 0 0 209 [(0, .ref (K.2.2.1 + a0)), (2, .int x2), (4, .int x4), (5, .int x5), (6, .int x6)] [] (ix_w z d)) {x6 : Int32} {d : ix_D2} (h : b_X12_layPart_209 n z  a0 x2 x4 x5 rec209 x6 d = some d1) : ix_G p l e (ix_rm 3 71 0 0) s m args below meth c (MQ below (ix_Post K none (ix_w z d1)) args s 0 0 (ix_A K)) K 8 0 0 209 [(0, .ref (K.2.2.1 + a0)), (2, .int x2), (4, .int x4), (5, .int x5), (6, .int x6)] [] (ix_w z d) := by
  unfold b_X12_layPart_209 at h
  refine ix_iload (i := 6) (j := 4) X (ix_tb_at tb_X12_layPart 119 rfl) rfl (pc1 := 211) rfl ?_
  refine ix_iload_n (i := 2) (j := 1) X (ix_tb_at tb_X12_layPart 120 rfl) rfl rfl (pc1 := 212) rfl ?_
  refine ix_icmp_ge (tgt := 235) X (ix_tb_at tb_X12_layPart 121 rfl) (by decide) (pc1 := 215) rfl (fun q_41 => ?_) (fun q_41 => ?_)
  · have h := ix_ift q_41 h
    refine ix_aload_n (i := 0) (j := 0) X (ix_tb_at tb_X12_layPart 132 rfl) rfl rfl (pc1 := 236) rfl ?_
    refine ix_iload (i := 4) (j := 2) X (ix_tb_at tb_X12_layPart 133 rfl) rfl (pc1 := 238) rfl ?_
    refine ix_ineg X (ix_tb_at tb_X12_layPart 134 rfl) (pc1 := 239) rfl ?_
    obtain ⟨k_44, h⟩ := ix_ck_some h
    obtain ⟨d_42, h_43, h⟩ := ix_bd1_ex h
    refine ix_callV (As := [.int (-x4)]) (rest := []) (ci := 11) (T := TX12) (nf := 116) X mf_X12_lay mi_X12_lay ms_X12_lay rfl (Nat.le_of_ble_eq_true rfl) ml_RX12_282 ⟨Nat.le_of_ble_eq_true rfl, Nat.le_of_ble_eq_true rfl⟩ ⟨Nat.le_of_ble_eq_true rfl, Nat.le_of_ble_eq_true rfl⟩ rfl (Nat.le_of_ble_eq_true rfl) (ix_tb_at tb_X12_layPart 135 rfl) ⟨k_44.1, List.mem_singleton.mp k_44.2⟩ (c_X12_lay hKp h_43) rfl (pc1 := 242) rfl ?_
    refine ix_aload_n (i := 0) (j := 0) X (ix_tb_at tb_X12_layPart 136 rfl) rfl rfl (pc1 := 243) rfl ?_
    obtain ⟨d_45, h_46, h⟩ := ix_bd1_ex h
    refine ix_callV (As := []) (rest := []) (ci := 11) (T := TX12) (nf := 116) X mf_X12_endRow mi_X12_endRow ms_X12_endRow rfl (Nat.le_of_ble_eq_true rfl) ml_RX12_286 ⟨Nat.le_of_ble_eq_true rfl, Nat.le_of_ble_eq_true rfl⟩ ⟨Nat.le_of_ble_eq_true rfl, Nat.le_of_ble_eq_true rfl⟩ rfl (Nat.le_of_ble_eq_true rfl) (ix_tb_at tb_X12_layPart 137 rfl) ⟨k_44.1, List.mem_singleton.mp k_44.2⟩ (c_X12_endRow hKp h_46) rfl (pc1 := 246) rfl ?_
    refine ix_goto (tgt := 316) X (ix_tb_at tb_X12_layPart 138 rfl) (by decide) ?_
    refine ix_sub (L1 := [(0, .ref (K.2.2.1 + a0)), (4, .int x4), (5, .int x5)]) [0, 2, 3] rfl ?_
    exact t_X12_layPart_316 hKp X hr hlk  h
  · have h := ix_iff q_41 h
    refine ix_aload_n (i := 0) (j := 0) X (ix_tb_at tb_X12_layPart 122 rfl) rfl rfl (pc1 := 216) rfl ?_
    refine ix_aload_n (i := 0) (j := 0) X (ix_tb_at tb_X12_layPart 123 rfl) rfl rfl (pc1 := 217) rfl ?_
    obtain ⟨k_47, h⟩ := ix_ck_some h
    obtain ⟨b_48, q_49, h⟩ := ix_bd1_ex h
    refine iz_getR X fl_RX12_104 k_47 q_49 (ix_tb_at tb_X12_layPart 124 rfl) (pc1 := 220) rfl ?_
    refine ix_iload (i := 5) (j := 3) X (ix_tb_at tb_X12_layPart 125 rfl) rfl (pc1 := 222) rfl ?_
    refine ix_iload (i := 6) (j := 4) X (ix_tb_at tb_X12_layPart 126 rfl) rfl (pc1 := 224) rfl ?_
    refine ix_iadd X (ix_tb_at tb_X12_layPart 127 rfl) (pc1 := 225) rfl ?_
    obtain ⟨k_50, h⟩ := ix_ck_some h
    refine iz_iald X k_50 (ix_tb_at tb_X12_layPart 128 rfl) (pc1 := 226) rfl ?_
    obtain ⟨d_51, h_52, h⟩ := ix_bd1_ex h
    refine ix_callV (As := [.int (d.1 b_48 (ix_n (x5 + x6)))]) (rest := []) (ci := 11) (T := TX12) (nf := 116) X mf_X12_lay mi_X12_lay ms_X12_lay rfl (Nat.le_of_ble_eq_true rfl) ml_RX12_282 ⟨Nat.le_of_ble_eq_true rfl, Nat.le_of_ble_eq_true rfl⟩ ⟨Nat.le_of_ble_eq_true rfl, Nat.le_of_ble_eq_true rfl⟩ rfl (Nat.le_of_ble_eq_true rfl) (ix_tb_at tb_X12_layPart 129 rfl) ⟨k_47.1, List.mem_singleton.mp k_47.2⟩ (c_X12_lay hKp h_52) rfl (pc1 := 229) rfl ?_
    obtain ⟨x6_53, e_54, h⟩ := ix_lt_ex h
    refine ix_iinc (i := 6) (j := 4) (v := x6_53) (L1 := [(6, .int x6_53), (0, .ref (K.2.2.1 + a0)), (2, .int x2), (4, .int x4), (5, .int x5)]) X (ix_tb_at tb_X12_layPart 130 rfl) rfl (by rw [oi_1]; exact e_54.symm) (Nat.le_of_ble_eq_true rfl) rfl (pc1 := 232) rfl ?_
    refine ix_goto (tgt := 209) X (ix_tb_at tb_X12_layPart 131 rfl) (by decide) ?_
    refine ix_sub (L1 := [(0, .ref (K.2.2.1 + a0)), (2, .int x2), (4, .int x4), (5, .int x5), (6, .int x6_53)]) [1, 2, 3, 4, 0] rfl ?_
    exact hrec209 x6_53 d_51 h
theorem t_X12_layPart_209 {l : Launch} {p : Program} {e : Env} {s : State} {m : MethodId} {args : Array Value} {below : List Frame} {meth : Method} {c : Code} {K : ix_Cx} (hKp : ix_Kp K) {n : Nat} {z : ix_Z} (X : ix_X p s m args c K cX12_layPart RX12 8) (hr : meth.sig.returnType = (none : Option Jvm.ClassFile.FieldType)) (hlk : meth.locks = false)  {a0 : Nat} {x2 : Int32} {x4 : Int32} {x5 : Int32} {d1 : ix_D2}  {x6 : Int32} {d : ix_D2} (h : f_X12_layPart_209 n z  a0 x2 x4 x5 x6 d = some d1) : ix_G p l e (ix_rm 3 71 0 0) s m args below meth c (MQ below (ix_Post K none (ix_w z d1)) args s 0 0 (ix_A K)) K 8 0 0 209 [(0, .ref (K.2.2.1 + a0)), (2, .int x2), (4, .int x4), (5, .int x5), (6, .int x6)] [] (ix_w z d) := by
  have key : ∀ (f : Nat) (x6 : Int32) (d : ix_D2), ix_fix (b_X12_layPart_209 n z  a0 x2 x4 x5) (fun _ _ => none) f x6 d = some d1 → ix_G p l e (ix_rm 3 71 0 0) s m args below meth c (MQ below (ix_Post K none (ix_w z d1)) args s 0 0 (ix_A K)) K 8 0 0 209 [(0, .ref (K.2.2.1 + a0)), (2, .int x2), (4, .int x4), (5, .int x5), (6, .int x6)] [] (ix_w z d) := by
    intro f
    induction f with
    | zero =>
      intro x6 d h
      have h : (none : Option (ix_D2)) = some d1 := h
      cases h
    | succ f ih =>
      intro x6 d h
      exact tb_X12_layPart_209 hKp X hr hlk (rec209 := ix_fix (b_X12_layPart_209 n z  a0 x2 x4 x5) (fun _ _ => none) f)  ih h
  exact key n x6 d h
set_option maxRecDepth 20000 in
theorem tb_X12_layPart_177 {l : Launch} {p : Program} {e : Env} {s : State} {m : MethodId} {args : Array Value} {below : List Frame} {meth : Method} {c : Code} {K : ix_Cx} (hKp : ix_Kp K) {n : Nat} {z : ix_Z} (X : ix_X p s m args c K cX12_layPart RX12 8) (hr : meth.sig.returnType = (none : Option Jvm.ClassFile.FieldType)) (hlk : meth.locks = false)  {a0 : Nat} {x2 : Int32} {x4 : Int32} {x5 : Int32} {rec177 : Int32 → ix_D2 → Option (ix_D2)} {d1 : ix_D2} (hrec177 : ∀ (x6 : Int32) (d : ix_D2), rec177 x6 d = some d1 → ix_G p l e (ix_rm 3 71 0 0) s m args below meth c (MQ below (ix_Post K none (ix_w z d1)) args s 0 0 (ix_A K)) K 8 0 0 177 [(0, .ref (K.2.2.1 + a0)), (2, .int x2), (4, .int x4), (5, .int x5), (6, .int x6)] [] (ix_w z d)) {x6 : Int32} {d : ix_D2} (h : b_X12_layPart_177 n z  a0 x2 x4 x5 rec177 x6 d = some d1) : ix_G p l e (ix_rm 3 71 0 0) s m args below meth c (MQ below (ix_Post K none (ix_w z d1)) args s 0 0 (ix_A K)) K 8 0 0 177 [(0, .ref (K.2.2.1 + a0)), (2, .int x2), (4, .int x4), (5, .int x5), (6, .int x6)] [] (ix_w z d) := by
  unfold b_X12_layPart_177 at h
  refine ix_iload (i := 6) (j := 4) X (ix_tb_at tb_X12_layPart 102 rfl) rfl (pc1 := 179) rfl ?_
  refine ix_iload_n (i := 2) (j := 1) X (ix_tb_at tb_X12_layPart 103 rfl) rfl rfl (pc1 := 180) rfl ?_
  refine ix_icmp_ge (tgt := 206) X (ix_tb_at tb_X12_layPart 104 rfl) (by decide) (pc1 := 183) rfl (fun q_40 => ?_) (fun q_40 => ?_)
  · have h := ix_ift q_40 h
    refine ix_iconst (v := 0) X (ix_tb_at tb_X12_layPart 117 rfl) (by decide) (pc1 := 207) rfl ?_
    refine ix_istore (i := 6) (L1 := [(6, .int 0), (0, .ref (K.2.2.1 + a0)), (2, .int x2), (4, .int x4), (5, .int x5)]) X (ix_tb_at tb_X12_layPart 118 rfl) (Nat.le_of_ble_eq_true rfl) rfl (pc1 := 209) rfl ?_
    refine ix_sub (L1 := [(0, .ref (K.2.2.1 + a0)), (2, .int x2), (4, .int x4), (5, .int x5), (6, .int 0)]) [1, 2, 3, 4, 0] rfl ?_
    exact t_X12_layPart_209 hKp X hr hlk  h
  · have h := ix_iff q_40 h
    refine ix_aload_n (i := 0) (j := 0) X (ix_tb_at tb_X12_layPart 105 rfl) rfl rfl (pc1 := 184) rfl ?_
    refine ix_aload_n (i := 0) (j := 0) X (ix_tb_at tb_X12_layPart 106 rfl) rfl rfl (pc1 := 185) rfl ?_
    obtain ⟨k_55, h⟩ := ix_ck_some h
    obtain ⟨b_56, q_57, h⟩ := ix_bd1_ex h
    refine iz_getR X fl_RX12_104 k_55 q_57 (ix_tb_at tb_X12_layPart 107 rfl) (pc1 := 188) rfl ?_
    refine ix_iload (i := 5) (j := 3) X (ix_tb_at tb_X12_layPart 108 rfl) rfl (pc1 := 190) rfl ?_
    refine ix_iload (i := 6) (j := 4) X (ix_tb_at tb_X12_layPart 109 rfl) rfl (pc1 := 192) rfl ?_
    refine ix_iadd X (ix_tb_at tb_X12_layPart 110 rfl) (pc1 := 193) rfl ?_
    obtain ⟨k_58, h⟩ := ix_ck_some h
    refine iz_iald X k_58 (ix_tb_at tb_X12_layPart 111 rfl) (pc1 := 194) rfl ?_
    refine ix_ineg X (ix_tb_at tb_X12_layPart 112 rfl) (pc1 := 195) rfl ?_
    refine ix_iload (i := 4) (j := 2) X (ix_tb_at tb_X12_layPart 113 rfl) rfl (pc1 := 197) rfl ?_
    obtain ⟨d_59, h_60, h⟩ := ix_bd1_ex h
    refine ix_callV (As := [.int (-(d.1 b_56 (ix_n (x5 + x6)))), .int x4]) (rest := []) (ci := 11) (T := TX12) (nf := 116) X mf_X12_layTwo mi_X12_layTwo ms_X12_layTwo rfl (Nat.le_of_ble_eq_true rfl) ml_RX12_302 ⟨Nat.le_of_ble_eq_true rfl, Nat.le_of_ble_eq_true rfl⟩ ⟨Nat.le_of_ble_eq_true rfl, Nat.le_of_ble_eq_true rfl⟩ rfl (Nat.le_of_ble_eq_true rfl) (ix_tb_at tb_X12_layPart 114 rfl) ⟨k_55.1, List.mem_singleton.mp k_55.2⟩ (c_X12_layTwo hKp h_60) rfl (pc1 := 200) rfl ?_
    obtain ⟨x6_61, e_62, h⟩ := ix_lt_ex h
    refine ix_iinc (i := 6) (j := 4) (v := x6_61) (L1 := [(6, .int x6_61), (0, .ref (K.2.2.1 + a0)), (2, .int x2), (4, .int x4), (5, .int x5)]) X (ix_tb_at tb_X12_layPart 115 rfl) rfl (by rw [oi_1]; exact e_62.symm) (Nat.le_of_ble_eq_true rfl) rfl (pc1 := 203) rfl ?_
    refine ix_goto (tgt := 177) X (ix_tb_at tb_X12_layPart 116 rfl) (by decide) ?_
    refine ix_sub (L1 := [(0, .ref (K.2.2.1 + a0)), (2, .int x2), (4, .int x4), (5, .int x5), (6, .int x6_61)]) [1, 2, 3, 4, 0] rfl ?_
    exact hrec177 x6_61 d_59 h
theorem t_X12_layPart_177 {l : Launch} {p : Program} {e : Env} {s : State} {m : MethodId} {args : Array Value} {below : List Frame} {meth : Method} {c : Code} {K : ix_Cx} (hKp : ix_Kp K) {n : Nat} {z : ix_Z} (X : ix_X p s m args c K cX12_layPart RX12 8) (hr : meth.sig.returnType = (none : Option Jvm.ClassFile.FieldType)) (hlk : meth.locks = false)  {a0 : Nat} {x2 : Int32} {x4 : Int32} {x5 : Int32} {d1 : ix_D2}  {x6 : Int32} {d : ix_D2} (h : f_X12_layPart_177 n z  a0 x2 x4 x5 x6 d = some d1) : ix_G p l e (ix_rm 3 71 0 0) s m args below meth c (MQ below (ix_Post K none (ix_w z d1)) args s 0 0 (ix_A K)) K 8 0 0 177 [(0, .ref (K.2.2.1 + a0)), (2, .int x2), (4, .int x4), (5, .int x5), (6, .int x6)] [] (ix_w z d) := by
  have key : ∀ (f : Nat) (x6 : Int32) (d : ix_D2), ix_fix (b_X12_layPart_177 n z  a0 x2 x4 x5) (fun _ _ => none) f x6 d = some d1 → ix_G p l e (ix_rm 3 71 0 0) s m args below meth c (MQ below (ix_Post K none (ix_w z d1)) args s 0 0 (ix_A K)) K 8 0 0 177 [(0, .ref (K.2.2.1 + a0)), (2, .int x2), (4, .int x4), (5, .int x5), (6, .int x6)] [] (ix_w z d) := by
    intro f
    induction f with
    | zero =>
      intro x6 d h
      have h : (none : Option (ix_D2)) = some d1 := h
      cases h
    | succ f ih =>
      intro x6 d h
      exact tb_X12_layPart_177 hKp X hr hlk (rec177 := ix_fix (b_X12_layPart_177 n z  a0 x2 x4 x5) (fun _ _ => none) f)  ih h
  exact key n x6 d h
set_option maxRecDepth 20000 in
theorem tb_X12_layPart_134 {l : Launch} {p : Program} {e : Env} {s : State} {m : MethodId} {args : Array Value} {below : List Frame} {meth : Method} {c : Code} {K : ix_Cx} (hKp : ix_Kp K) {n : Nat} {z : ix_Z} (X : ix_X p s m args c K cX12_layPart RX12 8) (hr : meth.sig.returnType = (none : Option Jvm.ClassFile.FieldType)) (hlk : meth.locks = false)  {a0 : Nat} {x2 : Int32} {x4 : Int32} {x5 : Int32} {rec134 : Int32 → ix_D2 → Option (ix_D2)} {d1 : ix_D2} (hrec134 : ∀ (x6 : Int32) (d : ix_D2), rec134 x6 d = some d1 → ix_G p l e (ix_rm 3 71 0 0) s m args below meth c (MQ below (ix_Post K none (ix_w z d1)) args s 0 0 (ix_A K)) K 8 0 0 134 [(0, .ref (K.2.2.1 + a0)), (2, .int x2), (4, .int x4), (5, .int x5), (6, .int x6)] [] (ix_w z d)) {x6 : Int32} {d : ix_D2} (h : b_X12_layPart_134 n z  a0 x2 x4 x5 rec134 x6 d = some d1) : ix_G p l e (ix_rm 3 71 0 0) s m args below meth c (MQ below (ix_Post K none (ix_w z d1)) args s 0 0 (ix_A K)) K 8 0 0 134 [(0, .ref (K.2.2.1 + a0)), (2, .int x2), (4, .int x4), (5, .int x5), (6, .int x6)] [] (ix_w z d) := by
  unfold b_X12_layPart_134 at h
  refine ix_iload (i := 6) (j := 4) X (ix_tb_at tb_X12_layPart 80 rfl) rfl (pc1 := 136) rfl ?_
  refine ix_iload_n (i := 2) (j := 1) X (ix_tb_at tb_X12_layPart 81 rfl) rfl rfl (pc1 := 137) rfl ?_
  refine ix_icmp_ge (tgt := 161) X (ix_tb_at tb_X12_layPart 82 rfl) (by decide) (pc1 := 140) rfl (fun q_67 => ?_) (fun q_67 => ?_)
  · have h := ix_ift q_67 h
    refine ix_aload_n (i := 0) (j := 0) X (ix_tb_at tb_X12_layPart 94 rfl) rfl rfl (pc1 := 162) rfl ?_
    obtain ⟨k_70, h⟩ := ix_ck_some h
    obtain ⟨d_68, h_69, h⟩ := ix_bd1_ex h
    refine ix_callV (As := []) (rest := []) (ci := 11) (T := TX12) (nf := 116) X mf_X12_endRow mi_X12_endRow ms_X12_endRow rfl (Nat.le_of_ble_eq_true rfl) ml_RX12_286 ⟨Nat.le_of_ble_eq_true rfl, Nat.le_of_ble_eq_true rfl⟩ ⟨Nat.le_of_ble_eq_true rfl, Nat.le_of_ble_eq_true rfl⟩ rfl (Nat.le_of_ble_eq_true rfl) (ix_tb_at tb_X12_layPart 95 rfl) ⟨k_70.1, List.mem_singleton.mp k_70.2⟩ (c_X12_endRow hKp h_69) rfl (pc1 := 165) rfl ?_
    refine ix_goto (tgt := 316) X (ix_tb_at tb_X12_layPart 96 rfl) (by decide) ?_
    refine ix_sub (L1 := [(0, .ref (K.2.2.1 + a0)), (4, .int x4), (5, .int x5)]) [0, 2, 3] rfl ?_
    exact t_X12_layPart_316 hKp X hr hlk  h
  · have h := ix_iff q_67 h
    refine ix_aload_n (i := 0) (j := 0) X (ix_tb_at tb_X12_layPart 83 rfl) rfl rfl (pc1 := 141) rfl ?_
    refine ix_aload_n (i := 0) (j := 0) X (ix_tb_at tb_X12_layPart 84 rfl) rfl rfl (pc1 := 142) rfl ?_
    obtain ⟨k_71, h⟩ := ix_ck_some h
    obtain ⟨b_72, q_73, h⟩ := ix_bd1_ex h
    refine iz_getR X fl_RX12_104 k_71 q_73 (ix_tb_at tb_X12_layPart 85 rfl) (pc1 := 145) rfl ?_
    refine ix_iload (i := 5) (j := 3) X (ix_tb_at tb_X12_layPart 86 rfl) rfl (pc1 := 147) rfl ?_
    refine ix_iload (i := 6) (j := 4) X (ix_tb_at tb_X12_layPart 87 rfl) rfl (pc1 := 149) rfl ?_
    refine ix_iadd X (ix_tb_at tb_X12_layPart 88 rfl) (pc1 := 150) rfl ?_
    obtain ⟨k_74, h⟩ := ix_ck_some h
    refine iz_iald X k_74 (ix_tb_at tb_X12_layPart 89 rfl) (pc1 := 151) rfl ?_
    refine ix_ineg X (ix_tb_at tb_X12_layPart 90 rfl) (pc1 := 152) rfl ?_
    obtain ⟨d_75, h_76, h⟩ := ix_bd1_ex h
    refine ix_callV (As := [.int (-(d.1 b_72 (ix_n (x5 + x6))))]) (rest := []) (ci := 11) (T := TX12) (nf := 116) X mf_X12_lay mi_X12_lay ms_X12_lay rfl (Nat.le_of_ble_eq_true rfl) ml_RX12_282 ⟨Nat.le_of_ble_eq_true rfl, Nat.le_of_ble_eq_true rfl⟩ ⟨Nat.le_of_ble_eq_true rfl, Nat.le_of_ble_eq_true rfl⟩ rfl (Nat.le_of_ble_eq_true rfl) (ix_tb_at tb_X12_layPart 91 rfl) ⟨k_71.1, List.mem_singleton.mp k_71.2⟩ (c_X12_lay hKp h_76) rfl (pc1 := 155) rfl ?_
    obtain ⟨x6_77, e_78, h⟩ := ix_lt_ex h
    refine ix_iinc (i := 6) (j := 4) (v := x6_77) (L1 := [(6, .int x6_77), (0, .ref (K.2.2.1 + a0)), (2, .int x2), (4, .int x4), (5, .int x5)]) X (ix_tb_at tb_X12_layPart 92 rfl) rfl (by rw [oi_1]; exact e_78.symm) (Nat.le_of_ble_eq_true rfl) rfl (pc1 := 158) rfl ?_
    refine ix_goto (tgt := 134) X (ix_tb_at tb_X12_layPart 93 rfl) (by decide) ?_
    refine ix_sub (L1 := [(0, .ref (K.2.2.1 + a0)), (2, .int x2), (4, .int x4), (5, .int x5), (6, .int x6_77)]) [1, 2, 3, 4, 0] rfl ?_
    exact hrec134 x6_77 d_75 h
theorem t_X12_layPart_134 {l : Launch} {p : Program} {e : Env} {s : State} {m : MethodId} {args : Array Value} {below : List Frame} {meth : Method} {c : Code} {K : ix_Cx} (hKp : ix_Kp K) {n : Nat} {z : ix_Z} (X : ix_X p s m args c K cX12_layPart RX12 8) (hr : meth.sig.returnType = (none : Option Jvm.ClassFile.FieldType)) (hlk : meth.locks = false)  {a0 : Nat} {x2 : Int32} {x4 : Int32} {x5 : Int32} {d1 : ix_D2}  {x6 : Int32} {d : ix_D2} (h : f_X12_layPart_134 n z  a0 x2 x4 x5 x6 d = some d1) : ix_G p l e (ix_rm 3 71 0 0) s m args below meth c (MQ below (ix_Post K none (ix_w z d1)) args s 0 0 (ix_A K)) K 8 0 0 134 [(0, .ref (K.2.2.1 + a0)), (2, .int x2), (4, .int x4), (5, .int x5), (6, .int x6)] [] (ix_w z d) := by
  have key : ∀ (f : Nat) (x6 : Int32) (d : ix_D2), ix_fix (b_X12_layPart_134 n z  a0 x2 x4 x5) (fun _ _ => none) f x6 d = some d1 → ix_G p l e (ix_rm 3 71 0 0) s m args below meth c (MQ below (ix_Post K none (ix_w z d1)) args s 0 0 (ix_A K)) K 8 0 0 134 [(0, .ref (K.2.2.1 + a0)), (2, .int x2), (4, .int x4), (5, .int x5), (6, .int x6)] [] (ix_w z d) := by
    intro f
    induction f with
    | zero =>
      intro x6 d h
      have h : (none : Option (ix_D2)) = some d1 := h
      cases h
    | succ f ih =>
      intro x6 d h
      exact tb_X12_layPart_134 hKp X hr hlk (rec134 := ix_fix (b_X12_layPart_134 n z  a0 x2 x4 x5) (fun _ _ => none) f)  ih h
  exact key n x6 d h
set_option maxRecDepth 20000 in
theorem tb_X12_layPart_96 {l : Launch} {p : Program} {e : Env} {s : State} {m : MethodId} {args : Array Value} {below : List Frame} {meth : Method} {c : Code} {K : ix_Cx} (hKp : ix_Kp K) {n : Nat} {z : ix_Z} (X : ix_X p s m args c K cX12_layPart RX12 8) (hr : meth.sig.returnType = (none : Option Jvm.ClassFile.FieldType)) (hlk : meth.locks = false)  {a0 : Nat} {x2 : Int32} {x4 : Int32} {x5 : Int32} {rec96 : Int32 → ix_D2 → Option (ix_D2)} {d1 : ix_D2} (hrec96 : ∀ (x6 : Int32) (d : ix_D2), rec96 x6 d = some d1 → ix_G p l e (ix_rm 3 71 0 0) s m args below meth c (MQ below (ix_Post K none (ix_w z d1)) args s 0 0 (ix_A K)) K 8 0 0 96 [(0, .ref (K.2.2.1 + a0)), (2, .int x2), (4, .int x4), (5, .int x5), (6, .int x6)] [] (ix_w z d)) {x6 : Int32} {d : ix_D2} (h : b_X12_layPart_96 n z  a0 x2 x4 x5 rec96 x6 d = some d1) : ix_G p l e (ix_rm 3 71 0 0) s m args below meth c (MQ below (ix_Post K none (ix_w z d1)) args s 0 0 (ix_A K)) K 8 0 0 96 [(0, .ref (K.2.2.1 + a0)), (2, .int x2), (4, .int x4), (5, .int x5), (6, .int x6)] [] (ix_w z d) := by
  unfold b_X12_layPart_96 at h
  refine ix_iload (i := 6) (j := 4) X (ix_tb_at tb_X12_layPart 60 rfl) rfl (pc1 := 98) rfl ?_
  refine ix_iload_n (i := 2) (j := 1) X (ix_tb_at tb_X12_layPart 61 rfl) rfl rfl (pc1 := 99) rfl ?_
  refine ix_icmp_ge (tgt := 125) X (ix_tb_at tb_X12_layPart 62 rfl) (by decide) (pc1 := 102) rfl (fun q_63 => ?_) (fun q_63 => ?_)
  · have h := ix_ift q_63 h
    refine ix_aload_n (i := 0) (j := 0) X (ix_tb_at tb_X12_layPart 75 rfl) rfl rfl (pc1 := 126) rfl ?_
    refine ix_iload (i := 4) (j := 2) X (ix_tb_at tb_X12_layPart 76 rfl) rfl (pc1 := 128) rfl ?_
    obtain ⟨k_66, h⟩ := ix_ck_some h
    obtain ⟨d_64, h_65, h⟩ := ix_bd1_ex h
    refine ix_callV (As := [.int x4]) (rest := []) (ci := 11) (T := TX12) (nf := 116) X mf_X12_lay mi_X12_lay ms_X12_lay rfl (Nat.le_of_ble_eq_true rfl) ml_RX12_282 ⟨Nat.le_of_ble_eq_true rfl, Nat.le_of_ble_eq_true rfl⟩ ⟨Nat.le_of_ble_eq_true rfl, Nat.le_of_ble_eq_true rfl⟩ rfl (Nat.le_of_ble_eq_true rfl) (ix_tb_at tb_X12_layPart 77 rfl) ⟨k_66.1, List.mem_singleton.mp k_66.2⟩ (c_X12_lay hKp h_65) rfl (pc1 := 131) rfl ?_
    refine ix_iconst (v := 0) X (ix_tb_at tb_X12_layPart 78 rfl) (by decide) (pc1 := 132) rfl ?_
    refine ix_istore (i := 6) (L1 := [(6, .int 0), (0, .ref (K.2.2.1 + a0)), (2, .int x2), (4, .int x4), (5, .int x5)]) X (ix_tb_at tb_X12_layPart 79 rfl) (Nat.le_of_ble_eq_true rfl) rfl (pc1 := 134) rfl ?_
    refine ix_sub (L1 := [(0, .ref (K.2.2.1 + a0)), (2, .int x2), (4, .int x4), (5, .int x5), (6, .int 0)]) [1, 2, 3, 4, 0] rfl ?_
    exact t_X12_layPart_134 hKp X hr hlk  h
  · have h := ix_iff q_63 h
    refine ix_aload_n (i := 0) (j := 0) X (ix_tb_at tb_X12_layPart 63 rfl) rfl rfl (pc1 := 103) rfl ?_
    refine ix_aload_n (i := 0) (j := 0) X (ix_tb_at tb_X12_layPart 64 rfl) rfl rfl (pc1 := 104) rfl ?_
    obtain ⟨k_79, h⟩ := ix_ck_some h
    obtain ⟨b_80, q_81, h⟩ := ix_bd1_ex h
    refine iz_getR X fl_RX12_104 k_79 q_81 (ix_tb_at tb_X12_layPart 65 rfl) (pc1 := 107) rfl ?_
    refine ix_iload (i := 5) (j := 3) X (ix_tb_at tb_X12_layPart 66 rfl) rfl (pc1 := 109) rfl ?_
    refine ix_iload (i := 6) (j := 4) X (ix_tb_at tb_X12_layPart 67 rfl) rfl (pc1 := 111) rfl ?_
    refine ix_iadd X (ix_tb_at tb_X12_layPart 68 rfl) (pc1 := 112) rfl ?_
    obtain ⟨k_82, h⟩ := ix_ck_some h
    refine iz_iald X k_82 (ix_tb_at tb_X12_layPart 69 rfl) (pc1 := 113) rfl ?_
    refine ix_iload (i := 4) (j := 2) X (ix_tb_at tb_X12_layPart 70 rfl) rfl (pc1 := 115) rfl ?_
    refine ix_ineg X (ix_tb_at tb_X12_layPart 71 rfl) (pc1 := 116) rfl ?_
    obtain ⟨d_83, h_84, h⟩ := ix_bd1_ex h
    refine ix_callV (As := [.int (d.1 b_80 (ix_n (x5 + x6))), .int (-x4)]) (rest := []) (ci := 11) (T := TX12) (nf := 116) X mf_X12_layTwo mi_X12_layTwo ms_X12_layTwo rfl (Nat.le_of_ble_eq_true rfl) ml_RX12_302 ⟨Nat.le_of_ble_eq_true rfl, Nat.le_of_ble_eq_true rfl⟩ ⟨Nat.le_of_ble_eq_true rfl, Nat.le_of_ble_eq_true rfl⟩ rfl (Nat.le_of_ble_eq_true rfl) (ix_tb_at tb_X12_layPart 72 rfl) ⟨k_79.1, List.mem_singleton.mp k_79.2⟩ (c_X12_layTwo hKp h_84) rfl (pc1 := 119) rfl ?_
    obtain ⟨x6_85, e_86, h⟩ := ix_lt_ex h
    refine ix_iinc (i := 6) (j := 4) (v := x6_85) (L1 := [(6, .int x6_85), (0, .ref (K.2.2.1 + a0)), (2, .int x2), (4, .int x4), (5, .int x5)]) X (ix_tb_at tb_X12_layPart 73 rfl) rfl (by rw [oi_1]; exact e_86.symm) (Nat.le_of_ble_eq_true rfl) rfl (pc1 := 122) rfl ?_
    refine ix_goto (tgt := 96) X (ix_tb_at tb_X12_layPart 74 rfl) (by decide) ?_
    refine ix_sub (L1 := [(0, .ref (K.2.2.1 + a0)), (2, .int x2), (4, .int x4), (5, .int x5), (6, .int x6_85)]) [1, 2, 3, 4, 0] rfl ?_
    exact hrec96 x6_85 d_83 h
theorem t_X12_layPart_96 {l : Launch} {p : Program} {e : Env} {s : State} {m : MethodId} {args : Array Value} {below : List Frame} {meth : Method} {c : Code} {K : ix_Cx} (hKp : ix_Kp K) {n : Nat} {z : ix_Z} (X : ix_X p s m args c K cX12_layPart RX12 8) (hr : meth.sig.returnType = (none : Option Jvm.ClassFile.FieldType)) (hlk : meth.locks = false)  {a0 : Nat} {x2 : Int32} {x4 : Int32} {x5 : Int32} {d1 : ix_D2}  {x6 : Int32} {d : ix_D2} (h : f_X12_layPart_96 n z  a0 x2 x4 x5 x6 d = some d1) : ix_G p l e (ix_rm 3 71 0 0) s m args below meth c (MQ below (ix_Post K none (ix_w z d1)) args s 0 0 (ix_A K)) K 8 0 0 96 [(0, .ref (K.2.2.1 + a0)), (2, .int x2), (4, .int x4), (5, .int x5), (6, .int x6)] [] (ix_w z d) := by
  have key : ∀ (f : Nat) (x6 : Int32) (d : ix_D2), ix_fix (b_X12_layPart_96 n z  a0 x2 x4 x5) (fun _ _ => none) f x6 d = some d1 → ix_G p l e (ix_rm 3 71 0 0) s m args below meth c (MQ below (ix_Post K none (ix_w z d1)) args s 0 0 (ix_A K)) K 8 0 0 96 [(0, .ref (K.2.2.1 + a0)), (2, .int x2), (4, .int x4), (5, .int x5), (6, .int x6)] [] (ix_w z d) := by
    intro f
    induction f with
    | zero =>
      intro x6 d h
      have h : (none : Option (ix_D2)) = some d1 := h
      cases h
    | succ f ih =>
      intro x6 d h
      exact tb_X12_layPart_96 hKp X hr hlk (rec96 := ix_fix (b_X12_layPart_96 n z  a0 x2 x4 x5) (fun _ _ => none) f)  ih h
  exact key n x6 d h
set_option maxRecDepth 20000 in
theorem c_X12_layPart {l : Launch} {K : ix_Cx} (hKp : ix_Kp K) {n : Nat} {z : ix_Z} {a0 : Nat} {x1 : Int32} {d : ix_D2} {d1 : ix_D2} (h : f_X12_layPart n z a0 x1 d = some d1) : ix_M l K yX12_layPart cX12_layPart 8 (none : Option Jvm.ClassFile.FieldType) 3 71 0 0 [.ref (K.2.2.1 + a0), .int x1] (ix_w z d) none (ix_w z d1) := by
  refine ix_met mf_X12_layPart hKp (Nat.le_of_ble_eq_true rfl) ?_
  intro p e s m args below meth c hr hlk hnm X
  have X : ix_X p s m args c K cX12_layPart RX12 8 := X
  show ix_G p l e (ix_rm 3 71 0 0) s m args below meth c (MQ below (ix_Post K none (ix_w z d1)) args s 0 0 (ix_A K)) K 8 0 0 0 [(0, .ref (K.2.2.1 + a0)), (1, .int x1)] [] (ix_w z d)
  unfold f_X12_layPart at h
  refine ix_iload_n (i := 1) (j := 1) X (ix_tb_at tb_X12_layPart 0 rfl) rfl rfl (pc1 := 1) rfl ?_
  refine ix_if_ge (tgt := 33) X (ix_tb_at tb_X12_layPart 1 rfl) (by decide) (pc1 := 4) rfl (fun q_1 => ?_) (fun q_1 => ?_)
  · have h := ix_ift q_1 h
    refine ix_iload_n (i := 1) (j := 1) X (ix_tb_at tb_X12_layPart 21 rfl) rfl rfl (pc1 := 34) rfl ?_
    refine ix_if_ne (tgt := 61) X (ix_tb_at tb_X12_layPart 22 rfl) (by decide) (pc1 := 37) rfl (fun q_2 => ?_) (fun q_2 => ?_)
    · have h := ix_iff q_2 h
      refine ix_iload_n (i := 1) (j := 1) X (ix_tb_at tb_X12_layPart 39 rfl) rfl rfl (pc1 := 62) rfl ?_
      refine ix_sipush (v := 1000) X (ix_tb_at tb_X12_layPart 40 rfl) (by decide) (pc1 := 65) rfl ?_
      refine ix_irem X (ix_tb_at tb_X12_layPart 41 rfl) (by decide) (pc1 := 66) rfl ?_
      obtain ⟨x2_3, e_4, h⟩ := ix_lt_ex h
      refine ix_nmi e_4 ?_
      refine ix_istore_n (i := 2) (L1 := [(2, .int x2_3), (0, .ref (K.2.2.1 + a0)), (1, .int x1)]) X (ix_tb_at tb_X12_layPart 42 rfl) rfl (Nat.le_of_ble_eq_true rfl) rfl (pc1 := 67) rfl ?_
      refine ix_iload_n (i := 1) (j := 2) X (ix_tb_at tb_X12_layPart 43 rfl) rfl rfl (pc1 := 68) rfl ?_
      refine ix_sipush (v := 1000) X (ix_tb_at tb_X12_layPart 44 rfl) (by decide) (pc1 := 71) rfl ?_
      refine ix_idiv X (ix_tb_at tb_X12_layPart 45 rfl) (by decide) (pc1 := 72) rfl ?_
      obtain ⟨x3_5, e_6, h⟩ := ix_lt_ex h
      refine ix_nmi e_6 ?_
      refine ix_istore_n (i := 3) (L1 := [(3, .int x3_5), (2, .int x2_3), (0, .ref (K.2.2.1 + a0)), (1, .int x1)]) X (ix_tb_at tb_X12_layPart 46 rfl) rfl (Nat.le_of_ble_eq_true rfl) rfl (pc1 := 73) rfl ?_
      refine ix_aload_n (i := 0) (j := 2) X (ix_tb_at tb_X12_layPart 47 rfl) rfl rfl (pc1 := 74) rfl ?_
      obtain ⟨k_9, h⟩ := ix_ck_some h
      obtain ⟨r_10, d_7, h_8, h⟩ := ix_bd2_ex h
      refine ix_callV (As := []) (rest := []) (ci := 11) (T := TX12) (nf := 116) X mf_X12_newName mi_X12_newName ms_X12_newName rfl (Nat.le_of_ble_eq_true rfl) ml_RX12_298 ⟨Nat.le_of_ble_eq_true rfl, Nat.le_of_ble_eq_true rfl⟩ ⟨Nat.le_of_ble_eq_true rfl, Nat.le_of_ble_eq_true rfl⟩ rfl (Nat.le_of_ble_eq_true rfl) (ix_tb_at tb_X12_layPart 48 rfl) ⟨k_9.1, List.mem_singleton.mp k_9.2⟩ (c_X12_newName hKp h_8) rfl (pc1 := 77) rfl ?_
      refine ix_istore (i := 4) (L1 := [(4, .int r_10), (3, .int x3_5), (2, .int x2_3), (0, .ref (K.2.2.1 + a0)), (1, .int x1)]) X (ix_tb_at tb_X12_layPart 49 rfl) (Nat.le_of_ble_eq_true rfl) rfl (pc1 := 79) rfl ?_
      refine ix_aload_n (i := 0) (j := 3) X (ix_tb_at tb_X12_layPart 50 rfl) rfl rfl (pc1 := 80) rfl ?_
      refine iz_getI X fl_RX12_359 k_9 (ix_tb_at tb_X12_layPart 51 rfl) (pc1 := 83) rfl ?_
      refine ix_iload_n (i := 2) (j := 2) X (ix_tb_at tb_X12_layPart 52 rfl) rfl rfl (pc1 := 84) rfl ?_
      refine ix_isub X (ix_tb_at tb_X12_layPart 53 rfl) (pc1 := 85) rfl ?_
      obtain ⟨x5_11, e_12, h⟩ := ix_lt_ex h
      refine ix_nmi e_12 ?_
      refine ix_istore (i := 5) (L1 := [(5, .int x5_11), (4, .int r_10), (3, .int x3_5), (2, .int x2_3), (0, .ref (K.2.2.1 + a0)), (1, .int x1)]) X (ix_tb_at tb_X12_layPart 54 rfl) (Nat.le_of_ble_eq_true rfl) rfl (pc1 := 87) rfl ?_
      refine ix_iload_n (i := 3) (j := 2) X (ix_tb_at tb_X12_layPart 55 rfl) rfl rfl (pc1 := 88) rfl ?_
      refine ix_bipush (v := 38) X (ix_tb_at tb_X12_layPart 56 rfl) (by decide) (pc1 := 90) rfl ?_
      refine ix_icmp_ne (tgt := 168) X (ix_tb_at tb_X12_layPart 57 rfl) (by decide) (pc1 := 93) rfl (fun q_13 => ?_) (fun q_13 => ?_)
      · have h := ix_iff q_13 h
        refine ix_iload_n (i := 3) (j := 2) X (ix_tb_at tb_X12_layPart 97 rfl) rfl rfl (pc1 := 169) rfl ?_
        refine ix_bipush (v := 124) X (ix_tb_at tb_X12_layPart 98 rfl) (by decide) (pc1 := 171) rfl ?_
        refine ix_icmp_ne (tgt := 249) X (ix_tb_at tb_X12_layPart 99 rfl) (by decide) (pc1 := 174) rfl (fun q_14 => ?_) (fun q_14 => ?_)
        · have h := ix_iff q_14 h
          refine ix_iload_n (i := 3) (j := 2) X (ix_tb_at tb_X12_layPart 139 rfl) rfl rfl (pc1 := 250) rfl ?_
          refine ix_bipush (v := 62) X (ix_tb_at tb_X12_layPart 140 rfl) (by decide) (pc1 := 252) rfl ?_
          refine ix_icmp_ne (tgt := 307) X (ix_tb_at tb_X12_layPart 141 rfl) (by decide) (pc1 := 255) rfl (fun q_15 => ?_) (fun q_15 => ?_)
          · have h := ix_iff q_15 h
            refine ix_aload_n (i := 0) (j := 4) X (ix_tb_at tb_X12_layPart 171 rfl) rfl rfl (pc1 := 308) rfl ?_
            refine ix_iload (i := 4) (j := 1) X (ix_tb_at tb_X12_layPart 172 rfl) rfl (pc1 := 310) rfl ?_
            refine ix_iload (i := 5) (j := 0) X (ix_tb_at tb_X12_layPart 173 rfl) rfl (pc1 := 312) rfl ?_
            refine ix_iload_n (i := 2) (j := 3) X (ix_tb_at tb_X12_layPart 174 rfl) rfl rfl (pc1 := 313) rfl ?_
            obtain ⟨d_16, h_17, h⟩ := ix_bd1_ex h
            refine ix_callV (As := [.int r_10, .int x5_11, .int x2_3]) (rest := []) (ci := 11) (T := TX12) (nf := 116) X mf_X12_layJust mi_X12_layJust ms_X12_layJust rfl (Nat.le_of_ble_eq_true rfl) ml_RX12_362 ⟨Nat.le_of_ble_eq_true rfl, Nat.le_of_ble_eq_true rfl⟩ ⟨Nat.le_of_ble_eq_true rfl, Nat.le_of_ble_eq_true rfl⟩ rfl (Nat.le_of_ble_eq_true rfl) (ix_tb_at tb_X12_layPart 175 rfl) ⟨k_9.1, List.mem_singleton.mp k_9.2⟩ (c_X12_layJust hKp h_17) rfl (pc1 := 316) rfl ?_
            refine ix_sub (L1 := [(0, .ref (K.2.2.1 + a0)), (4, .int r_10), (5, .int x5_11)]) [4, 1, 0] rfl ?_
            exact t_X12_layPart_316 hKp X hr hlk  h
          · have h := ix_ift q_15 h
            refine ix_aload_n (i := 0) (j := 4) X (ix_tb_at tb_X12_layPart 142 rfl) rfl rfl (pc1 := 256) rfl ?_
            obtain ⟨b_26, q_27, h⟩ := ix_bd1_ex h
            refine iz_getR X fl_RX12_104 k_9 q_27 (ix_tb_at tb_X12_layPart 143 rfl) (pc1 := 259) rfl ?_
            refine ix_iload (i := 5) (j := 0) X (ix_tb_at tb_X12_layPart 144 rfl) rfl (pc1 := 261) rfl ?_
            obtain ⟨k_28, h⟩ := ix_ck_some h
            refine iz_iald X k_28 (ix_tb_at tb_X12_layPart 145 rfl) (pc1 := 262) rfl ?_
            obtain ⟨x6_29, e_30, h⟩ := ix_lt_ex h
            refine ix_nmi e_30 ?_
            refine ix_istore (i := 6) (L1 := [(6, .int x6_29), (5, .int x5_11), (4, .int r_10), (3, .int x3_5), (2, .int x2_3), (0, .ref (K.2.2.1 + a0)), (1, .int x1)]) X (ix_tb_at tb_X12_layPart 146 rfl) (Nat.le_of_ble_eq_true rfl) rfl (pc1 := 264) rfl ?_
            refine ix_aload_n (i := 0) (j := 5) X (ix_tb_at tb_X12_layPart 147 rfl) rfl rfl (pc1 := 265) rfl ?_
            refine iz_getR X fl_RX12_104 k_9 q_27 (ix_tb_at tb_X12_layPart 148 rfl) (pc1 := 268) rfl ?_
            refine ix_iload (i := 5) (j := 1) X (ix_tb_at tb_X12_layPart 149 rfl) rfl (pc1 := 270) rfl ?_
            refine ix_iconst (v := 1) X (ix_tb_at tb_X12_layPart 150 rfl) (by decide) (pc1 := 271) rfl ?_
            refine ix_iadd X (ix_tb_at tb_X12_layPart 151 rfl) (pc1 := 272) rfl ?_
            obtain ⟨k_31, h⟩ := ix_ck_some h
            refine iz_iald X k_31 (ix_tb_at tb_X12_layPart 152 rfl) (pc1 := 273) rfl ?_
            obtain ⟨x7_32, e_33, h⟩ := ix_lt_ex h
            refine ix_nmi e_33 ?_
            refine ix_istore (i := 7) (L1 := [(7, .int x7_32), (6, .int x6_29), (5, .int x5_11), (4, .int r_10), (3, .int x3_5), (2, .int x2_3), (0, .ref (K.2.2.1 + a0)), (1, .int x1)]) X (ix_tb_at tb_X12_layPart 153 rfl) (Nat.le_of_ble_eq_true rfl) rfl (pc1 := 275) rfl ?_
            refine ix_aload_n (i := 0) (j := 6) X (ix_tb_at tb_X12_layPart 154 rfl) rfl rfl (pc1 := 276) rfl ?_
            refine ix_iload (i := 6) (j := 1) X (ix_tb_at tb_X12_layPart 155 rfl) rfl (pc1 := 278) rfl ?_
            refine ix_iload (i := 4) (j := 3) X (ix_tb_at tb_X12_layPart 156 rfl) rfl (pc1 := 280) rfl ?_
            obtain ⟨d_34, h_35, h⟩ := ix_bd1_ex h
            refine ix_callV (As := [.int x6_29, .int r_10]) (rest := []) (ci := 11) (T := TX12) (nf := 116) X mf_X12_layTwo mi_X12_layTwo ms_X12_layTwo rfl (Nat.le_of_ble_eq_true rfl) ml_RX12_302 ⟨Nat.le_of_ble_eq_true rfl, Nat.le_of_ble_eq_true rfl⟩ ⟨Nat.le_of_ble_eq_true rfl, Nat.le_of_ble_eq_true rfl⟩ rfl (Nat.le_of_ble_eq_true rfl) (ix_tb_at tb_X12_layPart 157 rfl) ⟨k_9.1, List.mem_singleton.mp k_9.2⟩ (c_X12_layTwo hKp h_35) rfl (pc1 := 283) rfl ?_
            refine ix_aload_n (i := 0) (j := 6) X (ix_tb_at tb_X12_layPart 158 rfl) rfl rfl (pc1 := 284) rfl ?_
            refine ix_iload (i := 7) (j := 0) X (ix_tb_at tb_X12_layPart 159 rfl) rfl (pc1 := 286) rfl ?_
            refine ix_ineg X (ix_tb_at tb_X12_layPart 160 rfl) (pc1 := 287) rfl ?_
            refine ix_iload (i := 4) (j := 3) X (ix_tb_at tb_X12_layPart 161 rfl) rfl (pc1 := 289) rfl ?_
            obtain ⟨d_36, h_37, h⟩ := ix_bd1_ex h
            refine ix_callV (As := [.int (-x7_32), .int r_10]) (rest := []) (ci := 11) (T := TX12) (nf := 116) X mf_X12_layTwo mi_X12_layTwo ms_X12_layTwo rfl (Nat.le_of_ble_eq_true rfl) ml_RX12_302 ⟨Nat.le_of_ble_eq_true rfl, Nat.le_of_ble_eq_true rfl⟩ ⟨Nat.le_of_ble_eq_true rfl, Nat.le_of_ble_eq_true rfl⟩ rfl (Nat.le_of_ble_eq_true rfl) (ix_tb_at tb_X12_layPart 162 rfl) ⟨k_9.1, List.mem_singleton.mp k_9.2⟩ (c_X12_layTwo hKp h_37) rfl (pc1 := 292) rfl ?_
            refine ix_aload_n (i := 0) (j := 6) X (ix_tb_at tb_X12_layPart 163 rfl) rfl rfl (pc1 := 293) rfl ?_
            refine ix_iload (i := 6) (j := 1) X (ix_tb_at tb_X12_layPart 164 rfl) rfl (pc1 := 295) rfl ?_
            refine ix_ineg X (ix_tb_at tb_X12_layPart 165 rfl) (pc1 := 296) rfl ?_
            refine ix_iload (i := 7) (j := 0) X (ix_tb_at tb_X12_layPart 166 rfl) rfl (pc1 := 298) rfl ?_
            refine ix_iload (i := 4) (j := 3) X (ix_tb_at tb_X12_layPart 167 rfl) rfl (pc1 := 300) rfl ?_
            refine ix_ineg X (ix_tb_at tb_X12_layPart 168 rfl) (pc1 := 301) rfl ?_
            obtain ⟨d_38, h_39, h⟩ := ix_bd1_ex h
            refine ix_callV (As := [.int (-x6_29), .int x7_32, .int (-r_10)]) (rest := []) (ci := 11) (T := TX12) (nf := 116) X mf_X12_layThree mi_X12_layThree ms_X12_layThree rfl (Nat.le_of_ble_eq_true rfl) ml_RX12_306 ⟨Nat.le_of_ble_eq_true rfl, Nat.le_of_ble_eq_true rfl⟩ ⟨Nat.le_of_ble_eq_true rfl, Nat.le_of_ble_eq_true rfl⟩ rfl (Nat.le_of_ble_eq_true rfl) (ix_tb_at tb_X12_layPart 169 rfl) ⟨k_9.1, List.mem_singleton.mp k_9.2⟩ (c_X12_layThree hKp h_39) rfl (pc1 := 304) rfl ?_
            refine ix_goto (tgt := 316) X (ix_tb_at tb_X12_layPart 170 rfl) (by decide) ?_
            refine ix_sub (L1 := [(0, .ref (K.2.2.1 + a0)), (4, .int r_10), (5, .int x5_11)]) [6, 3, 2] rfl ?_
            exact t_X12_layPart_316 hKp X hr hlk  h
        · have h := ix_ift q_14 h
          refine ix_iconst (v := 0) X (ix_tb_at tb_X12_layPart 100 rfl) (by decide) (pc1 := 175) rfl ?_
          refine ix_istore (i := 6) (L1 := [(6, .int 0), (5, .int x5_11), (4, .int r_10), (3, .int x3_5), (2, .int x2_3), (0, .ref (K.2.2.1 + a0)), (1, .int x1)]) X (ix_tb_at tb_X12_layPart 101 rfl) (Nat.le_of_ble_eq_true rfl) rfl (pc1 := 177) rfl ?_
          refine ix_sub (L1 := [(0, .ref (K.2.2.1 + a0)), (2, .int x2_3), (4, .int r_10), (5, .int x5_11), (6, .int 0)]) [5, 4, 2, 1, 0] rfl ?_
          exact t_X12_layPart_177 hKp X hr hlk  h
      · have h := ix_ift q_13 h
        refine ix_iconst (v := 0) X (ix_tb_at tb_X12_layPart 58 rfl) (by decide) (pc1 := 94) rfl ?_
        refine ix_istore (i := 6) (L1 := [(6, .int 0), (5, .int x5_11), (4, .int r_10), (3, .int x3_5), (2, .int x2_3), (0, .ref (K.2.2.1 + a0)), (1, .int x1)]) X (ix_tb_at tb_X12_layPart 59 rfl) (Nat.le_of_ble_eq_true rfl) rfl (pc1 := 96) rfl ?_
        refine ix_sub (L1 := [(0, .ref (K.2.2.1 + a0)), (2, .int x2_3), (4, .int r_10), (5, .int x5_11), (6, .int 0)]) [5, 4, 2, 1, 0] rfl ?_
        exact t_X12_layPart_96 hKp X hr hlk  h
    · have h := ix_ift q_2 h
      refine ix_aload_n (i := 0) (j := 0) X (ix_tb_at tb_X12_layPart 23 rfl) rfl rfl (pc1 := 38) rfl ?_
      obtain ⟨k_87, h⟩ := ix_ck_some h
      obtain ⟨b_88, q_89, h⟩ := ix_bd1_ex h
      refine iz_getR X fl_RX12_104 k_87 q_89 (ix_tb_at tb_X12_layPart 24 rfl) (pc1 := 41) rfl ?_
      refine ix_aload_n (i := 0) (j := 0) X (ix_tb_at tb_X12_layPart 25 rfl) rfl rfl (pc1 := 42) rfl ?_
      refine iz_getI X fl_RX12_359 k_87 (ix_tb_at tb_X12_layPart 26 rfl) (pc1 := 45) rfl ?_
      refine ix_iconst (v := 1) X (ix_tb_at tb_X12_layPart 27 rfl) (by decide) (pc1 := 46) rfl ?_
      refine ix_isub X (ix_tb_at tb_X12_layPart 28 rfl) (pc1 := 47) rfl ?_
      refine ix_aload_n (i := 0) (j := 0) X (ix_tb_at tb_X12_layPart 29 rfl) rfl rfl (pc1 := 48) rfl ?_
      refine iz_getR X fl_RX12_104 k_87 q_89 (ix_tb_at tb_X12_layPart 30 rfl) (pc1 := 51) rfl ?_
      refine ix_aload_n (i := 0) (j := 0) X (ix_tb_at tb_X12_layPart 31 rfl) rfl rfl (pc1 := 52) rfl ?_
      refine iz_getI X fl_RX12_359 k_87 (ix_tb_at tb_X12_layPart 32 rfl) (pc1 := 55) rfl ?_
      refine ix_iconst (v := 1) X (ix_tb_at tb_X12_layPart 33 rfl) (by decide) (pc1 := 56) rfl ?_
      refine ix_isub X (ix_tb_at tb_X12_layPart 34 rfl) (pc1 := 57) rfl ?_
      obtain ⟨k_90, h⟩ := ix_ck_some h
      refine iz_iald X k_90 (ix_tb_at tb_X12_layPart 35 rfl) (pc1 := 58) rfl ?_
      refine ix_ineg X (ix_tb_at tb_X12_layPart 36 rfl) (pc1 := 59) rfl ?_
      obtain ⟨d_91, e_92, h⟩ := ix_lt_ex h
      refine iz_iast X k_90 (ix_tb_at tb_X12_layPart 37 rfl) e_92 (pc1 := 60) rfl ?_
      exact ix_vret X hr hlk (ix_r1 (g := ix_w z) h) (ix_tb_at tb_X12_layPart 38 rfl)
  · have h := ix_iff q_1 h
    refine ix_aload_n (i := 0) (j := 0) X (ix_tb_at tb_X12_layPart 2 rfl) rfl rfl (pc1 := 5) rfl ?_
    obtain ⟨k_93, h⟩ := ix_ck_some h
    obtain ⟨b_94, q_95, h⟩ := ix_bd1_ex h
    refine iz_getR X fl_RX12_104 k_93 q_95 (ix_tb_at tb_X12_layPart 3 rfl) (pc1 := 8) rfl ?_
    refine ix_aload_n (i := 0) (j := 0) X (ix_tb_at tb_X12_layPart 4 rfl) rfl rfl (pc1 := 9) rfl ?_
    refine iz_getI X fl_RX12_359 k_93 (ix_tb_at tb_X12_layPart 5 rfl) (pc1 := 12) rfl ?_
    refine ix_aload_n (i := 0) (j := 0) X (ix_tb_at tb_X12_layPart 6 rfl) rfl rfl (pc1 := 13) rfl ?_
    obtain ⟨b_96, q_97, h⟩ := ix_bd1_ex h
    refine iz_getR X fl_RX12_86 k_93 q_97 (ix_tb_at tb_X12_layPart 7 rfl) (pc1 := 16) rfl ?_
    refine ix_iload_n (i := 1) (j := 1) X (ix_tb_at tb_X12_layPart 8 rfl) rfl rfl (pc1 := 17) rfl ?_
    refine ix_ineg X (ix_tb_at tb_X12_layPart 9 rfl) (pc1 := 18) rfl ?_
    refine ix_iconst (v := 1) X (ix_tb_at tb_X12_layPart 10 rfl) (by decide) (pc1 := 19) rfl ?_
    refine ix_isub X (ix_tb_at tb_X12_layPart 11 rfl) (pc1 := 20) rfl ?_
    obtain ⟨k_98, h⟩ := ix_ck_some h
    refine iz_iald X k_98 (ix_tb_at tb_X12_layPart 12 rfl) (pc1 := 21) rfl ?_
    obtain ⟨k_99, h⟩ := ix_ck_some h
    obtain ⟨d_100, e_101, h⟩ := ix_lt_ex h
    refine iz_iast X k_99 (ix_tb_at tb_X12_layPart 13 rfl) e_101 (pc1 := 22) rfl ?_
    refine ix_aload_n (i := 0) (j := 0) X (ix_tb_at tb_X12_layPart 14 rfl) rfl rfl (pc1 := 23) rfl ?_
    refine ix_dup X (ix_tb_at tb_X12_layPart 15 rfl) rfl (pc1 := 24) rfl ?_
    refine iz_getI X fl_RX12_359 k_93 (ix_tb_at tb_X12_layPart 16 rfl) (pc1 := 27) rfl ?_
    refine ix_iconst (v := 1) X (ix_tb_at tb_X12_layPart 17 rfl) (by decide) (pc1 := 28) rfl ?_
    refine ix_iadd X (ix_tb_at tb_X12_layPart 18 rfl) (pc1 := 29) rfl ?_
    obtain ⟨d_102, e_103, h⟩ := ix_lt_ex h
    refine iz_putI X fp_RX12_359 k_93 (ix_tb_at tb_X12_layPart 19 rfl) e_103 (pc1 := 32) rfl ?_
    exact ix_vret X hr hlk (ix_r1 (g := ix_w z) h) (ix_tb_at tb_X12_layPart 20 rfl)
def tab_X12_told : List (Nat × Instr × Nat) := [(0, .aload_n 0, 1), (1, .invokevirtual 365, 3), (4, .istore_n 1, 1), (5, .aload_n 0, 1), (6, .getfield 259, 3), (9, .istore_n 2, 1), (10, .aload_n 0, 1), (11, .iconst 0, 1), (12, .putfield 259, 3), (15, .iload_n 1, 1), (16, .ifCond .lt 13, 3), (19, .aload_n 0, 1), (20, .sipush (-2000), 3), (23, .iload_n 1, 1), (24, .isub, 1), (25, .invokevirtual 242, 3), (28, .ireturn, 1), (29, .iconst 0, 1), (30, .istore_n 3, 1), (31, .iconst 0, 1), (32, .istore 4, 2), (34, .iload 4, 2), (36, .aload_n 0, 1), (37, .getfield 292, 3), (40, .if_icmp .ge 29, 3), (43, .iload_n 3, 1), (44, .ifCond .ge 7, 3), (47, .iload_n 3, 1), (48, .goto 14, 3), (51, .aload_n 0, 1), (52, .aload_n 0, 1), (53, .getfield 86, 3), (56, .iload 4, 2), (58, .iaload, 1), (59, .invokevirtual 295, 3), (62, .istore_n 3, 1), (63, .iinc 4 1, 3), (66, .goto (-32), 3), (69, .iload_n 3, 1), (70, .ifCond .ge 9, 3), (73, .aload_n 0, 1), (74, .iload_n 3, 1), (75, .invokevirtual 242, 3), (78, .ireturn, 1), (79, .aload_n 0, 1), (80, .invokevirtual 313, 3), (83, .aload_n 0, 1), (84, .iconst 0, 1), (85, .putfield 359, 3), (88, .iconst 0, 1), (89, .istore 4, 2), (91, .iload 4, 2), (93, .aload_n 0, 1), (94, .getfield 343, 3), (97, .if_icmp .ge 20, 3), (100, .aload_n 0, 1), (101, .aload_n 0, 1), (102, .getfield 95, 3), (105, .iload 4, 2), (107, .iaload, 1), (108, .invokevirtual 368, 3), (111, .iinc 4 1, 3), (114, .goto (-23), 3), (117, .aload_n 0, 1), (118, .aload_n 0, 1), (119, .getfield 104, 3), (122, .iconst 0, 1), (123, .iaload, 1), (124, .invokevirtual 282, 3), (127, .aload_n 0, 1), (128, .invokevirtual 286, 3), (131, .aload_n 0, 1), (132, .iconst 4, 1), (133, .iconst 0, 1), (134, .iconst 0, 1), (135, .invokevirtual 316, 3), (138, .istore 4, 2), (140, .iload 4, 2), (142, .ifCond .lt 95, 3), (145, .aload_n 0, 1), (146, .getfield 53, 3), (149, .iload 4, 2), (151, .iload_n 2, 1), (152, .iastore, 1), (153, .iconst 0, 1), (154, .istore 5, 2), (156, .iload 5, 2), (158, .iload_n 2, 1), (159, .if_icmp .ge 29, 3), (162, .aload_n 0, 1), (163, .getfield 50, 3), (166, .bipush 60, 2), (168, .iload 4, 2), (170, .imul, 1), (171, .iload 5, 2), (173, .iadd, 1), (174, .aload_n 0, 1), (175, .getfield 23, 3), (178, .iload 5, 2), (180, .iaload, 1), (181, .iastore, 1), (182, .iinc 5 1, 3), (185, .goto (-29), 3), (188, .aload_n 0, 1), (189, .getfield 59, 3), (192, .iload 4, 2), (194, .aload_n 0, 1), (195, .getfield 343, 3), (198, .iastore, 1), (199, .iconst 0, 1), (200, .istore 5, 2), (202, .iload 5, 2), (204, .aload_n 0, 1), (205, .getfield 343, 3), (208, .if_icmp .ge 29, 3), (211, .aload_n 0, 1), (212, .getfield 56, 3), (215, .bipush 60, 2), (217, .iload 4, 2), (219, .imul, 1), (220, .iload 5, 2), (222, .iadd, 1), (223, .aload_n 0, 1), (224, .getfield 95, 3), (227, .iload 5, 2), (229, .iaload, 1), (230, .iastore, 1), (231, .iinc 5 1, 3), (234, .goto (-32), 3), (237, .iload 4, 2), (239, .ireturn, 1)]
theorem tb_X12_told : ix_tab cX12_told tab_X12_told := by
  unfold ix_tab
  decide +kernel
noncomputable def b_X12_told_202 (n : Nat) (z : ix_Z)  (a0 : Nat) (x4 : Int32) (rec202 : Int32 → ix_D2 → Option (Int32 × ix_D2)) (x5 : Int32) (d : ix_D2) : Option (Int32 × ix_D2) :=
  ix_ck (ix_ok z [11] a0) (ix_if (d.1 a0 46 ≤ x5) (some (x4, d)) (ix_bd1 (z.1 a0 21) (fun b_44 => ix_bd1 (z.1 a0 45) (fun b_46 => ix_ck (ix_ix z 20 b_46 x5) (ix_ck (ix_ix z 20 b_44 ((60 * x4) + x5)) (ix_lt (ix_di d b_44 (ix_n ((60 * x4) + x5)) (d.1 b_46 (ix_n x5))) (fun d_50 => ix_lt (x5 + 1) (fun x5_52 => rec202 x5_52 d_50))))))))
noncomputable def f_X12_told_202 (n : Nat) (z : ix_Z)  (a0 : Nat) (x4 : Int32) (x5 : Int32) (d : ix_D2) : Option (Int32 × ix_D2) := ix_fix (b_X12_told_202 n z  a0 x4) (fun _ _ => none) n x5 d
noncomputable def b_X12_told_156 (n : Nat) (z : ix_Z)  (a0 : Nat) (x2 : Int32) (x4 : Int32) (rec156 : Int32 → ix_D2 → Option (Int32 × ix_D2)) (x5 : Int32) (d : ix_D2) : Option (Int32 × ix_D2) :=
  ix_if (x2 ≤ x5) (ix_ck (ix_ok z [11] a0) (ix_bd1 (z.1 a0 22) (fun b_37 => ix_ck (ix_ix z 20 b_37 x4) (ix_lt (ix_di d b_37 (ix_n x4) (d.1 a0 46)) (fun d_40 => f_X12_told_202 n z  a0 x4 0 d_40))))) (ix_ck (ix_ok z [11] a0) (ix_bd1 (z.1 a0 19) (fun b_55 => ix_bd1 (z.1 a0 7) (fun b_57 => ix_ck (ix_ix z 20 b_57 x5) (ix_ck (ix_ix z 20 b_55 ((60 * x4) + x5)) (ix_lt (ix_di d b_55 (ix_n ((60 * x4) + x5)) (d.1 b_57 (ix_n x5))) (fun d_61 => ix_lt (x5 + 1) (fun x5_63 => rec156 x5_63 d_61))))))))
noncomputable def f_X12_told_156 (n : Nat) (z : ix_Z)  (a0 : Nat) (x2 : Int32) (x4 : Int32) (x5 : Int32) (d : ix_D2) : Option (Int32 × ix_D2) := ix_fix (b_X12_told_156 n z  a0 x2 x4) (fun _ _ => none) n x5 d
noncomputable def b_X12_told_91 (n : Nat) (z : ix_Z)  (a0 : Nat) (x2 : Int32) (rec91 : Int32 → ix_D2 → Option (Int32 × ix_D2)) (x4 : Int32) (d : ix_D2) : Option (Int32 × ix_D2) :=
  ix_ck (ix_ok z [11] a0) (ix_if (d.1 a0 46 ≤ x4) (ix_bd1 (z.1 a0 53) (fun b_19 => ix_ck (ix_ix z 20 b_19 0) (ix_bd1 (f_X12_lay n z a0 (d.1 b_19 (ix_n 0)) d) (fun d_22 => ix_bd1 (f_X12_endRow n z a0 d_22) (fun d_24 => ix_bd2 (f_X12_keepRule n z a0 4 0 0 d_24) (fun r_28 d_26 => ix_if (r_28 < 0) (some (r_28, d_26)) (ix_bd1 (z.1 a0 20) (fun b_30 => ix_ck (ix_ix z 20 b_30 r_28) (ix_lt (ix_di d_26 b_30 (ix_n r_28) x2) (fun d_33 => f_X12_told_156 n z  a0 x2 r_28 0 d_33)))))))))) (ix_bd1 (z.1 a0 45) (fun b_65 => ix_ck (ix_ix z 20 b_65 x4) (ix_bd1 (f_X12_layPart n z a0 (d.1 b_65 (ix_n x4)) d) (fun d_68 => ix_lt (x4 + 1) (fun x4_70 => rec91 x4_70 d_68))))))
noncomputable def f_X12_told_91 (n : Nat) (z : ix_Z)  (a0 : Nat) (x2 : Int32) (x4 : Int32) (d : ix_D2) : Option (Int32 × ix_D2) := ix_fix (b_X12_told_91 n z  a0 x2) (fun _ _ => none) n x4 d
noncomputable def f_X12_told_62 (n : Nat) (z : ix_Z) (rec34 : Int32 → Int32 → ix_D2 → Option (Int32 × ix_D2)) (a0 : Nat) (x2 : Int32) (x4 : Int32) (s0 : Int32) (d : ix_D2) : Option (Int32 × ix_D2) :=
  ix_lt (x4 + 1) (fun x4_82 => rec34 s0 x4_82 d)
noncomputable def b_X12_told_34 (n : Nat) (z : ix_Z)  (a0 : Nat) (x2 : Int32) (rec34 : Int32 → Int32 → ix_D2 → Option (Int32 × ix_D2)) (x3 : Int32) (x4 : Int32) (d : ix_D2) : Option (Int32 × ix_D2) :=
  ix_ck (ix_ok z [11] a0) (ix_if (d.1 a0 42 ≤ x4) (ix_if (0 ≤ x3) (ix_bd1 (f_X12_beginLaying n z a0 d) (fun d_13 => ix_lt (ix_di d_13 a0 54 0) (fun d_15 => f_X12_told_91 n z  a0 x2 0 d_15))) (ix_bd2 (f_X12_fail n z a0 x3 d) (fun r_74 d_72 => some (r_74, d_72)))) (ix_if (0 ≤ x3) (ix_bd1 (z.1 a0 41) (fun b_76 => ix_ck (ix_ix z 20 b_76 x4) (ix_bd2 (f_X12_wrongItem n z a0 (d.1 b_76 (ix_n x4)) d) (fun r_81 d_79 => f_X12_told_62 n z rec34 a0 x2 x4 r_81 d_79)))) (f_X12_told_62 n z rec34 a0 x2 x4 x3 d)))
noncomputable def f_X12_told_34 (n : Nat) (z : ix_Z)  (a0 : Nat) (x2 : Int32) (x3 : Int32) (x4 : Int32) (d : ix_D2) : Option (Int32 × ix_D2) := ix_fix (b_X12_told_34 n z  a0 x2) (fun _ _ _ => none) n x3 x4 d
noncomputable def f_X12_told (n : Nat) (z : ix_Z) (a0 : Nat) (d : ix_D2) : Option (Int32 × ix_D2) :=
  ix_ck (ix_ok z [11] a0) (ix_bd2 (f_X12_faultOfTape n z a0 d) (fun r_4 d_1 => ix_lt (d_1.1 a0 8) (fun x2_5 => ix_lt (ix_di d_1 a0 8 0) (fun d_7 => ix_if (r_4 < 0) (f_X12_told_34 n z  a0 x2_5 0 0 d_7) (ix_bd2 (f_X12_fail n z a0 (((-2000)) - r_4) d_7) (fun r_86 d_84 => some (r_86, d_84)))))))
set_option maxRecDepth 20000 in
theorem tb_X12_told_202 {l : Launch} {p : Program} {e : Env} {s : State} {m : MethodId} {args : Array Value} {below : List Frame} {meth : Method} {c : Code} {K : ix_Cx} (hKp : ix_Kp K) {n : Nat} {z : ix_Z} (X : ix_X p s m args c K cX12_told RX12 6) (hr : meth.sig.returnType = (some .int)) (hlk : meth.locks = false)  {a0 : Nat} {x4 : Int32} {rec202 : Int32 → ix_D2 → Option (Int32 × ix_D2)} {r : Int32} {d1 : ix_D2} (hrec202 : ∀ (x5 : Int32) (d : ix_D2), rec202 x5 d = some (r, d1) → ix_G p l e (ix_rm 4 98 0 0) s m args below meth c (MQ below (ix_Post K (some (.int r)) (ix_w z d1)) args s 0 0 (ix_A K)) K 6 0 0 202 [(0, .ref (K.2.2.1 + a0)), (4, .int x4), (5, .int x5)] [] (ix_w z d)) {x5 : Int32} {d : ix_D2} (h : b_X12_told_202 n z  a0 x4 rec202 x5 d = some (r, d1)) : ix_G p l e (ix_rm 4 98 0 0) s m args below meth c (MQ below (ix_Post K (some (.int r)) (ix_w z d1)) args s 0 0 (ix_A K)) K 6 0 0 202 [(0, .ref (K.2.2.1 + a0)), (4, .int x4), (5, .int x5)] [] (ix_w z d) := by
  unfold b_X12_told_202 at h
  refine ix_iload (i := 5) (j := 2) X (ix_tb_at tb_X12_told 111 rfl) rfl (pc1 := 204) rfl ?_
  refine ix_aload_n (i := 0) (j := 0) X (ix_tb_at tb_X12_told 112 rfl) rfl rfl (pc1 := 205) rfl ?_
  obtain ⟨k_42, h⟩ := ix_ck_some h
  refine iz_getI X fl_RX12_343 k_42 (ix_tb_at tb_X12_told 113 rfl) (pc1 := 208) rfl ?_
  refine ix_icmp_ge (tgt := 237) X (ix_tb_at tb_X12_told 114 rfl) (by decide) (pc1 := 211) rfl (fun q_43 => ?_) (fun q_43 => ?_)
  · have h := ix_ift q_43 h
    refine ix_iload (i := 4) (j := 1) X (ix_tb_at tb_X12_told 129 rfl) rfl (pc1 := 239) rfl ?_
    exact ix_iret X hr hlk (ix_r2 (f := fun r => some (.int r)) (g := ix_w z) h) (ix_tb_at tb_X12_told 130 rfl)
  · have h := ix_iff q_43 h
    refine ix_aload_n (i := 0) (j := 0) X (ix_tb_at tb_X12_told 115 rfl) rfl rfl (pc1 := 212) rfl ?_
    obtain ⟨b_44, q_45, h⟩ := ix_bd1_ex h
    refine iz_getR X fl_RX12_56 k_42 q_45 (ix_tb_at tb_X12_told 116 rfl) (pc1 := 215) rfl ?_
    refine ix_bipush (v := 60) X (ix_tb_at tb_X12_told 117 rfl) (by decide) (pc1 := 217) rfl ?_
    refine ix_iload (i := 4) (j := 1) X (ix_tb_at tb_X12_told 118 rfl) rfl (pc1 := 219) rfl ?_
    refine ix_imul X (ix_tb_at tb_X12_told 119 rfl) (pc1 := 220) rfl ?_
    refine ix_iload (i := 5) (j := 2) X (ix_tb_at tb_X12_told 120 rfl) rfl (pc1 := 222) rfl ?_
    refine ix_iadd X (ix_tb_at tb_X12_told 121 rfl) (pc1 := 223) rfl ?_
    refine ix_aload_n (i := 0) (j := 0) X (ix_tb_at tb_X12_told 122 rfl) rfl rfl (pc1 := 224) rfl ?_
    obtain ⟨b_46, q_47, h⟩ := ix_bd1_ex h
    refine iz_getR X fl_RX12_95 k_42 q_47 (ix_tb_at tb_X12_told 123 rfl) (pc1 := 227) rfl ?_
    refine ix_iload (i := 5) (j := 2) X (ix_tb_at tb_X12_told 124 rfl) rfl (pc1 := 229) rfl ?_
    obtain ⟨k_48, h⟩ := ix_ck_some h
    refine iz_iald X k_48 (ix_tb_at tb_X12_told 125 rfl) (pc1 := 230) rfl ?_
    obtain ⟨k_49, h⟩ := ix_ck_some h
    obtain ⟨d_50, e_51, h⟩ := ix_lt_ex h
    refine iz_iast X k_49 (ix_tb_at tb_X12_told 126 rfl) e_51 (pc1 := 231) rfl ?_
    obtain ⟨x5_52, e_53, h⟩ := ix_lt_ex h
    refine ix_iinc (i := 5) (j := 2) (v := x5_52) (L1 := [(5, .int x5_52), (0, .ref (K.2.2.1 + a0)), (4, .int x4)]) X (ix_tb_at tb_X12_told 127 rfl) rfl (by rw [oi_1]; exact e_53.symm) (Nat.le_of_ble_eq_true rfl) rfl (pc1 := 234) rfl ?_
    refine ix_goto (tgt := 202) X (ix_tb_at tb_X12_told 128 rfl) (by decide) ?_
    refine ix_sub (L1 := [(0, .ref (K.2.2.1 + a0)), (4, .int x4), (5, .int x5_52)]) [1, 2, 0] rfl ?_
    exact hrec202 x5_52 d_50 h
theorem t_X12_told_202 {l : Launch} {p : Program} {e : Env} {s : State} {m : MethodId} {args : Array Value} {below : List Frame} {meth : Method} {c : Code} {K : ix_Cx} (hKp : ix_Kp K) {n : Nat} {z : ix_Z} (X : ix_X p s m args c K cX12_told RX12 6) (hr : meth.sig.returnType = (some .int)) (hlk : meth.locks = false)  {a0 : Nat} {x4 : Int32} {r : Int32} {d1 : ix_D2}  {x5 : Int32} {d : ix_D2} (h : f_X12_told_202 n z  a0 x4 x5 d = some (r, d1)) : ix_G p l e (ix_rm 4 98 0 0) s m args below meth c (MQ below (ix_Post K (some (.int r)) (ix_w z d1)) args s 0 0 (ix_A K)) K 6 0 0 202 [(0, .ref (K.2.2.1 + a0)), (4, .int x4), (5, .int x5)] [] (ix_w z d) := by
  have key : ∀ (f : Nat) (x5 : Int32) (d : ix_D2), ix_fix (b_X12_told_202 n z  a0 x4) (fun _ _ => none) f x5 d = some (r, d1) → ix_G p l e (ix_rm 4 98 0 0) s m args below meth c (MQ below (ix_Post K (some (.int r)) (ix_w z d1)) args s 0 0 (ix_A K)) K 6 0 0 202 [(0, .ref (K.2.2.1 + a0)), (4, .int x4), (5, .int x5)] [] (ix_w z d) := by
    intro f
    induction f with
    | zero =>
      intro x5 d h
      have h : (none : Option (Int32 × ix_D2)) = some (r, d1) := h
      cases h
    | succ f ih =>
      intro x5 d h
      exact tb_X12_told_202 hKp X hr hlk (rec202 := ix_fix (b_X12_told_202 n z  a0 x4) (fun _ _ => none) f)  ih h
  exact key n x5 d h
set_option maxRecDepth 20000 in
theorem tb_X12_told_156 {l : Launch} {p : Program} {e : Env} {s : State} {m : MethodId} {args : Array Value} {below : List Frame} {meth : Method} {c : Code} {K : ix_Cx} (hKp : ix_Kp K) {n : Nat} {z : ix_Z} (X : ix_X p s m args c K cX12_told RX12 6) (hr : meth.sig.returnType = (some .int)) (hlk : meth.locks = false)  {a0 : Nat} {x2 : Int32} {x4 : Int32} {rec156 : Int32 → ix_D2 → Option (Int32 × ix_D2)} {r : Int32} {d1 : ix_D2} (hrec156 : ∀ (x5 : Int32) (d : ix_D2), rec156 x5 d = some (r, d1) → ix_G p l e (ix_rm 4 98 0 0) s m args below meth c (MQ below (ix_Post K (some (.int r)) (ix_w z d1)) args s 0 0 (ix_A K)) K 6 0 0 156 [(0, .ref (K.2.2.1 + a0)), (2, .int x2), (4, .int x4), (5, .int x5)] [] (ix_w z d)) {x5 : Int32} {d : ix_D2} (h : b_X12_told_156 n z  a0 x2 x4 rec156 x5 d = some (r, d1)) : ix_G p l e (ix_rm 4 98 0 0) s m args below meth c (MQ below (ix_Post K (some (.int r)) (ix_w z d1)) args s 0 0 (ix_A K)) K 6 0 0 156 [(0, .ref (K.2.2.1 + a0)), (2, .int x2), (4, .int x4), (5, .int x5)] [] (ix_w z d) := by
  unfold b_X12_told_156 at h
  refine ix_iload (i := 5) (j := 3) X (ix_tb_at tb_X12_told 86 rfl) rfl (pc1 := 158) rfl ?_
  refine ix_iload_n (i := 2) (j := 1) X (ix_tb_at tb_X12_told 87 rfl) rfl rfl (pc1 := 159) rfl ?_
  refine ix_icmp_ge (tgt := 188) X (ix_tb_at tb_X12_told 88 rfl) (by decide) (pc1 := 162) rfl (fun q_35 => ?_) (fun q_35 => ?_)
  · have h := ix_ift q_35 h
    refine ix_aload_n (i := 0) (j := 0) X (ix_tb_at tb_X12_told 103 rfl) rfl rfl (pc1 := 189) rfl ?_
    obtain ⟨k_36, h⟩ := ix_ck_some h
    obtain ⟨b_37, q_38, h⟩ := ix_bd1_ex h
    refine iz_getR X fl_RX12_59 k_36 q_38 (ix_tb_at tb_X12_told 104 rfl) (pc1 := 192) rfl ?_
    refine ix_iload (i := 4) (j := 2) X (ix_tb_at tb_X12_told 105 rfl) rfl (pc1 := 194) rfl ?_
    refine ix_aload_n (i := 0) (j := 0) X (ix_tb_at tb_X12_told 106 rfl) rfl rfl (pc1 := 195) rfl ?_
    refine iz_getI X fl_RX12_343 k_36 (ix_tb_at tb_X12_told 107 rfl) (pc1 := 198) rfl ?_
    obtain ⟨k_39, h⟩ := ix_ck_some h
    obtain ⟨d_40, e_41, h⟩ := ix_lt_ex h
    refine iz_iast X k_39 (ix_tb_at tb_X12_told 108 rfl) e_41 (pc1 := 199) rfl ?_
    refine ix_iconst (v := 0) X (ix_tb_at tb_X12_told 109 rfl) (by decide) (pc1 := 200) rfl ?_
    refine ix_istore (i := 5) (L1 := [(5, .int 0), (0, .ref (K.2.2.1 + a0)), (2, .int x2), (4, .int x4)]) X (ix_tb_at tb_X12_told 110 rfl) (Nat.le_of_ble_eq_true rfl) rfl (pc1 := 202) rfl ?_
    refine ix_sub (L1 := [(0, .ref (K.2.2.1 + a0)), (4, .int x4), (5, .int 0)]) [1, 3, 0] rfl ?_
    exact t_X12_told_202 hKp X hr hlk  h
  · have h := ix_iff q_35 h
    refine ix_aload_n (i := 0) (j := 0) X (ix_tb_at tb_X12_told 89 rfl) rfl rfl (pc1 := 163) rfl ?_
    obtain ⟨k_54, h⟩ := ix_ck_some h
    obtain ⟨b_55, q_56, h⟩ := ix_bd1_ex h
    refine iz_getR X fl_RX12_50 k_54 q_56 (ix_tb_at tb_X12_told 90 rfl) (pc1 := 166) rfl ?_
    refine ix_bipush (v := 60) X (ix_tb_at tb_X12_told 91 rfl) (by decide) (pc1 := 168) rfl ?_
    refine ix_iload (i := 4) (j := 2) X (ix_tb_at tb_X12_told 92 rfl) rfl (pc1 := 170) rfl ?_
    refine ix_imul X (ix_tb_at tb_X12_told 93 rfl) (pc1 := 171) rfl ?_
    refine ix_iload (i := 5) (j := 3) X (ix_tb_at tb_X12_told 94 rfl) rfl (pc1 := 173) rfl ?_
    refine ix_iadd X (ix_tb_at tb_X12_told 95 rfl) (pc1 := 174) rfl ?_
    refine ix_aload_n (i := 0) (j := 0) X (ix_tb_at tb_X12_told 96 rfl) rfl rfl (pc1 := 175) rfl ?_
    obtain ⟨b_57, q_58, h⟩ := ix_bd1_ex h
    refine iz_getR X fl_RX12_23 k_54 q_58 (ix_tb_at tb_X12_told 97 rfl) (pc1 := 178) rfl ?_
    refine ix_iload (i := 5) (j := 3) X (ix_tb_at tb_X12_told 98 rfl) rfl (pc1 := 180) rfl ?_
    obtain ⟨k_59, h⟩ := ix_ck_some h
    refine iz_iald X k_59 (ix_tb_at tb_X12_told 99 rfl) (pc1 := 181) rfl ?_
    obtain ⟨k_60, h⟩ := ix_ck_some h
    obtain ⟨d_61, e_62, h⟩ := ix_lt_ex h
    refine iz_iast X k_60 (ix_tb_at tb_X12_told 100 rfl) e_62 (pc1 := 182) rfl ?_
    obtain ⟨x5_63, e_64, h⟩ := ix_lt_ex h
    refine ix_iinc (i := 5) (j := 3) (v := x5_63) (L1 := [(5, .int x5_63), (0, .ref (K.2.2.1 + a0)), (2, .int x2), (4, .int x4)]) X (ix_tb_at tb_X12_told 101 rfl) rfl (by rw [oi_1]; exact e_64.symm) (Nat.le_of_ble_eq_true rfl) rfl (pc1 := 185) rfl ?_
    refine ix_goto (tgt := 156) X (ix_tb_at tb_X12_told 102 rfl) (by decide) ?_
    refine ix_sub (L1 := [(0, .ref (K.2.2.1 + a0)), (2, .int x2), (4, .int x4), (5, .int x5_63)]) [1, 2, 3, 0] rfl ?_
    exact hrec156 x5_63 d_61 h
theorem t_X12_told_156 {l : Launch} {p : Program} {e : Env} {s : State} {m : MethodId} {args : Array Value} {below : List Frame} {meth : Method} {c : Code} {K : ix_Cx} (hKp : ix_Kp K) {n : Nat} {z : ix_Z} (X : ix_X p s m args c K cX12_told RX12 6) (hr : meth.sig.returnType = (some .int)) (hlk : meth.locks = false)  {a0 : Nat} {x2 : Int32} {x4 : Int32} {r : Int32} {d1 : ix_D2}  {x5 : Int32} {d : ix_D2} (h : f_X12_told_156 n z  a0 x2 x4 x5 d = some (r, d1)) : ix_G p l e (ix_rm 4 98 0 0) s m args below meth c (MQ below (ix_Post K (some (.int r)) (ix_w z d1)) args s 0 0 (ix_A K)) K 6 0 0 156 [(0, .ref (K.2.2.1 + a0)), (2, .int x2), (4, .int x4), (5, .int x5)] [] (ix_w z d) := by
  have key : ∀ (f : Nat) (x5 : Int32) (d : ix_D2), ix_fix (b_X12_told_156 n z  a0 x2 x4) (fun _ _ => none) f x5 d = some (r, d1) → ix_G p l e (ix_rm 4 98 0 0) s m args below meth c (MQ below (ix_Post K (some (.int r)) (ix_w z d1)) args s 0 0 (ix_A K)) K 6 0 0 156 [(0, .ref (K.2.2.1 + a0)), (2, .int x2), (4, .int x4), (5, .int x5)] [] (ix_w z d) := by
    intro f
    induction f with
    | zero =>
      intro x5 d h
      have h : (none : Option (Int32 × ix_D2)) = some (r, d1) := h
      cases h
    | succ f ih =>
      intro x5 d h
      exact tb_X12_told_156 hKp X hr hlk (rec156 := ix_fix (b_X12_told_156 n z  a0 x2 x4) (fun _ _ => none) f)  ih h
  exact key n x5 d h
set_option maxRecDepth 20000 in
theorem tb_X12_told_91 {l : Launch} {p : Program} {e : Env} {s : State} {m : MethodId} {args : Array Value} {below : List Frame} {meth : Method} {c : Code} {K : ix_Cx} (hKp : ix_Kp K) {n : Nat} {z : ix_Z} (X : ix_X p s m args c K cX12_told RX12 6) (hr : meth.sig.returnType = (some .int)) (hlk : meth.locks = false)  {a0 : Nat} {x2 : Int32} {rec91 : Int32 → ix_D2 → Option (Int32 × ix_D2)} {r : Int32} {d1 : ix_D2} (hrec91 : ∀ (x4 : Int32) (d : ix_D2), rec91 x4 d = some (r, d1) → ix_G p l e (ix_rm 4 98 0 0) s m args below meth c (MQ below (ix_Post K (some (.int r)) (ix_w z d1)) args s 0 0 (ix_A K)) K 6 0 0 91 [(0, .ref (K.2.2.1 + a0)), (2, .int x2), (4, .int x4)] [] (ix_w z d)) {x4 : Int32} {d : ix_D2} (h : b_X12_told_91 n z  a0 x2 rec91 x4 d = some (r, d1)) : ix_G p l e (ix_rm 4 98 0 0) s m args below meth c (MQ below (ix_Post K (some (.int r)) (ix_w z d1)) args s 0 0 (ix_A K)) K 6 0 0 91 [(0, .ref (K.2.2.1 + a0)), (2, .int x2), (4, .int x4)] [] (ix_w z d) := by
  unfold b_X12_told_91 at h
  refine ix_iload (i := 4) (j := 2) X (ix_tb_at tb_X12_told 51 rfl) rfl (pc1 := 93) rfl ?_
  refine ix_aload_n (i := 0) (j := 0) X (ix_tb_at tb_X12_told 52 rfl) rfl rfl (pc1 := 94) rfl ?_
  obtain ⟨k_17, h⟩ := ix_ck_some h
  refine iz_getI X fl_RX12_343 k_17 (ix_tb_at tb_X12_told 53 rfl) (pc1 := 97) rfl ?_
  refine ix_icmp_ge (tgt := 117) X (ix_tb_at tb_X12_told 54 rfl) (by decide) (pc1 := 100) rfl (fun q_18 => ?_) (fun q_18 => ?_)
  · have h := ix_ift q_18 h
    refine ix_aload_n (i := 0) (j := 0) X (ix_tb_at tb_X12_told 63 rfl) rfl rfl (pc1 := 118) rfl ?_
    refine ix_aload_n (i := 0) (j := 0) X (ix_tb_at tb_X12_told 64 rfl) rfl rfl (pc1 := 119) rfl ?_
    obtain ⟨b_19, q_20, h⟩ := ix_bd1_ex h
    refine iz_getR X fl_RX12_104 k_17 q_20 (ix_tb_at tb_X12_told 65 rfl) (pc1 := 122) rfl ?_
    refine ix_iconst (v := 0) X (ix_tb_at tb_X12_told 66 rfl) (by decide) (pc1 := 123) rfl ?_
    obtain ⟨k_21, h⟩ := ix_ck_some h
    refine iz_iald X k_21 (ix_tb_at tb_X12_told 67 rfl) (pc1 := 124) rfl ?_
    obtain ⟨d_22, h_23, h⟩ := ix_bd1_ex h
    refine ix_callV (As := [.int (d.1 b_19 (ix_n 0))]) (rest := []) (ci := 11) (T := TX12) (nf := 116) X mf_X12_lay mi_X12_lay ms_X12_lay rfl (Nat.le_of_ble_eq_true rfl) ml_RX12_282 ⟨Nat.le_of_ble_eq_true rfl, Nat.le_of_ble_eq_true rfl⟩ ⟨Nat.le_of_ble_eq_true rfl, Nat.le_of_ble_eq_true rfl⟩ rfl (Nat.le_of_ble_eq_true rfl) (ix_tb_at tb_X12_told 68 rfl) ⟨k_17.1, List.mem_singleton.mp k_17.2⟩ (c_X12_lay hKp h_23) rfl (pc1 := 127) rfl ?_
    refine ix_aload_n (i := 0) (j := 0) X (ix_tb_at tb_X12_told 69 rfl) rfl rfl (pc1 := 128) rfl ?_
    obtain ⟨d_24, h_25, h⟩ := ix_bd1_ex h
    refine ix_callV (As := []) (rest := []) (ci := 11) (T := TX12) (nf := 116) X mf_X12_endRow mi_X12_endRow ms_X12_endRow rfl (Nat.le_of_ble_eq_true rfl) ml_RX12_286 ⟨Nat.le_of_ble_eq_true rfl, Nat.le_of_ble_eq_true rfl⟩ ⟨Nat.le_of_ble_eq_true rfl, Nat.le_of_ble_eq_true rfl⟩ rfl (Nat.le_of_ble_eq_true rfl) (ix_tb_at tb_X12_told 70 rfl) ⟨k_17.1, List.mem_singleton.mp k_17.2⟩ (c_X12_endRow hKp h_25) rfl (pc1 := 131) rfl ?_
    refine ix_aload_n (i := 0) (j := 0) X (ix_tb_at tb_X12_told 71 rfl) rfl rfl (pc1 := 132) rfl ?_
    refine ix_iconst (v := 4) X (ix_tb_at tb_X12_told 72 rfl) (by decide) (pc1 := 133) rfl ?_
    refine ix_iconst (v := 0) X (ix_tb_at tb_X12_told 73 rfl) (by decide) (pc1 := 134) rfl ?_
    refine ix_iconst (v := 0) X (ix_tb_at tb_X12_told 74 rfl) (by decide) (pc1 := 135) rfl ?_
    obtain ⟨r_28, d_26, h_27, h⟩ := ix_bd2_ex h
    refine ix_callV (As := [.int 4, .int 0, .int 0]) (rest := []) (ci := 11) (T := TX12) (nf := 116) X mf_X12_keepRule mi_X12_keepRule ms_X12_keepRule rfl (Nat.le_of_ble_eq_true rfl) ml_RX12_316 ⟨Nat.le_of_ble_eq_true rfl, Nat.le_of_ble_eq_true rfl⟩ ⟨Nat.le_of_ble_eq_true rfl, Nat.le_of_ble_eq_true rfl⟩ rfl (Nat.le_of_ble_eq_true rfl) (ix_tb_at tb_X12_told 75 rfl) ⟨k_17.1, List.mem_singleton.mp k_17.2⟩ (c_X12_keepRule hKp h_27) rfl (pc1 := 138) rfl ?_
    refine ix_istore (i := 4) (L1 := [(4, .int r_28), (0, .ref (K.2.2.1 + a0)), (2, .int x2)]) X (ix_tb_at tb_X12_told 76 rfl) (Nat.le_of_ble_eq_true rfl) rfl (pc1 := 140) rfl ?_
    refine ix_iload (i := 4) (j := 0) X (ix_tb_at tb_X12_told 77 rfl) rfl (pc1 := 142) rfl ?_
    refine ix_if_lt (tgt := 237) X (ix_tb_at tb_X12_told 78 rfl) (by decide) (pc1 := 145) rfl (fun q_29 => ?_) (fun q_29 => ?_)
    · have h := ix_ift q_29 h
      refine ix_iload (i := 4) (j := 0) X (ix_tb_at tb_X12_told 129 rfl) rfl (pc1 := 239) rfl ?_
      exact ix_iret X hr hlk (ix_r2 (f := fun r => some (.int r)) (g := ix_w z) h) (ix_tb_at tb_X12_told 130 rfl)
    · have h := ix_iff q_29 h
      refine ix_aload_n (i := 0) (j := 1) X (ix_tb_at tb_X12_told 79 rfl) rfl rfl (pc1 := 146) rfl ?_
      obtain ⟨b_30, q_31, h⟩ := ix_bd1_ex h
      refine iz_getR X fl_RX12_53 k_17 q_31 (ix_tb_at tb_X12_told 80 rfl) (pc1 := 149) rfl ?_
      refine ix_iload (i := 4) (j := 0) X (ix_tb_at tb_X12_told 81 rfl) rfl (pc1 := 151) rfl ?_
      refine ix_iload_n (i := 2) (j := 2) X (ix_tb_at tb_X12_told 82 rfl) rfl rfl (pc1 := 152) rfl ?_
      obtain ⟨k_32, h⟩ := ix_ck_some h
      obtain ⟨d_33, e_34, h⟩ := ix_lt_ex h
      refine iz_iast X k_32 (ix_tb_at tb_X12_told 83 rfl) e_34 (pc1 := 153) rfl ?_
      refine ix_iconst (v := 0) X (ix_tb_at tb_X12_told 84 rfl) (by decide) (pc1 := 154) rfl ?_
      refine ix_istore (i := 5) (L1 := [(5, .int 0), (4, .int r_28), (0, .ref (K.2.2.1 + a0)), (2, .int x2)]) X (ix_tb_at tb_X12_told 85 rfl) (Nat.le_of_ble_eq_true rfl) rfl (pc1 := 156) rfl ?_
      refine ix_sub (L1 := [(0, .ref (K.2.2.1 + a0)), (2, .int x2), (4, .int r_28), (5, .int 0)]) [2, 3, 1, 0] rfl ?_
      exact t_X12_told_156 hKp X hr hlk  h
  · have h := ix_iff q_18 h
    refine ix_aload_n (i := 0) (j := 0) X (ix_tb_at tb_X12_told 55 rfl) rfl rfl (pc1 := 101) rfl ?_
    refine ix_aload_n (i := 0) (j := 0) X (ix_tb_at tb_X12_told 56 rfl) rfl rfl (pc1 := 102) rfl ?_
    obtain ⟨b_65, q_66, h⟩ := ix_bd1_ex h
    refine iz_getR X fl_RX12_95 k_17 q_66 (ix_tb_at tb_X12_told 57 rfl) (pc1 := 105) rfl ?_
    refine ix_iload (i := 4) (j := 2) X (ix_tb_at tb_X12_told 58 rfl) rfl (pc1 := 107) rfl ?_
    obtain ⟨k_67, h⟩ := ix_ck_some h
    refine iz_iald X k_67 (ix_tb_at tb_X12_told 59 rfl) (pc1 := 108) rfl ?_
    obtain ⟨d_68, h_69, h⟩ := ix_bd1_ex h
    refine ix_callV (As := [.int (d.1 b_65 (ix_n x4))]) (rest := []) (ci := 11) (T := TX12) (nf := 116) X mf_X12_layPart mi_X12_layPart ms_X12_layPart rfl (Nat.le_of_ble_eq_true rfl) ml_RX12_368 ⟨Nat.le_of_ble_eq_true rfl, Nat.le_of_ble_eq_true rfl⟩ ⟨Nat.le_of_ble_eq_true rfl, Nat.le_of_ble_eq_true rfl⟩ rfl (Nat.le_of_ble_eq_true rfl) (ix_tb_at tb_X12_told 60 rfl) ⟨k_17.1, List.mem_singleton.mp k_17.2⟩ (c_X12_layPart hKp h_69) rfl (pc1 := 111) rfl ?_
    obtain ⟨x4_70, e_71, h⟩ := ix_lt_ex h
    refine ix_iinc (i := 4) (j := 2) (v := x4_70) (L1 := [(4, .int x4_70), (0, .ref (K.2.2.1 + a0)), (2, .int x2)]) X (ix_tb_at tb_X12_told 61 rfl) rfl (by rw [oi_1]; exact e_71.symm) (Nat.le_of_ble_eq_true rfl) rfl (pc1 := 114) rfl ?_
    refine ix_goto (tgt := 91) X (ix_tb_at tb_X12_told 62 rfl) (by decide) ?_
    refine ix_sub (L1 := [(0, .ref (K.2.2.1 + a0)), (2, .int x2), (4, .int x4_70)]) [1, 2, 0] rfl ?_
    exact hrec91 x4_70 d_68 h
theorem t_X12_told_91 {l : Launch} {p : Program} {e : Env} {s : State} {m : MethodId} {args : Array Value} {below : List Frame} {meth : Method} {c : Code} {K : ix_Cx} (hKp : ix_Kp K) {n : Nat} {z : ix_Z} (X : ix_X p s m args c K cX12_told RX12 6) (hr : meth.sig.returnType = (some .int)) (hlk : meth.locks = false)  {a0 : Nat} {x2 : Int32} {r : Int32} {d1 : ix_D2}  {x4 : Int32} {d : ix_D2} (h : f_X12_told_91 n z  a0 x2 x4 d = some (r, d1)) : ix_G p l e (ix_rm 4 98 0 0) s m args below meth c (MQ below (ix_Post K (some (.int r)) (ix_w z d1)) args s 0 0 (ix_A K)) K 6 0 0 91 [(0, .ref (K.2.2.1 + a0)), (2, .int x2), (4, .int x4)] [] (ix_w z d) := by
  have key : ∀ (f : Nat) (x4 : Int32) (d : ix_D2), ix_fix (b_X12_told_91 n z  a0 x2) (fun _ _ => none) f x4 d = some (r, d1) → ix_G p l e (ix_rm 4 98 0 0) s m args below meth c (MQ below (ix_Post K (some (.int r)) (ix_w z d1)) args s 0 0 (ix_A K)) K 6 0 0 91 [(0, .ref (K.2.2.1 + a0)), (2, .int x2), (4, .int x4)] [] (ix_w z d) := by
    intro f
    induction f with
    | zero =>
      intro x4 d h
      have h : (none : Option (Int32 × ix_D2)) = some (r, d1) := h
      cases h
    | succ f ih =>
      intro x4 d h
      exact tb_X12_told_91 hKp X hr hlk (rec91 := ix_fix (b_X12_told_91 n z  a0 x2) (fun _ _ => none) f)  ih h
  exact key n x4 d h
set_option maxRecDepth 20000 in
theorem t_X12_told_62 {l : Launch} {p : Program} {e : Env} {s : State} {m : MethodId} {args : Array Value} {below : List Frame} {meth : Method} {c : Code} {K : ix_Cx} (hKp : ix_Kp K) {n : Nat} {z : ix_Z} (X : ix_X p s m args c K cX12_told RX12 6) (hr : meth.sig.returnType = (some .int)) (hlk : meth.locks = false) {rec34 : Int32 → Int32 → ix_D2 → Option (Int32 × ix_D2)} {a0 : Nat} {x2 : Int32} {x4 : Int32} {s0 : Int32} {r : Int32} {d1 : ix_D2} (hrec34 : ∀ (x3 : Int32) (x4 : Int32) (d : ix_D2), rec34 x3 x4 d = some (r, d1) → ix_G p l e (ix_rm 4 98 0 0) s m args below meth c (MQ below (ix_Post K (some (.int r)) (ix_w z d1)) args s 0 0 (ix_A K)) K 6 0 0 34 [(0, .ref (K.2.2.1 + a0)), (2, .int x2), (3, .int x3), (4, .int x4)] [] (ix_w z d)) {d : ix_D2} (h : f_X12_told_62 n z rec34 a0 x2 x4 s0 d = some (r, d1)) : ix_G p l e (ix_rm 4 98 0 0) s m args below meth c (MQ below (ix_Post K (some (.int r)) (ix_w z d1)) args s 0 0 (ix_A K)) K 6 0 0 62 [(0, .ref (K.2.2.1 + a0)), (2, .int x2), (4, .int x4)] [.int s0] (ix_w z d) := by
  unfold f_X12_told_62 at h
  refine ix_istore_n (i := 3) (L1 := [(3, .int s0), (0, .ref (K.2.2.1 + a0)), (2, .int x2), (4, .int x4)]) X (ix_tb_at tb_X12_told 35 rfl) rfl (Nat.le_of_ble_eq_true rfl) rfl (pc1 := 63) rfl ?_
  obtain ⟨x4_82, e_83, h⟩ := ix_lt_ex h
  refine ix_iinc (i := 4) (j := 3) (v := x4_82) (L1 := [(4, .int x4_82), (3, .int s0), (0, .ref (K.2.2.1 + a0)), (2, .int x2)]) X (ix_tb_at tb_X12_told 36 rfl) rfl (by rw [oi_1]; exact e_83.symm) (Nat.le_of_ble_eq_true rfl) rfl (pc1 := 66) rfl ?_
  refine ix_goto (tgt := 34) X (ix_tb_at tb_X12_told 37 rfl) (by decide) ?_
  refine ix_sub (L1 := [(0, .ref (K.2.2.1 + a0)), (2, .int x2), (3, .int s0), (4, .int x4_82)]) [2, 3, 1, 0] rfl ?_
  exact hrec34 s0 x4_82 d h
set_option maxRecDepth 20000 in
theorem tb_X12_told_34 {l : Launch} {p : Program} {e : Env} {s : State} {m : MethodId} {args : Array Value} {below : List Frame} {meth : Method} {c : Code} {K : ix_Cx} (hKp : ix_Kp K) {n : Nat} {z : ix_Z} (X : ix_X p s m args c K cX12_told RX12 6) (hr : meth.sig.returnType = (some .int)) (hlk : meth.locks = false)  {a0 : Nat} {x2 : Int32} {rec34 : Int32 → Int32 → ix_D2 → Option (Int32 × ix_D2)} {r : Int32} {d1 : ix_D2} (hrec34 : ∀ (x3 : Int32) (x4 : Int32) (d : ix_D2), rec34 x3 x4 d = some (r, d1) → ix_G p l e (ix_rm 4 98 0 0) s m args below meth c (MQ below (ix_Post K (some (.int r)) (ix_w z d1)) args s 0 0 (ix_A K)) K 6 0 0 34 [(0, .ref (K.2.2.1 + a0)), (2, .int x2), (3, .int x3), (4, .int x4)] [] (ix_w z d)) {x3 : Int32} {x4 : Int32} {d : ix_D2} (h : b_X12_told_34 n z  a0 x2 rec34 x3 x4 d = some (r, d1)) : ix_G p l e (ix_rm 4 98 0 0) s m args below meth c (MQ below (ix_Post K (some (.int r)) (ix_w z d1)) args s 0 0 (ix_A K)) K 6 0 0 34 [(0, .ref (K.2.2.1 + a0)), (2, .int x2), (3, .int x3), (4, .int x4)] [] (ix_w z d) := by
  unfold b_X12_told_34 at h
  refine ix_iload (i := 4) (j := 3) X (ix_tb_at tb_X12_told 21 rfl) rfl (pc1 := 36) rfl ?_
  refine ix_aload_n (i := 0) (j := 0) X (ix_tb_at tb_X12_told 22 rfl) rfl rfl (pc1 := 37) rfl ?_
  obtain ⟨k_10, h⟩ := ix_ck_some h
  refine iz_getI X fl_RX12_292 k_10 (ix_tb_at tb_X12_told 23 rfl) (pc1 := 40) rfl ?_
  refine ix_icmp_ge (tgt := 69) X (ix_tb_at tb_X12_told 24 rfl) (by decide) (pc1 := 43) rfl (fun q_11 => ?_) (fun q_11 => ?_)
  · have h := ix_ift q_11 h
    refine ix_iload_n (i := 3) (j := 2) X (ix_tb_at tb_X12_told 38 rfl) rfl rfl (pc1 := 70) rfl ?_
    refine ix_if_ge (tgt := 79) X (ix_tb_at tb_X12_told 39 rfl) (by decide) (pc1 := 73) rfl (fun q_12 => ?_) (fun q_12 => ?_)
    · have h := ix_ift q_12 h
      refine ix_aload_n (i := 0) (j := 0) X (ix_tb_at tb_X12_told 44 rfl) rfl rfl (pc1 := 80) rfl ?_
      obtain ⟨d_13, h_14, h⟩ := ix_bd1_ex h
      refine ix_callV (As := []) (rest := []) (ci := 11) (T := TX12) (nf := 116) X mf_X12_beginLaying mi_X12_beginLaying ms_X12_beginLaying rfl (Nat.le_of_ble_eq_true rfl) ml_RX12_313 ⟨Nat.le_of_ble_eq_true rfl, Nat.le_of_ble_eq_true rfl⟩ ⟨Nat.le_of_ble_eq_true rfl, Nat.le_of_ble_eq_true rfl⟩ rfl (Nat.le_of_ble_eq_true rfl) (ix_tb_at tb_X12_told 45 rfl) ⟨k_10.1, List.mem_singleton.mp k_10.2⟩ (c_X12_beginLaying hKp h_14) rfl (pc1 := 83) rfl ?_
      refine ix_aload_n (i := 0) (j := 0) X (ix_tb_at tb_X12_told 46 rfl) rfl rfl (pc1 := 84) rfl ?_
      refine ix_iconst (v := 0) X (ix_tb_at tb_X12_told 47 rfl) (by decide) (pc1 := 85) rfl ?_
      obtain ⟨d_15, e_16, h⟩ := ix_lt_ex h
      refine iz_putI X fp_RX12_359 k_10 (ix_tb_at tb_X12_told 48 rfl) e_16 (pc1 := 88) rfl ?_
      refine ix_iconst (v := 0) X (ix_tb_at tb_X12_told 49 rfl) (by decide) (pc1 := 89) rfl ?_
      refine ix_istore (i := 4) (L1 := [(4, .int 0), (0, .ref (K.2.2.1 + a0)), (2, .int x2), (3, .int x3)]) X (ix_tb_at tb_X12_told 50 rfl) (Nat.le_of_ble_eq_true rfl) rfl (pc1 := 91) rfl ?_
      refine ix_sub (L1 := [(0, .ref (K.2.2.1 + a0)), (2, .int x2), (4, .int 0)]) [1, 2, 0] rfl ?_
      exact t_X12_told_91 hKp X hr hlk  h
    · have h := ix_iff q_12 h
      refine ix_aload_n (i := 0) (j := 0) X (ix_tb_at tb_X12_told 40 rfl) rfl rfl (pc1 := 74) rfl ?_
      refine ix_iload_n (i := 3) (j := 2) X (ix_tb_at tb_X12_told 41 rfl) rfl rfl (pc1 := 75) rfl ?_
      obtain ⟨r_74, d_72, h_73, h⟩ := ix_bd2_ex h
      refine ix_callV (As := [.int x3]) (rest := []) (ci := 11) (T := TX12) (nf := 116) X mf_X12_fail mi_X12_fail ms_X12_fail rfl (Nat.le_of_ble_eq_true rfl) ml_RX12_242 ⟨Nat.le_of_ble_eq_true rfl, Nat.le_of_ble_eq_true rfl⟩ ⟨Nat.le_of_ble_eq_true rfl, Nat.le_of_ble_eq_true rfl⟩ rfl (Nat.le_of_ble_eq_true rfl) (ix_tb_at tb_X12_told 42 rfl) ⟨k_10.1, List.mem_singleton.mp k_10.2⟩ (c_X12_fail hKp h_73) rfl (pc1 := 78) rfl ?_
      exact ix_iret X hr hlk (ix_r2 (f := fun r => some (.int r)) (g := ix_w z) h) (ix_tb_at tb_X12_told 43 rfl)
  · have h := ix_iff q_11 h
    refine ix_iload_n (i := 3) (j := 2) X (ix_tb_at tb_X12_told 25 rfl) rfl rfl (pc1 := 44) rfl ?_
    refine ix_if_ge (tgt := 51) X (ix_tb_at tb_X12_told 26 rfl) (by decide) (pc1 := 47) rfl (fun q_75 => ?_) (fun q_75 => ?_)
    · have h := ix_ift q_75 h
      refine ix_aload_n (i := 0) (j := 0) X (ix_tb_at tb_X12_told 29 rfl) rfl rfl (pc1 := 52) rfl ?_
      refine ix_aload_n (i := 0) (j := 0) X (ix_tb_at tb_X12_told 30 rfl) rfl rfl (pc1 := 53) rfl ?_
      obtain ⟨b_76, q_77, h⟩ := ix_bd1_ex h
      refine iz_getR X fl_RX12_86 k_10 q_77 (ix_tb_at tb_X12_told 31 rfl) (pc1 := 56) rfl ?_
      refine ix_iload (i := 4) (j := 3) X (ix_tb_at tb_X12_told 32 rfl) rfl (pc1 := 58) rfl ?_
      obtain ⟨k_78, h⟩ := ix_ck_some h
      refine iz_iald X k_78 (ix_tb_at tb_X12_told 33 rfl) (pc1 := 59) rfl ?_
      obtain ⟨r_81, d_79, h_80, h⟩ := ix_bd2_ex h
      refine ix_callV (As := [.int (d.1 b_76 (ix_n x4))]) (rest := []) (ci := 11) (T := TX12) (nf := 116) X mf_X12_wrongItem mi_X12_wrongItem ms_X12_wrongItem rfl (Nat.le_of_ble_eq_true rfl) ml_RX12_295 ⟨Nat.le_of_ble_eq_true rfl, Nat.le_of_ble_eq_true rfl⟩ ⟨Nat.le_of_ble_eq_true rfl, Nat.le_of_ble_eq_true rfl⟩ rfl (Nat.le_of_ble_eq_true rfl) (ix_tb_at tb_X12_told 34 rfl) ⟨k_10.1, List.mem_singleton.mp k_10.2⟩ (c_X12_wrongItem hKp h_80) rfl (pc1 := 62) rfl ?_
      refine ix_sub (L1 := [(0, .ref (K.2.2.1 + a0)), (2, .int x2), (4, .int x4)]) [0, 1, 3] rfl ?_
      exact t_X12_told_62 hKp X hr hlk hrec34 h
    · have h := ix_iff q_75 h
      refine ix_iload_n (i := 3) (j := 2) X (ix_tb_at tb_X12_told 27 rfl) rfl rfl (pc1 := 48) rfl ?_
      refine ix_goto (tgt := 62) X (ix_tb_at tb_X12_told 28 rfl) (by decide) ?_
      refine ix_sub (L1 := [(0, .ref (K.2.2.1 + a0)), (2, .int x2), (4, .int x4)]) [0, 1, 3] rfl ?_
      exact t_X12_told_62 hKp X hr hlk hrec34 h
theorem t_X12_told_34 {l : Launch} {p : Program} {e : Env} {s : State} {m : MethodId} {args : Array Value} {below : List Frame} {meth : Method} {c : Code} {K : ix_Cx} (hKp : ix_Kp K) {n : Nat} {z : ix_Z} (X : ix_X p s m args c K cX12_told RX12 6) (hr : meth.sig.returnType = (some .int)) (hlk : meth.locks = false)  {a0 : Nat} {x2 : Int32} {r : Int32} {d1 : ix_D2}  {x3 : Int32} {x4 : Int32} {d : ix_D2} (h : f_X12_told_34 n z  a0 x2 x3 x4 d = some (r, d1)) : ix_G p l e (ix_rm 4 98 0 0) s m args below meth c (MQ below (ix_Post K (some (.int r)) (ix_w z d1)) args s 0 0 (ix_A K)) K 6 0 0 34 [(0, .ref (K.2.2.1 + a0)), (2, .int x2), (3, .int x3), (4, .int x4)] [] (ix_w z d) := by
  have key : ∀ (f : Nat) (x3 : Int32) (x4 : Int32) (d : ix_D2), ix_fix (b_X12_told_34 n z  a0 x2) (fun _ _ _ => none) f x3 x4 d = some (r, d1) → ix_G p l e (ix_rm 4 98 0 0) s m args below meth c (MQ below (ix_Post K (some (.int r)) (ix_w z d1)) args s 0 0 (ix_A K)) K 6 0 0 34 [(0, .ref (K.2.2.1 + a0)), (2, .int x2), (3, .int x3), (4, .int x4)] [] (ix_w z d) := by
    intro f
    induction f with
    | zero =>
      intro x3 x4 d h
      have h : (none : Option (Int32 × ix_D2)) = some (r, d1) := h
      cases h
    | succ f ih =>
      intro x3 x4 d h
      exact tb_X12_told_34 hKp X hr hlk (rec34 := ix_fix (b_X12_told_34 n z  a0 x2) (fun _ _ _ => none) f)  ih h
  exact key n x3 x4 d h
set_option maxRecDepth 20000 in
theorem c_X12_told {l : Launch} {K : ix_Cx} (hKp : ix_Kp K) {n : Nat} {z : ix_Z} {a0 : Nat} {d : ix_D2} {r : Int32} {d1 : ix_D2} (h : f_X12_told n z a0 d = some (r, d1)) : ix_M l K yX12_told cX12_told 6 (some .int) 4 98 0 0 [.ref (K.2.2.1 + a0)] (ix_w z d) (some (.int r)) (ix_w z d1) := by
  refine ix_met mf_X12_told hKp (Nat.le_of_ble_eq_true rfl) ?_
  intro p e s m args below meth c hr hlk hnm X
  have X : ix_X p s m args c K cX12_told RX12 6 := X
  show ix_G p l e (ix_rm 4 98 0 0) s m args below meth c (MQ below (ix_Post K (some (.int r)) (ix_w z d1)) args s 0 0 (ix_A K)) K 6 0 0 0 [(0, .ref (K.2.2.1 + a0))] [] (ix_w z d)
  unfold f_X12_told at h
  refine ix_aload_n (i := 0) (j := 0) X (ix_tb_at tb_X12_told 0 rfl) rfl rfl (pc1 := 1) rfl ?_
  obtain ⟨k_3, h⟩ := ix_ck_some h
  obtain ⟨r_4, d_1, h_2, h⟩ := ix_bd2_ex h
  refine ix_callV (As := []) (rest := []) (ci := 11) (T := TX12) (nf := 116) X mf_X12_faultOfTape mi_X12_faultOfTape ms_X12_faultOfTape rfl (Nat.le_of_ble_eq_true rfl) ml_RX12_365 ⟨Nat.le_of_ble_eq_true rfl, Nat.le_of_ble_eq_true rfl⟩ ⟨Nat.le_of_ble_eq_true rfl, Nat.le_of_ble_eq_true rfl⟩ rfl (Nat.le_of_ble_eq_true rfl) (ix_tb_at tb_X12_told 1 rfl) ⟨k_3.1, List.mem_singleton.mp k_3.2⟩ (c_X12_faultOfTape hKp h_2) rfl (pc1 := 4) rfl ?_
  refine ix_istore_n (i := 1) (L1 := [(1, .int r_4), (0, .ref (K.2.2.1 + a0))]) X (ix_tb_at tb_X12_told 2 rfl) rfl (Nat.le_of_ble_eq_true rfl) rfl (pc1 := 5) rfl ?_
  refine ix_aload_n (i := 0) (j := 1) X (ix_tb_at tb_X12_told 3 rfl) rfl rfl (pc1 := 6) rfl ?_
  refine iz_getI X fl_RX12_259 k_3 (ix_tb_at tb_X12_told 4 rfl) (pc1 := 9) rfl ?_
  obtain ⟨x2_5, e_6, h⟩ := ix_lt_ex h
  refine ix_nmi e_6 ?_
  refine ix_istore_n (i := 2) (L1 := [(2, .int x2_5), (1, .int r_4), (0, .ref (K.2.2.1 + a0))]) X (ix_tb_at tb_X12_told 5 rfl) rfl (Nat.le_of_ble_eq_true rfl) rfl (pc1 := 10) rfl ?_
  refine ix_aload_n (i := 0) (j := 2) X (ix_tb_at tb_X12_told 6 rfl) rfl rfl (pc1 := 11) rfl ?_
  refine ix_iconst (v := 0) X (ix_tb_at tb_X12_told 7 rfl) (by decide) (pc1 := 12) rfl ?_
  obtain ⟨d_7, e_8, h⟩ := ix_lt_ex h
  refine iz_putI X fp_RX12_259 k_3 (ix_tb_at tb_X12_told 8 rfl) e_8 (pc1 := 15) rfl ?_
  refine ix_iload_n (i := 1) (j := 1) X (ix_tb_at tb_X12_told 9 rfl) rfl rfl (pc1 := 16) rfl ?_
  refine ix_if_lt (tgt := 29) X (ix_tb_at tb_X12_told 10 rfl) (by decide) (pc1 := 19) rfl (fun q_9 => ?_) (fun q_9 => ?_)
  · have h := ix_ift q_9 h
    refine ix_iconst (v := 0) X (ix_tb_at tb_X12_told 17 rfl) (by decide) (pc1 := 30) rfl ?_
    refine ix_istore_n (i := 3) (L1 := [(3, .int 0), (2, .int x2_5), (1, .int r_4), (0, .ref (K.2.2.1 + a0))]) X (ix_tb_at tb_X12_told 18 rfl) rfl (Nat.le_of_ble_eq_true rfl) rfl (pc1 := 31) rfl ?_
    refine ix_iconst (v := 0) X (ix_tb_at tb_X12_told 19 rfl) (by decide) (pc1 := 32) rfl ?_
    refine ix_istore (i := 4) (L1 := [(4, .int 0), (3, .int 0), (2, .int x2_5), (1, .int r_4), (0, .ref (K.2.2.1 + a0))]) X (ix_tb_at tb_X12_told 20 rfl) (Nat.le_of_ble_eq_true rfl) rfl (pc1 := 34) rfl ?_
    refine ix_sub (L1 := [(0, .ref (K.2.2.1 + a0)), (2, .int x2_5), (3, .int 0), (4, .int 0)]) [4, 2, 1, 0] rfl ?_
    exact t_X12_told_34 hKp X hr hlk  h
  · have h := ix_iff q_9 h
    refine ix_aload_n (i := 0) (j := 2) X (ix_tb_at tb_X12_told 11 rfl) rfl rfl (pc1 := 20) rfl ?_
    refine ix_sipush (v := (-2000)) X (ix_tb_at tb_X12_told 12 rfl) (by decide) (pc1 := 23) rfl ?_
    refine ix_iload_n (i := 1) (j := 1) X (ix_tb_at tb_X12_told 13 rfl) rfl rfl (pc1 := 24) rfl ?_
    refine ix_isub X (ix_tb_at tb_X12_told 14 rfl) (pc1 := 25) rfl ?_
    obtain ⟨r_86, d_84, h_85, h⟩ := ix_bd2_ex h
    refine ix_callV (As := [.int (((-2000)) - r_4)]) (rest := []) (ci := 11) (T := TX12) (nf := 116) X mf_X12_fail mi_X12_fail ms_X12_fail rfl (Nat.le_of_ble_eq_true rfl) ml_RX12_242 ⟨Nat.le_of_ble_eq_true rfl, Nat.le_of_ble_eq_true rfl⟩ ⟨Nat.le_of_ble_eq_true rfl, Nat.le_of_ble_eq_true rfl⟩ rfl (Nat.le_of_ble_eq_true rfl) (ix_tb_at tb_X12_told 15 rfl) ⟨k_3.1, List.mem_singleton.mp k_3.2⟩ (c_X12_fail hKp h_85) rfl (pc1 := 28) rfl ?_
    exact ix_iret X hr hlk (ix_r2 (f := fun r => some (.int r)) (g := ix_w z) h) (ix_tb_at tb_X12_told 16 rfl)
def tab_X12_isRule : List (Nat × Instr × Nat) := [(0, .iload_n 1, 1), (1, .iconst 0, 1), (2, .aload_n 0, 1), (3, .getfield 264, 3), (6, .iconst 1, 1), (7, .isub, 1), (8, .invokestatic 238, 3), (11, .ireturn, 1)]
theorem tb_X12_isRule : ix_tab cX12_isRule tab_X12_isRule := by
  unfold ix_tab
  decide +kernel
noncomputable def f_X12_isRule (n : Nat) (z : ix_Z) (a0 : Nat) (x1 : Int32) (d : ix_D2) : Option (Int32 × ix_D2) :=
  ix_ck (ix_ok z [11] a0) (ix_bd2 (f_X12_in n z x1 0 ((d.1 a0 11) - 1) d) (fun r_4 d_2 => ix_ck (r_4 = 0 ∨ r_4 = 1) (some (r_4, d_2))))
set_option maxRecDepth 20000 in
theorem c_X12_isRule {l : Launch} {K : ix_Cx} (hKp : ix_Kp K) {n : Nat} {z : ix_Z} {a0 : Nat} {x1 : Int32} {d : ix_D2} {r : Int32} {d1 : ix_D2} (h : f_X12_isRule n z a0 x1 d = some (r, d1)) : ix_M l K yX12_isRule cX12_isRule 2 (some .boolean) 1 22 0 0 [.ref (K.2.2.1 + a0), .int x1] (ix_w z d) (some (.int r)) (ix_w z d1) := by
  refine ix_met mf_X12_isRule hKp (Nat.le_of_ble_eq_true rfl) ?_
  intro p e s m args below meth c hr hlk hnm X
  have X : ix_X p s m args c K cX12_isRule RX12 2 := X
  show ix_G p l e (ix_rm 1 22 0 0) s m args below meth c (MQ below (ix_Post K (some (.int r)) (ix_w z d1)) args s 0 0 (ix_A K)) K 2 0 0 0 [(0, .ref (K.2.2.1 + a0)), (1, .int x1)] [] (ix_w z d)
  unfold f_X12_isRule at h
  refine ix_iload_n (i := 1) (j := 1) X (ix_tb_at tb_X12_isRule 0 rfl) rfl rfl (pc1 := 1) rfl ?_
  refine ix_iconst (v := 0) X (ix_tb_at tb_X12_isRule 1 rfl) (by decide) (pc1 := 2) rfl ?_
  refine ix_aload_n (i := 0) (j := 0) X (ix_tb_at tb_X12_isRule 2 rfl) rfl rfl (pc1 := 3) rfl ?_
  obtain ⟨k_1, h⟩ := ix_ck_some h
  refine iz_getI X fl_RX12_264 k_1 (ix_tb_at tb_X12_isRule 3 rfl) (pc1 := 6) rfl ?_
  refine ix_iconst (v := 1) X (ix_tb_at tb_X12_isRule 4 rfl) (by decide) (pc1 := 7) rfl ?_
  refine ix_isub X (ix_tb_at tb_X12_isRule 5 rfl) (pc1 := 8) rfl ?_
  obtain ⟨r_4, d_2, h_3, h⟩ := ix_bd2_ex h
  refine ix_callS (As := [.int x1, .int 0, .int ((d.1 a0 11) - 1)]) (rest := []) X mf_X12_in st_X12_in ml_RX12_238 ⟨Nat.le_of_ble_eq_true rfl, Nat.le_of_ble_eq_true rfl⟩ ⟨Nat.le_of_ble_eq_true rfl, Nat.le_of_ble_eq_true rfl⟩ rfl (Nat.le_of_ble_eq_true rfl) (ix_tb_at tb_X12_isRule 6 rfl) (c_X12_in hKp h_3) rfl (pc1 := 11) rfl ?_
  obtain ⟨k_5, h⟩ := ix_ck_some h
  exact ix_zret X hr hlk k_5 (ix_r2 (f := fun r => some (.int r)) (g := ix_w z) h) (ix_tb_at tb_X12_isRule 7 rfl)
def tab_X12_kind : List (Nat × Instr × Nat) := [(0, .aload_n 0, 1), (1, .iload_n 1, 1), (2, .invokevirtual 371, 3), (5, .ifCond .eq 12, 3), (8, .aload_n 0, 1), (9, .getfield 29, 3), (12, .iload_n 1, 1), (13, .iaload, 1), (14, .goto 10, 3), (17, .aload_n 0, 1), (18, .sipush (-1001), 3), (21, .invokevirtual 242, 3), (24, .ireturn, 1)]
theorem tb_X12_kind : ix_tab cX12_kind tab_X12_kind := by
  unfold ix_tab
  decide +kernel
noncomputable def f_X12_kind (n : Nat) (z : ix_Z) (a0 : Nat) (x1 : Int32) (d : ix_D2) : Option (Int32 × ix_D2) :=
  ix_ck (ix_ok z [11] a0) (ix_bd2 (f_X12_isRule n z a0 x1 d) (fun r_4 d_1 => ix_if (r_4 = 0) (ix_bd2 (f_X12_fail n z a0 ((-1001)) d_1) (fun r_8 d_6 => some (r_8, d_6))) (ix_bd1 (z.1 a0 12) (fun b_9 => ix_ck (ix_ix z 20 b_9 x1) (some (d_1.1 b_9 (ix_n x1), d_1))))))
set_option maxRecDepth 20000 in
theorem c_X12_kind {l : Launch} {K : ix_Cx} (hKp : ix_Kp K) {n : Nat} {z : ix_Z} {a0 : Nat} {x1 : Int32} {d : ix_D2} {r : Int32} {d1 : ix_D2} (h : f_X12_kind n z a0 x1 d = some (r, d1)) : ix_M l K yX12_kind cX12_kind 2 (some .int) 2 43 0 0 [.ref (K.2.2.1 + a0), .int x1] (ix_w z d) (some (.int r)) (ix_w z d1) := by
  refine ix_met mf_X12_kind hKp (Nat.le_of_ble_eq_true rfl) ?_
  intro p e s m args below meth c hr hlk hnm X
  have X : ix_X p s m args c K cX12_kind RX12 2 := X
  show ix_G p l e (ix_rm 2 43 0 0) s m args below meth c (MQ below (ix_Post K (some (.int r)) (ix_w z d1)) args s 0 0 (ix_A K)) K 2 0 0 0 [(0, .ref (K.2.2.1 + a0)), (1, .int x1)] [] (ix_w z d)
  unfold f_X12_kind at h
  refine ix_aload_n (i := 0) (j := 0) X (ix_tb_at tb_X12_kind 0 rfl) rfl rfl (pc1 := 1) rfl ?_
  refine ix_iload_n (i := 1) (j := 1) X (ix_tb_at tb_X12_kind 1 rfl) rfl rfl (pc1 := 2) rfl ?_
  obtain ⟨k_3, h⟩ := ix_ck_some h
  obtain ⟨r_4, d_1, h_2, h⟩ := ix_bd2_ex h
  refine ix_callV (As := [.int x1]) (rest := []) (ci := 11) (T := TX12) (nf := 116) X mf_X12_isRule mi_X12_isRule ms_X12_isRule rfl (Nat.le_of_ble_eq_true rfl) ml_RX12_371 ⟨Nat.le_of_ble_eq_true rfl, Nat.le_of_ble_eq_true rfl⟩ ⟨Nat.le_of_ble_eq_true rfl, Nat.le_of_ble_eq_true rfl⟩ rfl (Nat.le_of_ble_eq_true rfl) (ix_tb_at tb_X12_kind 2 rfl) ⟨k_3.1, List.mem_singleton.mp k_3.2⟩ (c_X12_isRule hKp h_2) rfl (pc1 := 5) rfl ?_
  refine ix_if_eq (tgt := 17) X (ix_tb_at tb_X12_kind 3 rfl) (by decide) (pc1 := 8) rfl (fun q_5 => ?_) (fun q_5 => ?_)
  · have h := ix_ift q_5 h
    refine ix_aload_n (i := 0) (j := 0) X (ix_tb_at tb_X12_kind 9 rfl) rfl rfl (pc1 := 18) rfl ?_
    refine ix_sipush (v := (-1001)) X (ix_tb_at tb_X12_kind 10 rfl) (by decide) (pc1 := 21) rfl ?_
    obtain ⟨r_8, d_6, h_7, h⟩ := ix_bd2_ex h
    refine ix_callV (As := [.int ((-1001))]) (rest := []) (ci := 11) (T := TX12) (nf := 116) X mf_X12_fail mi_X12_fail ms_X12_fail rfl (Nat.le_of_ble_eq_true rfl) ml_RX12_242 ⟨Nat.le_of_ble_eq_true rfl, Nat.le_of_ble_eq_true rfl⟩ ⟨Nat.le_of_ble_eq_true rfl, Nat.le_of_ble_eq_true rfl⟩ rfl (Nat.le_of_ble_eq_true rfl) (ix_tb_at tb_X12_kind 11 rfl) ⟨k_3.1, List.mem_singleton.mp k_3.2⟩ (c_X12_fail hKp h_7) rfl (pc1 := 24) rfl ?_
    exact ix_iret X hr hlk (ix_r2 (f := fun r => some (.int r)) (g := ix_w z) h) (ix_tb_at tb_X12_kind 12 rfl)
  · have h := ix_iff q_5 h
    refine ix_aload_n (i := 0) (j := 0) X (ix_tb_at tb_X12_kind 4 rfl) rfl rfl (pc1 := 9) rfl ?_
    obtain ⟨b_9, q_10, h⟩ := ix_bd1_ex h
    refine iz_getR X fl_RX12_29 k_3 q_10 (ix_tb_at tb_X12_kind 5 rfl) (pc1 := 12) rfl ?_
    refine ix_iload_n (i := 1) (j := 1) X (ix_tb_at tb_X12_kind 6 rfl) rfl rfl (pc1 := 13) rfl ?_
    obtain ⟨k_11, h⟩ := ix_ck_some h
    refine iz_iald X k_11 (ix_tb_at tb_X12_kind 7 rfl) (pc1 := 14) rfl ?_
    refine ix_goto (tgt := 24) X (ix_tb_at tb_X12_kind 8 rfl) (by decide) ?_
    exact ix_iret X hr hlk (ix_r2 (f := fun r => some (.int r)) (g := ix_w z) h) (ix_tb_at tb_X12_kind 12 rfl)
def tab_X12_as : List (Nat × Instr × Nat) := [(0, .aload_n 0, 1), (1, .iload_n 1, 1), (2, .invokevirtual 371, 3), (5, .ifCond .eq 12, 3), (8, .iload_n 2, 1), (9, .iconst 0, 1), (10, .iconst 4, 1), (11, .invokestatic 238, 3), (14, .ifCond .ne 11, 3), (17, .aload_n 0, 1), (18, .sipush (-1001), 3), (21, .invokevirtual 242, 3), (24, .ireturn, 1), (25, .aload_n 0, 1), (26, .getfield 29, 3), (29, .iload_n 1, 1), (30, .iaload, 1), (31, .istore_n 3, 1), (32, .iload_n 3, 1), (33, .iload_n 2, 1), (34, .if_icmp .eq 22, 3), (37, .iload_n 2, 1), (38, .ifCond .ne 8, 3), (41, .iload_n 3, 1), (42, .iconst 3, 1), (43, .if_icmp .ne 13, 3), (46, .iload_n 2, 1), (47, .iconst 1, 1), (48, .if_icmp .ne 12, 3), (51, .iload_n 3, 1), (52, .iconst 2, 1), (53, .if_icmp .ne 7, 3), (56, .iconst 1, 1), (57, .goto 4, 3), (60, .iconst 0, 1), (61, .istore 4, 2), (63, .iload 4, 2), (65, .ifCond .eq 7, 3), (68, .iconst 1, 1), (69, .goto 10, 3), (72, .aload_n 0, 1), (73, .sipush (-1013), 3), (76, .invokevirtual 242, 3), (79, .ireturn, 1)]
theorem tb_X12_as : ix_tab cX12_as tab_X12_as := by
  unfold ix_tab
  decide +kernel
noncomputable def f_X12_as_17 (n : Nat) (z : ix_Z)  (a0 : Nat) (d : ix_D2) : Option (Int32 × ix_D2) :=
  ix_ck (ix_ok z [11] a0) (ix_bd2 (f_X12_fail n z a0 ((-1001)) d) (fun r_9 d_6 => some (r_9, d_6)))
noncomputable def f_X12_as_61 (n : Nat) (z : ix_Z)  (a0 : Nat) (s0 : Int32) (d : ix_D2) : Option (Int32 × ix_D2) :=
  ix_if (s0 = 0) (ix_ck (ix_ok z [11] a0) (ix_bd2 (f_X12_fail n z a0 ((-1013)) d) (fun r_24 d_21 => some (r_24, d_21)))) (some (1, d))
noncomputable def f_X12_as_56 (n : Nat) (z : ix_Z)  (a0 : Nat) (d : ix_D2) : Option (Int32 × ix_D2) :=
  f_X12_as_61 n z  a0 1 d
noncomputable def f_X12_as_60 (n : Nat) (z : ix_Z)  (a0 : Nat) (d : ix_D2) : Option (Int32 × ix_D2) :=
  f_X12_as_61 n z  a0 0 d
noncomputable def f_X12_as_46 (n : Nat) (z : ix_Z)  (a0 : Nat) (x2 : Int32) (x3 : Int32) (d : ix_D2) : Option (Int32 × ix_D2) :=
  ix_if (x2 = 1) (ix_if (x3 = 2) (f_X12_as_56 n z  a0 d) (f_X12_as_60 n z  a0 d)) (f_X12_as_60 n z  a0 d)
noncomputable def f_X12_as (n : Nat) (z : ix_Z) (a0 : Nat) (x1 : Int32) (x2 : Int32) (d : ix_D2) : Option (Int32 × ix_D2) :=
  ix_ck (ix_ok z [11] a0) (ix_bd2 (f_X12_isRule n z a0 x1 d) (fun r_4 d_1 => ix_if (r_4 = 0) (f_X12_as_17 n z  a0 d_1) (ix_bd2 (f_X12_in n z x2 0 4 d_1) (fun r_12 d_10 => ix_if (r_12 = 0) (f_X12_as_17 n z  a0 d_10) (ix_bd1 (z.1 a0 12) (fun b_14 => ix_ck (ix_ix z 20 b_14 x1) (ix_lt (d_10.1 b_14 (ix_n x1)) (fun x3_17 => ix_if (x3_17 = x2) (f_X12_as_56 n z  a0 d_10) (ix_if (x2 = 0) (ix_if (x3_17 = 3) (f_X12_as_46 n z  a0 x2 x3_17 d_10) (f_X12_as_56 n z  a0 d_10)) (f_X12_as_46 n z  a0 x2 x3_17 d_10))))))))))
set_option maxRecDepth 20000 in
theorem t_X12_as_17 {l : Launch} {p : Program} {e : Env} {s : State} {m : MethodId} {args : Array Value} {below : List Frame} {meth : Method} {c : Code} {K : ix_Cx} (hKp : ix_Kp K) {n : Nat} {z : ix_Z} (X : ix_X p s m args c K cX12_as RX12 5) (hr : meth.sig.returnType = (some .int)) (hlk : meth.locks = false)  {a0 : Nat} {r : Int32} {d1 : ix_D2}  {d : ix_D2} (h : f_X12_as_17 n z  a0 d = some (r, d1)) : ix_G p l e (ix_rm 2 43 0 0) s m args below meth c (MQ below (ix_Post K (some (.int r)) (ix_w z d1)) args s 0 0 (ix_A K)) K 5 0 0 17 [(0, .ref (K.2.2.1 + a0))] [] (ix_w z d) := by
  unfold f_X12_as_17 at h
  refine ix_aload_n (i := 0) (j := 0) X (ix_tb_at tb_X12_as 9 rfl) rfl rfl (pc1 := 18) rfl ?_
  refine ix_sipush (v := (-1001)) X (ix_tb_at tb_X12_as 10 rfl) (by decide) (pc1 := 21) rfl ?_
  obtain ⟨k_8, h⟩ := ix_ck_some h
  obtain ⟨r_9, d_6, h_7, h⟩ := ix_bd2_ex h
  refine ix_callV (As := [.int ((-1001))]) (rest := []) (ci := 11) (T := TX12) (nf := 116) X mf_X12_fail mi_X12_fail ms_X12_fail rfl (Nat.le_of_ble_eq_true rfl) ml_RX12_242 ⟨Nat.le_of_ble_eq_true rfl, Nat.le_of_ble_eq_true rfl⟩ ⟨Nat.le_of_ble_eq_true rfl, Nat.le_of_ble_eq_true rfl⟩ rfl (Nat.le_of_ble_eq_true rfl) (ix_tb_at tb_X12_as 11 rfl) ⟨k_8.1, List.mem_singleton.mp k_8.2⟩ (c_X12_fail hKp h_7) rfl (pc1 := 24) rfl ?_
  exact ix_iret X hr hlk (ix_r2 (f := fun r => some (.int r)) (g := ix_w z) h) (ix_tb_at tb_X12_as 12 rfl)
set_option maxRecDepth 20000 in
theorem t_X12_as_61 {l : Launch} {p : Program} {e : Env} {s : State} {m : MethodId} {args : Array Value} {below : List Frame} {meth : Method} {c : Code} {K : ix_Cx} (hKp : ix_Kp K) {n : Nat} {z : ix_Z} (X : ix_X p s m args c K cX12_as RX12 5) (hr : meth.sig.returnType = (some .int)) (hlk : meth.locks = false)  {a0 : Nat} {s0 : Int32} {r : Int32} {d1 : ix_D2}  {d : ix_D2} (h : f_X12_as_61 n z  a0 s0 d = some (r, d1)) : ix_G p l e (ix_rm 2 43 0 0) s m args below meth c (MQ below (ix_Post K (some (.int r)) (ix_w z d1)) args s 0 0 (ix_A K)) K 5 0 0 61 [(0, .ref (K.2.2.1 + a0))] [.int s0] (ix_w z d) := by
  unfold f_X12_as_61 at h
  refine ix_istore (i := 4) (L1 := [(4, .int s0), (0, .ref (K.2.2.1 + a0))]) X (ix_tb_at tb_X12_as 35 rfl) (Nat.le_of_ble_eq_true rfl) rfl (pc1 := 63) rfl ?_
  refine ix_iload (i := 4) (j := 0) X (ix_tb_at tb_X12_as 36 rfl) rfl (pc1 := 65) rfl ?_
  refine ix_if_eq (tgt := 72) X (ix_tb_at tb_X12_as 37 rfl) (by decide) (pc1 := 68) rfl (fun q_20 => ?_) (fun q_20 => ?_)
  · have h := ix_ift q_20 h
    refine ix_aload_n (i := 0) (j := 1) X (ix_tb_at tb_X12_as 40 rfl) rfl rfl (pc1 := 73) rfl ?_
    refine ix_sipush (v := (-1013)) X (ix_tb_at tb_X12_as 41 rfl) (by decide) (pc1 := 76) rfl ?_
    obtain ⟨k_23, h⟩ := ix_ck_some h
    obtain ⟨r_24, d_21, h_22, h⟩ := ix_bd2_ex h
    refine ix_callV (As := [.int ((-1013))]) (rest := []) (ci := 11) (T := TX12) (nf := 116) X mf_X12_fail mi_X12_fail ms_X12_fail rfl (Nat.le_of_ble_eq_true rfl) ml_RX12_242 ⟨Nat.le_of_ble_eq_true rfl, Nat.le_of_ble_eq_true rfl⟩ ⟨Nat.le_of_ble_eq_true rfl, Nat.le_of_ble_eq_true rfl⟩ rfl (Nat.le_of_ble_eq_true rfl) (ix_tb_at tb_X12_as 42 rfl) ⟨k_23.1, List.mem_singleton.mp k_23.2⟩ (c_X12_fail hKp h_22) rfl (pc1 := 79) rfl ?_
    exact ix_iret X hr hlk (ix_r2 (f := fun r => some (.int r)) (g := ix_w z) h) (ix_tb_at tb_X12_as 43 rfl)
  · have h := ix_iff q_20 h
    refine ix_iconst (v := 1) X (ix_tb_at tb_X12_as 38 rfl) (by decide) (pc1 := 69) rfl ?_
    refine ix_goto (tgt := 79) X (ix_tb_at tb_X12_as 39 rfl) (by decide) ?_
    exact ix_iret X hr hlk (ix_r2 (f := fun r => some (.int r)) (g := ix_w z) h) (ix_tb_at tb_X12_as 43 rfl)
set_option maxRecDepth 20000 in
theorem t_X12_as_56 {l : Launch} {p : Program} {e : Env} {s : State} {m : MethodId} {args : Array Value} {below : List Frame} {meth : Method} {c : Code} {K : ix_Cx} (hKp : ix_Kp K) {n : Nat} {z : ix_Z} (X : ix_X p s m args c K cX12_as RX12 5) (hr : meth.sig.returnType = (some .int)) (hlk : meth.locks = false)  {a0 : Nat} {r : Int32} {d1 : ix_D2}  {d : ix_D2} (h : f_X12_as_56 n z  a0 d = some (r, d1)) : ix_G p l e (ix_rm 2 43 0 0) s m args below meth c (MQ below (ix_Post K (some (.int r)) (ix_w z d1)) args s 0 0 (ix_A K)) K 5 0 0 56 [(0, .ref (K.2.2.1 + a0))] [] (ix_w z d) := by
  unfold f_X12_as_56 at h
  refine ix_iconst (v := 1) X (ix_tb_at tb_X12_as 32 rfl) (by decide) (pc1 := 57) rfl ?_
  refine ix_goto (tgt := 61) X (ix_tb_at tb_X12_as 33 rfl) (by decide) ?_
  refine ix_sub (L1 := [(0, .ref (K.2.2.1 + a0))]) [0] rfl ?_
  exact t_X12_as_61 hKp X hr hlk  h
set_option maxRecDepth 20000 in
theorem t_X12_as_60 {l : Launch} {p : Program} {e : Env} {s : State} {m : MethodId} {args : Array Value} {below : List Frame} {meth : Method} {c : Code} {K : ix_Cx} (hKp : ix_Kp K) {n : Nat} {z : ix_Z} (X : ix_X p s m args c K cX12_as RX12 5) (hr : meth.sig.returnType = (some .int)) (hlk : meth.locks = false)  {a0 : Nat} {r : Int32} {d1 : ix_D2}  {d : ix_D2} (h : f_X12_as_60 n z  a0 d = some (r, d1)) : ix_G p l e (ix_rm 2 43 0 0) s m args below meth c (MQ below (ix_Post K (some (.int r)) (ix_w z d1)) args s 0 0 (ix_A K)) K 5 0 0 60 [(0, .ref (K.2.2.1 + a0))] [] (ix_w z d) := by
  unfold f_X12_as_60 at h
  refine ix_iconst (v := 0) X (ix_tb_at tb_X12_as 34 rfl) (by decide) (pc1 := 61) rfl ?_
  refine ix_sub (L1 := [(0, .ref (K.2.2.1 + a0))]) [0] rfl ?_
  exact t_X12_as_61 hKp X hr hlk  h
set_option maxRecDepth 20000 in
theorem t_X12_as_46 {l : Launch} {p : Program} {e : Env} {s : State} {m : MethodId} {args : Array Value} {below : List Frame} {meth : Method} {c : Code} {K : ix_Cx} (hKp : ix_Kp K) {n : Nat} {z : ix_Z} (X : ix_X p s m args c K cX12_as RX12 5) (hr : meth.sig.returnType = (some .int)) (hlk : meth.locks = false)  {a0 : Nat} {x2 : Int32} {x3 : Int32} {r : Int32} {d1 : ix_D2}  {d : ix_D2} (h : f_X12_as_46 n z  a0 x2 x3 d = some (r, d1)) : ix_G p l e (ix_rm 2 43 0 0) s m args below meth c (MQ below (ix_Post K (some (.int r)) (ix_w z d1)) args s 0 0 (ix_A K)) K 5 0 0 46 [(0, .ref (K.2.2.1 + a0)), (2, .int x2), (3, .int x3)] [] (ix_w z d) := by
  unfold f_X12_as_46 at h
  refine ix_iload_n (i := 2) (j := 1) X (ix_tb_at tb_X12_as 26 rfl) rfl rfl (pc1 := 47) rfl ?_
  refine ix_iconst (v := 1) X (ix_tb_at tb_X12_as 27 rfl) (by decide) (pc1 := 48) rfl ?_
  refine ix_icmp_ne (tgt := 60) X (ix_tb_at tb_X12_as 28 rfl) (by decide) (pc1 := 51) rfl (fun q_26 => ?_) (fun q_26 => ?_)
  · have h := ix_iff q_26 h
    refine ix_sub (L1 := [(0, .ref (K.2.2.1 + a0))]) [0] rfl ?_
    exact t_X12_as_60 hKp X hr hlk  h
  · have h := ix_ift q_26 h
    refine ix_iload_n (i := 3) (j := 2) X (ix_tb_at tb_X12_as 29 rfl) rfl rfl (pc1 := 52) rfl ?_
    refine ix_iconst (v := 2) X (ix_tb_at tb_X12_as 30 rfl) (by decide) (pc1 := 53) rfl ?_
    refine ix_icmp_ne (tgt := 60) X (ix_tb_at tb_X12_as 31 rfl) (by decide) (pc1 := 56) rfl (fun q_27 => ?_) (fun q_27 => ?_)
    · have h := ix_iff q_27 h
      refine ix_sub (L1 := [(0, .ref (K.2.2.1 + a0))]) [0] rfl ?_
      exact t_X12_as_60 hKp X hr hlk  h
    · have h := ix_ift q_27 h
      refine ix_sub (L1 := [(0, .ref (K.2.2.1 + a0))]) [0] rfl ?_
      exact t_X12_as_56 hKp X hr hlk  h
set_option maxRecDepth 20000 in
theorem c_X12_as {l : Launch} {K : ix_Cx} (hKp : ix_Kp K) {n : Nat} {z : ix_Z} {a0 : Nat} {x1 : Int32} {x2 : Int32} {d : ix_D2} {r : Int32} {d1 : ix_D2} (h : f_X12_as n z a0 x1 x2 d = some (r, d1)) : ix_M l K yX12_as cX12_as 5 (some .int) 2 43 0 0 [.ref (K.2.2.1 + a0), .int x1, .int x2] (ix_w z d) (some (.int r)) (ix_w z d1) := by
  refine ix_met mf_X12_as hKp (Nat.le_of_ble_eq_true rfl) ?_
  intro p e s m args below meth c hr hlk hnm X
  have X : ix_X p s m args c K cX12_as RX12 5 := X
  show ix_G p l e (ix_rm 2 43 0 0) s m args below meth c (MQ below (ix_Post K (some (.int r)) (ix_w z d1)) args s 0 0 (ix_A K)) K 5 0 0 0 [(0, .ref (K.2.2.1 + a0)), (1, .int x1), (2, .int x2)] [] (ix_w z d)
  unfold f_X12_as at h
  refine ix_aload_n (i := 0) (j := 0) X (ix_tb_at tb_X12_as 0 rfl) rfl rfl (pc1 := 1) rfl ?_
  refine ix_iload_n (i := 1) (j := 1) X (ix_tb_at tb_X12_as 1 rfl) rfl rfl (pc1 := 2) rfl ?_
  obtain ⟨k_3, h⟩ := ix_ck_some h
  obtain ⟨r_4, d_1, h_2, h⟩ := ix_bd2_ex h
  refine ix_callV (As := [.int x1]) (rest := []) (ci := 11) (T := TX12) (nf := 116) X mf_X12_isRule mi_X12_isRule ms_X12_isRule rfl (Nat.le_of_ble_eq_true rfl) ml_RX12_371 ⟨Nat.le_of_ble_eq_true rfl, Nat.le_of_ble_eq_true rfl⟩ ⟨Nat.le_of_ble_eq_true rfl, Nat.le_of_ble_eq_true rfl⟩ rfl (Nat.le_of_ble_eq_true rfl) (ix_tb_at tb_X12_as 2 rfl) ⟨k_3.1, List.mem_singleton.mp k_3.2⟩ (c_X12_isRule hKp h_2) rfl (pc1 := 5) rfl ?_
  refine ix_if_eq (tgt := 17) X (ix_tb_at tb_X12_as 3 rfl) (by decide) (pc1 := 8) rfl (fun q_5 => ?_) (fun q_5 => ?_)
  · have h := ix_ift q_5 h
    refine ix_sub (L1 := [(0, .ref (K.2.2.1 + a0))]) [0] rfl ?_
    exact t_X12_as_17 hKp X hr hlk  h
  · have h := ix_iff q_5 h
    refine ix_iload_n (i := 2) (j := 2) X (ix_tb_at tb_X12_as 4 rfl) rfl rfl (pc1 := 9) rfl ?_
    refine ix_iconst (v := 0) X (ix_tb_at tb_X12_as 5 rfl) (by decide) (pc1 := 10) rfl ?_
    refine ix_iconst (v := 4) X (ix_tb_at tb_X12_as 6 rfl) (by decide) (pc1 := 11) rfl ?_
    obtain ⟨r_12, d_10, h_11, h⟩ := ix_bd2_ex h
    refine ix_callS (As := [.int x2, .int 0, .int 4]) (rest := []) X mf_X12_in st_X12_in ml_RX12_238 ⟨Nat.le_of_ble_eq_true rfl, Nat.le_of_ble_eq_true rfl⟩ ⟨Nat.le_of_ble_eq_true rfl, Nat.le_of_ble_eq_true rfl⟩ rfl (Nat.le_of_ble_eq_true rfl) (ix_tb_at tb_X12_as 7 rfl) (c_X12_in hKp h_11) rfl (pc1 := 14) rfl ?_
    refine ix_if_ne (tgt := 25) X (ix_tb_at tb_X12_as 8 rfl) (by decide) (pc1 := 17) rfl (fun q_13 => ?_) (fun q_13 => ?_)
    · have h := ix_iff q_13 h
      refine ix_aload_n (i := 0) (j := 0) X (ix_tb_at tb_X12_as 13 rfl) rfl rfl (pc1 := 26) rfl ?_
      obtain ⟨b_14, q_15, h⟩ := ix_bd1_ex h
      refine iz_getR X fl_RX12_29 k_3 q_15 (ix_tb_at tb_X12_as 14 rfl) (pc1 := 29) rfl ?_
      refine ix_iload_n (i := 1) (j := 1) X (ix_tb_at tb_X12_as 15 rfl) rfl rfl (pc1 := 30) rfl ?_
      obtain ⟨k_16, h⟩ := ix_ck_some h
      refine iz_iald X k_16 (ix_tb_at tb_X12_as 16 rfl) (pc1 := 31) rfl ?_
      obtain ⟨x3_17, e_18, h⟩ := ix_lt_ex h
      refine ix_nmi e_18 ?_
      refine ix_istore_n (i := 3) (L1 := [(3, .int x3_17), (0, .ref (K.2.2.1 + a0)), (1, .int x1), (2, .int x2)]) X (ix_tb_at tb_X12_as 17 rfl) rfl (Nat.le_of_ble_eq_true rfl) rfl (pc1 := 32) rfl ?_
      refine ix_iload_n (i := 3) (j := 0) X (ix_tb_at tb_X12_as 18 rfl) rfl rfl (pc1 := 33) rfl ?_
      refine ix_iload_n (i := 2) (j := 3) X (ix_tb_at tb_X12_as 19 rfl) rfl rfl (pc1 := 34) rfl ?_
      refine ix_icmp_eq (tgt := 56) X (ix_tb_at tb_X12_as 20 rfl) (by decide) (pc1 := 37) rfl (fun q_19 => ?_) (fun q_19 => ?_)
      · have h := ix_ift q_19 h
        refine ix_sub (L1 := [(0, .ref (K.2.2.1 + a0))]) [1] rfl ?_
        exact t_X12_as_56 hKp X hr hlk  h
      · have h := ix_iff q_19 h
        refine ix_iload_n (i := 2) (j := 3) X (ix_tb_at tb_X12_as 21 rfl) rfl rfl (pc1 := 38) rfl ?_
        refine ix_if_ne (tgt := 46) X (ix_tb_at tb_X12_as 22 rfl) (by decide) (pc1 := 41) rfl (fun q_25 => ?_) (fun q_25 => ?_)
        · have h := ix_iff q_25 h
          refine ix_sub (L1 := [(0, .ref (K.2.2.1 + a0)), (2, .int x2), (3, .int x3_17)]) [1, 3, 0] rfl ?_
          exact t_X12_as_46 hKp X hr hlk  h
        · have h := ix_ift q_25 h
          refine ix_iload_n (i := 3) (j := 0) X (ix_tb_at tb_X12_as 23 rfl) rfl rfl (pc1 := 42) rfl ?_
          refine ix_iconst (v := 3) X (ix_tb_at tb_X12_as 24 rfl) (by decide) (pc1 := 43) rfl ?_
          refine ix_icmp_ne (tgt := 56) X (ix_tb_at tb_X12_as 25 rfl) (by decide) (pc1 := 46) rfl (fun q_28 => ?_) (fun q_28 => ?_)
          · have h := ix_iff q_28 h
            refine ix_sub (L1 := [(0, .ref (K.2.2.1 + a0))]) [1] rfl ?_
            exact t_X12_as_56 hKp X hr hlk  h
          · have h := ix_ift q_28 h
            refine ix_sub (L1 := [(0, .ref (K.2.2.1 + a0)), (2, .int x2), (3, .int x3_17)]) [1, 3, 0] rfl ?_
            exact t_X12_as_46 hKp X hr hlk  h
    · have h := ix_ift q_13 h
      refine ix_sub (L1 := [(0, .ref (K.2.2.1 + a0))]) [0] rfl ?_
      exact t_X12_as_17 hKp X hr hlk  h

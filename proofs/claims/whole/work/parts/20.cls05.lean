theorem ms_X11_keepCore : Cond.selects yX11_keepCore.cls yX11_keepCore yX11_keepCore ∈ lw_tbl := List.mem_append_left _ (List.mem_of_getElem? (i := 48) (by decide +kernel))
theorem ml_RX11_421 : tables_1[1358]? = some (Cond.methodLink RX11 421 yX11_keepCore) := by decide +kernel
theorem mf_X11_heed : ix_mf yX11_heed cX11_heed 2 (some .int) 1 := ⟨ix_wm (i := 1357) (by decide +kernel), ix_wm (i := 1) (by decide +kernel), ⟨by decide +kernel, by decide +kernel⟩, by decide +kernel, by decide +kernel⟩
theorem mi_X11_heed : Cond.instanceMethod yX11_heed ∈ lw_tbl := ix_wm (i := 1356) (by decide +kernel)
theorem ml_RX11_263 : tables_1[1135]? = some (Cond.methodLink RX11 263 yX11_areSteps) := by decide +kernel
theorem ml_RX11_266 : tables_1[1138]? = some (Cond.methodLink RX11 266 yX9_openBoard) := by decide +kernel
theorem ml_RX11_270 : tables_1[1152]? = some (Cond.methodLink RX11 270 yX9_layAll) := by decide +kernel
theorem ml_RX11_278 : tables_1[1175]? = some (Cond.methodLink RX11 278 yX9_closeBoard) := by decide +kernel
theorem fp_RX11_200 : ix_fpb 360 0 false RX11 200 "ClauseCourt" [10] 15 "I" false = true := by decide +kernel
theorem fp_RX11_284 : ix_fpb 358 0 false RX11 284 "ClauseCourt" [10] 13 "Z" false = true := by decide +kernel
theorem ms_X9_go : Cond.selects yX9_go.cls yX9_go yX9_go ∈ lw_tbl := ix_wm (i := 1181) (by decide +kernel)
theorem ml_RX11_287 : tables_1[1179]? = some (Cond.methodLink RX11 287 yX9_go) := by decide +kernel
theorem ms_X11_heed : Cond.selects yX11_heed.cls yX11_heed yX11_heed ∈ lw_tbl := List.mem_append_left _ (List.mem_of_getElem? (i := 47) (by decide +kernel))
theorem ml_RX11_290 : tables_1[1354]? = some (Cond.methodLink RX11 290 yX11_heed) := by decide +kernel
theorem ms_X9_suppose : Cond.selects yX9_suppose.cls yX9_suppose yX9_suppose ∈ lw_tbl := ix_wm (i := 1173) (by decide +kernel)
theorem ml_RX11_274 : tables_1[1171]? = some (Cond.methodLink RX11 274 yX9_suppose) := by decide +kernel
theorem mf_X11_solve : ix_mf yX11_solve cX11_solve 3 (some .int) 1 := ⟨ix_wm (i := 1134) (by decide +kernel), ix_wm (i := 1) (by decide +kernel), ⟨by decide +kernel, by decide +kernel⟩, by decide +kernel, by decide +kernel⟩
theorem mi_X11_solve : Cond.instanceMethod yX11_solve ∈ lw_tbl := ix_wm (i := 1132) (by decide +kernel)
theorem fl_RX11_80 : ix_flb 359 0 false RX11 80 "ClauseCourt" [10] 14 0 = true := by decide +kernel
theorem mf_X11_goOn : ix_mf yX11_goOn cX11_goOn 2 (some .int) 1 := ⟨ix_wm (i := 1371) (by decide +kernel), ix_wm (i := 1) (by decide +kernel), ⟨by decide +kernel, by decide +kernel⟩, by decide +kernel, by decide +kernel⟩
theorem mi_X11_goOn : Cond.instanceMethod yX11_goOn ∈ lw_tbl := ix_wm (i := 1369) (by decide +kernel)
theorem ml_RX11_293 : tables_1[1376]? = some (Cond.methodLink RX11 293 yX1_isTrue) := by decide +kernel
theorem mf_X11_truth : ix_mf yX11_truth cX11_truth 2 (some .int) 1 := ⟨ix_wm (i := 1375) (by decide +kernel), ix_wm (i := 1) (by decide +kernel), ⟨by decide +kernel, by decide +kernel⟩, by decide +kernel, by decide +kernel⟩
theorem mi_X11_truth : Cond.instanceMethod yX11_truth ∈ lw_tbl := ix_wm (i := 1373) (by decide +kernel)
theorem mf_X11_solved : ix_mf yX11_solved cX11_solved 2 (some .int) 1 := ⟨ix_wm (i := 1380) (by decide +kernel), ix_wm (i := 1) (by decide +kernel), ⟨by decide +kernel, by decide +kernel⟩, by decide +kernel, by decide +kernel⟩
theorem mi_X11_solved : Cond.instanceMethod yX11_solved ∈ lw_tbl := ix_wm (i := 1378) (by decide +kernel)
theorem fl_RX11_296 : ix_flb 292 0 true RX11 296 "ClauseCourt$Solver" [8] 11 2 = true := by decide +kernel
theorem mf_X11_quarrel : ix_mf yX11_quarrel cX11_quarrel 2 (some .int) 1 := ⟨ix_wm (i := 1384) (by decide +kernel), ix_wm (i := 1) (by decide +kernel), ⟨by decide +kernel, by decide +kernel⟩, by decide +kernel, by decide +kernel⟩
theorem mi_X11_quarrel : Cond.instanceMethod yX11_quarrel ∈ lw_tbl := ix_wm (i := 1382) (by decide +kernel)
theorem fl_RX11_284 : ix_flb 358 0 false RX11 284 "ClauseCourt" [10] 13 0 = true := by decide +kernel
theorem mf_X11_saidNo : ix_mf yX11_saidNo cX11_saidNo 1 (some .boolean) 0 := ⟨ix_wm (i := 1392) (by decide +kernel), ix_wm (i := 1) (by decide +kernel), ⟨by decide +kernel, by decide +kernel⟩, by decide +kernel, by decide +kernel⟩
theorem mi_X11_saidNo : Cond.instanceMethod yX11_saidNo ∈ lw_tbl := ix_wm (i := 1391) (by decide +kernel)
theorem ms_X11_saidNo : Cond.selects yX11_saidNo.cls yX11_saidNo yX11_saidNo ∈ lw_tbl := List.mem_append_left _ (List.mem_of_getElem? (i := 49) (by decide +kernel))
theorem ml_RX11_299 : tables_1[1389]? = some (Cond.methodLink RX11 299 yX11_saidNo) := by decide +kernel
theorem mf_X11_core : ix_mf yX11_core cX11_core 2 (some .int) 1 := ⟨ix_wm (i := 1388) (by decide +kernel), ix_wm (i := 1) (by decide +kernel), ⟨by decide +kernel, by decide +kernel⟩, by decide +kernel, by decide +kernel⟩
theorem mi_X11_core : Cond.instanceMethod yX11_core ∈ lw_tbl := ix_wm (i := 1386) (by decide +kernel)
theorem ms_X11_core : Cond.selects yX11_core.cls yX11_core yX11_core ∈ lw_tbl := ix_wm (i := 1387) (by decide +kernel)
theorem ml_RX11_308 : tables_1[1397]? = some (Cond.methodLink RX11 308 yX11_core) := by decide +kernel
theorem mf_X11_coreAt : ix_mf yX11_coreAt cX11_coreAt 4 (some .int) 2 := ⟨ix_wm (i := 1396) (by decide +kernel), ix_wm (i := 1) (by decide +kernel), ⟨by decide +kernel, by decide +kernel⟩, by decide +kernel, by decide +kernel⟩
theorem mi_X11_coreAt : Cond.instanceMethod yX11_coreAt ∈ lw_tbl := ix_wm (i := 1394) (by decide +kernel)
theorem fl_RX11_45 : ix_flb 352 0 false RX11 45 "ClauseCourt" [10] 7 2 = true := by decide +kernel
theorem mf_X11_supposeItems : ix_mf yX11_supposeItems cX11_supposeItems 3 (none : Option Jvm.ClassFile.FieldType) 1 := ⟨ix_wm (i := 1410) (by decide +kernel), ix_wm (i := 1) (by decide +kernel), ⟨by decide +kernel, by decide +kernel⟩, by decide +kernel, by decide +kernel⟩
theorem mi_X11_supposeItems : Cond.instanceMethod yX11_supposeItems ∈ lw_tbl := ix_wm (i := 1409) (by decide +kernel)
theorem ms_X11_supposeItems : Cond.selects yX11_supposeItems.cls yX11_supposeItems yX11_supposeItems ∈ lw_tbl := List.mem_append_left _ (List.mem_of_getElem? (i := 51) (by decide +kernel))
theorem ml_RX11_436 : tables_1[1407]? = some (Cond.methodLink RX11 436 yX11_supposeItems) := by decide +kernel
theorem ml_RX11_433 : tables_1[1406]? = some (Cond.methodLink RX11 433 yX1_layRow) := by decide +kernel
theorem mf_X11_layWithout : ix_mf yX11_layWithout cX11_layWithout 3 (none : Option Jvm.ClassFile.FieldType) 1 := ⟨ix_wm (i := 1405) (by decide +kernel), ix_wm (i := 1) (by decide +kernel), ⟨by decide +kernel, by decide +kernel⟩, by decide +kernel, by decide +kernel⟩
theorem mi_X11_layWithout : Cond.instanceMethod yX11_layWithout ∈ lw_tbl := ix_wm (i := 1404) (by decide +kernel)
theorem mf_X11_dismiss : ix_mf yX11_dismiss cX11_dismiss 3 (none : Option Jvm.ClassFile.FieldType) 1 := ⟨ix_wm (i := 1414) (by decide +kernel), ix_wm (i := 1) (by decide +kernel), ⟨by decide +kernel, by decide +kernel⟩, by decide +kernel, by decide +kernel⟩
theorem mi_X11_dismiss : Cond.instanceMethod yX11_dismiss ∈ lw_tbl := ix_wm (i := 1413) (by decide +kernel)
theorem ms_X11_layWithout : Cond.selects yX11_layWithout.cls yX11_layWithout yX11_layWithout ∈ lw_tbl := List.mem_append_left _ (List.mem_of_getElem? (i := 50) (by decide +kernel))
theorem ml_RX11_311 : tables_1[1402]? = some (Cond.methodLink RX11 311 yX11_layWithout) := by decide +kernel
theorem ms_X11_dismiss : Cond.selects yX11_dismiss.cls yX11_dismiss yX11_dismiss ∈ lw_tbl := List.mem_append_left _ (List.mem_of_getElem? (i := 52) (by decide +kernel))
theorem ml_RX11_314 : tables_1[1411]? = some (Cond.methodLink RX11 314 yX11_dismiss) := by decide +kernel
theorem mf_X11_shrink : ix_mf yX11_shrink cX11_shrink 6 (some .int) 1 := ⟨ix_wm (i := 1401) (by decide +kernel), ix_wm (i := 1) (by decide +kernel), ⟨by decide +kernel, by decide +kernel⟩, by decide +kernel, by decide +kernel⟩
theorem mi_X11_shrink : Cond.instanceMethod yX11_shrink ∈ lw_tbl := ix_wm (i := 1399) (by decide +kernel)
theorem mf_J6_bitCount_0f7a4 : ix_mf yJ6_bitCount_0f7a4 cJ6_bitCount_0f7a4 1 (some .int) 1 := ⟨ix_wm (i := 1421) (by decide +kernel), ix_wm (i := 23) (by decide +kernel), ⟨by decide +kernel, by decide +kernel⟩, by decide +kernel, by decide +kernel⟩
theorem st_J6_bitCount_0f7a4 : Cond.static yJ6_bitCount_0f7a4 ∈ lw_tbl := ix_wm (i := 1420) (by decide +kernel)
theorem mf_X11_laySet : ix_mf yX11_laySet cX11_laySet 3 (none : Option Jvm.ClassFile.FieldType) 1 := ⟨ix_wm (i := 1428) (by decide +kernel), ix_wm (i := 1) (by decide +kernel), ⟨by decide +kernel, by decide +kernel⟩, by decide +kernel, by decide +kernel⟩
theorem mi_X11_laySet : Cond.instanceMethod yX11_laySet ∈ lw_tbl := ix_wm (i := 1427) (by decide +kernel)
theorem mf_X11_keepSet : ix_mf yX11_keepSet cX11_keepSet 4 (none : Option Jvm.ClassFile.FieldType) 1 := ⟨ix_wm (i := 1432) (by decide +kernel), ix_wm (i := 1) (by decide +kernel), ⟨by decide +kernel, by decide +kernel⟩, by decide +kernel, by decide +kernel⟩
theorem mi_X11_keepSet : Cond.instanceMethod yX11_keepSet ∈ lw_tbl := ix_wm (i := 1431) (by decide +kernel)
theorem ml_RX11_317 : tables_1[1419]? = some (Cond.methodLink RX11 317 yJ6_bitCount_0f7a4) := by decide +kernel
theorem ms_X11_laySet : Cond.selects yX11_laySet.cls yX11_laySet yX11_laySet ∈ lw_tbl := List.mem_append_left _ (List.mem_of_getElem? (i := 53) (by decide +kernel))
theorem ml_RX11_322 : tables_1[1425]? = some (Cond.methodLink RX11 322 yX11_laySet) := by decide +kernel
theorem ms_X11_keepSet : Cond.selects yX11_keepSet.cls yX11_keepSet yX11_keepSet ∈ lw_tbl := List.mem_append_left _ (List.mem_of_getElem? (i := 54) (by decide +kernel))
theorem ml_RX11_325 : tables_1[1429]? = some (Cond.methodLink RX11 325 yX11_keepSet) := by decide +kernel
theorem mf_X11_least : ix_mf yX11_least cX11_least 6 (some .int) 1 := ⟨ix_wm (i := 1418) (by decide +kernel), ix_wm (i := 1) (by decide +kernel), ⟨by decide +kernel, by decide +kernel⟩, by decide +kernel, by decide +kernel⟩
theorem mi_X11_least : Cond.instanceMethod yX11_least ∈ lw_tbl := ix_wm (i := 1416) (by decide +kernel)
theorem fl_RX11_53 : ix_flb 353 0 false RX11 53 "ClauseCourt" [10] 8 2 = true := by decide +kernel
theorem ml_RX11_328 : tables_1[624]? = some (Cond.methodLink RX11 328 yX7_shortenTo) := by decide +kernel
theorem fl_RX11_331 : ix_flb 115 0 true RX11 331 "ClauseCourt$Rows" [7] 0 2 = true := by decide +kernel
theorem fl_RX11_332 : ix_flb 119 0 true RX11 332 "ClauseCourt$Rows" [7] 1 2 = true := by decide +kernel
theorem ml_RX11_338 : tables_1[1437]? = some (Cond.methodLink RX11 338 yX7_push) := by decide +kernel
theorem mf_X11_take : ix_mf yX11_take cX11_take 3 (some .int) 0 := ⟨ix_wm (i := 1436) (by decide +kernel), ix_wm (i := 1) (by decide +kernel), ⟨by decide +kernel, by decide +kernel⟩, by decide +kernel, by decide +kernel⟩
theorem mi_X11_take : Cond.instanceMethod yX11_take ∈ lw_tbl := ix_wm (i := 1434) (by decide +kernel)
theorem ms_X11_lookForItems : Cond.selects yX11_lookForItems.cls yX11_lookForItems yX11_lookForItems ∈ lw_tbl := List.mem_append_left _ (List.mem_of_getElem? (i := 3) (by decide +kernel))
theorem ml_RX11_114 : tables_1[471]? = some (Cond.methodLink RX11 114 yX11_lookForItems) := by decide +kernel
theorem fl_RX11_345 : ix_flb 155 0 true RX11 345 "ClauseCourt$Case" [2] 10 0 = true := by decide +kernel
theorem fp_RX11_345 : ix_fpb 155 0 true RX11 345 "ClauseCourt$Case" [2] 10 "I" false = true := by decide +kernel
theorem fl_RX11_348 : ix_flb 143 0 true RX11 348 "ClauseCourt$Case" [2] 4 2 = true := by decide +kernel
theorem ml_RX11_342 : tables_1[1442]? = some (Cond.methodLink RX11 342 yX2_add) := by decide +kernel
theorem mf_X11_claim : ix_mf yX11_claim cX11_claim 4 (some .int) 1 := ⟨ix_wm (i := 1441) (by decide +kernel), ix_wm (i := 1) (by decide +kernel), ⟨by decide +kernel, by decide +kernel⟩, by decide +kernel, by decide +kernel⟩
theorem mi_X11_claim : Cond.instanceMethod yX11_claim ∈ lw_tbl := ix_wm (i := 1439) (by decide +kernel)
theorem ml_RX11_351 : tables_1[1447]? = some (Cond.methodLink RX11 351 yX7_has) := by decide +kernel
theorem ms_X7_remove : Cond.selects yX7_remove.cls yX7_remove yX7_remove ∈ lw_tbl := ix_wm (i := 1450) (by decide +kernel)
theorem ml_RX11_354 : tables_1[1448]? = some (Cond.methodLink RX11 354 yX7_remove) := by decide +kernel
theorem mf_X11_strike : ix_mf yX11_strike cX11_strike 2 (some .int) 1 := ⟨ix_wm (i := 1446) (by decide +kernel), ix_wm (i := 1) (by decide +kernel), ⟨by decide +kernel, by decide +kernel⟩, by decide +kernel, by decide +kernel⟩
theorem mi_X11_strike : Cond.instanceMethod yX11_strike ∈ lw_tbl := ix_wm (i := 1444) (by decide +kernel)
theorem mf_X11_proof : ix_mf yX11_proof cX11_proof 3 (some .int) 2 := ⟨ix_wm (i := 1455) (by decide +kernel), ix_wm (i := 1) (by decide +kernel), ⟨by decide +kernel, by decide +kernel⟩, by decide +kernel, by decide +kernel⟩
theorem mi_X11_proof : Cond.instanceMethod yX11_proof ∈ lw_tbl := ix_wm (i := 1453) (by decide +kernel)
theorem ml_RX11_439 : tables_1[1464]? = some (Cond.methodLink RX11 439 yX1_clear) := by decide +kernel
theorem ms_X1_follows : Cond.selects yX1_follows.cls yX1_follows yX1_follows ∈ lw_tbl := ix_wm (i := 1467) (by decide +kernel)
theorem ml_RX11_442 : tables_1[1465]? = some (Cond.methodLink RX11 442 yX1_follows) := by decide +kernel
theorem mf_X11_firstRefused : ix_mf yX11_firstRefused cX11_firstRefused 3 (some .int) 0 := ⟨ix_wm (i := 1463) (by decide +kernel), ix_wm (i := 1) (by decide +kernel), ⟨by decide +kernel, by decide +kernel⟩, by decide +kernel, by decide +kernel⟩
theorem mi_X11_firstRefused : Cond.instanceMethod yX11_firstRefused ∈ lw_tbl := ix_wm (i := 1462) (by decide +kernel)
theorem mf_X11_endsRightly : ix_mf yX11_endsRightly cX11_endsRightly 3 (some .boolean) 0 := ⟨ix_wm (i := 1482) (by decide +kernel), ix_wm (i := 1) (by decide +kernel), ⟨by decide +kernel, by decide +kernel⟩, by decide +kernel, by decide +kernel⟩
theorem mi_X11_endsRightly : Cond.instanceMethod yX11_endsRightly ∈ lw_tbl := ix_wm (i := 1481) (by decide +kernel)
theorem ms_X11_firstRefused : Cond.selects yX11_firstRefused.cls yX11_firstRefused yX11_firstRefused ∈ lw_tbl := List.mem_append_left _ (List.mem_of_getElem? (i := 55) (by decide +kernel))
theorem ml_RX11_357 : tables_1[1460]? = some (Cond.methodLink RX11 357 yX11_firstRefused) := by decide +kernel
theorem fp_RX11_63 : ix_fpb 361 0 false RX11 63 "ClauseCourt" [10] 16 "I" false = true := by decide +kernel
theorem ms_X11_endsRightly : Cond.selects yX11_endsRightly.cls yX11_endsRightly yX11_endsRightly ∈ lw_tbl := List.mem_append_left _ (List.mem_of_getElem? (i := 56) (by decide +kernel))
theorem ml_RX11_360 : tables_1[1479]? = some (Cond.methodLink RX11 360 yX11_endsRightly) := by decide +kernel
theorem mf_X11_check : ix_mf yX11_check cX11_check 3 (some .int) 0 := ⟨ix_wm (i := 1459) (by decide +kernel), ix_wm (i := 1) (by decide +kernel), ⟨by decide +kernel, by decide +kernel⟩, by decide +kernel, by decide +kernel⟩
theorem mi_X11_check : Cond.instanceMethod yX11_check ∈ lw_tbl := ix_wm (i := 1457) (by decide +kernel)
theorem fl_RX11_63 : ix_flb 361 0 false RX11 63 "ClauseCourt" [10] 16 0 = true := by decide +kernel
theorem mf_X11_refusedAt : ix_mf yX11_refusedAt cX11_refusedAt 1 (some .int) 0 := ⟨ix_wm (i := 1486) (by decide +kernel), ix_wm (i := 1) (by decide +kernel), ⟨by decide +kernel, by decide +kernel⟩, by decide +kernel, by decide +kernel⟩
theorem mi_X11_refusedAt : Cond.instanceMethod yX11_refusedAt ∈ lw_tbl := ix_wm (i := 1484) (by decide +kernel)
theorem fl_RX11_363 : ix_flb 139 0 true RX11 363 "ClauseCourt$Case" [2] 2 2 = true := by decide +kernel
theorem fl_RX11_367 : ix_flb 147 0 true RX11 367 "ClauseCourt$Case" [2] 6 0 = true := by decide +kernel
theorem fp_RX11_367 : ix_fpb 147 0 true RX11 367 "ClauseCourt$Case" [2] 6 "I" false = true := by decide +kernel
theorem mf_X11_counted : ix_mf yX11_counted cX11_counted 4 (some .int) 2 := ⟨ix_wm (i := 1490) (by decide +kernel), ix_wm (i := 1) (by decide +kernel), ⟨by decide +kernel, by decide +kernel⟩, by decide +kernel, by decide +kernel⟩
theorem mi_X11_counted : Cond.instanceMethod yX11_counted ∈ lw_tbl := ix_wm (i := 1488) (by decide +kernel)
theorem ms_X9_openNext : Cond.selects yX9_openNext.cls yX9_openNext yX9_openNext ∈ lw_tbl := ix_wm (i := 1497) (by decide +kernel)
theorem ml_RX11_370 : tables_1[1495]? = some (Cond.methodLink RX11 370 yX9_openNext) := by decide +kernel
theorem ms_X9_barTruth : Cond.selects yX9_barTruth.cls yX9_barTruth yX9_barTruth ∈ lw_tbl := ix_wm (i := 1504) (by decide +kernel)
theorem ml_RX11_373 : tables_1[1502]? = some (Cond.methodLink RX11 373 yX9_barTruth) := by decide +kernel
theorem mf_X11_next : ix_mf yX11_next cX11_next 3 (some .int) 1 := ⟨ix_wm (i := 1494) (by decide +kernel), ix_wm (i := 1) (by decide +kernel), ⟨by decide +kernel, by decide +kernel⟩, by decide +kernel, by decide +kernel⟩
theorem mi_X11_next : Cond.instanceMethod yX11_next ∈ lw_tbl := ix_wm (i := 1492) (by decide +kernel)
def tab_X11_heed : List (Nat × Instr × Nat) := [(0, .aload_n 0, 1), (1, .iload_n 1, 1), (2, .sipush (-1004), 3), (5, .if_icmp .ne 7, 3), (8, .iconst 1, 1), (9, .goto 4, 3), (12, .iconst 0, 1), (13, .putfield 80, 3), (16, .iload_n 1, 1), (17, .ifCond .ne 7, 3), (20, .aload_n 0, 1), (21, .invokevirtual 421, 3), (24, .iload_n 1, 1), (25, .ireturn, 1)]
theorem tb_X11_heed : ix_tab cX11_heed tab_X11_heed := by
  unfold ix_tab
  decide +kernel
noncomputable def f_X11_heed_13 (n : Nat) (z : ix_Z)  (a0 : Nat) (x1 : Int32) (s0 : Int32) (s1 : Nat) (d : ix_D2) : Option (Int32 × ix_D2) :=
  ix_ck (ix_ok z [10] s1) (ix_ck (s0 = 0 ∨ s0 = 1) (ix_lt (ix_di d s1 14 s0) (fun d_4 => ix_if (x1 = 0) (ix_ck (ix_ok z [10] a0) (ix_bd1 (f_X11_keepCore n z a0 d_4) (fun d_7 => some (x1, d_7)))) (some (x1, d_4)))))
noncomputable def f_X11_heed (n : Nat) (z : ix_Z) (a0 : Nat) (x1 : Int32) (d : ix_D2) : Option (Int32 × ix_D2) :=
  ix_if (x1 = (-1004)) (f_X11_heed_13 n z  a0 x1 1 a0 d) (f_X11_heed_13 n z  a0 x1 0 a0 d)
set_option maxRecDepth 20000 in
theorem t_X11_heed_13 {l : Launch} {p : Program} {e : Env} {s : State} {m : MethodId} {args : Array Value} {below : List Frame} {meth : Method} {c : Code} {K : ix_Cx} (hKp : ix_Kp K) {n : Nat} {z : ix_Z} (X : ix_X p s m args c K cX11_heed RX11 2) (hr : meth.sig.returnType = (some .int)) (hlk : meth.locks = false)  {a0 : Nat} {x1 : Int32} {s0 : Int32} {s1 : Nat} {r : Int32} {d1 : ix_D2}  {d : ix_D2} (h : f_X11_heed_13 n z  a0 x1 s0 s1 d = some (r, d1)) : ix_G p l e (ix_rm 4 88 0 0) s m args below meth c (MQ below (ix_Post K (some (.int r)) (ix_w z d1)) args s 0 0 (ix_A K)) K 2 0 0 13 [(0, .ref (K.2.2.1 + a0)), (1, .int x1)] [.int s0, .ref (K.2.2.1 + s1)] (ix_w z d) := by
  unfold f_X11_heed_13 at h
  obtain ⟨k_2, h⟩ := ix_ck_some h
  obtain ⟨k_3, h⟩ := ix_ck_some h
  obtain ⟨d_4, e_5, h⟩ := ix_lt_ex h
  refine iz_putZ X fp_RX11_80 k_2 (ix_tb_at tb_X11_heed 7 rfl) k_3 e_5 (pc1 := 16) rfl ?_
  refine ix_iload_n (i := 1) (j := 1) X (ix_tb_at tb_X11_heed 8 rfl) rfl rfl (pc1 := 17) rfl ?_
  refine ix_if_ne (tgt := 24) X (ix_tb_at tb_X11_heed 9 rfl) (by decide) (pc1 := 20) rfl (fun q_6 => ?_) (fun q_6 => ?_)
  · have h := ix_iff q_6 h
    refine ix_iload_n (i := 1) (j := 1) X (ix_tb_at tb_X11_heed 12 rfl) rfl rfl (pc1 := 25) rfl ?_
    exact ix_iret X hr hlk (ix_r2 (f := fun r => some (.int r)) (g := ix_w z) h) (ix_tb_at tb_X11_heed 13 rfl)
  · have h := ix_ift q_6 h
    refine ix_aload_n (i := 0) (j := 0) X (ix_tb_at tb_X11_heed 10 rfl) rfl rfl (pc1 := 21) rfl ?_
    obtain ⟨k_9, h⟩ := ix_ck_some h
    obtain ⟨d_7, h_8, h⟩ := ix_bd1_ex h
    refine ix_callV (As := []) (rest := []) (ci := 10) (T := TX11) (nf := 18) X mf_X11_keepCore mi_X11_keepCore ms_X11_keepCore rfl (Nat.le_of_ble_eq_true rfl) ml_RX11_421 ⟨Nat.le_of_ble_eq_true rfl, Nat.le_of_ble_eq_true rfl⟩ ⟨Nat.le_of_ble_eq_true rfl, Nat.le_of_ble_eq_true rfl⟩ rfl (Nat.le_of_ble_eq_true rfl) (ix_tb_at tb_X11_heed 11 rfl) ⟨k_9.1, List.mem_singleton.mp k_9.2⟩ (c_X11_keepCore hKp h_8) rfl (pc1 := 24) rfl ?_
    refine ix_iload_n (i := 1) (j := 1) X (ix_tb_at tb_X11_heed 12 rfl) rfl rfl (pc1 := 25) rfl ?_
    exact ix_iret X hr hlk (ix_r2 (f := fun r => some (.int r)) (g := ix_w z) h) (ix_tb_at tb_X11_heed 13 rfl)
set_option maxRecDepth 20000 in
theorem c_X11_heed {l : Launch} {K : ix_Cx} (hKp : ix_Kp K) {n : Nat} {z : ix_Z} {a0 : Nat} {x1 : Int32} {d : ix_D2} {r : Int32} {d1 : ix_D2} (h : f_X11_heed n z a0 x1 d = some (r, d1)) : ix_M l K yX11_heed cX11_heed 2 (some .int) 4 88 0 0 [.ref (K.2.2.1 + a0), .int x1] (ix_w z d) (some (.int r)) (ix_w z d1) := by
  refine ix_met mf_X11_heed hKp (Nat.le_of_ble_eq_true rfl) ?_
  intro p e s m args below meth c hr hlk hnm X
  have X : ix_X p s m args c K cX11_heed RX11 2 := X
  show ix_G p l e (ix_rm 4 88 0 0) s m args below meth c (MQ below (ix_Post K (some (.int r)) (ix_w z d1)) args s 0 0 (ix_A K)) K 2 0 0 0 [(0, .ref (K.2.2.1 + a0)), (1, .int x1)] [] (ix_w z d)
  unfold f_X11_heed at h
  refine ix_aload_n (i := 0) (j := 0) X (ix_tb_at tb_X11_heed 0 rfl) rfl rfl (pc1 := 1) rfl ?_
  refine ix_iload_n (i := 1) (j := 1) X (ix_tb_at tb_X11_heed 1 rfl) rfl rfl (pc1 := 2) rfl ?_
  refine ix_sipush (v := (-1004)) X (ix_tb_at tb_X11_heed 2 rfl) (by decide) (pc1 := 5) rfl ?_
  refine ix_icmp_ne (tgt := 12) X (ix_tb_at tb_X11_heed 3 rfl) (by decide) (pc1 := 8) rfl (fun q_1 => ?_) (fun q_1 => ?_)
  · have h := ix_iff q_1 h
    refine ix_iconst (v := 0) X (ix_tb_at tb_X11_heed 6 rfl) (by decide) (pc1 := 13) rfl ?_
    refine ix_sub (L1 := [(0, .ref (K.2.2.1 + a0)), (1, .int x1)]) [0, 1] rfl ?_
    exact t_X11_heed_13 hKp X hr hlk  h
  · have h := ix_ift q_1 h
    refine ix_iconst (v := 1) X (ix_tb_at tb_X11_heed 4 rfl) (by decide) (pc1 := 9) rfl ?_
    refine ix_goto (tgt := 13) X (ix_tb_at tb_X11_heed 5 rfl) (by decide) ?_
    refine ix_sub (L1 := [(0, .ref (K.2.2.1 + a0)), (1, .int x1)]) [0, 1] rfl ?_
    exact t_X11_heed_13 hKp X hr hlk  h
def tab_X11_solve : List (Nat × Instr × Nat) := [(0, .iload_n 1, 1), (1, .invokestatic 263, 3), (4, .ifCond .ne 11, 3), (7, .aload_n 0, 1), (8, .sipush (-1001), 3), (11, .invokevirtual 73, 3), (14, .ireturn, 1), (15, .aload_n 0, 1), (16, .getfield 41, 3), (19, .aload_n 0, 1), (20, .getfield 28, 3), (23, .invokevirtual 266, 3), (26, .aload_n 0, 1), (27, .getfield 41, 3), (30, .aload_n 0, 1), (31, .getfield 28, 3), (34, .getfield 195, 3), (37, .invokevirtual 270, 3), (40, .iconst 0, 1), (41, .istore_n 2, 1), (42, .iload_n 2, 1), (43, .aload_n 0, 1), (44, .getfield 28, 3), (47, .getfield 241, 3), (50, .if_icmp .ge 25, 3), (53, .aload_n 0, 1), (54, .getfield 41, 3), (57, .aload_n 0, 1), (58, .getfield 28, 3), (61, .getfield 244, 3), (64, .iload_n 2, 1), (65, .iaload, 1), (66, .invokevirtual 274, 3), (69, .iinc 2 1, 3), (72, .goto (-30), 3), (75, .aload_n 0, 1), (76, .getfield 41, 3), (79, .invokevirtual 278, 3), (82, .aload_n 0, 1), (83, .aload_n 0, 1), (84, .getfield 281, 3), (87, .putfield 200, 3), (90, .aload_n 0, 1), (91, .iconst 0, 1), (92, .putfield 284, 3), (95, .aload_n 0, 1), (96, .aload_n 0, 1), (97, .getfield 41, 3), (100, .iload_n 1, 1), (101, .invokevirtual 287, 3), (104, .invokevirtual 290, 3), (107, .ireturn, 1)]
theorem tb_X11_solve : ix_tab cX11_solve tab_X11_solve := by
  unfold ix_tab
  decide +kernel
noncomputable def b_X11_solve_42 (n : Nat) (z : ix_Z)  (a0 : Nat) (x1 : Int32) (rec42 : Int32 → ix_D2 → Option (Int32 × ix_D2)) (x2 : Int32) (d : ix_D2) : Option (Int32 × ix_D2) :=
  ix_ck (ix_ok z [10] a0) (ix_bd1 (z.1 a0 3) (fun b_19 => ix_ck (ix_ok z [2] b_19) (ix_if (d.1 b_19 7 ≤ x2) (ix_bd1 (z.1 a0 6) (fun b_23 => ix_ck (ix_ok z [8] b_23) (ix_bd1 (f_X9_closeBoard n z b_23 d) (fun d_25 => ix_lt (ix_di d_25 a0 15 (d_25.1 a0 5)) (fun d_28 => ix_lt (ix_di d_28 a0 13 0) (fun d_30 => ix_bd2 (f_X9_go n z b_23 x1 d_30) (fun r_34 d_32 => ix_bd2 (f_X11_heed n z a0 r_34 d_32) (fun r_37 d_35 => some (r_37, d_35))))))))) (ix_bd1 (z.1 a0 6) (fun b_38 => ix_bd1 (z.1 b_19 3) (fun b_40 => ix_ck (ix_ix z 20 b_40 x2) (ix_ck (ix_ok z [8] b_38) (ix_bd1 (f_X9_suppose n z b_38 (d.1 b_40 (ix_n x2)) d) (fun d_43 => ix_lt (x2 + 1) (fun x2_46 => rec42 x2_46 d_43))))))))))
noncomputable def f_X11_solve_42 (n : Nat) (z : ix_Z)  (a0 : Nat) (x1 : Int32) (x2 : Int32) (d : ix_D2) : Option (Int32 × ix_D2) := ix_fix (b_X11_solve_42 n z  a0 x1) (fun _ _ => none) n x2 d
noncomputable def f_X11_solve (n : Nat) (z : ix_Z) (a0 : Nat) (x1 : Int32) (d : ix_D2) : Option (Int32 × ix_D2) :=
  ix_bd2 (f_X11_areSteps n z x1 d) (fun r_3 d_1 => ix_if (r_3 = 0) (ix_ck (ix_ok z [10] a0) (ix_bd2 (f_X11_refuse n z a0 ((-1001)) d_1) (fun r_51 d_48 => some (r_51, d_48)))) (ix_ck (ix_ok z [10] a0) (ix_bd1 (z.1 a0 6) (fun b_6 => ix_bd1 (z.1 a0 3) (fun b_8 => ix_ck (ix_ok z [8] b_6) (ix_bd1 (f_X9_openBoard n z b_6 b_8 d_1) (fun d_10 => ix_ck (ix_ok z [2] b_8) (ix_bd1 (z.1 b_8 0) (fun b_14 => ix_bd1 (f_X9_layAll n z b_6 b_14 d_10) (fun d_16 => f_X11_solve_42 n z  a0 x1 0 d_16))))))))))
set_option maxRecDepth 20000 in
theorem tb_X11_solve_42 {l : Launch} {p : Program} {e : Env} {s : State} {m : MethodId} {args : Array Value} {below : List Frame} {meth : Method} {c : Code} {K : ix_Cx} (hKp : ix_Kp K) {n : Nat} {z : ix_Z} (X : ix_X p s m args c K cX11_solve RX11 3) (hr : meth.sig.returnType = (some .int)) (hlk : meth.locks = false)  {a0 : Nat} {x1 : Int32} {rec42 : Int32 → ix_D2 → Option (Int32 × ix_D2)} {r : Int32} {d1 : ix_D2} (hrec42 : ∀ (x2 : Int32) (d : ix_D2), rec42 x2 d = some (r, d1) → ix_G p l e (ix_rm 6 145 0 0) s m args below meth c (MQ below (ix_Post K (some (.int r)) (ix_w z d1)) args s 0 0 (ix_A K)) K 3 0 0 42 [(0, .ref (K.2.2.1 + a0)), (1, .int x1), (2, .int x2)] [] (ix_w z d)) {x2 : Int32} {d : ix_D2} (h : b_X11_solve_42 n z  a0 x1 rec42 x2 d = some (r, d1)) : ix_G p l e (ix_rm 6 145 0 0) s m args below meth c (MQ below (ix_Post K (some (.int r)) (ix_w z d1)) args s 0 0 (ix_A K)) K 3 0 0 42 [(0, .ref (K.2.2.1 + a0)), (1, .int x1), (2, .int x2)] [] (ix_w z d) := by
  unfold b_X11_solve_42 at h
  refine ix_iload_n (i := 2) (j := 2) X (ix_tb_at tb_X11_solve 20 rfl) rfl rfl (pc1 := 43) rfl ?_
  refine ix_aload_n (i := 0) (j := 0) X (ix_tb_at tb_X11_solve 21 rfl) rfl rfl (pc1 := 44) rfl ?_
  obtain ⟨k_18, h⟩ := ix_ck_some h
  obtain ⟨b_19, q_20, h⟩ := ix_bd1_ex h
  refine iz_getR X fl_RX11_28 k_18 q_20 (ix_tb_at tb_X11_solve 22 rfl) (pc1 := 47) rfl ?_
  obtain ⟨k_21, h⟩ := ix_ck_some h
  refine iz_getI X fl_RX11_241 k_21 (ix_tb_at tb_X11_solve 23 rfl) (pc1 := 50) rfl ?_
  refine ix_icmp_ge (tgt := 75) X (ix_tb_at tb_X11_solve 24 rfl) (by decide) (pc1 := 53) rfl (fun q_22 => ?_) (fun q_22 => ?_)
  · have h := ix_ift q_22 h
    refine ix_aload_n (i := 0) (j := 0) X (ix_tb_at tb_X11_solve 35 rfl) rfl rfl (pc1 := 76) rfl ?_
    obtain ⟨b_23, q_24, h⟩ := ix_bd1_ex h
    refine iz_getR X fl_RX11_41 k_18 q_24 (ix_tb_at tb_X11_solve 36 rfl) (pc1 := 79) rfl ?_
    obtain ⟨k_27, h⟩ := ix_ck_some h
    obtain ⟨d_25, h_26, h⟩ := ix_bd1_ex h
    refine ix_callV (As := []) (rest := []) (ci := 8) (T := TX9) (nf := 20) X mf_X9_closeBoard mi_X9_closeBoard ms_X9_closeBoard rfl (Nat.le_of_ble_eq_true rfl) ml_RX11_278 ⟨Nat.le_of_ble_eq_true rfl, Nat.le_of_ble_eq_true rfl⟩ ⟨Nat.le_of_ble_eq_true rfl, Nat.le_of_ble_eq_true rfl⟩ rfl (Nat.le_of_ble_eq_true rfl) (ix_tb_at tb_X11_solve 37 rfl) ⟨k_27.1, List.mem_singleton.mp k_27.2⟩ (c_X9_closeBoard hKp h_26) rfl (pc1 := 82) rfl ?_
    refine ix_aload_n (i := 0) (j := 0) X (ix_tb_at tb_X11_solve 38 rfl) rfl rfl (pc1 := 83) rfl ?_
    refine ix_aload_n (i := 0) (j := 0) X (ix_tb_at tb_X11_solve 39 rfl) rfl rfl (pc1 := 84) rfl ?_
    refine iz_getI X fl_RX11_281 k_18 (ix_tb_at tb_X11_solve 40 rfl) (pc1 := 87) rfl ?_
    obtain ⟨d_28, e_29, h⟩ := ix_lt_ex h
    refine iz_putI X fp_RX11_200 k_18 (ix_tb_at tb_X11_solve 41 rfl) e_29 (pc1 := 90) rfl ?_
    refine ix_aload_n (i := 0) (j := 0) X (ix_tb_at tb_X11_solve 42 rfl) rfl rfl (pc1 := 91) rfl ?_
    refine ix_iconst (v := 0) X (ix_tb_at tb_X11_solve 43 rfl) (by decide) (pc1 := 92) rfl ?_
    obtain ⟨d_30, e_31, h⟩ := ix_lt_ex h
    refine iz_putZ X fp_RX11_284 k_18 (ix_tb_at tb_X11_solve 44 rfl) (by decide) e_31 (pc1 := 95) rfl ?_
    refine ix_aload_n (i := 0) (j := 0) X (ix_tb_at tb_X11_solve 45 rfl) rfl rfl (pc1 := 96) rfl ?_
    refine ix_aload_n (i := 0) (j := 0) X (ix_tb_at tb_X11_solve 46 rfl) rfl rfl (pc1 := 97) rfl ?_
    refine iz_getR X fl_RX11_41 k_18 q_24 (ix_tb_at tb_X11_solve 47 rfl) (pc1 := 100) rfl ?_
    refine ix_iload_n (i := 1) (j := 1) X (ix_tb_at tb_X11_solve 48 rfl) rfl rfl (pc1 := 101) rfl ?_
    obtain ⟨r_34, d_32, h_33, h⟩ := ix_bd2_ex h
    refine ix_callV (As := [.int x1]) (rest := [.ref (K.2.2.1 + a0)]) (ci := 8) (T := TX9) (nf := 20) X mf_X9_go mi_X9_go ms_X9_go rfl (Nat.le_of_ble_eq_true rfl) ml_RX11_287 ⟨Nat.le_of_ble_eq_true rfl, Nat.le_of_ble_eq_true rfl⟩ ⟨Nat.le_of_ble_eq_true rfl, Nat.le_of_ble_eq_true rfl⟩ rfl (Nat.le_of_ble_eq_true rfl) (ix_tb_at tb_X11_solve 49 rfl) ⟨k_27.1, List.mem_singleton.mp k_27.2⟩ (c_X9_go hKp h_33) rfl (pc1 := 104) rfl ?_
    obtain ⟨r_37, d_35, h_36, h⟩ := ix_bd2_ex h
    refine ix_callV (As := [.int r_34]) (rest := []) (ci := 10) (T := TX11) (nf := 18) X mf_X11_heed mi_X11_heed ms_X11_heed rfl (Nat.le_of_ble_eq_true rfl) ml_RX11_290 ⟨Nat.le_of_ble_eq_true rfl, Nat.le_of_ble_eq_true rfl⟩ ⟨Nat.le_of_ble_eq_true rfl, Nat.le_of_ble_eq_true rfl⟩ rfl (Nat.le_of_ble_eq_true rfl) (ix_tb_at tb_X11_solve 50 rfl) ⟨k_18.1, List.mem_singleton.mp k_18.2⟩ (c_X11_heed hKp h_36) rfl (pc1 := 107) rfl ?_
    exact ix_iret X hr hlk (ix_r2 (f := fun r => some (.int r)) (g := ix_w z) h) (ix_tb_at tb_X11_solve 51 rfl)
  · have h := ix_iff q_22 h
    refine ix_aload_n (i := 0) (j := 0) X (ix_tb_at tb_X11_solve 25 rfl) rfl rfl (pc1 := 54) rfl ?_
    obtain ⟨b_38, q_39, h⟩ := ix_bd1_ex h
    refine iz_getR X fl_RX11_41 k_18 q_39 (ix_tb_at tb_X11_solve 26 rfl) (pc1 := 57) rfl ?_
    refine ix_aload_n (i := 0) (j := 0) X (ix_tb_at tb_X11_solve 27 rfl) rfl rfl (pc1 := 58) rfl ?_
    refine iz_getR X fl_RX11_28 k_18 q_20 (ix_tb_at tb_X11_solve 28 rfl) (pc1 := 61) rfl ?_
    obtain ⟨b_40, q_41, h⟩ := ix_bd1_ex h
    refine iz_getR X fl_RX11_244 k_21 q_41 (ix_tb_at tb_X11_solve 29 rfl) (pc1 := 64) rfl ?_
    refine ix_iload_n (i := 2) (j := 2) X (ix_tb_at tb_X11_solve 30 rfl) rfl rfl (pc1 := 65) rfl ?_
    obtain ⟨k_42, h⟩ := ix_ck_some h
    refine iz_iald X k_42 (ix_tb_at tb_X11_solve 31 rfl) (pc1 := 66) rfl ?_
    obtain ⟨k_45, h⟩ := ix_ck_some h
    obtain ⟨d_43, h_44, h⟩ := ix_bd1_ex h
    refine ix_callV (As := [.int (d.1 b_40 (ix_n x2))]) (rest := []) (ci := 8) (T := TX9) (nf := 20) X mf_X9_suppose mi_X9_suppose ms_X9_suppose rfl (Nat.le_of_ble_eq_true rfl) ml_RX11_274 ⟨Nat.le_of_ble_eq_true rfl, Nat.le_of_ble_eq_true rfl⟩ ⟨Nat.le_of_ble_eq_true rfl, Nat.le_of_ble_eq_true rfl⟩ rfl (Nat.le_of_ble_eq_true rfl) (ix_tb_at tb_X11_solve 32 rfl) ⟨k_45.1, List.mem_singleton.mp k_45.2⟩ (c_X9_suppose hKp h_44) rfl (pc1 := 69) rfl ?_
    obtain ⟨x2_46, e_47, h⟩ := ix_lt_ex h
    refine ix_iinc (i := 2) (j := 2) (v := x2_46) (L1 := [(2, .int x2_46), (0, .ref (K.2.2.1 + a0)), (1, .int x1)]) X (ix_tb_at tb_X11_solve 33 rfl) rfl (by rw [oi_1]; exact e_47.symm) (Nat.le_of_ble_eq_true rfl) rfl (pc1 := 72) rfl ?_
    refine ix_goto (tgt := 42) X (ix_tb_at tb_X11_solve 34 rfl) (by decide) ?_
    refine ix_sub (L1 := [(0, .ref (K.2.2.1 + a0)), (1, .int x1), (2, .int x2_46)]) [1, 2, 0] rfl ?_
    exact hrec42 x2_46 d_43 h
theorem t_X11_solve_42 {l : Launch} {p : Program} {e : Env} {s : State} {m : MethodId} {args : Array Value} {below : List Frame} {meth : Method} {c : Code} {K : ix_Cx} (hKp : ix_Kp K) {n : Nat} {z : ix_Z} (X : ix_X p s m args c K cX11_solve RX11 3) (hr : meth.sig.returnType = (some .int)) (hlk : meth.locks = false)  {a0 : Nat} {x1 : Int32} {r : Int32} {d1 : ix_D2}  {x2 : Int32} {d : ix_D2} (h : f_X11_solve_42 n z  a0 x1 x2 d = some (r, d1)) : ix_G p l e (ix_rm 6 145 0 0) s m args below meth c (MQ below (ix_Post K (some (.int r)) (ix_w z d1)) args s 0 0 (ix_A K)) K 3 0 0 42 [(0, .ref (K.2.2.1 + a0)), (1, .int x1), (2, .int x2)] [] (ix_w z d) := by
  have key : ∀ (f : Nat) (x2 : Int32) (d : ix_D2), ix_fix (b_X11_solve_42 n z  a0 x1) (fun _ _ => none) f x2 d = some (r, d1) → ix_G p l e (ix_rm 6 145 0 0) s m args below meth c (MQ below (ix_Post K (some (.int r)) (ix_w z d1)) args s 0 0 (ix_A K)) K 3 0 0 42 [(0, .ref (K.2.2.1 + a0)), (1, .int x1), (2, .int x2)] [] (ix_w z d) := by
    intro f
    induction f with
    | zero =>
      intro x2 d h
      have h : (none : Option (Int32 × ix_D2)) = some (r, d1) := h
      cases h
    | succ f ih =>
      intro x2 d h
      exact tb_X11_solve_42 hKp X hr hlk (rec42 := ix_fix (b_X11_solve_42 n z  a0 x1) (fun _ _ => none) f)  ih h
  exact key n x2 d h
set_option maxRecDepth 20000 in
theorem c_X11_solve {l : Launch} {K : ix_Cx} (hKp : ix_Kp K) {n : Nat} {z : ix_Z} {a0 : Nat} {x1 : Int32} {d : ix_D2} {r : Int32} {d1 : ix_D2} (h : f_X11_solve n z a0 x1 d = some (r, d1)) : ix_M l K yX11_solve cX11_solve 3 (some .int) 6 145 0 0 [.ref (K.2.2.1 + a0), .int x1] (ix_w z d) (some (.int r)) (ix_w z d1) := by
  refine ix_met mf_X11_solve hKp (Nat.le_of_ble_eq_true rfl) ?_
  intro p e s m args below meth c hr hlk hnm X
  have X : ix_X p s m args c K cX11_solve RX11 3 := X
  show ix_G p l e (ix_rm 6 145 0 0) s m args below meth c (MQ below (ix_Post K (some (.int r)) (ix_w z d1)) args s 0 0 (ix_A K)) K 3 0 0 0 [(0, .ref (K.2.2.1 + a0)), (1, .int x1)] [] (ix_w z d)
  unfold f_X11_solve at h
  refine ix_iload_n (i := 1) (j := 1) X (ix_tb_at tb_X11_solve 0 rfl) rfl rfl (pc1 := 1) rfl ?_
  obtain ⟨r_3, d_1, h_2, h⟩ := ix_bd2_ex h
  refine ix_callS (As := [.int x1]) (rest := []) X mf_X11_areSteps st_X11_areSteps ml_RX11_263 ⟨Nat.le_of_ble_eq_true rfl, Nat.le_of_ble_eq_true rfl⟩ ⟨Nat.le_of_ble_eq_true rfl, Nat.le_of_ble_eq_true rfl⟩ rfl (Nat.le_of_ble_eq_true rfl) (ix_tb_at tb_X11_solve 1 rfl) (c_X11_areSteps hKp h_2) rfl (pc1 := 4) rfl ?_
  refine ix_if_ne (tgt := 15) X (ix_tb_at tb_X11_solve 2 rfl) (by decide) (pc1 := 7) rfl (fun q_4 => ?_) (fun q_4 => ?_)
  · have h := ix_iff q_4 h
    refine ix_aload_n (i := 0) (j := 0) X (ix_tb_at tb_X11_solve 7 rfl) rfl rfl (pc1 := 16) rfl ?_
    obtain ⟨k_5, h⟩ := ix_ck_some h
    obtain ⟨b_6, q_7, h⟩ := ix_bd1_ex h
    refine iz_getR X fl_RX11_41 k_5 q_7 (ix_tb_at tb_X11_solve 8 rfl) (pc1 := 19) rfl ?_
    refine ix_aload_n (i := 0) (j := 0) X (ix_tb_at tb_X11_solve 9 rfl) rfl rfl (pc1 := 20) rfl ?_
    obtain ⟨b_8, q_9, h⟩ := ix_bd1_ex h
    refine iz_getR X fl_RX11_28 k_5 q_9 (ix_tb_at tb_X11_solve 10 rfl) (pc1 := 23) rfl ?_
    obtain ⟨k_12, h⟩ := ix_ck_some h
    obtain ⟨d_10, h_11, h⟩ := ix_bd1_ex h
    refine ix_callV (As := [.ref (K.2.2.1 + b_8)]) (rest := []) (ci := 8) (T := TX9) (nf := 20) X mf_X9_openBoard mi_X9_openBoard ms_X9_openBoard rfl (Nat.le_of_ble_eq_true rfl) ml_RX11_266 ⟨Nat.le_of_ble_eq_true rfl, Nat.le_of_ble_eq_true rfl⟩ ⟨Nat.le_of_ble_eq_true rfl, Nat.le_of_ble_eq_true rfl⟩ rfl (Nat.le_of_ble_eq_true rfl) (ix_tb_at tb_X11_solve 11 rfl) ⟨k_12.1, List.mem_singleton.mp k_12.2⟩ (c_X9_openBoard hKp h_11) rfl (pc1 := 26) rfl ?_
    refine ix_aload_n (i := 0) (j := 0) X (ix_tb_at tb_X11_solve 12 rfl) rfl rfl (pc1 := 27) rfl ?_
    refine iz_getR X fl_RX11_41 k_5 q_7 (ix_tb_at tb_X11_solve 13 rfl) (pc1 := 30) rfl ?_
    refine ix_aload_n (i := 0) (j := 0) X (ix_tb_at tb_X11_solve 14 rfl) rfl rfl (pc1 := 31) rfl ?_
    refine iz_getR X fl_RX11_28 k_5 q_9 (ix_tb_at tb_X11_solve 15 rfl) (pc1 := 34) rfl ?_
    obtain ⟨k_13, h⟩ := ix_ck_some h
    obtain ⟨b_14, q_15, h⟩ := ix_bd1_ex h
    refine iz_getR X fl_RX11_195 k_13 q_15 (ix_tb_at tb_X11_solve 16 rfl) (pc1 := 37) rfl ?_
    obtain ⟨d_16, h_17, h⟩ := ix_bd1_ex h
    refine ix_callV (As := [.ref (K.2.2.1 + b_14)]) (rest := []) (ci := 8) (T := TX9) (nf := 20) X mf_X9_layAll mi_X9_layAll ms_X9_layAll rfl (Nat.le_of_ble_eq_true rfl) ml_RX11_270 ⟨Nat.le_of_ble_eq_true rfl, Nat.le_of_ble_eq_true rfl⟩ ⟨Nat.le_of_ble_eq_true rfl, Nat.le_of_ble_eq_true rfl⟩ rfl (Nat.le_of_ble_eq_true rfl) (ix_tb_at tb_X11_solve 17 rfl) ⟨k_12.1, List.mem_singleton.mp k_12.2⟩ (c_X9_layAll hKp h_17) rfl (pc1 := 40) rfl ?_
    refine ix_iconst (v := 0) X (ix_tb_at tb_X11_solve 18 rfl) (by decide) (pc1 := 41) rfl ?_
    refine ix_istore_n (i := 2) (L1 := [(2, .int 0), (0, .ref (K.2.2.1 + a0)), (1, .int x1)]) X (ix_tb_at tb_X11_solve 19 rfl) rfl (Nat.le_of_ble_eq_true rfl) rfl (pc1 := 42) rfl ?_
    refine ix_sub (L1 := [(0, .ref (K.2.2.1 + a0)), (1, .int x1), (2, .int 0)]) [1, 2, 0] rfl ?_
    exact t_X11_solve_42 hKp X hr hlk  h
  · have h := ix_ift q_4 h
    refine ix_aload_n (i := 0) (j := 0) X (ix_tb_at tb_X11_solve 3 rfl) rfl rfl (pc1 := 8) rfl ?_
    refine ix_sipush (v := (-1001)) X (ix_tb_at tb_X11_solve 4 rfl) (by decide) (pc1 := 11) rfl ?_
    obtain ⟨k_50, h⟩ := ix_ck_some h
    obtain ⟨r_51, d_48, h_49, h⟩ := ix_bd2_ex h
    refine ix_callV (As := [.int ((-1001))]) (rest := []) (ci := 10) (T := TX11) (nf := 18) X mf_X11_refuse mi_X11_refuse ms_X11_refuse rfl (Nat.le_of_ble_eq_true rfl) ml_RX11_73 ⟨Nat.le_of_ble_eq_true rfl, Nat.le_of_ble_eq_true rfl⟩ ⟨Nat.le_of_ble_eq_true rfl, Nat.le_of_ble_eq_true rfl⟩ rfl (Nat.le_of_ble_eq_true rfl) (ix_tb_at tb_X11_solve 5 rfl) ⟨k_50.1, List.mem_singleton.mp k_50.2⟩ (c_X11_refuse hKp h_49) rfl (pc1 := 14) rfl ?_
    exact ix_iret X hr hlk (ix_r2 (f := fun r => some (.int r)) (g := ix_w z) h) (ix_tb_at tb_X11_solve 6 rfl)
def tab_X11_goOn : List (Nat × Instr × Nat) := [(0, .iload_n 1, 1), (1, .invokestatic 263, 3), (4, .ifCond .ne 11, 3), (7, .aload_n 0, 1), (8, .sipush (-1001), 3), (11, .invokevirtual 73, 3), (14, .ireturn, 1), (15, .aload_n 0, 1), (16, .getfield 80, 3), (19, .ifCond .eq 18, 3), (22, .aload_n 0, 1), (23, .aload_n 0, 1), (24, .getfield 41, 3), (27, .iload_n 1, 1), (28, .invokevirtual 287, 3), (31, .invokevirtual 290, 3), (34, .goto 10, 3), (37, .aload_n 0, 1), (38, .sipush (-1002), 3), (41, .invokevirtual 73, 3), (44, .ireturn, 1)]
theorem tb_X11_goOn : ix_tab cX11_goOn tab_X11_goOn := by
  unfold ix_tab
  decide +kernel
noncomputable def f_X11_goOn (n : Nat) (z : ix_Z) (a0 : Nat) (x1 : Int32) (d : ix_D2) : Option (Int32 × ix_D2) :=
  ix_bd2 (f_X11_areSteps n z x1 d) (fun r_3 d_1 => ix_if (r_3 = 0) (ix_ck (ix_ok z [10] a0) (ix_bd2 (f_X11_refuse n z a0 ((-1001)) d_1) (fun r_22 d_19 => some (r_22, d_19)))) (ix_ck (ix_ok z [10] a0) (ix_if (d_1.1 a0 14 = 0) (ix_bd2 (f_X11_refuse n z a0 ((-1002)) d_1) (fun r_9 d_7 => some (r_9, d_7))) (ix_bd1 (z.1 a0 6) (fun b_10 => ix_ck (ix_ok z [8] b_10) (ix_bd2 (f_X9_go n z b_10 x1 d_1) (fun r_15 d_12 => ix_bd2 (f_X11_heed n z a0 r_15 d_12) (fun r_18 d_16 => some (r_18, d_16)))))))))
set_option maxRecDepth 20000 in
theorem c_X11_goOn {l : Launch} {K : ix_Cx} (hKp : ix_Kp K) {n : Nat} {z : ix_Z} {a0 : Nat} {x1 : Int32} {d : ix_D2} {r : Int32} {d1 : ix_D2} (h : f_X11_goOn n z a0 x1 d = some (r, d1)) : ix_M l K yX11_goOn cX11_goOn 2 (some .int) 6 145 0 0 [.ref (K.2.2.1 + a0), .int x1] (ix_w z d) (some (.int r)) (ix_w z d1) := by
  refine ix_met mf_X11_goOn hKp (Nat.le_of_ble_eq_true rfl) ?_
  intro p e s m args below meth c hr hlk hnm X
  have X : ix_X p s m args c K cX11_goOn RX11 2 := X
  show ix_G p l e (ix_rm 6 145 0 0) s m args below meth c (MQ below (ix_Post K (some (.int r)) (ix_w z d1)) args s 0 0 (ix_A K)) K 2 0 0 0 [(0, .ref (K.2.2.1 + a0)), (1, .int x1)] [] (ix_w z d)
  unfold f_X11_goOn at h
  refine ix_iload_n (i := 1) (j := 1) X (ix_tb_at tb_X11_goOn 0 rfl) rfl rfl (pc1 := 1) rfl ?_
  obtain ⟨r_3, d_1, h_2, h⟩ := ix_bd2_ex h
  refine ix_callS (As := [.int x1]) (rest := []) X mf_X11_areSteps st_X11_areSteps ml_RX11_263 ⟨Nat.le_of_ble_eq_true rfl, Nat.le_of_ble_eq_true rfl⟩ ⟨Nat.le_of_ble_eq_true rfl, Nat.le_of_ble_eq_true rfl⟩ rfl (Nat.le_of_ble_eq_true rfl) (ix_tb_at tb_X11_goOn 1 rfl) (c_X11_areSteps hKp h_2) rfl (pc1 := 4) rfl ?_
  refine ix_if_ne (tgt := 15) X (ix_tb_at tb_X11_goOn 2 rfl) (by decide) (pc1 := 7) rfl (fun q_4 => ?_) (fun q_4 => ?_)
  · have h := ix_iff q_4 h
    refine ix_aload_n (i := 0) (j := 0) X (ix_tb_at tb_X11_goOn 7 rfl) rfl rfl (pc1 := 16) rfl ?_
    obtain ⟨k_5, h⟩ := ix_ck_some h
    refine iz_getI X fl_RX11_80 k_5 (ix_tb_at tb_X11_goOn 8 rfl) (pc1 := 19) rfl ?_
    refine ix_if_eq (tgt := 37) X (ix_tb_at tb_X11_goOn 9 rfl) (by decide) (pc1 := 22) rfl (fun q_6 => ?_) (fun q_6 => ?_)
    · have h := ix_ift q_6 h
      refine ix_aload_n (i := 0) (j := 0) X (ix_tb_at tb_X11_goOn 17 rfl) rfl rfl (pc1 := 38) rfl ?_
      refine ix_sipush (v := (-1002)) X (ix_tb_at tb_X11_goOn 18 rfl) (by decide) (pc1 := 41) rfl ?_
      obtain ⟨r_9, d_7, h_8, h⟩ := ix_bd2_ex h
      refine ix_callV (As := [.int ((-1002))]) (rest := []) (ci := 10) (T := TX11) (nf := 18) X mf_X11_refuse mi_X11_refuse ms_X11_refuse rfl (Nat.le_of_ble_eq_true rfl) ml_RX11_73 ⟨Nat.le_of_ble_eq_true rfl, Nat.le_of_ble_eq_true rfl⟩ ⟨Nat.le_of_ble_eq_true rfl, Nat.le_of_ble_eq_true rfl⟩ rfl (Nat.le_of_ble_eq_true rfl) (ix_tb_at tb_X11_goOn 19 rfl) ⟨k_5.1, List.mem_singleton.mp k_5.2⟩ (c_X11_refuse hKp h_8) rfl (pc1 := 44) rfl ?_
      exact ix_iret X hr hlk (ix_r2 (f := fun r => some (.int r)) (g := ix_w z) h) (ix_tb_at tb_X11_goOn 20 rfl)
    · have h := ix_iff q_6 h
      refine ix_aload_n (i := 0) (j := 0) X (ix_tb_at tb_X11_goOn 10 rfl) rfl rfl (pc1 := 23) rfl ?_
      refine ix_aload_n (i := 0) (j := 0) X (ix_tb_at tb_X11_goOn 11 rfl) rfl rfl (pc1 := 24) rfl ?_
      obtain ⟨b_10, q_11, h⟩ := ix_bd1_ex h
      refine iz_getR X fl_RX11_41 k_5 q_11 (ix_tb_at tb_X11_goOn 12 rfl) (pc1 := 27) rfl ?_
      refine ix_iload_n (i := 1) (j := 1) X (ix_tb_at tb_X11_goOn 13 rfl) rfl rfl (pc1 := 28) rfl ?_
      obtain ⟨k_14, h⟩ := ix_ck_some h
      obtain ⟨r_15, d_12, h_13, h⟩ := ix_bd2_ex h
      refine ix_callV (As := [.int x1]) (rest := [.ref (K.2.2.1 + a0)]) (ci := 8) (T := TX9) (nf := 20) X mf_X9_go mi_X9_go ms_X9_go rfl (Nat.le_of_ble_eq_true rfl) ml_RX11_287 ⟨Nat.le_of_ble_eq_true rfl, Nat.le_of_ble_eq_true rfl⟩ ⟨Nat.le_of_ble_eq_true rfl, Nat.le_of_ble_eq_true rfl⟩ rfl (Nat.le_of_ble_eq_true rfl) (ix_tb_at tb_X11_goOn 14 rfl) ⟨k_14.1, List.mem_singleton.mp k_14.2⟩ (c_X9_go hKp h_13) rfl (pc1 := 31) rfl ?_
      obtain ⟨r_18, d_16, h_17, h⟩ := ix_bd2_ex h
      refine ix_callV (As := [.int r_15]) (rest := []) (ci := 10) (T := TX11) (nf := 18) X mf_X11_heed mi_X11_heed ms_X11_heed rfl (Nat.le_of_ble_eq_true rfl) ml_RX11_290 ⟨Nat.le_of_ble_eq_true rfl, Nat.le_of_ble_eq_true rfl⟩ ⟨Nat.le_of_ble_eq_true rfl, Nat.le_of_ble_eq_true rfl⟩ rfl (Nat.le_of_ble_eq_true rfl) (ix_tb_at tb_X11_goOn 15 rfl) ⟨k_5.1, List.mem_singleton.mp k_5.2⟩ (c_X11_heed hKp h_17) rfl (pc1 := 34) rfl ?_
      refine ix_goto (tgt := 44) X (ix_tb_at tb_X11_goOn 16 rfl) (by decide) ?_
      exact ix_iret X hr hlk (ix_r2 (f := fun r => some (.int r)) (g := ix_w z) h) (ix_tb_at tb_X11_goOn 20 rfl)
  · have h := ix_ift q_4 h
    refine ix_aload_n (i := 0) (j := 0) X (ix_tb_at tb_X11_goOn 3 rfl) rfl rfl (pc1 := 8) rfl ?_
    refine ix_sipush (v := (-1001)) X (ix_tb_at tb_X11_goOn 4 rfl) (by decide) (pc1 := 11) rfl ?_
    obtain ⟨k_21, h⟩ := ix_ck_some h
    obtain ⟨r_22, d_19, h_20, h⟩ := ix_bd2_ex h
    refine ix_callV (As := [.int ((-1001))]) (rest := []) (ci := 10) (T := TX11) (nf := 18) X mf_X11_refuse mi_X11_refuse ms_X11_refuse rfl (Nat.le_of_ble_eq_true rfl) ml_RX11_73 ⟨Nat.le_of_ble_eq_true rfl, Nat.le_of_ble_eq_true rfl⟩ ⟨Nat.le_of_ble_eq_true rfl, Nat.le_of_ble_eq_true rfl⟩ rfl (Nat.le_of_ble_eq_true rfl) (ix_tb_at tb_X11_goOn 5 rfl) ⟨k_21.1, List.mem_singleton.mp k_21.2⟩ (c_X11_refuse hKp h_20) rfl (pc1 := 14) rfl ?_
    exact ix_iret X hr hlk (ix_r2 (f := fun r => some (.int r)) (g := ix_w z) h) (ix_tb_at tb_X11_goOn 6 rfl)
def tab_X11_truth : List (Nat × Instr × Nat) := [(0, .aload_n 0, 1), (1, .iload_n 1, 1), (2, .invokevirtual 247, 3), (5, .ifCond .ne 11, 3), (8, .aload_n 0, 1), (9, .sipush (-1001), 3), (12, .invokevirtual 73, 3), (15, .ireturn, 1), (16, .aload_n 0, 1), (17, .invokevirtual 196, 3), (20, .ifCond .ne 11, 3), (23, .aload_n 0, 1), (24, .sipush (-1002), 3), (27, .invokevirtual 73, 3), (30, .ireturn, 1), (31, .iload_n 1, 1), (32, .aload_n 0, 1), (33, .getfield 41, 3), (36, .getfield 177, 3), (39, .getfield 253, 3), (42, .if_icmp .le 7, 3), (45, .sipush (-1005), 3), (48, .ireturn, 1), (49, .aload_n 0, 1), (50, .getfield 41, 3), (53, .getfield 177, 3), (56, .iload_n 1, 1), (57, .invokevirtual 293, 3), (60, .ifCond .eq 7, 3), (63, .iconst 1, 1), (64, .goto 4, 3), (67, .iconst 0, 1), (68, .ireturn, 1)]
theorem tb_X11_truth : ix_tab cX11_truth tab_X11_truth := by
  unfold ix_tab
  decide +kernel
noncomputable def f_X11_truth (n : Nat) (z : ix_Z) (a0 : Nat) (x1 : Int32) (d : ix_D2) : Option (Int32 × ix_D2) :=
  ix_ck (ix_ok z [10] a0) (ix_bd2 (f_X11_isName n z a0 x1 d) (fun r_4 d_1 => ix_if (r_4 = 0) (ix_bd2 (f_X11_refuse n z a0 ((-1001)) d_1) (fun r_26 d_24 => some (r_26, d_24))) (ix_bd2 (f_X11_saidYes n z a0 d_1) (fun r_8 d_6 => ix_if (r_8 = 0) (ix_bd2 (f_X11_refuse n z a0 ((-1002)) d_6) (fun r_23 d_21 => some (r_23, d_21))) (ix_bd1 (z.1 a0 6) (fun b_10 => ix_ck (ix_ok z [8] b_10) (ix_bd1 (z.1 b_10 0) (fun b_13 => ix_ck (ix_ok z [1] b_13) (ix_if (x1 ≤ d_6.1 b_13 14) (ix_bd2 (f_X1_isTrue n z b_13 x1 d_6) (fun r_19 d_17 => ix_if (r_19 = 0) (some (0, d_17)) (some (1, d_17)))) (some ((-1005), d_6)))))))))))
set_option maxRecDepth 20000 in
theorem c_X11_truth {l : Launch} {K : ix_Cx} (hKp : ix_Kp K) {n : Nat} {z : ix_Z} {a0 : Nat} {x1 : Int32} {d : ix_D2} {r : Int32} {d1 : ix_D2} (h : f_X11_truth n z a0 x1 d = some (r, d1)) : ix_M l K yX11_truth cX11_truth 2 (some .int) 2 42 0 0 [.ref (K.2.2.1 + a0), .int x1] (ix_w z d) (some (.int r)) (ix_w z d1) := by
  refine ix_met mf_X11_truth hKp (Nat.le_of_ble_eq_true rfl) ?_
  intro p e s m args below meth c hr hlk hnm X
  have X : ix_X p s m args c K cX11_truth RX11 2 := X
  show ix_G p l e (ix_rm 2 42 0 0) s m args below meth c (MQ below (ix_Post K (some (.int r)) (ix_w z d1)) args s 0 0 (ix_A K)) K 2 0 0 0 [(0, .ref (K.2.2.1 + a0)), (1, .int x1)] [] (ix_w z d)
  unfold f_X11_truth at h
  refine ix_aload_n (i := 0) (j := 0) X (ix_tb_at tb_X11_truth 0 rfl) rfl rfl (pc1 := 1) rfl ?_
  refine ix_iload_n (i := 1) (j := 1) X (ix_tb_at tb_X11_truth 1 rfl) rfl rfl (pc1 := 2) rfl ?_
  obtain ⟨k_3, h⟩ := ix_ck_some h
  obtain ⟨r_4, d_1, h_2, h⟩ := ix_bd2_ex h
  refine ix_callV (As := [.int x1]) (rest := []) (ci := 10) (T := TX11) (nf := 18) X mf_X11_isName mi_X11_isName ms_X11_isName rfl (Nat.le_of_ble_eq_true rfl) ml_RX11_247 ⟨Nat.le_of_ble_eq_true rfl, Nat.le_of_ble_eq_true rfl⟩ ⟨Nat.le_of_ble_eq_true rfl, Nat.le_of_ble_eq_true rfl⟩ rfl (Nat.le_of_ble_eq_true rfl) (ix_tb_at tb_X11_truth 2 rfl) ⟨k_3.1, List.mem_singleton.mp k_3.2⟩ (c_X11_isName hKp h_2) rfl (pc1 := 5) rfl ?_
  refine ix_if_ne (tgt := 16) X (ix_tb_at tb_X11_truth 3 rfl) (by decide) (pc1 := 8) rfl (fun q_5 => ?_) (fun q_5 => ?_)
  · have h := ix_iff q_5 h
    refine ix_aload_n (i := 0) (j := 0) X (ix_tb_at tb_X11_truth 8 rfl) rfl rfl (pc1 := 17) rfl ?_
    obtain ⟨r_8, d_6, h_7, h⟩ := ix_bd2_ex h
    refine ix_callV (As := []) (rest := []) (ci := 10) (T := TX11) (nf := 18) X mf_X11_saidYes mi_X11_saidYes ms_X11_saidYes rfl (Nat.le_of_ble_eq_true rfl) ml_RX11_196 ⟨Nat.le_of_ble_eq_true rfl, Nat.le_of_ble_eq_true rfl⟩ ⟨Nat.le_of_ble_eq_true rfl, Nat.le_of_ble_eq_true rfl⟩ rfl (Nat.le_of_ble_eq_true rfl) (ix_tb_at tb_X11_truth 9 rfl) ⟨k_3.1, List.mem_singleton.mp k_3.2⟩ (c_X11_saidYes hKp h_7) rfl (pc1 := 20) rfl ?_
    refine ix_if_ne (tgt := 31) X (ix_tb_at tb_X11_truth 10 rfl) (by decide) (pc1 := 23) rfl (fun q_9 => ?_) (fun q_9 => ?_)
    · have h := ix_iff q_9 h
      refine ix_iload_n (i := 1) (j := 1) X (ix_tb_at tb_X11_truth 15 rfl) rfl rfl (pc1 := 32) rfl ?_
      refine ix_aload_n (i := 0) (j := 0) X (ix_tb_at tb_X11_truth 16 rfl) rfl rfl (pc1 := 33) rfl ?_
      obtain ⟨b_10, q_11, h⟩ := ix_bd1_ex h
      refine iz_getR X fl_RX11_41 k_3 q_11 (ix_tb_at tb_X11_truth 17 rfl) (pc1 := 36) rfl ?_
      obtain ⟨k_12, h⟩ := ix_ck_some h
      obtain ⟨b_13, q_14, h⟩ := ix_bd1_ex h
      refine iz_getR X fl_RX11_177 k_12 q_14 (ix_tb_at tb_X11_truth 18 rfl) (pc1 := 39) rfl ?_
      obtain ⟨k_15, h⟩ := ix_ck_some h
      refine iz_getI X fl_RX11_253 k_15 (ix_tb_at tb_X11_truth 19 rfl) (pc1 := 42) rfl ?_
      refine ix_icmp_le (tgt := 49) X (ix_tb_at tb_X11_truth 20 rfl) (by decide) (pc1 := 45) rfl (fun q_16 => ?_) (fun q_16 => ?_)
      · have h := ix_ift q_16 h
        refine ix_aload_n (i := 0) (j := 0) X (ix_tb_at tb_X11_truth 23 rfl) rfl rfl (pc1 := 50) rfl ?_
        refine iz_getR X fl_RX11_41 k_3 q_11 (ix_tb_at tb_X11_truth 24 rfl) (pc1 := 53) rfl ?_
        refine iz_getR X fl_RX11_177 k_12 q_14 (ix_tb_at tb_X11_truth 25 rfl) (pc1 := 56) rfl ?_
        refine ix_iload_n (i := 1) (j := 1) X (ix_tb_at tb_X11_truth 26 rfl) rfl rfl (pc1 := 57) rfl ?_
        obtain ⟨r_19, d_17, h_18, h⟩ := ix_bd2_ex h
        refine ix_callV (As := [.int x1]) (rest := []) (ci := 1) (T := TX1) (nf := 17) X mf_X1_isTrue mi_X1_isTrue ms_X1_isTrue rfl (Nat.le_of_ble_eq_true rfl) ml_RX11_293 ⟨Nat.le_of_ble_eq_true rfl, Nat.le_of_ble_eq_true rfl⟩ ⟨Nat.le_of_ble_eq_true rfl, Nat.le_of_ble_eq_true rfl⟩ rfl (Nat.le_of_ble_eq_true rfl) (ix_tb_at tb_X11_truth 27 rfl) ⟨k_15.1, List.mem_singleton.mp k_15.2⟩ (c_X1_isTrue hKp h_18) rfl (pc1 := 60) rfl ?_
        refine ix_if_eq (tgt := 67) X (ix_tb_at tb_X11_truth 28 rfl) (by decide) (pc1 := 63) rfl (fun q_20 => ?_) (fun q_20 => ?_)
        · have h := ix_ift q_20 h
          refine ix_iconst (v := 0) X (ix_tb_at tb_X11_truth 31 rfl) (by decide) (pc1 := 68) rfl ?_
          exact ix_iret X hr hlk (ix_r2 (f := fun r => some (.int r)) (g := ix_w z) h) (ix_tb_at tb_X11_truth 32 rfl)
        · have h := ix_iff q_20 h
          refine ix_iconst (v := 1) X (ix_tb_at tb_X11_truth 29 rfl) (by decide) (pc1 := 64) rfl ?_
          refine ix_goto (tgt := 68) X (ix_tb_at tb_X11_truth 30 rfl) (by decide) ?_
          exact ix_iret X hr hlk (ix_r2 (f := fun r => some (.int r)) (g := ix_w z) h) (ix_tb_at tb_X11_truth 32 rfl)
      · have h := ix_iff q_16 h
        refine ix_sipush (v := (-1005)) X (ix_tb_at tb_X11_truth 21 rfl) (by decide) (pc1 := 48) rfl ?_
        exact ix_iret X hr hlk (ix_r2 (f := fun r => some (.int r)) (g := ix_w z) h) (ix_tb_at tb_X11_truth 22 rfl)
    · have h := ix_ift q_9 h
      refine ix_aload_n (i := 0) (j := 0) X (ix_tb_at tb_X11_truth 11 rfl) rfl rfl (pc1 := 24) rfl ?_
      refine ix_sipush (v := (-1002)) X (ix_tb_at tb_X11_truth 12 rfl) (by decide) (pc1 := 27) rfl ?_
      obtain ⟨r_23, d_21, h_22, h⟩ := ix_bd2_ex h
      refine ix_callV (As := [.int ((-1002))]) (rest := []) (ci := 10) (T := TX11) (nf := 18) X mf_X11_refuse mi_X11_refuse ms_X11_refuse rfl (Nat.le_of_ble_eq_true rfl) ml_RX11_73 ⟨Nat.le_of_ble_eq_true rfl, Nat.le_of_ble_eq_true rfl⟩ ⟨Nat.le_of_ble_eq_true rfl, Nat.le_of_ble_eq_true rfl⟩ rfl (Nat.le_of_ble_eq_true rfl) (ix_tb_at tb_X11_truth 13 rfl) ⟨k_3.1, List.mem_singleton.mp k_3.2⟩ (c_X11_refuse hKp h_22) rfl (pc1 := 30) rfl ?_
      exact ix_iret X hr hlk (ix_r2 (f := fun r => some (.int r)) (g := ix_w z) h) (ix_tb_at tb_X11_truth 14 rfl)
  · have h := ix_ift q_5 h
    refine ix_aload_n (i := 0) (j := 0) X (ix_tb_at tb_X11_truth 4 rfl) rfl rfl (pc1 := 9) rfl ?_
    refine ix_sipush (v := (-1001)) X (ix_tb_at tb_X11_truth 5 rfl) (by decide) (pc1 := 12) rfl ?_
    obtain ⟨r_26, d_24, h_25, h⟩ := ix_bd2_ex h
    refine ix_callV (As := [.int ((-1001))]) (rest := []) (ci := 10) (T := TX11) (nf := 18) X mf_X11_refuse mi_X11_refuse ms_X11_refuse rfl (Nat.le_of_ble_eq_true rfl) ml_RX11_73 ⟨Nat.le_of_ble_eq_true rfl, Nat.le_of_ble_eq_true rfl⟩ ⟨Nat.le_of_ble_eq_true rfl, Nat.le_of_ble_eq_true rfl⟩ rfl (Nat.le_of_ble_eq_true rfl) (ix_tb_at tb_X11_truth 6 rfl) ⟨k_3.1, List.mem_singleton.mp k_3.2⟩ (c_X11_refuse hKp h_25) rfl (pc1 := 15) rfl ?_
    exact ix_iret X hr hlk (ix_r2 (f := fun r => some (.int r)) (g := ix_w z) h) (ix_tb_at tb_X11_truth 7 rfl)
def tab_X11_solved : List (Nat × Instr × Nat) := [(0, .iload_n 1, 1), (1, .ifCond .lt 9, 3), (4, .iload_n 1, 1), (5, .bipush 9, 2), (7, .if_icmp .le 13, 3), (10, .aload_n 0, 1), (11, .sipush (-1001), 3), (14, .invokevirtual 73, 3), (17, .goto 12, 3), (20, .aload_n 0, 1), (21, .getfield 41, 3), (24, .getfield 174, 3), (27, .iload_n 1, 1), (28, .iaload, 1), (29, .ireturn, 1)]
theorem tb_X11_solved : ix_tab cX11_solved tab_X11_solved := by
  unfold ix_tab
  decide +kernel
noncomputable def f_X11_solved_10 (n : Nat) (z : ix_Z)  (a0 : Nat) (d : ix_D2) : Option (Int32 × ix_D2) :=
  ix_ck (ix_ok z [10] a0) (ix_bd2 (f_X11_refuse n z a0 ((-1001)) d) (fun r_5 d_2 => some (r_5, d_2)))
noncomputable def f_X11_solved (n : Nat) (z : ix_Z) (a0 : Nat) (x1 : Int32) (d : ix_D2) : Option (Int32 × ix_D2) :=
  ix_if (x1 < 0) (f_X11_solved_10 n z  a0 d) (ix_if (x1 ≤ 9) (ix_ck (ix_ok z [10] a0) (ix_bd1 (z.1 a0 6) (fun b_8 => ix_ck (ix_ok z [8] b_8) (ix_bd1 (z.1 b_8 10) (fun b_11 => ix_ck (ix_ix z 20 b_11 x1) (some (d.1 b_11 (ix_n x1), d))))))) (f_X11_solved_10 n z  a0 d))
set_option maxRecDepth 20000 in
theorem t_X11_solved_10 {l : Launch} {p : Program} {e : Env} {s : State} {m : MethodId} {args : Array Value} {below : List Frame} {meth : Method} {c : Code} {K : ix_Cx} (hKp : ix_Kp K) {n : Nat} {z : ix_Z} (X : ix_X p s m args c K cX11_solved RX11 2) (hr : meth.sig.returnType = (some .int)) (hlk : meth.locks = false)  {a0 : Nat} {r : Int32} {d1 : ix_D2}  {d : ix_D2} (h : f_X11_solved_10 n z  a0 d = some (r, d1)) : ix_G p l e (ix_rm 1 21 0 0) s m args below meth c (MQ below (ix_Post K (some (.int r)) (ix_w z d1)) args s 0 0 (ix_A K)) K 2 0 0 10 [(0, .ref (K.2.2.1 + a0))] [] (ix_w z d) := by
  unfold f_X11_solved_10 at h
  refine ix_aload_n (i := 0) (j := 0) X (ix_tb_at tb_X11_solved 5 rfl) rfl rfl (pc1 := 11) rfl ?_
  refine ix_sipush (v := (-1001)) X (ix_tb_at tb_X11_solved 6 rfl) (by decide) (pc1 := 14) rfl ?_
  obtain ⟨k_4, h⟩ := ix_ck_some h
  obtain ⟨r_5, d_2, h_3, h⟩ := ix_bd2_ex h
  refine ix_callV (As := [.int ((-1001))]) (rest := []) (ci := 10) (T := TX11) (nf := 18) X mf_X11_refuse mi_X11_refuse ms_X11_refuse rfl (Nat.le_of_ble_eq_true rfl) ml_RX11_73 ⟨Nat.le_of_ble_eq_true rfl, Nat.le_of_ble_eq_true rfl⟩ ⟨Nat.le_of_ble_eq_true rfl, Nat.le_of_ble_eq_true rfl⟩ rfl (Nat.le_of_ble_eq_true rfl) (ix_tb_at tb_X11_solved 7 rfl) ⟨k_4.1, List.mem_singleton.mp k_4.2⟩ (c_X11_refuse hKp h_3) rfl (pc1 := 17) rfl ?_
  refine ix_goto (tgt := 29) X (ix_tb_at tb_X11_solved 8 rfl) (by decide) ?_
  exact ix_iret X hr hlk (ix_r2 (f := fun r => some (.int r)) (g := ix_w z) h) (ix_tb_at tb_X11_solved 14 rfl)
set_option maxRecDepth 20000 in
theorem c_X11_solved {l : Launch} {K : ix_Cx} (hKp : ix_Kp K) {n : Nat} {z : ix_Z} {a0 : Nat} {x1 : Int32} {d : ix_D2} {r : Int32} {d1 : ix_D2} (h : f_X11_solved n z a0 x1 d = some (r, d1)) : ix_M l K yX11_solved cX11_solved 2 (some .int) 1 21 0 0 [.ref (K.2.2.1 + a0), .int x1] (ix_w z d) (some (.int r)) (ix_w z d1) := by
  refine ix_met mf_X11_solved hKp (Nat.le_of_ble_eq_true rfl) ?_
  intro p e s m args below meth c hr hlk hnm X
  have X : ix_X p s m args c K cX11_solved RX11 2 := X
  show ix_G p l e (ix_rm 1 21 0 0) s m args below meth c (MQ below (ix_Post K (some (.int r)) (ix_w z d1)) args s 0 0 (ix_A K)) K 2 0 0 0 [(0, .ref (K.2.2.1 + a0)), (1, .int x1)] [] (ix_w z d)
  unfold f_X11_solved at h
  refine ix_iload_n (i := 1) (j := 1) X (ix_tb_at tb_X11_solved 0 rfl) rfl rfl (pc1 := 1) rfl ?_
  refine ix_if_lt (tgt := 10) X (ix_tb_at tb_X11_solved 1 rfl) (by decide) (pc1 := 4) rfl (fun q_1 => ?_) (fun q_1 => ?_)
  · have h := ix_ift q_1 h
    refine ix_sub (L1 := [(0, .ref (K.2.2.1 + a0))]) [0] rfl ?_
    exact t_X11_solved_10 hKp X hr hlk  h
  · have h := ix_iff q_1 h
    refine ix_iload_n (i := 1) (j := 1) X (ix_tb_at tb_X11_solved 2 rfl) rfl rfl (pc1 := 5) rfl ?_
    refine ix_bipush (v := 9) X (ix_tb_at tb_X11_solved 3 rfl) (by decide) (pc1 := 7) rfl ?_
    refine ix_icmp_le (tgt := 20) X (ix_tb_at tb_X11_solved 4 rfl) (by decide) (pc1 := 10) rfl (fun q_6 => ?_) (fun q_6 => ?_)
    · have h := ix_ift q_6 h
      refine ix_aload_n (i := 0) (j := 0) X (ix_tb_at tb_X11_solved 9 rfl) rfl rfl (pc1 := 21) rfl ?_
      obtain ⟨k_7, h⟩ := ix_ck_some h
      obtain ⟨b_8, q_9, h⟩ := ix_bd1_ex h
      refine iz_getR X fl_RX11_41 k_7 q_9 (ix_tb_at tb_X11_solved 10 rfl) (pc1 := 24) rfl ?_
      obtain ⟨k_10, h⟩ := ix_ck_some h
      obtain ⟨b_11, q_12, h⟩ := ix_bd1_ex h
      refine iz_getR X fl_RX11_174 k_10 q_12 (ix_tb_at tb_X11_solved 11 rfl) (pc1 := 27) rfl ?_
      refine ix_iload_n (i := 1) (j := 1) X (ix_tb_at tb_X11_solved 12 rfl) rfl rfl (pc1 := 28) rfl ?_
      obtain ⟨k_13, h⟩ := ix_ck_some h
      refine iz_iald X k_13 (ix_tb_at tb_X11_solved 13 rfl) (pc1 := 29) rfl ?_
      exact ix_iret X hr hlk (ix_r2 (f := fun r => some (.int r)) (g := ix_w z) h) (ix_tb_at tb_X11_solved 14 rfl)
    · have h := ix_iff q_6 h
      refine ix_sub (L1 := [(0, .ref (K.2.2.1 + a0))]) [0] rfl ?_
      exact t_X11_solved_10 hKp X hr hlk  h
def tab_X11_quarrel : List (Nat × Instr × Nat) := [(0, .iload_n 1, 1), (1, .ifCond .lt 8, 3), (4, .iload_n 1, 1), (5, .iconst 4, 1), (6, .if_icmp .le 13, 3), (9, .aload_n 0, 1), (10, .sipush (-1001), 3), (13, .invokevirtual 73, 3), (16, .goto 12, 3), (19, .aload_n 0, 1), (20, .getfield 41, 3), (23, .getfield 296, 3), (26, .iload_n 1, 1), (27, .iaload, 1), (28, .ireturn, 1)]
theorem tb_X11_quarrel : ix_tab cX11_quarrel tab_X11_quarrel := by
  unfold ix_tab
  decide +kernel
noncomputable def f_X11_quarrel_9 (n : Nat) (z : ix_Z)  (a0 : Nat) (d : ix_D2) : Option (Int32 × ix_D2) :=
  ix_ck (ix_ok z [10] a0) (ix_bd2 (f_X11_refuse n z a0 ((-1001)) d) (fun r_5 d_2 => some (r_5, d_2)))
noncomputable def f_X11_quarrel (n : Nat) (z : ix_Z) (a0 : Nat) (x1 : Int32) (d : ix_D2) : Option (Int32 × ix_D2) :=
  ix_if (x1 < 0) (f_X11_quarrel_9 n z  a0 d) (ix_if (x1 ≤ 4) (ix_ck (ix_ok z [10] a0) (ix_bd1 (z.1 a0 6) (fun b_8 => ix_ck (ix_ok z [8] b_8) (ix_bd1 (z.1 b_8 11) (fun b_11 => ix_ck (ix_ix z 20 b_11 x1) (some (d.1 b_11 (ix_n x1), d))))))) (f_X11_quarrel_9 n z  a0 d))
set_option maxRecDepth 20000 in
theorem t_X11_quarrel_9 {l : Launch} {p : Program} {e : Env} {s : State} {m : MethodId} {args : Array Value} {below : List Frame} {meth : Method} {c : Code} {K : ix_Cx} (hKp : ix_Kp K) {n : Nat} {z : ix_Z} (X : ix_X p s m args c K cX11_quarrel RX11 2) (hr : meth.sig.returnType = (some .int)) (hlk : meth.locks = false)  {a0 : Nat} {r : Int32} {d1 : ix_D2}  {d : ix_D2} (h : f_X11_quarrel_9 n z  a0 d = some (r, d1)) : ix_G p l e (ix_rm 1 21 0 0) s m args below meth c (MQ below (ix_Post K (some (.int r)) (ix_w z d1)) args s 0 0 (ix_A K)) K 2 0 0 9 [(0, .ref (K.2.2.1 + a0))] [] (ix_w z d) := by
  unfold f_X11_quarrel_9 at h
  refine ix_aload_n (i := 0) (j := 0) X (ix_tb_at tb_X11_quarrel 5 rfl) rfl rfl (pc1 := 10) rfl ?_
  refine ix_sipush (v := (-1001)) X (ix_tb_at tb_X11_quarrel 6 rfl) (by decide) (pc1 := 13) rfl ?_
  obtain ⟨k_4, h⟩ := ix_ck_some h
  obtain ⟨r_5, d_2, h_3, h⟩ := ix_bd2_ex h
  refine ix_callV (As := [.int ((-1001))]) (rest := []) (ci := 10) (T := TX11) (nf := 18) X mf_X11_refuse mi_X11_refuse ms_X11_refuse rfl (Nat.le_of_ble_eq_true rfl) ml_RX11_73 ⟨Nat.le_of_ble_eq_true rfl, Nat.le_of_ble_eq_true rfl⟩ ⟨Nat.le_of_ble_eq_true rfl, Nat.le_of_ble_eq_true rfl⟩ rfl (Nat.le_of_ble_eq_true rfl) (ix_tb_at tb_X11_quarrel 7 rfl) ⟨k_4.1, List.mem_singleton.mp k_4.2⟩ (c_X11_refuse hKp h_3) rfl (pc1 := 16) rfl ?_
  refine ix_goto (tgt := 28) X (ix_tb_at tb_X11_quarrel 8 rfl) (by decide) ?_
  exact ix_iret X hr hlk (ix_r2 (f := fun r => some (.int r)) (g := ix_w z) h) (ix_tb_at tb_X11_quarrel 14 rfl)
set_option maxRecDepth 20000 in
theorem c_X11_quarrel {l : Launch} {K : ix_Cx} (hKp : ix_Kp K) {n : Nat} {z : ix_Z} {a0 : Nat} {x1 : Int32} {d : ix_D2} {r : Int32} {d1 : ix_D2} (h : f_X11_quarrel n z a0 x1 d = some (r, d1)) : ix_M l K yX11_quarrel cX11_quarrel 2 (some .int) 1 21 0 0 [.ref (K.2.2.1 + a0), .int x1] (ix_w z d) (some (.int r)) (ix_w z d1) := by
  refine ix_met mf_X11_quarrel hKp (Nat.le_of_ble_eq_true rfl) ?_
  intro p e s m args below meth c hr hlk hnm X
  have X : ix_X p s m args c K cX11_quarrel RX11 2 := X
  show ix_G p l e (ix_rm 1 21 0 0) s m args below meth c (MQ below (ix_Post K (some (.int r)) (ix_w z d1)) args s 0 0 (ix_A K)) K 2 0 0 0 [(0, .ref (K.2.2.1 + a0)), (1, .int x1)] [] (ix_w z d)
  unfold f_X11_quarrel at h
  refine ix_iload_n (i := 1) (j := 1) X (ix_tb_at tb_X11_quarrel 0 rfl) rfl rfl (pc1 := 1) rfl ?_
  refine ix_if_lt (tgt := 9) X (ix_tb_at tb_X11_quarrel 1 rfl) (by decide) (pc1 := 4) rfl (fun q_1 => ?_) (fun q_1 => ?_)
  · have h := ix_ift q_1 h
    refine ix_sub (L1 := [(0, .ref (K.2.2.1 + a0))]) [0] rfl ?_
    exact t_X11_quarrel_9 hKp X hr hlk  h
  · have h := ix_iff q_1 h
    refine ix_iload_n (i := 1) (j := 1) X (ix_tb_at tb_X11_quarrel 2 rfl) rfl rfl (pc1 := 5) rfl ?_
    refine ix_iconst (v := 4) X (ix_tb_at tb_X11_quarrel 3 rfl) (by decide) (pc1 := 6) rfl ?_
    refine ix_icmp_le (tgt := 19) X (ix_tb_at tb_X11_quarrel 4 rfl) (by decide) (pc1 := 9) rfl (fun q_6 => ?_) (fun q_6 => ?_)
    · have h := ix_ift q_6 h
      refine ix_aload_n (i := 0) (j := 0) X (ix_tb_at tb_X11_quarrel 9 rfl) rfl rfl (pc1 := 20) rfl ?_
      obtain ⟨k_7, h⟩ := ix_ck_some h
      obtain ⟨b_8, q_9, h⟩ := ix_bd1_ex h
      refine iz_getR X fl_RX11_41 k_7 q_9 (ix_tb_at tb_X11_quarrel 10 rfl) (pc1 := 23) rfl ?_
      obtain ⟨k_10, h⟩ := ix_ck_some h
      obtain ⟨b_11, q_12, h⟩ := ix_bd1_ex h
      refine iz_getR X fl_RX11_296 k_10 q_12 (ix_tb_at tb_X11_quarrel 11 rfl) (pc1 := 26) rfl ?_
      refine ix_iload_n (i := 1) (j := 1) X (ix_tb_at tb_X11_quarrel 12 rfl) rfl rfl (pc1 := 27) rfl ?_
      obtain ⟨k_13, h⟩ := ix_ck_some h
      refine iz_iald X k_13 (ix_tb_at tb_X11_quarrel 13 rfl) (pc1 := 28) rfl ?_
      exact ix_iret X hr hlk (ix_r2 (f := fun r => some (.int r)) (g := ix_w z) h) (ix_tb_at tb_X11_quarrel 14 rfl)
    · have h := ix_iff q_6 h
      refine ix_sub (L1 := [(0, .ref (K.2.2.1 + a0))]) [0] rfl ?_
      exact t_X11_quarrel_9 hKp X hr hlk  h
def tab_X11_saidNo : List (Nat × Instr × Nat) := [(0, .aload_n 0, 1), (1, .getfield 41, 3), (4, .getfield 174, 3), (7, .iconst 0, 1), (8, .iaload, 1), (9, .ifCond .ne 14, 3), (12, .aload_n 0, 1), (13, .getfield 284, 3), (16, .ifCond .ne 7, 3), (19, .iconst 1, 1), (20, .goto 4, 3), (23, .iconst 0, 1), (24, .ireturn, 1)]
theorem tb_X11_saidNo : ix_tab cX11_saidNo tab_X11_saidNo := by
  unfold ix_tab
  decide +kernel
noncomputable def f_X11_saidNo (n : Nat) (z : ix_Z) (a0 : Nat) (d : ix_D2) : Option (Int32 × ix_D2) :=
  ix_ck (ix_ok z [10] a0) (ix_bd1 (z.1 a0 6) (fun b_2 => ix_ck (ix_ok z [8] b_2) (ix_bd1 (z.1 b_2 10) (fun b_5 => ix_ck (ix_ix z 20 b_5 0) (ix_if (d.1 b_5 (ix_n 0) = 0) (ix_if (d.1 a0 13 = 0) (some (1, d)) (some (0, d))) (some (0, d)))))))
set_option maxRecDepth 20000 in
theorem c_X11_saidNo {l : Launch} {K : ix_Cx} (hKp : ix_Kp K) {n : Nat} {z : ix_Z} {a0 : Nat} {d : ix_D2} {r : Int32} {d1 : ix_D2} (h : f_X11_saidNo n z a0 d = some (r, d1)) : ix_M l K yX11_saidNo cX11_saidNo 1 (some .boolean) 0 0 0 0 [.ref (K.2.2.1 + a0)] (ix_w z d) (some (.int r)) (ix_w z d1) := by
  refine ix_met mf_X11_saidNo hKp (Nat.le_of_ble_eq_true rfl) ?_
  intro p e s m args below meth c hr hlk hnm X
  have X : ix_X p s m args c K cX11_saidNo RX11 1 := X
  show ix_G p l e (ix_rm 0 0 0 0) s m args below meth c (MQ below (ix_Post K (some (.int r)) (ix_w z d1)) args s 0 0 (ix_A K)) K 1 0 0 0 [(0, .ref (K.2.2.1 + a0))] [] (ix_w z d)
  unfold f_X11_saidNo at h
  refine ix_aload_n (i := 0) (j := 0) X (ix_tb_at tb_X11_saidNo 0 rfl) rfl rfl (pc1 := 1) rfl ?_
  obtain ⟨k_1, h⟩ := ix_ck_some h
  obtain ⟨b_2, q_3, h⟩ := ix_bd1_ex h
  refine iz_getR X fl_RX11_41 k_1 q_3 (ix_tb_at tb_X11_saidNo 1 rfl) (pc1 := 4) rfl ?_
  obtain ⟨k_4, h⟩ := ix_ck_some h
  obtain ⟨b_5, q_6, h⟩ := ix_bd1_ex h
  refine iz_getR X fl_RX11_174 k_4 q_6 (ix_tb_at tb_X11_saidNo 2 rfl) (pc1 := 7) rfl ?_
  refine ix_iconst (v := 0) X (ix_tb_at tb_X11_saidNo 3 rfl) (by decide) (pc1 := 8) rfl ?_
  obtain ⟨k_7, h⟩ := ix_ck_some h
  refine iz_iald X k_7 (ix_tb_at tb_X11_saidNo 4 rfl) (pc1 := 9) rfl ?_
  refine ix_if_ne (tgt := 23) X (ix_tb_at tb_X11_saidNo 5 rfl) (by decide) (pc1 := 12) rfl (fun q_8 => ?_) (fun q_8 => ?_)
  · have h := ix_iff q_8 h
    refine ix_iconst (v := 0) X (ix_tb_at tb_X11_saidNo 11 rfl) (by decide) (pc1 := 24) rfl ?_
    exact ix_zret X hr hlk (by decide) (ix_r2 (f := fun r => some (.int r)) (g := ix_w z) h) (ix_tb_at tb_X11_saidNo 12 rfl)
  · have h := ix_ift q_8 h
    refine ix_aload_n (i := 0) (j := 0) X (ix_tb_at tb_X11_saidNo 6 rfl) rfl rfl (pc1 := 13) rfl ?_
    refine iz_getI X fl_RX11_284 k_1 (ix_tb_at tb_X11_saidNo 7 rfl) (pc1 := 16) rfl ?_
    refine ix_if_ne (tgt := 23) X (ix_tb_at tb_X11_saidNo 8 rfl) (by decide) (pc1 := 19) rfl (fun q_9 => ?_) (fun q_9 => ?_)
    · have h := ix_iff q_9 h
      refine ix_iconst (v := 0) X (ix_tb_at tb_X11_saidNo 11 rfl) (by decide) (pc1 := 24) rfl ?_
      exact ix_zret X hr hlk (by decide) (ix_r2 (f := fun r => some (.int r)) (g := ix_w z) h) (ix_tb_at tb_X11_saidNo 12 rfl)
    · have h := ix_ift q_9 h
      refine ix_iconst (v := 1) X (ix_tb_at tb_X11_saidNo 9 rfl) (by decide) (pc1 := 20) rfl ?_
      refine ix_goto (tgt := 24) X (ix_tb_at tb_X11_saidNo 10 rfl) (by decide) ?_
      exact ix_zret X hr hlk (by decide) (ix_r2 (f := fun r => some (.int r)) (g := ix_w z) h) (ix_tb_at tb_X11_saidNo 12 rfl)
def tab_X11_core : List (Nat × Instr × Nat) := [(0, .iload_n 1, 1), (1, .ifCond .lt 8, 3), (4, .iload_n 1, 1), (5, .iconst 1, 1), (6, .if_icmp .le 11, 3), (9, .aload_n 0, 1), (10, .sipush (-1001), 3), (13, .invokevirtual 73, 3), (16, .ireturn, 1), (17, .aload_n 0, 1), (18, .invokevirtual 299, 3), (21, .ifCond .ne 11, 3), (24, .aload_n 0, 1), (25, .sipush (-1002), 3), (28, .invokevirtual 73, 3), (31, .ireturn, 1), (32, .iload_n 1, 1), (33, .ifCond .ne 10, 3), (36, .aload_n 0, 1), (37, .getfield 302, 3), (40, .goto 7, 3), (43, .aload_n 0, 1), (44, .getfield 305, 3), (47, .ireturn, 1)]
theorem tb_X11_core : ix_tab cX11_core tab_X11_core := by
  unfold ix_tab
  decide +kernel
noncomputable def f_X11_core_9 (n : Nat) (z : ix_Z)  (a0 : Nat) (d : ix_D2) : Option (Int32 × ix_D2) :=
  ix_ck (ix_ok z [10] a0) (ix_bd2 (f_X11_refuse n z a0 ((-1001)) d) (fun r_5 d_2 => some (r_5, d_2)))
noncomputable def f_X11_core (n : Nat) (z : ix_Z) (a0 : Nat) (x1 : Int32) (d : ix_D2) : Option (Int32 × ix_D2) :=
  ix_if (x1 < 0) (f_X11_core_9 n z  a0 d) (ix_if (x1 ≤ 1) (ix_ck (ix_ok z [10] a0) (ix_bd2 (f_X11_saidNo n z a0 d) (fun r_10 d_7 => ix_if (r_10 = 0) (ix_bd2 (f_X11_refuse n z a0 ((-1002)) d_7) (fun r_15 d_13 => some (r_15, d_13))) (ix_if (x1 = 0) (some (d_7.1 a0 10, d_7)) (some (d_7.1 a0 12, d_7)))))) (f_X11_core_9 n z  a0 d))
set_option maxRecDepth 20000 in
theorem t_X11_core_9 {l : Launch} {p : Program} {e : Env} {s : State} {m : MethodId} {args : Array Value} {below : List Frame} {meth : Method} {c : Code} {K : ix_Cx} (hKp : ix_Kp K) {n : Nat} {z : ix_Z} (X : ix_X p s m args c K cX11_core RX11 2) (hr : meth.sig.returnType = (some .int)) (hlk : meth.locks = false)  {a0 : Nat} {r : Int32} {d1 : ix_D2}  {d : ix_D2} (h : f_X11_core_9 n z  a0 d = some (r, d1)) : ix_G p l e (ix_rm 1 21 0 0) s m args below meth c (MQ below (ix_Post K (some (.int r)) (ix_w z d1)) args s 0 0 (ix_A K)) K 2 0 0 9 [(0, .ref (K.2.2.1 + a0))] [] (ix_w z d) := by
  unfold f_X11_core_9 at h
  refine ix_aload_n (i := 0) (j := 0) X (ix_tb_at tb_X11_core 5 rfl) rfl rfl (pc1 := 10) rfl ?_
  refine ix_sipush (v := (-1001)) X (ix_tb_at tb_X11_core 6 rfl) (by decide) (pc1 := 13) rfl ?_
  obtain ⟨k_4, h⟩ := ix_ck_some h
  obtain ⟨r_5, d_2, h_3, h⟩ := ix_bd2_ex h
  refine ix_callV (As := [.int ((-1001))]) (rest := []) (ci := 10) (T := TX11) (nf := 18) X mf_X11_refuse mi_X11_refuse ms_X11_refuse rfl (Nat.le_of_ble_eq_true rfl) ml_RX11_73 ⟨Nat.le_of_ble_eq_true rfl, Nat.le_of_ble_eq_true rfl⟩ ⟨Nat.le_of_ble_eq_true rfl, Nat.le_of_ble_eq_true rfl⟩ rfl (Nat.le_of_ble_eq_true rfl) (ix_tb_at tb_X11_core 7 rfl) ⟨k_4.1, List.mem_singleton.mp k_4.2⟩ (c_X11_refuse hKp h_3) rfl (pc1 := 16) rfl ?_
  exact ix_iret X hr hlk (ix_r2 (f := fun r => some (.int r)) (g := ix_w z) h) (ix_tb_at tb_X11_core 8 rfl)
set_option maxRecDepth 20000 in
theorem c_X11_core {l : Launch} {K : ix_Cx} (hKp : ix_Kp K) {n : Nat} {z : ix_Z} {a0 : Nat} {x1 : Int32} {d : ix_D2} {r : Int32} {d1 : ix_D2} (h : f_X11_core n z a0 x1 d = some (r, d1)) : ix_M l K yX11_core cX11_core 2 (some .int) 1 21 0 0 [.ref (K.2.2.1 + a0), .int x1] (ix_w z d) (some (.int r)) (ix_w z d1) := by
  refine ix_met mf_X11_core hKp (Nat.le_of_ble_eq_true rfl) ?_
  intro p e s m args below meth c hr hlk hnm X
  have X : ix_X p s m args c K cX11_core RX11 2 := X
  show ix_G p l e (ix_rm 1 21 0 0) s m args below meth c (MQ below (ix_Post K (some (.int r)) (ix_w z d1)) args s 0 0 (ix_A K)) K 2 0 0 0 [(0, .ref (K.2.2.1 + a0)), (1, .int x1)] [] (ix_w z d)
  unfold f_X11_core at h
  refine ix_iload_n (i := 1) (j := 1) X (ix_tb_at tb_X11_core 0 rfl) rfl rfl (pc1 := 1) rfl ?_
  refine ix_if_lt (tgt := 9) X (ix_tb_at tb_X11_core 1 rfl) (by decide) (pc1 := 4) rfl (fun q_1 => ?_) (fun q_1 => ?_)
  · have h := ix_ift q_1 h
    refine ix_sub (L1 := [(0, .ref (K.2.2.1 + a0))]) [0] rfl ?_
    exact t_X11_core_9 hKp X hr hlk  h
  · have h := ix_iff q_1 h
    refine ix_iload_n (i := 1) (j := 1) X (ix_tb_at tb_X11_core 2 rfl) rfl rfl (pc1 := 5) rfl ?_
    refine ix_iconst (v := 1) X (ix_tb_at tb_X11_core 3 rfl) (by decide) (pc1 := 6) rfl ?_
    refine ix_icmp_le (tgt := 17) X (ix_tb_at tb_X11_core 4 rfl) (by decide) (pc1 := 9) rfl (fun q_6 => ?_) (fun q_6 => ?_)
    · have h := ix_ift q_6 h
      refine ix_aload_n (i := 0) (j := 0) X (ix_tb_at tb_X11_core 9 rfl) rfl rfl (pc1 := 18) rfl ?_
      obtain ⟨k_9, h⟩ := ix_ck_some h
      obtain ⟨r_10, d_7, h_8, h⟩ := ix_bd2_ex h
      refine ix_callV (As := []) (rest := []) (ci := 10) (T := TX11) (nf := 18) X mf_X11_saidNo mi_X11_saidNo ms_X11_saidNo rfl (Nat.le_of_ble_eq_true rfl) ml_RX11_299 ⟨Nat.le_of_ble_eq_true rfl, Nat.le_of_ble_eq_true rfl⟩ ⟨Nat.le_of_ble_eq_true rfl, Nat.le_of_ble_eq_true rfl⟩ rfl (Nat.le_of_ble_eq_true rfl) (ix_tb_at tb_X11_core 10 rfl) ⟨k_9.1, List.mem_singleton.mp k_9.2⟩ (c_X11_saidNo hKp h_8) rfl (pc1 := 21) rfl ?_
      refine ix_if_ne (tgt := 32) X (ix_tb_at tb_X11_core 11 rfl) (by decide) (pc1 := 24) rfl (fun q_11 => ?_) (fun q_11 => ?_)
      · have h := ix_iff q_11 h
        refine ix_iload_n (i := 1) (j := 1) X (ix_tb_at tb_X11_core 16 rfl) rfl rfl (pc1 := 33) rfl ?_
        refine ix_if_ne (tgt := 43) X (ix_tb_at tb_X11_core 17 rfl) (by decide) (pc1 := 36) rfl (fun q_12 => ?_) (fun q_12 => ?_)
        · have h := ix_iff q_12 h
          refine ix_aload_n (i := 0) (j := 0) X (ix_tb_at tb_X11_core 21 rfl) rfl rfl (pc1 := 44) rfl ?_
          refine iz_getI X fl_RX11_305 k_9 (ix_tb_at tb_X11_core 22 rfl) (pc1 := 47) rfl ?_
          exact ix_iret X hr hlk (ix_r2 (f := fun r => some (.int r)) (g := ix_w z) h) (ix_tb_at tb_X11_core 23 rfl)
        · have h := ix_ift q_12 h
          refine ix_aload_n (i := 0) (j := 0) X (ix_tb_at tb_X11_core 18 rfl) rfl rfl (pc1 := 37) rfl ?_
          refine iz_getI X fl_RX11_302 k_9 (ix_tb_at tb_X11_core 19 rfl) (pc1 := 40) rfl ?_
          refine ix_goto (tgt := 47) X (ix_tb_at tb_X11_core 20 rfl) (by decide) ?_
          exact ix_iret X hr hlk (ix_r2 (f := fun r => some (.int r)) (g := ix_w z) h) (ix_tb_at tb_X11_core 23 rfl)
      · have h := ix_ift q_11 h
        refine ix_aload_n (i := 0) (j := 0) X (ix_tb_at tb_X11_core 12 rfl) rfl rfl (pc1 := 25) rfl ?_
        refine ix_sipush (v := (-1002)) X (ix_tb_at tb_X11_core 13 rfl) (by decide) (pc1 := 28) rfl ?_
        obtain ⟨r_15, d_13, h_14, h⟩ := ix_bd2_ex h
        refine ix_callV (As := [.int ((-1002))]) (rest := []) (ci := 10) (T := TX11) (nf := 18) X mf_X11_refuse mi_X11_refuse ms_X11_refuse rfl (Nat.le_of_ble_eq_true rfl) ml_RX11_73 ⟨Nat.le_of_ble_eq_true rfl, Nat.le_of_ble_eq_true rfl⟩ ⟨Nat.le_of_ble_eq_true rfl, Nat.le_of_ble_eq_true rfl⟩ rfl (Nat.le_of_ble_eq_true rfl) (ix_tb_at tb_X11_core 14 rfl) ⟨k_9.1, List.mem_singleton.mp k_9.2⟩ (c_X11_refuse hKp h_14) rfl (pc1 := 31) rfl ?_
        exact ix_iret X hr hlk (ix_r2 (f := fun r => some (.int r)) (g := ix_w z) h) (ix_tb_at tb_X11_core 15 rfl)
    · have h := ix_iff q_6 h
      refine ix_sub (L1 := [(0, .ref (K.2.2.1 + a0))]) [0] rfl ?_
      exact t_X11_core_9 hKp X hr hlk  h
def tab_X11_coreAt : List (Nat × Instr × Nat) := [(0, .aload_n 0, 1), (1, .iload_n 1, 1), (2, .invokevirtual 308, 3), (5, .istore_n 3, 1), (6, .iload_n 3, 1), (7, .ifCond .ge 5, 3), (10, .iload_n 3, 1), (11, .ireturn, 1), (12, .iload_n 2, 1), (13, .ifCond .lt 8, 3), (16, .iload_n 2, 1), (17, .iload_n 3, 1), (18, .if_icmp .lt 7, 3), (21, .sipush (-1005), 3), (24, .ireturn, 1), (25, .iload_n 1, 1), (26, .ifCond .ne 12, 3), (29, .aload_n 0, 1), (30, .getfield 57, 3), (33, .iload_n 2, 1), (34, .iaload, 1), (35, .goto 9, 3), (38, .aload_n 0, 1), (39, .getfield 60, 3), (42, .iload_n 2, 1), (43, .iaload, 1), (44, .ireturn, 1)]
theorem tb_X11_coreAt : ix_tab cX11_coreAt tab_X11_coreAt := by
  unfold ix_tab
  decide +kernel
noncomputable def f_X11_coreAt_21 (n : Nat) (z : ix_Z)   (d : ix_D2) : Option (Int32 × ix_D2) :=
  some ((-1005), d)
noncomputable def f_X11_coreAt (n : Nat) (z : ix_Z) (a0 : Nat) (x1 : Int32) (x2 : Int32) (d : ix_D2) : Option (Int32 × ix_D2) :=
  ix_ck (ix_ok z [10] a0) (ix_bd2 (f_X11_core n z a0 x1 d) (fun r_4 d_1 => ix_if (0 ≤ r_4) (ix_if (x2 < 0) (f_X11_coreAt_21 n z   d_1) (ix_if (x2 < r_4) (ix_if (x1 = 0) (ix_bd1 (z.1 a0 9) (fun b_12 => ix_ck (ix_ix z 20 b_12 x2) (some (d_1.1 b_12 (ix_n x2), d_1)))) (ix_bd1 (z.1 a0 11) (fun b_9 => ix_ck (ix_ix z 20 b_9 x2) (some (d_1.1 b_9 (ix_n x2), d_1))))) (f_X11_coreAt_21 n z   d_1))) (some (r_4, d_1))))
set_option maxRecDepth 20000 in
theorem t_X11_coreAt_21 {l : Launch} {p : Program} {e : Env} {s : State} {m : MethodId} {args : Array Value} {below : List Frame} {meth : Method} {c : Code} {K : ix_Cx} (hKp : ix_Kp K) {n : Nat} {z : ix_Z} (X : ix_X p s m args c K cX11_coreAt RX11 4) (hr : meth.sig.returnType = (some .int)) (hlk : meth.locks = false)   {r : Int32} {d1 : ix_D2}  {d : ix_D2} (h : f_X11_coreAt_21 n z   d = some (r, d1)) : ix_G p l e (ix_rm 2 42 0 0) s m args below meth c (MQ below (ix_Post K (some (.int r)) (ix_w z d1)) args s 0 0 (ix_A K)) K 4 0 0 21 [] [] (ix_w z d) := by
  unfold f_X11_coreAt_21 at h
  refine ix_sipush (v := (-1005)) X (ix_tb_at tb_X11_coreAt 13 rfl) (by decide) (pc1 := 24) rfl ?_
  exact ix_iret X hr hlk (ix_r2 (f := fun r => some (.int r)) (g := ix_w z) h) (ix_tb_at tb_X11_coreAt 14 rfl)
set_option maxRecDepth 20000 in
theorem c_X11_coreAt {l : Launch} {K : ix_Cx} (hKp : ix_Kp K) {n : Nat} {z : ix_Z} {a0 : Nat} {x1 : Int32} {x2 : Int32} {d : ix_D2} {r : Int32} {d1 : ix_D2} (h : f_X11_coreAt n z a0 x1 x2 d = some (r, d1)) : ix_M l K yX11_coreAt cX11_coreAt 4 (some .int) 2 42 0 0 [.ref (K.2.2.1 + a0), .int x1, .int x2] (ix_w z d) (some (.int r)) (ix_w z d1) := by
  refine ix_met mf_X11_coreAt hKp (Nat.le_of_ble_eq_true rfl) ?_
  intro p e s m args below meth c hr hlk hnm X
  have X : ix_X p s m args c K cX11_coreAt RX11 4 := X
  show ix_G p l e (ix_rm 2 42 0 0) s m args below meth c (MQ below (ix_Post K (some (.int r)) (ix_w z d1)) args s 0 0 (ix_A K)) K 4 0 0 0 [(0, .ref (K.2.2.1 + a0)), (1, .int x1), (2, .int x2)] [] (ix_w z d)
  unfold f_X11_coreAt at h
  refine ix_aload_n (i := 0) (j := 0) X (ix_tb_at tb_X11_coreAt 0 rfl) rfl rfl (pc1 := 1) rfl ?_
  refine ix_iload_n (i := 1) (j := 1) X (ix_tb_at tb_X11_coreAt 1 rfl) rfl rfl (pc1 := 2) rfl ?_
  obtain ⟨k_3, h⟩ := ix_ck_some h
  obtain ⟨r_4, d_1, h_2, h⟩ := ix_bd2_ex h
  refine ix_callV (As := [.int x1]) (rest := []) (ci := 10) (T := TX11) (nf := 18) X mf_X11_core mi_X11_core ms_X11_core rfl (Nat.le_of_ble_eq_true rfl) ml_RX11_308 ⟨Nat.le_of_ble_eq_true rfl, Nat.le_of_ble_eq_true rfl⟩ ⟨Nat.le_of_ble_eq_true rfl, Nat.le_of_ble_eq_true rfl⟩ rfl (Nat.le_of_ble_eq_true rfl) (ix_tb_at tb_X11_coreAt 2 rfl) ⟨k_3.1, List.mem_singleton.mp k_3.2⟩ (c_X11_core hKp h_2) rfl (pc1 := 5) rfl ?_
  refine ix_istore_n (i := 3) (L1 := [(3, .int r_4), (0, .ref (K.2.2.1 + a0)), (1, .int x1), (2, .int x2)]) X (ix_tb_at tb_X11_coreAt 3 rfl) rfl (Nat.le_of_ble_eq_true rfl) rfl (pc1 := 6) rfl ?_
  refine ix_iload_n (i := 3) (j := 0) X (ix_tb_at tb_X11_coreAt 4 rfl) rfl rfl (pc1 := 7) rfl ?_
  refine ix_if_ge (tgt := 12) X (ix_tb_at tb_X11_coreAt 5 rfl) (by decide) (pc1 := 10) rfl (fun q_5 => ?_) (fun q_5 => ?_)
  · have h := ix_ift q_5 h
    refine ix_iload_n (i := 2) (j := 3) X (ix_tb_at tb_X11_coreAt 8 rfl) rfl rfl (pc1 := 13) rfl ?_
    refine ix_if_lt (tgt := 21) X (ix_tb_at tb_X11_coreAt 9 rfl) (by decide) (pc1 := 16) rfl (fun q_6 => ?_) (fun q_6 => ?_)
    · have h := ix_ift q_6 h
      refine ix_sub (L1 := []) [] rfl ?_
      exact t_X11_coreAt_21 hKp X hr hlk  h
    · have h := ix_iff q_6 h
      refine ix_iload_n (i := 2) (j := 3) X (ix_tb_at tb_X11_coreAt 10 rfl) rfl rfl (pc1 := 17) rfl ?_
      refine ix_iload_n (i := 3) (j := 0) X (ix_tb_at tb_X11_coreAt 11 rfl) rfl rfl (pc1 := 18) rfl ?_
      refine ix_icmp_lt (tgt := 25) X (ix_tb_at tb_X11_coreAt 12 rfl) (by decide) (pc1 := 21) rfl (fun q_7 => ?_) (fun q_7 => ?_)
      · have h := ix_ift q_7 h
        refine ix_iload_n (i := 1) (j := 2) X (ix_tb_at tb_X11_coreAt 15 rfl) rfl rfl (pc1 := 26) rfl ?_
        refine ix_if_ne (tgt := 38) X (ix_tb_at tb_X11_coreAt 16 rfl) (by decide) (pc1 := 29) rfl (fun q_8 => ?_) (fun q_8 => ?_)
        · have h := ix_iff q_8 h
          refine ix_aload_n (i := 0) (j := 1) X (ix_tb_at tb_X11_coreAt 22 rfl) rfl rfl (pc1 := 39) rfl ?_
          obtain ⟨b_9, q_10, h⟩ := ix_bd1_ex h
          refine iz_getR X fl_RX11_60 k_3 q_10 (ix_tb_at tb_X11_coreAt 23 rfl) (pc1 := 42) rfl ?_
          refine ix_iload_n (i := 2) (j := 3) X (ix_tb_at tb_X11_coreAt 24 rfl) rfl rfl (pc1 := 43) rfl ?_
          obtain ⟨k_11, h⟩ := ix_ck_some h
          refine iz_iald X k_11 (ix_tb_at tb_X11_coreAt 25 rfl) (pc1 := 44) rfl ?_
          exact ix_iret X hr hlk (ix_r2 (f := fun r => some (.int r)) (g := ix_w z) h) (ix_tb_at tb_X11_coreAt 26 rfl)
        · have h := ix_ift q_8 h
          refine ix_aload_n (i := 0) (j := 1) X (ix_tb_at tb_X11_coreAt 17 rfl) rfl rfl (pc1 := 30) rfl ?_
          obtain ⟨b_12, q_13, h⟩ := ix_bd1_ex h
          refine iz_getR X fl_RX11_57 k_3 q_13 (ix_tb_at tb_X11_coreAt 18 rfl) (pc1 := 33) rfl ?_
          refine ix_iload_n (i := 2) (j := 3) X (ix_tb_at tb_X11_coreAt 19 rfl) rfl rfl (pc1 := 34) rfl ?_
          obtain ⟨k_14, h⟩ := ix_ck_some h
          refine iz_iald X k_14 (ix_tb_at tb_X11_coreAt 20 rfl) (pc1 := 35) rfl ?_
          refine ix_goto (tgt := 44) X (ix_tb_at tb_X11_coreAt 21 rfl) (by decide) ?_
          exact ix_iret X hr hlk (ix_r2 (f := fun r => some (.int r)) (g := ix_w z) h) (ix_tb_at tb_X11_coreAt 26 rfl)
      · have h := ix_iff q_7 h
        refine ix_sub (L1 := []) [] rfl ?_
        exact t_X11_coreAt_21 hKp X hr hlk  h
  · have h := ix_iff q_5 h
    refine ix_iload_n (i := 3) (j := 0) X (ix_tb_at tb_X11_coreAt 6 rfl) rfl rfl (pc1 := 11) rfl ?_
    exact ix_iret X hr hlk (ix_r2 (f := fun r => some (.int r)) (g := ix_w z) h) (ix_tb_at tb_X11_coreAt 7 rfl)
def tab_X11_supposeItems : List (Nat × Instr × Nat) := [(0, .iconst 0, 1), (1, .istore_n 2, 1), (2, .iload_n 2, 1), (3, .aload_n 0, 1), (4, .getfield 305, 3), (7, .if_icmp .ge 27, 3), (10, .iload_n 2, 1), (11, .iload_n 1, 1), (12, .if_icmp .eq 16, 3), (15, .aload_n 0, 1), (16, .getfield 45, 3), (19, .aload_n 0, 1), (20, .getfield 60, 3), (23, .iload_n 2, 1), (24, .iaload, 1), (25, .invokevirtual 274, 3), (28, .iinc 2 1, 3), (31, .goto (-29), 3), (34, .aload_n 0, 1), (35, .getfield 45, 3), (38, .invokevirtual 278, 3), (41, .return_, 1)]
theorem tb_X11_supposeItems : ix_tab cX11_supposeItems tab_X11_supposeItems := by
  unfold ix_tab
  decide +kernel
noncomputable def f_X11_supposeItems_28 (n : Nat) (z : ix_Z) (rec2 : Int32 → ix_D2 → Option (ix_D2)) (a0 : Nat) (x1 : Int32) (x2 : Int32) (d : ix_D2) : Option (ix_D2) :=
  ix_lt (x2 + 1) (fun x2_9 => rec2 x2_9 d)
noncomputable def b_X11_supposeItems_2 (n : Nat) (z : ix_Z)  (a0 : Nat) (x1 : Int32) (rec2 : Int32 → ix_D2 → Option (ix_D2)) (x2 : Int32) (d : ix_D2) : Option (ix_D2) :=
  ix_ck (ix_ok z [10] a0) (ix_if (d.1 a0 12 ≤ x2) (ix_bd1 (z.1 a0 7) (fun b_3 => ix_ck (ix_ok z [8] b_3) (ix_bd1 (f_X9_closeBoard n z b_3 d) (fun d_5 => some d_5)))) (ix_if (x2 = x1) (f_X11_supposeItems_28 n z rec2 a0 x1 x2 d) (ix_bd1 (z.1 a0 7) (fun b_11 => ix_bd1 (z.1 a0 11) (fun b_13 => ix_ck (ix_ix z 20 b_13 x2) (ix_ck (ix_ok z [8] b_11) (ix_bd1 (f_X9_suppose n z b_11 (d.1 b_13 (ix_n x2)) d) (fun d_16 => f_X11_supposeItems_28 n z rec2 a0 x1 x2 d_16))))))))
noncomputable def f_X11_supposeItems_2 (n : Nat) (z : ix_Z)  (a0 : Nat) (x1 : Int32) (x2 : Int32) (d : ix_D2) : Option (ix_D2) := ix_fix (b_X11_supposeItems_2 n z  a0 x1) (fun _ _ => none) n x2 d
noncomputable def f_X11_supposeItems (n : Nat) (z : ix_Z) (a0 : Nat) (x1 : Int32) (d : ix_D2) : Option (ix_D2) :=
  f_X11_supposeItems_2 n z  a0 x1 0 d
set_option maxRecDepth 20000 in
theorem t_X11_supposeItems_28 {l : Launch} {p : Program} {e : Env} {s : State} {m : MethodId} {args : Array Value} {below : List Frame} {meth : Method} {c : Code} {K : ix_Cx} (hKp : ix_Kp K) {n : Nat} {z : ix_Z} (X : ix_X p s m args c K cX11_supposeItems RX11 3) (hr : meth.sig.returnType = (none : Option Jvm.ClassFile.FieldType)) (hlk : meth.locks = false) {rec2 : Int32 → ix_D2 → Option (ix_D2)} {a0 : Nat} {x1 : Int32} {x2 : Int32} {d1 : ix_D2} (hrec2 : ∀ (x2 : Int32) (d : ix_D2), rec2 x2 d = some d1 → ix_G p l e (ix_rm 1 21 0 0) s m args below meth c (MQ below (ix_Post K none (ix_w z d1)) args s 0 0 (ix_A K)) K 3 0 0 2 [(0, .ref (K.2.2.1 + a0)), (1, .int x1), (2, .int x2)] [] (ix_w z d)) {d : ix_D2} (h : f_X11_supposeItems_28 n z rec2 a0 x1 x2 d = some d1) : ix_G p l e (ix_rm 1 21 0 0) s m args below meth c (MQ below (ix_Post K none (ix_w z d1)) args s 0 0 (ix_A K)) K 3 0 0 28 [(0, .ref (K.2.2.1 + a0)), (1, .int x1), (2, .int x2)] [] (ix_w z d) := by
  unfold f_X11_supposeItems_28 at h
  obtain ⟨x2_9, e_10, h⟩ := ix_lt_ex h
  refine ix_iinc (i := 2) (j := 2) (v := x2_9) (L1 := [(2, .int x2_9), (0, .ref (K.2.2.1 + a0)), (1, .int x1)]) X (ix_tb_at tb_X11_supposeItems 16 rfl) rfl (by rw [oi_1]; exact e_10.symm) (Nat.le_of_ble_eq_true rfl) rfl (pc1 := 31) rfl ?_
  refine ix_goto (tgt := 2) X (ix_tb_at tb_X11_supposeItems 17 rfl) (by decide) ?_
  refine ix_sub (L1 := [(0, .ref (K.2.2.1 + a0)), (1, .int x1), (2, .int x2_9)]) [1, 2, 0] rfl ?_
  exact hrec2 x2_9 d h
set_option maxRecDepth 20000 in
theorem tb_X11_supposeItems_2 {l : Launch} {p : Program} {e : Env} {s : State} {m : MethodId} {args : Array Value} {below : List Frame} {meth : Method} {c : Code} {K : ix_Cx} (hKp : ix_Kp K) {n : Nat} {z : ix_Z} (X : ix_X p s m args c K cX11_supposeItems RX11 3) (hr : meth.sig.returnType = (none : Option Jvm.ClassFile.FieldType)) (hlk : meth.locks = false)  {a0 : Nat} {x1 : Int32} {rec2 : Int32 → ix_D2 → Option (ix_D2)} {d1 : ix_D2} (hrec2 : ∀ (x2 : Int32) (d : ix_D2), rec2 x2 d = some d1 → ix_G p l e (ix_rm 1 21 0 0) s m args below meth c (MQ below (ix_Post K none (ix_w z d1)) args s 0 0 (ix_A K)) K 3 0 0 2 [(0, .ref (K.2.2.1 + a0)), (1, .int x1), (2, .int x2)] [] (ix_w z d)) {x2 : Int32} {d : ix_D2} (h : b_X11_supposeItems_2 n z  a0 x1 rec2 x2 d = some d1) : ix_G p l e (ix_rm 1 21 0 0) s m args below meth c (MQ below (ix_Post K none (ix_w z d1)) args s 0 0 (ix_A K)) K 3 0 0 2 [(0, .ref (K.2.2.1 + a0)), (1, .int x1), (2, .int x2)] [] (ix_w z d) := by
  unfold b_X11_supposeItems_2 at h
  refine ix_iload_n (i := 2) (j := 2) X (ix_tb_at tb_X11_supposeItems 2 rfl) rfl rfl (pc1 := 3) rfl ?_
  refine ix_aload_n (i := 0) (j := 0) X (ix_tb_at tb_X11_supposeItems 3 rfl) rfl rfl (pc1 := 4) rfl ?_
  obtain ⟨k_1, h⟩ := ix_ck_some h
  refine iz_getI X fl_RX11_305 k_1 (ix_tb_at tb_X11_supposeItems 4 rfl) (pc1 := 7) rfl ?_
  refine ix_icmp_ge (tgt := 34) X (ix_tb_at tb_X11_supposeItems 5 rfl) (by decide) (pc1 := 10) rfl (fun q_2 => ?_) (fun q_2 => ?_)
  · have h := ix_ift q_2 h
    refine ix_aload_n (i := 0) (j := 0) X (ix_tb_at tb_X11_supposeItems 18 rfl) rfl rfl (pc1 := 35) rfl ?_
    obtain ⟨b_3, q_4, h⟩ := ix_bd1_ex h
    refine iz_getR X fl_RX11_45 k_1 q_4 (ix_tb_at tb_X11_supposeItems 19 rfl) (pc1 := 38) rfl ?_
    obtain ⟨k_7, h⟩ := ix_ck_some h
    obtain ⟨d_5, h_6, h⟩ := ix_bd1_ex h
    refine ix_callV (As := []) (rest := []) (ci := 8) (T := TX9) (nf := 20) X mf_X9_closeBoard mi_X9_closeBoard ms_X9_closeBoard rfl (Nat.le_of_ble_eq_true rfl) ml_RX11_278 ⟨Nat.le_of_ble_eq_true rfl, Nat.le_of_ble_eq_true rfl⟩ ⟨Nat.le_of_ble_eq_true rfl, Nat.le_of_ble_eq_true rfl⟩ rfl (Nat.le_of_ble_eq_true rfl) (ix_tb_at tb_X11_supposeItems 20 rfl) ⟨k_7.1, List.mem_singleton.mp k_7.2⟩ (c_X9_closeBoard hKp h_6) rfl (pc1 := 41) rfl ?_
    exact ix_vret X hr hlk (ix_r1 (g := ix_w z) h) (ix_tb_at tb_X11_supposeItems 21 rfl)
  · have h := ix_iff q_2 h
    refine ix_iload_n (i := 2) (j := 2) X (ix_tb_at tb_X11_supposeItems 6 rfl) rfl rfl (pc1 := 11) rfl ?_
    refine ix_iload_n (i := 1) (j := 1) X (ix_tb_at tb_X11_supposeItems 7 rfl) rfl rfl (pc1 := 12) rfl ?_
    refine ix_icmp_eq (tgt := 28) X (ix_tb_at tb_X11_supposeItems 8 rfl) (by decide) (pc1 := 15) rfl (fun q_8 => ?_) (fun q_8 => ?_)
    · have h := ix_ift q_8 h
      refine ix_sub (L1 := [(0, .ref (K.2.2.1 + a0)), (1, .int x1), (2, .int x2)]) [0, 1, 2] rfl ?_
      exact t_X11_supposeItems_28 hKp X hr hlk hrec2 h
    · have h := ix_iff q_8 h
      refine ix_aload_n (i := 0) (j := 0) X (ix_tb_at tb_X11_supposeItems 9 rfl) rfl rfl (pc1 := 16) rfl ?_
      obtain ⟨b_11, q_12, h⟩ := ix_bd1_ex h
      refine iz_getR X fl_RX11_45 k_1 q_12 (ix_tb_at tb_X11_supposeItems 10 rfl) (pc1 := 19) rfl ?_
      refine ix_aload_n (i := 0) (j := 0) X (ix_tb_at tb_X11_supposeItems 11 rfl) rfl rfl (pc1 := 20) rfl ?_
      obtain ⟨b_13, q_14, h⟩ := ix_bd1_ex h
      refine iz_getR X fl_RX11_60 k_1 q_14 (ix_tb_at tb_X11_supposeItems 12 rfl) (pc1 := 23) rfl ?_
      refine ix_iload_n (i := 2) (j := 2) X (ix_tb_at tb_X11_supposeItems 13 rfl) rfl rfl (pc1 := 24) rfl ?_
      obtain ⟨k_15, h⟩ := ix_ck_some h
      refine iz_iald X k_15 (ix_tb_at tb_X11_supposeItems 14 rfl) (pc1 := 25) rfl ?_
      obtain ⟨k_18, h⟩ := ix_ck_some h
      obtain ⟨d_16, h_17, h⟩ := ix_bd1_ex h
      refine ix_callV (As := [.int (d.1 b_13 (ix_n x2))]) (rest := []) (ci := 8) (T := TX9) (nf := 20) X mf_X9_suppose mi_X9_suppose ms_X9_suppose rfl (Nat.le_of_ble_eq_true rfl) ml_RX11_274 ⟨Nat.le_of_ble_eq_true rfl, Nat.le_of_ble_eq_true rfl⟩ ⟨Nat.le_of_ble_eq_true rfl, Nat.le_of_ble_eq_true rfl⟩ rfl (Nat.le_of_ble_eq_true rfl) (ix_tb_at tb_X11_supposeItems 15 rfl) ⟨k_18.1, List.mem_singleton.mp k_18.2⟩ (c_X9_suppose hKp h_17) rfl (pc1 := 28) rfl ?_
      refine ix_sub (L1 := [(0, .ref (K.2.2.1 + a0)), (1, .int x1), (2, .int x2)]) [0, 1, 2] rfl ?_
      exact t_X11_supposeItems_28 hKp X hr hlk hrec2 h
theorem t_X11_supposeItems_2 {l : Launch} {p : Program} {e : Env} {s : State} {m : MethodId} {args : Array Value} {below : List Frame} {meth : Method} {c : Code} {K : ix_Cx} (hKp : ix_Kp K) {n : Nat} {z : ix_Z} (X : ix_X p s m args c K cX11_supposeItems RX11 3) (hr : meth.sig.returnType = (none : Option Jvm.ClassFile.FieldType)) (hlk : meth.locks = false)  {a0 : Nat} {x1 : Int32} {d1 : ix_D2}  {x2 : Int32} {d : ix_D2} (h : f_X11_supposeItems_2 n z  a0 x1 x2 d = some d1) : ix_G p l e (ix_rm 1 21 0 0) s m args below meth c (MQ below (ix_Post K none (ix_w z d1)) args s 0 0 (ix_A K)) K 3 0 0 2 [(0, .ref (K.2.2.1 + a0)), (1, .int x1), (2, .int x2)] [] (ix_w z d) := by
  have key : ∀ (f : Nat) (x2 : Int32) (d : ix_D2), ix_fix (b_X11_supposeItems_2 n z  a0 x1) (fun _ _ => none) f x2 d = some d1 → ix_G p l e (ix_rm 1 21 0 0) s m args below meth c (MQ below (ix_Post K none (ix_w z d1)) args s 0 0 (ix_A K)) K 3 0 0 2 [(0, .ref (K.2.2.1 + a0)), (1, .int x1), (2, .int x2)] [] (ix_w z d) := by
    intro f
    induction f with
    | zero =>
      intro x2 d h
      have h : (none : Option (ix_D2)) = some d1 := h
      cases h
    | succ f ih =>
      intro x2 d h
      exact tb_X11_supposeItems_2 hKp X hr hlk (rec2 := ix_fix (b_X11_supposeItems_2 n z  a0 x1) (fun _ _ => none) f)  ih h
  exact key n x2 d h
set_option maxRecDepth 20000 in
theorem c_X11_supposeItems {l : Launch} {K : ix_Cx} (hKp : ix_Kp K) {n : Nat} {z : ix_Z} {a0 : Nat} {x1 : Int32} {d : ix_D2} {d1 : ix_D2} (h : f_X11_supposeItems n z a0 x1 d = some d1) : ix_M l K yX11_supposeItems cX11_supposeItems 3 (none : Option Jvm.ClassFile.FieldType) 1 21 0 0 [.ref (K.2.2.1 + a0), .int x1] (ix_w z d) none (ix_w z d1) := by
  refine ix_met mf_X11_supposeItems hKp (Nat.le_of_ble_eq_true rfl) ?_
  intro p e s m args below meth c hr hlk hnm X
  have X : ix_X p s m args c K cX11_supposeItems RX11 3 := X
  show ix_G p l e (ix_rm 1 21 0 0) s m args below meth c (MQ below (ix_Post K none (ix_w z d1)) args s 0 0 (ix_A K)) K 3 0 0 0 [(0, .ref (K.2.2.1 + a0)), (1, .int x1)] [] (ix_w z d)
  unfold f_X11_supposeItems at h
  refine ix_iconst (v := 0) X (ix_tb_at tb_X11_supposeItems 0 rfl) (by decide) (pc1 := 1) rfl ?_
  refine ix_istore_n (i := 2) (L1 := [(2, .int 0), (0, .ref (K.2.2.1 + a0)), (1, .int x1)]) X (ix_tb_at tb_X11_supposeItems 1 rfl) rfl (Nat.le_of_ble_eq_true rfl) rfl (pc1 := 2) rfl ?_
  refine ix_sub (L1 := [(0, .ref (K.2.2.1 + a0)), (1, .int x1), (2, .int 0)]) [1, 2, 0] rfl ?_
  exact t_X11_supposeItems_2 hKp X hr hlk  h
def tab_X11_layWithout : List (Nat × Instr × Nat) := [(0, .aload_n 0, 1), (1, .getfield 45, 3), (4, .aload_n 0, 1), (5, .getfield 28, 3), (8, .invokevirtual 266, 3), (11, .iconst 0, 1), (12, .istore_n 2, 1), (13, .iload_n 2, 1), (14, .aload_n 0, 1), (15, .getfield 302, 3), (18, .if_icmp .ge 37, 3), (21, .iload_n 2, 1), (22, .iload_n 1, 1), (23, .if_icmp .eq 26, 3), (26, .aload_n 0, 1), (27, .getfield 45, 3), (30, .getfield 177, 3), (33, .aload_n 0, 1), (34, .getfield 28, 3), (37, .getfield 195, 3), (40, .aload_n 0, 1), (41, .getfield 57, 3), (44, .iload_n 2, 1), (45, .iaload, 1), (46, .invokevirtual 433, 3), (49, .iinc 2 1, 3), (52, .goto (-39), 3), (55, .aload_n 0, 1), (56, .iload_n 1, 1), (57, .aload_n 0, 1), (58, .getfield 302, 3), (61, .isub, 1), (62, .invokevirtual 436, 3), (65, .return_, 1)]
theorem tb_X11_layWithout : ix_tab cX11_layWithout tab_X11_layWithout := by
  unfold ix_tab
  decide +kernel
noncomputable def f_X11_layWithout_49 (n : Nat) (z : ix_Z) (rec13 : Int32 → ix_D2 → Option (ix_D2)) (a0 : Nat) (x1 : Int32) (x2 : Int32) (d : ix_D2) : Option (ix_D2) :=
  ix_lt (x2 + 1) (fun x2_14 => rec13 x2_14 d)
noncomputable def b_X11_layWithout_13 (n : Nat) (z : ix_Z)  (a0 : Nat) (x1 : Int32) (rec13 : Int32 → ix_D2 → Option (ix_D2)) (x2 : Int32) (d : ix_D2) : Option (ix_D2) :=
  ix_ck (ix_ok z [10] a0) (ix_if (d.1 a0 10 ≤ x2) (ix_bd1 (f_X11_supposeItems n z a0 (x1 - (d.1 a0 10)) d) (fun d_11 => some d_11)) (ix_if (x2 = x1) (f_X11_layWithout_49 n z rec13 a0 x1 x2 d) (ix_bd1 (z.1 a0 7) (fun b_16 => ix_ck (ix_ok z [8] b_16) (ix_bd1 (z.1 b_16 0) (fun b_19 => ix_bd1 (z.1 a0 3) (fun b_21 => ix_ck (ix_ok z [2] b_21) (ix_bd1 (z.1 b_21 0) (fun b_24 => ix_bd1 (z.1 a0 9) (fun b_26 => ix_ck (ix_ix z 20 b_26 x2) (ix_ck (ix_ok z [1] b_19) (ix_bd1 (f_X1_layRow n z b_19 b_24 (d.1 b_26 (ix_n x2)) d) (fun d_29 => f_X11_layWithout_49 n z rec13 a0 x1 x2 d_29)))))))))))))
noncomputable def f_X11_layWithout_13 (n : Nat) (z : ix_Z)  (a0 : Nat) (x1 : Int32) (x2 : Int32) (d : ix_D2) : Option (ix_D2) := ix_fix (b_X11_layWithout_13 n z  a0 x1) (fun _ _ => none) n x2 d
noncomputable def f_X11_layWithout (n : Nat) (z : ix_Z) (a0 : Nat) (x1 : Int32) (d : ix_D2) : Option (ix_D2) :=
  ix_ck (ix_ok z [10] a0) (ix_bd1 (z.1 a0 7) (fun b_2 => ix_bd1 (z.1 a0 3) (fun b_4 => ix_ck (ix_ok z [8] b_2) (ix_bd1 (f_X9_openBoard n z b_2 b_4 d) (fun d_6 => f_X11_layWithout_13 n z  a0 x1 0 d_6)))))
set_option maxRecDepth 20000 in
theorem t_X11_layWithout_49 {l : Launch} {p : Program} {e : Env} {s : State} {m : MethodId} {args : Array Value} {below : List Frame} {meth : Method} {c : Code} {K : ix_Cx} (hKp : ix_Kp K) {n : Nat} {z : ix_Z} (X : ix_X p s m args c K cX11_layWithout RX11 3) (hr : meth.sig.returnType = (none : Option Jvm.ClassFile.FieldType)) (hlk : meth.locks = false) {rec13 : Int32 → ix_D2 → Option (ix_D2)} {a0 : Nat} {x1 : Int32} {x2 : Int32} {d1 : ix_D2} (hrec13 : ∀ (x2 : Int32) (d : ix_D2), rec13 x2 d = some d1 → ix_G p l e (ix_rm 4 99 0 0) s m args below meth c (MQ below (ix_Post K none (ix_w z d1)) args s 0 0 (ix_A K)) K 3 0 0 13 [(0, .ref (K.2.2.1 + a0)), (1, .int x1), (2, .int x2)] [] (ix_w z d)) {d : ix_D2} (h : f_X11_layWithout_49 n z rec13 a0 x1 x2 d = some d1) : ix_G p l e (ix_rm 4 99 0 0) s m args below meth c (MQ below (ix_Post K none (ix_w z d1)) args s 0 0 (ix_A K)) K 3 0 0 49 [(0, .ref (K.2.2.1 + a0)), (1, .int x1), (2, .int x2)] [] (ix_w z d) := by
  unfold f_X11_layWithout_49 at h
  obtain ⟨x2_14, e_15, h⟩ := ix_lt_ex h
  refine ix_iinc (i := 2) (j := 2) (v := x2_14) (L1 := [(2, .int x2_14), (0, .ref (K.2.2.1 + a0)), (1, .int x1)]) X (ix_tb_at tb_X11_layWithout 25 rfl) rfl (by rw [oi_1]; exact e_15.symm) (Nat.le_of_ble_eq_true rfl) rfl (pc1 := 52) rfl ?_
  refine ix_goto (tgt := 13) X (ix_tb_at tb_X11_layWithout 26 rfl) (by decide) ?_
  refine ix_sub (L1 := [(0, .ref (K.2.2.1 + a0)), (1, .int x1), (2, .int x2_14)]) [1, 2, 0] rfl ?_
  exact hrec13 x2_14 d h
set_option maxRecDepth 20000 in
theorem tb_X11_layWithout_13 {l : Launch} {p : Program} {e : Env} {s : State} {m : MethodId} {args : Array Value} {below : List Frame} {meth : Method} {c : Code} {K : ix_Cx} (hKp : ix_Kp K) {n : Nat} {z : ix_Z} (X : ix_X p s m args c K cX11_layWithout RX11 3) (hr : meth.sig.returnType = (none : Option Jvm.ClassFile.FieldType)) (hlk : meth.locks = false)  {a0 : Nat} {x1 : Int32} {rec13 : Int32 → ix_D2 → Option (ix_D2)} {d1 : ix_D2} (hrec13 : ∀ (x2 : Int32) (d : ix_D2), rec13 x2 d = some d1 → ix_G p l e (ix_rm 4 99 0 0) s m args below meth c (MQ below (ix_Post K none (ix_w z d1)) args s 0 0 (ix_A K)) K 3 0 0 13 [(0, .ref (K.2.2.1 + a0)), (1, .int x1), (2, .int x2)] [] (ix_w z d)) {x2 : Int32} {d : ix_D2} (h : b_X11_layWithout_13 n z  a0 x1 rec13 x2 d = some d1) : ix_G p l e (ix_rm 4 99 0 0) s m args below meth c (MQ below (ix_Post K none (ix_w z d1)) args s 0 0 (ix_A K)) K 3 0 0 13 [(0, .ref (K.2.2.1 + a0)), (1, .int x1), (2, .int x2)] [] (ix_w z d) := by
  unfold b_X11_layWithout_13 at h
  refine ix_iload_n (i := 2) (j := 2) X (ix_tb_at tb_X11_layWithout 7 rfl) rfl rfl (pc1 := 14) rfl ?_
  refine ix_aload_n (i := 0) (j := 0) X (ix_tb_at tb_X11_layWithout 8 rfl) rfl rfl (pc1 := 15) rfl ?_
  obtain ⟨k_9, h⟩ := ix_ck_some h
  refine iz_getI X fl_RX11_302 k_9 (ix_tb_at tb_X11_layWithout 9 rfl) (pc1 := 18) rfl ?_
  refine ix_icmp_ge (tgt := 55) X (ix_tb_at tb_X11_layWithout 10 rfl) (by decide) (pc1 := 21) rfl (fun q_10 => ?_) (fun q_10 => ?_)
  · have h := ix_ift q_10 h
    refine ix_aload_n (i := 0) (j := 0) X (ix_tb_at tb_X11_layWithout 27 rfl) rfl rfl (pc1 := 56) rfl ?_
    refine ix_iload_n (i := 1) (j := 1) X (ix_tb_at tb_X11_layWithout 28 rfl) rfl rfl (pc1 := 57) rfl ?_
    refine ix_aload_n (i := 0) (j := 0) X (ix_tb_at tb_X11_layWithout 29 rfl) rfl rfl (pc1 := 58) rfl ?_
    refine iz_getI X fl_RX11_302 k_9 (ix_tb_at tb_X11_layWithout 30 rfl) (pc1 := 61) rfl ?_
    refine ix_isub X (ix_tb_at tb_X11_layWithout 31 rfl) (pc1 := 62) rfl ?_
    obtain ⟨d_11, h_12, h⟩ := ix_bd1_ex h
    refine ix_callV (As := [.int (x1 - (d.1 a0 10))]) (rest := []) (ci := 10) (T := TX11) (nf := 18) X mf_X11_supposeItems mi_X11_supposeItems ms_X11_supposeItems rfl (Nat.le_of_ble_eq_true rfl) ml_RX11_436 ⟨Nat.le_of_ble_eq_true rfl, Nat.le_of_ble_eq_true rfl⟩ ⟨Nat.le_of_ble_eq_true rfl, Nat.le_of_ble_eq_true rfl⟩ rfl (Nat.le_of_ble_eq_true rfl) (ix_tb_at tb_X11_layWithout 32 rfl) ⟨k_9.1, List.mem_singleton.mp k_9.2⟩ (c_X11_supposeItems hKp h_12) rfl (pc1 := 65) rfl ?_
    exact ix_vret X hr hlk (ix_r1 (g := ix_w z) h) (ix_tb_at tb_X11_layWithout 33 rfl)
  · have h := ix_iff q_10 h
    refine ix_iload_n (i := 2) (j := 2) X (ix_tb_at tb_X11_layWithout 11 rfl) rfl rfl (pc1 := 22) rfl ?_
    refine ix_iload_n (i := 1) (j := 1) X (ix_tb_at tb_X11_layWithout 12 rfl) rfl rfl (pc1 := 23) rfl ?_
    refine ix_icmp_eq (tgt := 49) X (ix_tb_at tb_X11_layWithout 13 rfl) (by decide) (pc1 := 26) rfl (fun q_13 => ?_) (fun q_13 => ?_)
    · have h := ix_ift q_13 h
      refine ix_sub (L1 := [(0, .ref (K.2.2.1 + a0)), (1, .int x1), (2, .int x2)]) [0, 1, 2] rfl ?_
      exact t_X11_layWithout_49 hKp X hr hlk hrec13 h
    · have h := ix_iff q_13 h
      refine ix_aload_n (i := 0) (j := 0) X (ix_tb_at tb_X11_layWithout 14 rfl) rfl rfl (pc1 := 27) rfl ?_
      obtain ⟨b_16, q_17, h⟩ := ix_bd1_ex h
      refine iz_getR X fl_RX11_45 k_9 q_17 (ix_tb_at tb_X11_layWithout 15 rfl) (pc1 := 30) rfl ?_
      obtain ⟨k_18, h⟩ := ix_ck_some h
      obtain ⟨b_19, q_20, h⟩ := ix_bd1_ex h
      refine iz_getR X fl_RX11_177 k_18 q_20 (ix_tb_at tb_X11_layWithout 16 rfl) (pc1 := 33) rfl ?_
      refine ix_aload_n (i := 0) (j := 0) X (ix_tb_at tb_X11_layWithout 17 rfl) rfl rfl (pc1 := 34) rfl ?_
      obtain ⟨b_21, q_22, h⟩ := ix_bd1_ex h
      refine iz_getR X fl_RX11_28 k_9 q_22 (ix_tb_at tb_X11_layWithout 18 rfl) (pc1 := 37) rfl ?_
      obtain ⟨k_23, h⟩ := ix_ck_some h
      obtain ⟨b_24, q_25, h⟩ := ix_bd1_ex h
      refine iz_getR X fl_RX11_195 k_23 q_25 (ix_tb_at tb_X11_layWithout 19 rfl) (pc1 := 40) rfl ?_
      refine ix_aload_n (i := 0) (j := 0) X (ix_tb_at tb_X11_layWithout 20 rfl) rfl rfl (pc1 := 41) rfl ?_
      obtain ⟨b_26, q_27, h⟩ := ix_bd1_ex h
      refine iz_getR X fl_RX11_57 k_9 q_27 (ix_tb_at tb_X11_layWithout 21 rfl) (pc1 := 44) rfl ?_
      refine ix_iload_n (i := 2) (j := 2) X (ix_tb_at tb_X11_layWithout 22 rfl) rfl rfl (pc1 := 45) rfl ?_
      obtain ⟨k_28, h⟩ := ix_ck_some h
      refine iz_iald X k_28 (ix_tb_at tb_X11_layWithout 23 rfl) (pc1 := 46) rfl ?_
      obtain ⟨k_31, h⟩ := ix_ck_some h
      obtain ⟨d_29, h_30, h⟩ := ix_bd1_ex h
      refine ix_callV (As := [.ref (K.2.2.1 + b_24), .int (d.1 b_26 (ix_n x2))]) (rest := []) (ci := 1) (T := TX1) (nf := 17) X mf_X1_layRow mi_X1_layRow ms_X1_layRow rfl (Nat.le_of_ble_eq_true rfl) ml_RX11_433 ⟨Nat.le_of_ble_eq_true rfl, Nat.le_of_ble_eq_true rfl⟩ ⟨Nat.le_of_ble_eq_true rfl, Nat.le_of_ble_eq_true rfl⟩ rfl (Nat.le_of_ble_eq_true rfl) (ix_tb_at tb_X11_layWithout 24 rfl) ⟨k_31.1, List.mem_singleton.mp k_31.2⟩ (c_X1_layRow hKp h_30) rfl (pc1 := 49) rfl ?_
      refine ix_sub (L1 := [(0, .ref (K.2.2.1 + a0)), (1, .int x1), (2, .int x2)]) [0, 1, 2] rfl ?_
      exact t_X11_layWithout_49 hKp X hr hlk hrec13 h
theorem t_X11_layWithout_13 {l : Launch} {p : Program} {e : Env} {s : State} {m : MethodId} {args : Array Value} {below : List Frame} {meth : Method} {c : Code} {K : ix_Cx} (hKp : ix_Kp K) {n : Nat} {z : ix_Z} (X : ix_X p s m args c K cX11_layWithout RX11 3) (hr : meth.sig.returnType = (none : Option Jvm.ClassFile.FieldType)) (hlk : meth.locks = false)  {a0 : Nat} {x1 : Int32} {d1 : ix_D2}  {x2 : Int32} {d : ix_D2} (h : f_X11_layWithout_13 n z  a0 x1 x2 d = some d1) : ix_G p l e (ix_rm 4 99 0 0) s m args below meth c (MQ below (ix_Post K none (ix_w z d1)) args s 0 0 (ix_A K)) K 3 0 0 13 [(0, .ref (K.2.2.1 + a0)), (1, .int x1), (2, .int x2)] [] (ix_w z d) := by
  have key : ∀ (f : Nat) (x2 : Int32) (d : ix_D2), ix_fix (b_X11_layWithout_13 n z  a0 x1) (fun _ _ => none) f x2 d = some d1 → ix_G p l e (ix_rm 4 99 0 0) s m args below meth c (MQ below (ix_Post K none (ix_w z d1)) args s 0 0 (ix_A K)) K 3 0 0 13 [(0, .ref (K.2.2.1 + a0)), (1, .int x1), (2, .int x2)] [] (ix_w z d) := by
    intro f
    induction f with
    | zero =>
      intro x2 d h
      have h : (none : Option (ix_D2)) = some d1 := h
      cases h
    | succ f ih =>
      intro x2 d h
      exact tb_X11_layWithout_13 hKp X hr hlk (rec13 := ix_fix (b_X11_layWithout_13 n z  a0 x1) (fun _ _ => none) f)  ih h
  exact key n x2 d h
set_option maxRecDepth 20000 in
theorem c_X11_layWithout {l : Launch} {K : ix_Cx} (hKp : ix_Kp K) {n : Nat} {z : ix_Z} {a0 : Nat} {x1 : Int32} {d : ix_D2} {d1 : ix_D2} (h : f_X11_layWithout n z a0 x1 d = some d1) : ix_M l K yX11_layWithout cX11_layWithout 3 (none : Option Jvm.ClassFile.FieldType) 4 99 0 0 [.ref (K.2.2.1 + a0), .int x1] (ix_w z d) none (ix_w z d1) := by
  refine ix_met mf_X11_layWithout hKp (Nat.le_of_ble_eq_true rfl) ?_
  intro p e s m args below meth c hr hlk hnm X
  have X : ix_X p s m args c K cX11_layWithout RX11 3 := X
  show ix_G p l e (ix_rm 4 99 0 0) s m args below meth c (MQ below (ix_Post K none (ix_w z d1)) args s 0 0 (ix_A K)) K 3 0 0 0 [(0, .ref (K.2.2.1 + a0)), (1, .int x1)] [] (ix_w z d)
  unfold f_X11_layWithout at h
  refine ix_aload_n (i := 0) (j := 0) X (ix_tb_at tb_X11_layWithout 0 rfl) rfl rfl (pc1 := 1) rfl ?_
  obtain ⟨k_1, h⟩ := ix_ck_some h
  obtain ⟨b_2, q_3, h⟩ := ix_bd1_ex h
  refine iz_getR X fl_RX11_45 k_1 q_3 (ix_tb_at tb_X11_layWithout 1 rfl) (pc1 := 4) rfl ?_
  refine ix_aload_n (i := 0) (j := 0) X (ix_tb_at tb_X11_layWithout 2 rfl) rfl rfl (pc1 := 5) rfl ?_
  obtain ⟨b_4, q_5, h⟩ := ix_bd1_ex h
  refine iz_getR X fl_RX11_28 k_1 q_5 (ix_tb_at tb_X11_layWithout 3 rfl) (pc1 := 8) rfl ?_
  obtain ⟨k_8, h⟩ := ix_ck_some h
  obtain ⟨d_6, h_7, h⟩ := ix_bd1_ex h
  refine ix_callV (As := [.ref (K.2.2.1 + b_4)]) (rest := []) (ci := 8) (T := TX9) (nf := 20) X mf_X9_openBoard mi_X9_openBoard ms_X9_openBoard rfl (Nat.le_of_ble_eq_true rfl) ml_RX11_266 ⟨Nat.le_of_ble_eq_true rfl, Nat.le_of_ble_eq_true rfl⟩ ⟨Nat.le_of_ble_eq_true rfl, Nat.le_of_ble_eq_true rfl⟩ rfl (Nat.le_of_ble_eq_true rfl) (ix_tb_at tb_X11_layWithout 4 rfl) ⟨k_8.1, List.mem_singleton.mp k_8.2⟩ (c_X9_openBoard hKp h_7) rfl (pc1 := 11) rfl ?_
  refine ix_iconst (v := 0) X (ix_tb_at tb_X11_layWithout 5 rfl) (by decide) (pc1 := 12) rfl ?_
  refine ix_istore_n (i := 2) (L1 := [(2, .int 0), (0, .ref (K.2.2.1 + a0)), (1, .int x1)]) X (ix_tb_at tb_X11_layWithout 6 rfl) rfl (Nat.le_of_ble_eq_true rfl) rfl (pc1 := 13) rfl ?_
  refine ix_sub (L1 := [(0, .ref (K.2.2.1 + a0)), (1, .int x1), (2, .int 0)]) [1, 2, 0] rfl ?_
  exact t_X11_layWithout_13 hKp X hr hlk  h
def tab_X11_dismiss : List (Nat × Instr × Nat) := [(0, .iload_n 1, 1), (1, .aload_n 0, 1), (2, .getfield 302, 3), (5, .if_icmp .ge 35, 3), (8, .aload_n 0, 1), (9, .dup, 1), (10, .getfield 302, 3), (13, .iconst 1, 1), (14, .isub, 1), (15, .putfield 302, 3), (18, .aload_n 0, 1), (19, .getfield 57, 3), (22, .iload_n 1, 1), (23, .iconst 1, 1), (24, .iadd, 1), (25, .aload_n 0, 1), (26, .getfield 57, 3), (29, .iload_n 1, 1), (30, .aload_n 0, 1), (31, .getfield 302, 3), (34, .iload_n 1, 1), (35, .isub, 1), (36, .invokestatic 97, 3), (39, .return_, 1), (40, .iload_n 1, 1), (41, .aload_n 0, 1), (42, .getfield 302, 3), (45, .isub, 1), (46, .istore_n 2, 1), (47, .iload_n 2, 1), (48, .aload_n 0, 1), (49, .getfield 305, 3), (52, .if_icmp .ge 34, 3), (55, .aload_n 0, 1), (56, .dup, 1), (57, .getfield 305, 3), (60, .iconst 1, 1), (61, .isub, 1), (62, .putfield 305, 3), (65, .aload_n 0, 1), (66, .getfield 60, 3), (69, .iload_n 2, 1), (70, .iconst 1, 1), (71, .iadd, 1), (72, .aload_n 0, 1), (73, .getfield 60, 3), (76, .iload_n 2, 1), (77, .aload_n 0, 1), (78, .getfield 305, 3), (81, .iload_n 2, 1), (82, .isub, 1), (83, .invokestatic 97, 3), (86, .return_, 1)]
theorem tb_X11_dismiss : ix_tab cX11_dismiss tab_X11_dismiss := by
  unfold ix_tab
  decide +kernel
noncomputable def f_X11_dismiss (n : Nat) (z : ix_Z) (a0 : Nat) (x1 : Int32) (d : ix_D2) : Option (ix_D2) :=
  ix_ck (ix_ok z [10] a0) (ix_if (d.1 a0 10 ≤ x1) (ix_lt (x1 - (d.1 a0 10)) (fun x2_3 => ix_if (d.1 a0 12 ≤ x2_3) (some d) (ix_lt (ix_di d a0 12 ((d.1 a0 12) - 1)) (fun d_6 => ix_bd1 (z.1 a0 11) (fun b_8 => ix_ck (ix_cpk z 20 b_8 (x2_3 + 1) b_8 x2_3 ((d_6.1 a0 12) - x2_3)) (ix_lt (ix_cpI d_6 b_8 b_8 (ix_n (x2_3 + 1)) (ix_n x2_3) (ix_n ((d_6.1 a0 12) - x2_3))) (fun d_11 => some d_11))))))) (ix_lt (ix_di d a0 10 ((d.1 a0 10) - 1)) (fun d_13 => ix_bd1 (z.1 a0 9) (fun b_15 => ix_ck (ix_cpk z 20 b_15 (x1 + 1) b_15 x1 ((d_13.1 a0 10) - x1)) (ix_lt (ix_cpI d_13 b_15 b_15 (ix_n (x1 + 1)) (ix_n x1) (ix_n ((d_13.1 a0 10) - x1))) (fun d_18 => some d_18))))))
set_option maxRecDepth 20000 in
theorem c_X11_dismiss {l : Launch} {K : ix_Cx} (hKp : ix_Kp K) {n : Nat} {z : ix_Z} {a0 : Nat} {x1 : Int32} {d : ix_D2} {d1 : ix_D2} (h : f_X11_dismiss n z a0 x1 d = some d1) : ix_M l K yX11_dismiss cX11_dismiss 3 (none : Option Jvm.ClassFile.FieldType) 1 26 0 0 [.ref (K.2.2.1 + a0), .int x1] (ix_w z d) none (ix_w z d1) := by
  refine ix_met2 mf_X11_dismiss hKp (Nat.le_of_ble_eq_true rfl) ?_
  intro p e s m args below meth c hr hlk hnm hsz X
  have X : ix_X p s m args c K cX11_dismiss RX11 3 := X
  show ix_G p l e (ix_rm 1 26 0 0) s m args below meth c (MQ below (ix_Post K none (ix_w z d1)) args s 0 0 (ix_A K)) K 3 0 0 0 [(0, .ref (K.2.2.1 + a0)), (1, .int x1)] [] (ix_w z d)
  unfold f_X11_dismiss at h
  refine ix_iload_n (i := 1) (j := 1) X (ix_tb_at tb_X11_dismiss 0 rfl) rfl rfl (pc1 := 1) rfl ?_
  refine ix_aload_n (i := 0) (j := 0) X (ix_tb_at tb_X11_dismiss 1 rfl) rfl rfl (pc1 := 2) rfl ?_
  obtain ⟨k_1, h⟩ := ix_ck_some h
  refine iz_getI X fl_RX11_302 k_1 (ix_tb_at tb_X11_dismiss 2 rfl) (pc1 := 5) rfl ?_
  refine ix_icmp_ge (tgt := 40) X (ix_tb_at tb_X11_dismiss 3 rfl) (by decide) (pc1 := 8) rfl (fun q_2 => ?_) (fun q_2 => ?_)
  · have h := ix_ift q_2 h
    refine ix_iload_n (i := 1) (j := 1) X (ix_tb_at tb_X11_dismiss 24 rfl) rfl rfl (pc1 := 41) rfl ?_
    refine ix_aload_n (i := 0) (j := 0) X (ix_tb_at tb_X11_dismiss 25 rfl) rfl rfl (pc1 := 42) rfl ?_
    refine iz_getI X fl_RX11_302 k_1 (ix_tb_at tb_X11_dismiss 26 rfl) (pc1 := 45) rfl ?_
    refine ix_isub X (ix_tb_at tb_X11_dismiss 27 rfl) (pc1 := 46) rfl ?_
    obtain ⟨x2_3, e_4, h⟩ := ix_lt_ex h
    refine ix_nmi e_4 ?_
    refine ix_istore_n (i := 2) (L1 := [(2, .int x2_3), (0, .ref (K.2.2.1 + a0)), (1, .int x1)]) X (ix_tb_at tb_X11_dismiss 28 rfl) rfl (Nat.le_of_ble_eq_true rfl) rfl (pc1 := 47) rfl ?_
    refine ix_iload_n (i := 2) (j := 0) X (ix_tb_at tb_X11_dismiss 29 rfl) rfl rfl (pc1 := 48) rfl ?_
    refine ix_aload_n (i := 0) (j := 1) X (ix_tb_at tb_X11_dismiss 30 rfl) rfl rfl (pc1 := 49) rfl ?_
    refine iz_getI X fl_RX11_305 k_1 (ix_tb_at tb_X11_dismiss 31 rfl) (pc1 := 52) rfl ?_
    refine ix_icmp_ge (tgt := 86) X (ix_tb_at tb_X11_dismiss 32 rfl) (by decide) (pc1 := 55) rfl (fun q_5 => ?_) (fun q_5 => ?_)
    · have h := ix_ift q_5 h
      exact ix_vret X hr hlk (ix_r1 (g := ix_w z) h) (ix_tb_at tb_X11_dismiss 52 rfl)
    · have h := ix_iff q_5 h
      refine ix_aload_n (i := 0) (j := 1) X (ix_tb_at tb_X11_dismiss 33 rfl) rfl rfl (pc1 := 56) rfl ?_
      refine ix_dup X (ix_tb_at tb_X11_dismiss 34 rfl) rfl (pc1 := 57) rfl ?_
      refine iz_getI X fl_RX11_305 k_1 (ix_tb_at tb_X11_dismiss 35 rfl) (pc1 := 60) rfl ?_
      refine ix_iconst (v := 1) X (ix_tb_at tb_X11_dismiss 36 rfl) (by decide) (pc1 := 61) rfl ?_
      refine ix_isub X (ix_tb_at tb_X11_dismiss 37 rfl) (pc1 := 62) rfl ?_
      obtain ⟨d_6, e_7, h⟩ := ix_lt_ex h
      refine iz_putI X fp_RX11_305 k_1 (ix_tb_at tb_X11_dismiss 38 rfl) e_7 (pc1 := 65) rfl ?_
      refine ix_aload_n (i := 0) (j := 1) X (ix_tb_at tb_X11_dismiss 39 rfl) rfl rfl (pc1 := 66) rfl ?_
      obtain ⟨b_8, q_9, h⟩ := ix_bd1_ex h
      refine iz_getR X fl_RX11_60 k_1 q_9 (ix_tb_at tb_X11_dismiss 40 rfl) (pc1 := 69) rfl ?_
      refine ix_iload_n (i := 2) (j := 0) X (ix_tb_at tb_X11_dismiss 41 rfl) rfl rfl (pc1 := 70) rfl ?_
      refine ix_iconst (v := 1) X (ix_tb_at tb_X11_dismiss 42 rfl) (by decide) (pc1 := 71) rfl ?_
      refine ix_iadd X (ix_tb_at tb_X11_dismiss 43 rfl) (pc1 := 72) rfl ?_
      refine ix_aload_n (i := 0) (j := 1) X (ix_tb_at tb_X11_dismiss 44 rfl) rfl rfl (pc1 := 73) rfl ?_
      refine iz_getR X fl_RX11_60 k_1 q_9 (ix_tb_at tb_X11_dismiss 45 rfl) (pc1 := 76) rfl ?_
      refine ix_iload_n (i := 2) (j := 0) X (ix_tb_at tb_X11_dismiss 46 rfl) rfl rfl (pc1 := 77) rfl ?_
      refine ix_aload_n (i := 0) (j := 1) X (ix_tb_at tb_X11_dismiss 47 rfl) rfl rfl (pc1 := 78) rfl ?_
      refine iz_getI X fl_RX11_305 k_1 (ix_tb_at tb_X11_dismiss 48 rfl) (pc1 := 81) rfl ?_
      refine ix_iload_n (i := 2) (j := 0) X (ix_tb_at tb_X11_dismiss 49 rfl) rfl rfl (pc1 := 82) rfl ?_
      refine ix_isub X (ix_tb_at tb_X11_dismiss 50 rfl) (pc1 := 83) rfl ?_
      obtain ⟨k_10, h⟩ := ix_ck_some h
      obtain ⟨d_11, e_12, h⟩ := ix_lt_ex h
      refine iz_copyI X hsz (Or.inl rfl) ml_RX11_97 k_10 (Nat.le_of_ble_eq_true rfl) (Nat.le_of_ble_eq_true rfl) (ix_tb_at tb_X11_dismiss 51 rfl) e_12 (pc1 := 86) rfl ?_
      exact ix_vret X hr hlk (ix_r1 (g := ix_w z) h) (ix_tb_at tb_X11_dismiss 52 rfl)
  · have h := ix_iff q_2 h
    refine ix_aload_n (i := 0) (j := 0) X (ix_tb_at tb_X11_dismiss 4 rfl) rfl rfl (pc1 := 9) rfl ?_
    refine ix_dup X (ix_tb_at tb_X11_dismiss 5 rfl) rfl (pc1 := 10) rfl ?_
    refine iz_getI X fl_RX11_302 k_1 (ix_tb_at tb_X11_dismiss 6 rfl) (pc1 := 13) rfl ?_
    refine ix_iconst (v := 1) X (ix_tb_at tb_X11_dismiss 7 rfl) (by decide) (pc1 := 14) rfl ?_
    refine ix_isub X (ix_tb_at tb_X11_dismiss 8 rfl) (pc1 := 15) rfl ?_
    obtain ⟨d_13, e_14, h⟩ := ix_lt_ex h
    refine iz_putI X fp_RX11_302 k_1 (ix_tb_at tb_X11_dismiss 9 rfl) e_14 (pc1 := 18) rfl ?_
    refine ix_aload_n (i := 0) (j := 0) X (ix_tb_at tb_X11_dismiss 10 rfl) rfl rfl (pc1 := 19) rfl ?_
    obtain ⟨b_15, q_16, h⟩ := ix_bd1_ex h
    refine iz_getR X fl_RX11_57 k_1 q_16 (ix_tb_at tb_X11_dismiss 11 rfl) (pc1 := 22) rfl ?_
    refine ix_iload_n (i := 1) (j := 1) X (ix_tb_at tb_X11_dismiss 12 rfl) rfl rfl (pc1 := 23) rfl ?_
    refine ix_iconst (v := 1) X (ix_tb_at tb_X11_dismiss 13 rfl) (by decide) (pc1 := 24) rfl ?_
    refine ix_iadd X (ix_tb_at tb_X11_dismiss 14 rfl) (pc1 := 25) rfl ?_
    refine ix_aload_n (i := 0) (j := 0) X (ix_tb_at tb_X11_dismiss 15 rfl) rfl rfl (pc1 := 26) rfl ?_
    refine iz_getR X fl_RX11_57 k_1 q_16 (ix_tb_at tb_X11_dismiss 16 rfl) (pc1 := 29) rfl ?_
    refine ix_iload_n (i := 1) (j := 1) X (ix_tb_at tb_X11_dismiss 17 rfl) rfl rfl (pc1 := 30) rfl ?_
    refine ix_aload_n (i := 0) (j := 0) X (ix_tb_at tb_X11_dismiss 18 rfl) rfl rfl (pc1 := 31) rfl ?_
    refine iz_getI X fl_RX11_302 k_1 (ix_tb_at tb_X11_dismiss 19 rfl) (pc1 := 34) rfl ?_
    refine ix_iload_n (i := 1) (j := 1) X (ix_tb_at tb_X11_dismiss 20 rfl) rfl rfl (pc1 := 35) rfl ?_
    refine ix_isub X (ix_tb_at tb_X11_dismiss 21 rfl) (pc1 := 36) rfl ?_
    obtain ⟨k_17, h⟩ := ix_ck_some h
    obtain ⟨d_18, e_19, h⟩ := ix_lt_ex h
    refine iz_copyI X hsz (Or.inl rfl) ml_RX11_97 k_17 (Nat.le_of_ble_eq_true rfl) (Nat.le_of_ble_eq_true rfl) (ix_tb_at tb_X11_dismiss 22 rfl) e_19 (pc1 := 39) rfl ?_
    exact ix_vret X hr hlk (ix_r1 (g := ix_w z) h) (ix_tb_at tb_X11_dismiss 23 rfl)
def tab_X11_shrink : List (Nat × Instr × Nat) := [(0, .iload_n 1, 1), (1, .invokestatic 263, 3), (4, .ifCond .ne 11, 3), (7, .aload_n 0, 1), (8, .sipush (-1001), 3), (11, .invokevirtual 73, 3), (14, .ireturn, 1), (15, .aload_n 0, 1), (16, .invokevirtual 299, 3), (19, .ifCond .ne 11, 3), (22, .aload_n 0, 1), (23, .sipush (-1002), 3), (26, .invokevirtual 73, 3), (29, .ireturn, 1), (30, .iload_n 1, 1), (31, .istore_n 2, 1), (32, .iconst 0, 1), (33, .istore_n 3, 1), (34, .aload_n 0, 1), (35, .getfield 302, 3), (38, .aload_n 0, 1), (39, .getfield 305, 3), (42, .iadd, 1), (43, .istore 4, 2), (45, .iload 4, 2), (47, .ifCond .le 66, 3), (50, .aload_n 0, 1), (51, .iload_n 3, 1), (52, .invokevirtual 311, 3), (55, .aload_n 0, 1), (56, .getfield 45, 3), (59, .iload_n 2, 1), (60, .invokevirtual 287, 3), (63, .istore 5, 2), (65, .iload_n 2, 1), (66, .aload_n 0, 1), (67, .getfield 45, 3), (70, .getfield 174, 3), (73, .iconst 1, 1), (74, .iaload, 1), (75, .isub, 1), (76, .istore_n 2, 1), (77, .iload 5, 2), (79, .iconst 1, 1), (80, .if_icmp .eq 11, 3), (83, .iload 5, 2), (85, .ifCond .eq 6, 3), (88, .iload 5, 2), (90, .ireturn, 1), (91, .iload 5, 2), (93, .ifCond .ne 11, 3), (96, .aload_n 0, 1), (97, .iload_n 3, 1), (98, .invokevirtual 314, 3), (101, .goto 6, 3), (104, .iinc 3 1, 3), (107, .iinc 4 (-1), 3), (110, .goto (-65), 3), (113, .aload_n 0, 1), (114, .getfield 302, 3), (117, .aload_n 0, 1), (118, .getfield 305, 3), (121, .iadd, 1), (122, .ireturn, 1)]
theorem tb_X11_shrink : ix_tab cX11_shrink tab_X11_shrink := by
  unfold ix_tab
  decide +kernel
noncomputable def f_X11_shrink_107 (n : Nat) (z : ix_Z) (rec45 : Int32 → Int32 → Int32 → ix_D2 → Option (Int32 × ix_D2)) (a0 : Nat) (x2 : Int32) (x3 : Int32) (x4 : Int32) (d : ix_D2) : Option (Int32 × ix_D2) :=
  ix_lt (x4 + (-1)) (fun x4_32 => rec45 x2 x3 x4_32 d)
noncomputable def f_X11_shrink_91 (n : Nat) (z : ix_Z) (rec45 : Int32 → Int32 → Int32 → ix_D2 → Option (Int32 × ix_D2)) (a0 : Nat) (x2 : Int32) (x3 : Int32) (x4 : Int32) (x5 : Int32) (d : ix_D2) : Option (Int32 × ix_D2) :=
  ix_if (x5 = 0) (ix_ck (ix_ok z [10] a0) (ix_bd1 (f_X11_dismiss n z a0 x3 d) (fun d_34 => f_X11_shrink_107 n z rec45 a0 x2 x3 x4 d_34))) (ix_lt (x3 + 1) (fun x3_30 => f_X11_shrink_107 n z rec45 a0 x2 x3_30 x4 d))
noncomputable def b_X11_shrink_45 (n : Nat) (z : ix_Z)  (a0 : Nat) (rec45 : Int32 → Int32 → Int32 → ix_D2 → Option (Int32 × ix_D2)) (x2 : Int32) (x3 : Int32) (x4 : Int32) (d : ix_D2) : Option (Int32 × ix_D2) :=
  ix_if (x4 ≤ 0) (ix_ck (ix_ok z [10] a0) (some ((d.1 a0 10) + (d.1 a0 12), d))) (ix_ck (ix_ok z [10] a0) (ix_bd1 (f_X11_layWithout n z a0 x3 d) (fun d_14 => ix_bd1 (z.1 a0 7) (fun b_17 => ix_ck (ix_ok z [8] b_17) (ix_bd2 (f_X9_go n z b_17 x2 d_14) (fun r_22 d_19 => ix_bd1 (z.1 b_17 10) (fun b_23 => ix_ck (ix_ix z 20 b_23 1) (ix_lt (x2 - (d_19.1 b_23 (ix_n 1))) (fun x2_26 => ix_if (r_22 = 1) (f_X11_shrink_91 n z rec45 a0 x2_26 x3 x4 r_22 d_19) (ix_if (r_22 = 0) (f_X11_shrink_91 n z rec45 a0 x2_26 x3 x4 r_22 d_19) (some (r_22, d_19))))))))))))
noncomputable def f_X11_shrink_45 (n : Nat) (z : ix_Z)  (a0 : Nat) (x2 : Int32) (x3 : Int32) (x4 : Int32) (d : ix_D2) : Option (Int32 × ix_D2) := ix_fix (b_X11_shrink_45 n z  a0) (fun _ _ _ _ => none) n x2 x3 x4 d
noncomputable def f_X11_shrink (n : Nat) (z : ix_Z) (a0 : Nat) (x1 : Int32) (d : ix_D2) : Option (Int32 × ix_D2) :=
  ix_bd2 (f_X11_areSteps n z x1 d) (fun r_3 d_1 => ix_if (r_3 = 0) (ix_ck (ix_ok z [10] a0) (ix_bd2 (f_X11_refuse n z a0 ((-1001)) d_1) (fun r_44 d_41 => some (r_44, d_41)))) (ix_ck (ix_ok z [10] a0) (ix_bd2 (f_X11_saidNo n z a0 d_1) (fun r_8 d_5 => ix_if (r_8 = 0) (ix_bd2 (f_X11_refuse n z a0 ((-1002)) d_5) (fun r_40 d_38 => some (r_40, d_38))) (ix_lt ((d_5.1 a0 10) + (d_5.1 a0 12)) (fun x4_10 => f_X11_shrink_45 n z  a0 x1 0 x4_10 d_5))))))
set_option maxRecDepth 20000 in
theorem t_X11_shrink_107 {l : Launch} {p : Program} {e : Env} {s : State} {m : MethodId} {args : Array Value} {below : List Frame} {meth : Method} {c : Code} {K : ix_Cx} (hKp : ix_Kp K) {n : Nat} {z : ix_Z} (X : ix_X p s m args c K cX11_shrink RX11 6) (hr : meth.sig.returnType = (some .int)) (hlk : meth.locks = false) {rec45 : Int32 → Int32 → Int32 → ix_D2 → Option (Int32 × ix_D2)} {a0 : Nat} {x2 : Int32} {x3 : Int32} {x4 : Int32} {r : Int32} {d1 : ix_D2} (hrec45 : ∀ (x2 : Int32) (x3 : Int32) (x4 : Int32) (d : ix_D2), rec45 x2 x3 x4 d = some (r, d1) → ix_G p l e (ix_rm 6 145 0 0) s m args below meth c (MQ below (ix_Post K (some (.int r)) (ix_w z d1)) args s 0 0 (ix_A K)) K 6 0 0 45 [(0, .ref (K.2.2.1 + a0)), (2, .int x2), (3, .int x3), (4, .int x4)] [] (ix_w z d)) {d : ix_D2} (h : f_X11_shrink_107 n z rec45 a0 x2 x3 x4 d = some (r, d1)) : ix_G p l e (ix_rm 6 145 0 0) s m args below meth c (MQ below (ix_Post K (some (.int r)) (ix_w z d1)) args s 0 0 (ix_A K)) K 6 0 0 107 [(0, .ref (K.2.2.1 + a0)), (2, .int x2), (3, .int x3), (4, .int x4)] [] (ix_w z d) := by
  unfold f_X11_shrink_107 at h
  obtain ⟨x4_32, e_33, h⟩ := ix_lt_ex h
  refine ix_iinc (i := 4) (j := 3) (v := x4_32) (L1 := [(4, .int x4_32), (0, .ref (K.2.2.1 + a0)), (2, .int x2), (3, .int x3)]) X (ix_tb_at tb_X11_shrink 56 rfl) rfl (by rw [oi_m1]; exact e_33.symm) (Nat.le_of_ble_eq_true rfl) rfl (pc1 := 110) rfl ?_
  refine ix_goto (tgt := 45) X (ix_tb_at tb_X11_shrink 57 rfl) (by decide) ?_
  refine ix_sub (L1 := [(0, .ref (K.2.2.1 + a0)), (2, .int x2), (3, .int x3), (4, .int x4_32)]) [1, 2, 3, 0] rfl ?_
  exact hrec45 x2 x3 x4_32 d h
set_option maxRecDepth 20000 in
theorem t_X11_shrink_91 {l : Launch} {p : Program} {e : Env} {s : State} {m : MethodId} {args : Array Value} {below : List Frame} {meth : Method} {c : Code} {K : ix_Cx} (hKp : ix_Kp K) {n : Nat} {z : ix_Z} (X : ix_X p s m args c K cX11_shrink RX11 6) (hr : meth.sig.returnType = (some .int)) (hlk : meth.locks = false) {rec45 : Int32 → Int32 → Int32 → ix_D2 → Option (Int32 × ix_D2)} {a0 : Nat} {x2 : Int32} {x3 : Int32} {x4 : Int32} {x5 : Int32} {r : Int32} {d1 : ix_D2} (hrec45 : ∀ (x2 : Int32) (x3 : Int32) (x4 : Int32) (d : ix_D2), rec45 x2 x3 x4 d = some (r, d1) → ix_G p l e (ix_rm 6 145 0 0) s m args below meth c (MQ below (ix_Post K (some (.int r)) (ix_w z d1)) args s 0 0 (ix_A K)) K 6 0 0 45 [(0, .ref (K.2.2.1 + a0)), (2, .int x2), (3, .int x3), (4, .int x4)] [] (ix_w z d)) {d : ix_D2} (h : f_X11_shrink_91 n z rec45 a0 x2 x3 x4 x5 d = some (r, d1)) : ix_G p l e (ix_rm 6 145 0 0) s m args below meth c (MQ below (ix_Post K (some (.int r)) (ix_w z d1)) args s 0 0 (ix_A K)) K 6 0 0 91 [(0, .ref (K.2.2.1 + a0)), (2, .int x2), (3, .int x3), (4, .int x4), (5, .int x5)] [] (ix_w z d) := by
  unfold f_X11_shrink_91 at h
  refine ix_iload (i := 5) (j := 4) X (ix_tb_at tb_X11_shrink 49 rfl) rfl (pc1 := 93) rfl ?_
  refine ix_if_ne (tgt := 104) X (ix_tb_at tb_X11_shrink 50 rfl) (by decide) (pc1 := 96) rfl (fun q_29 => ?_) (fun q_29 => ?_)
  · have h := ix_iff q_29 h
    obtain ⟨x3_30, e_31, h⟩ := ix_lt_ex h
    refine ix_iinc (i := 3) (j := 2) (v := x3_30) (L1 := [(3, .int x3_30), (0, .ref (K.2.2.1 + a0)), (2, .int x2), (4, .int x4), (5, .int x5)]) X (ix_tb_at tb_X11_shrink 55 rfl) rfl (by rw [oi_1]; exact e_31.symm) (Nat.le_of_ble_eq_true rfl) rfl (pc1 := 107) rfl ?_
    refine ix_sub (L1 := [(0, .ref (K.2.2.1 + a0)), (2, .int x2), (3, .int x3_30), (4, .int x4)]) [1, 2, 0, 3] rfl ?_
    exact t_X11_shrink_107 hKp X hr hlk hrec45 h
  · have h := ix_ift q_29 h
    refine ix_aload_n (i := 0) (j := 0) X (ix_tb_at tb_X11_shrink 51 rfl) rfl rfl (pc1 := 97) rfl ?_
    refine ix_iload_n (i := 3) (j := 2) X (ix_tb_at tb_X11_shrink 52 rfl) rfl rfl (pc1 := 98) rfl ?_
    obtain ⟨k_36, h⟩ := ix_ck_some h
    obtain ⟨d_34, h_35, h⟩ := ix_bd1_ex h
    refine ix_callV (As := [.int x3]) (rest := []) (ci := 10) (T := TX11) (nf := 18) X mf_X11_dismiss mi_X11_dismiss ms_X11_dismiss rfl (Nat.le_of_ble_eq_true rfl) ml_RX11_314 ⟨Nat.le_of_ble_eq_true rfl, Nat.le_of_ble_eq_true rfl⟩ ⟨Nat.le_of_ble_eq_true rfl, Nat.le_of_ble_eq_true rfl⟩ rfl (Nat.le_of_ble_eq_true rfl) (ix_tb_at tb_X11_shrink 53 rfl) ⟨k_36.1, List.mem_singleton.mp k_36.2⟩ (c_X11_dismiss hKp h_35) rfl (pc1 := 101) rfl ?_
    refine ix_goto (tgt := 107) X (ix_tb_at tb_X11_shrink 54 rfl) (by decide) ?_
    refine ix_sub (L1 := [(0, .ref (K.2.2.1 + a0)), (2, .int x2), (3, .int x3), (4, .int x4)]) [0, 1, 2, 3] rfl ?_
    exact t_X11_shrink_107 hKp X hr hlk hrec45 h
set_option maxRecDepth 20000 in
theorem tb_X11_shrink_45 {l : Launch} {p : Program} {e : Env} {s : State} {m : MethodId} {args : Array Value} {below : List Frame} {meth : Method} {c : Code} {K : ix_Cx} (hKp : ix_Kp K) {n : Nat} {z : ix_Z} (X : ix_X p s m args c K cX11_shrink RX11 6) (hr : meth.sig.returnType = (some .int)) (hlk : meth.locks = false)  {a0 : Nat} {rec45 : Int32 → Int32 → Int32 → ix_D2 → Option (Int32 × ix_D2)} {r : Int32} {d1 : ix_D2} (hrec45 : ∀ (x2 : Int32) (x3 : Int32) (x4 : Int32) (d : ix_D2), rec45 x2 x3 x4 d = some (r, d1) → ix_G p l e (ix_rm 6 145 0 0) s m args below meth c (MQ below (ix_Post K (some (.int r)) (ix_w z d1)) args s 0 0 (ix_A K)) K 6 0 0 45 [(0, .ref (K.2.2.1 + a0)), (2, .int x2), (3, .int x3), (4, .int x4)] [] (ix_w z d)) {x2 : Int32} {x3 : Int32} {x4 : Int32} {d : ix_D2} (h : b_X11_shrink_45 n z  a0 rec45 x2 x3 x4 d = some (r, d1)) : ix_G p l e (ix_rm 6 145 0 0) s m args below meth c (MQ below (ix_Post K (some (.int r)) (ix_w z d1)) args s 0 0 (ix_A K)) K 6 0 0 45 [(0, .ref (K.2.2.1 + a0)), (2, .int x2), (3, .int x3), (4, .int x4)] [] (ix_w z d) := by
  unfold b_X11_shrink_45 at h
  refine ix_iload (i := 4) (j := 3) X (ix_tb_at tb_X11_shrink 24 rfl) rfl (pc1 := 47) rfl ?_
  refine ix_if_le (tgt := 113) X (ix_tb_at tb_X11_shrink 25 rfl) (by decide) (pc1 := 50) rfl (fun q_12 => ?_) (fun q_12 => ?_)
  · have h := ix_ift q_12 h
    refine ix_aload_n (i := 0) (j := 0) X (ix_tb_at tb_X11_shrink 58 rfl) rfl rfl (pc1 := 114) rfl ?_
    obtain ⟨k_13, h⟩ := ix_ck_some h
    refine iz_getI X fl_RX11_302 k_13 (ix_tb_at tb_X11_shrink 59 rfl) (pc1 := 117) rfl ?_
    refine ix_aload_n (i := 0) (j := 0) X (ix_tb_at tb_X11_shrink 60 rfl) rfl rfl (pc1 := 118) rfl ?_
    refine iz_getI X fl_RX11_305 k_13 (ix_tb_at tb_X11_shrink 61 rfl) (pc1 := 121) rfl ?_
    refine ix_iadd X (ix_tb_at tb_X11_shrink 62 rfl) (pc1 := 122) rfl ?_
    exact ix_iret X hr hlk (ix_r2 (f := fun r => some (.int r)) (g := ix_w z) h) (ix_tb_at tb_X11_shrink 63 rfl)
  · have h := ix_iff q_12 h
    refine ix_aload_n (i := 0) (j := 0) X (ix_tb_at tb_X11_shrink 26 rfl) rfl rfl (pc1 := 51) rfl ?_
    refine ix_iload_n (i := 3) (j := 2) X (ix_tb_at tb_X11_shrink 27 rfl) rfl rfl (pc1 := 52) rfl ?_
    obtain ⟨k_16, h⟩ := ix_ck_some h
    obtain ⟨d_14, h_15, h⟩ := ix_bd1_ex h
    refine ix_callV (As := [.int x3]) (rest := []) (ci := 10) (T := TX11) (nf := 18) X mf_X11_layWithout mi_X11_layWithout ms_X11_layWithout rfl (Nat.le_of_ble_eq_true rfl) ml_RX11_311 ⟨Nat.le_of_ble_eq_true rfl, Nat.le_of_ble_eq_true rfl⟩ ⟨Nat.le_of_ble_eq_true rfl, Nat.le_of_ble_eq_true rfl⟩ rfl (Nat.le_of_ble_eq_true rfl) (ix_tb_at tb_X11_shrink 28 rfl) ⟨k_16.1, List.mem_singleton.mp k_16.2⟩ (c_X11_layWithout hKp h_15) rfl (pc1 := 55) rfl ?_
    refine ix_aload_n (i := 0) (j := 0) X (ix_tb_at tb_X11_shrink 29 rfl) rfl rfl (pc1 := 56) rfl ?_
    obtain ⟨b_17, q_18, h⟩ := ix_bd1_ex h
    refine iz_getR X fl_RX11_45 k_16 q_18 (ix_tb_at tb_X11_shrink 30 rfl) (pc1 := 59) rfl ?_
    refine ix_iload_n (i := 2) (j := 1) X (ix_tb_at tb_X11_shrink 31 rfl) rfl rfl (pc1 := 60) rfl ?_
    obtain ⟨k_21, h⟩ := ix_ck_some h
    obtain ⟨r_22, d_19, h_20, h⟩ := ix_bd2_ex h
    refine ix_callV (As := [.int x2]) (rest := []) (ci := 8) (T := TX9) (nf := 20) X mf_X9_go mi_X9_go ms_X9_go rfl (Nat.le_of_ble_eq_true rfl) ml_RX11_287 ⟨Nat.le_of_ble_eq_true rfl, Nat.le_of_ble_eq_true rfl⟩ ⟨Nat.le_of_ble_eq_true rfl, Nat.le_of_ble_eq_true rfl⟩ rfl (Nat.le_of_ble_eq_true rfl) (ix_tb_at tb_X11_shrink 32 rfl) ⟨k_21.1, List.mem_singleton.mp k_21.2⟩ (c_X9_go hKp h_20) rfl (pc1 := 63) rfl ?_
    refine ix_istore (i := 5) (L1 := [(5, .int r_22), (0, .ref (K.2.2.1 + a0)), (2, .int x2), (3, .int x3), (4, .int x4)]) X (ix_tb_at tb_X11_shrink 33 rfl) (Nat.le_of_ble_eq_true rfl) rfl (pc1 := 65) rfl ?_
    refine ix_iload_n (i := 2) (j := 2) X (ix_tb_at tb_X11_shrink 34 rfl) rfl rfl (pc1 := 66) rfl ?_
    refine ix_aload_n (i := 0) (j := 1) X (ix_tb_at tb_X11_shrink 35 rfl) rfl rfl (pc1 := 67) rfl ?_
    refine iz_getR X fl_RX11_45 k_16 q_18 (ix_tb_at tb_X11_shrink 36 rfl) (pc1 := 70) rfl ?_
    obtain ⟨b_23, q_24, h⟩ := ix_bd1_ex h
    refine iz_getR X fl_RX11_174 k_21 q_24 (ix_tb_at tb_X11_shrink 37 rfl) (pc1 := 73) rfl ?_
    refine ix_iconst (v := 1) X (ix_tb_at tb_X11_shrink 38 rfl) (by decide) (pc1 := 74) rfl ?_
    obtain ⟨k_25, h⟩ := ix_ck_some h
    refine iz_iald X k_25 (ix_tb_at tb_X11_shrink 39 rfl) (pc1 := 75) rfl ?_
    refine ix_isub X (ix_tb_at tb_X11_shrink 40 rfl) (pc1 := 76) rfl ?_
    obtain ⟨x2_26, e_27, h⟩ := ix_lt_ex h
    refine ix_nmi e_27 ?_
    refine ix_istore_n (i := 2) (L1 := [(2, .int x2_26), (5, .int r_22), (0, .ref (K.2.2.1 + a0)), (3, .int x3), (4, .int x4)]) X (ix_tb_at tb_X11_shrink 41 rfl) rfl (Nat.le_of_ble_eq_true rfl) rfl (pc1 := 77) rfl ?_
    refine ix_iload (i := 5) (j := 1) X (ix_tb_at tb_X11_shrink 42 rfl) rfl (pc1 := 79) rfl ?_
    refine ix_iconst (v := 1) X (ix_tb_at tb_X11_shrink 43 rfl) (by decide) (pc1 := 80) rfl ?_
    refine ix_icmp_eq (tgt := 91) X (ix_tb_at tb_X11_shrink 44 rfl) (by decide) (pc1 := 83) rfl (fun q_28 => ?_) (fun q_28 => ?_)
    · have h := ix_ift q_28 h
      refine ix_sub (L1 := [(0, .ref (K.2.2.1 + a0)), (2, .int x2_26), (3, .int x3), (4, .int x4), (5, .int r_22)]) [2, 0, 3, 4, 1] rfl ?_
      exact t_X11_shrink_91 hKp X hr hlk hrec45 h
    · have h := ix_iff q_28 h
      refine ix_iload (i := 5) (j := 1) X (ix_tb_at tb_X11_shrink 45 rfl) rfl (pc1 := 85) rfl ?_
      refine ix_if_eq (tgt := 91) X (ix_tb_at tb_X11_shrink 46 rfl) (by decide) (pc1 := 88) rfl (fun q_37 => ?_) (fun q_37 => ?_)
      · have h := ix_ift q_37 h
        refine ix_sub (L1 := [(0, .ref (K.2.2.1 + a0)), (2, .int x2_26), (3, .int x3), (4, .int x4), (5, .int r_22)]) [2, 0, 3, 4, 1] rfl ?_
        exact t_X11_shrink_91 hKp X hr hlk hrec45 h
      · have h := ix_iff q_37 h
        refine ix_iload (i := 5) (j := 1) X (ix_tb_at tb_X11_shrink 47 rfl) rfl (pc1 := 90) rfl ?_
        exact ix_iret X hr hlk (ix_r2 (f := fun r => some (.int r)) (g := ix_w z) h) (ix_tb_at tb_X11_shrink 48 rfl)
theorem t_X11_shrink_45 {l : Launch} {p : Program} {e : Env} {s : State} {m : MethodId} {args : Array Value} {below : List Frame} {meth : Method} {c : Code} {K : ix_Cx} (hKp : ix_Kp K) {n : Nat} {z : ix_Z} (X : ix_X p s m args c K cX11_shrink RX11 6) (hr : meth.sig.returnType = (some .int)) (hlk : meth.locks = false)  {a0 : Nat} {r : Int32} {d1 : ix_D2}  {x2 : Int32} {x3 : Int32} {x4 : Int32} {d : ix_D2} (h : f_X11_shrink_45 n z  a0 x2 x3 x4 d = some (r, d1)) : ix_G p l e (ix_rm 6 145 0 0) s m args below meth c (MQ below (ix_Post K (some (.int r)) (ix_w z d1)) args s 0 0 (ix_A K)) K 6 0 0 45 [(0, .ref (K.2.2.1 + a0)), (2, .int x2), (3, .int x3), (4, .int x4)] [] (ix_w z d) := by
  have key : ∀ (f : Nat) (x2 : Int32) (x3 : Int32) (x4 : Int32) (d : ix_D2), ix_fix (b_X11_shrink_45 n z  a0) (fun _ _ _ _ => none) f x2 x3 x4 d = some (r, d1) → ix_G p l e (ix_rm 6 145 0 0) s m args below meth c (MQ below (ix_Post K (some (.int r)) (ix_w z d1)) args s 0 0 (ix_A K)) K 6 0 0 45 [(0, .ref (K.2.2.1 + a0)), (2, .int x2), (3, .int x3), (4, .int x4)] [] (ix_w z d) := by
    intro f
    induction f with
    | zero =>
      intro x2 x3 x4 d h
      have h : (none : Option (Int32 × ix_D2)) = some (r, d1) := h
      cases h
    | succ f ih =>
      intro x2 x3 x4 d h
      exact tb_X11_shrink_45 hKp X hr hlk (rec45 := ix_fix (b_X11_shrink_45 n z  a0) (fun _ _ _ _ => none) f)  ih h
  exact key n x2 x3 x4 d h
set_option maxRecDepth 20000 in
theorem c_X11_shrink {l : Launch} {K : ix_Cx} (hKp : ix_Kp K) {n : Nat} {z : ix_Z} {a0 : Nat} {x1 : Int32} {d : ix_D2} {r : Int32} {d1 : ix_D2} (h : f_X11_shrink n z a0 x1 d = some (r, d1)) : ix_M l K yX11_shrink cX11_shrink 6 (some .int) 6 145 0 0 [.ref (K.2.2.1 + a0), .int x1] (ix_w z d) (some (.int r)) (ix_w z d1) := by
  refine ix_met mf_X11_shrink hKp (Nat.le_of_ble_eq_true rfl) ?_
  intro p e s m args below meth c hr hlk hnm X
  have X : ix_X p s m args c K cX11_shrink RX11 6 := X
  show ix_G p l e (ix_rm 6 145 0 0) s m args below meth c (MQ below (ix_Post K (some (.int r)) (ix_w z d1)) args s 0 0 (ix_A K)) K 6 0 0 0 [(0, .ref (K.2.2.1 + a0)), (1, .int x1)] [] (ix_w z d)
  unfold f_X11_shrink at h
  refine ix_iload_n (i := 1) (j := 1) X (ix_tb_at tb_X11_shrink 0 rfl) rfl rfl (pc1 := 1) rfl ?_
  obtain ⟨r_3, d_1, h_2, h⟩ := ix_bd2_ex h
  refine ix_callS (As := [.int x1]) (rest := []) X mf_X11_areSteps st_X11_areSteps ml_RX11_263 ⟨Nat.le_of_ble_eq_true rfl, Nat.le_of_ble_eq_true rfl⟩ ⟨Nat.le_of_ble_eq_true rfl, Nat.le_of_ble_eq_true rfl⟩ rfl (Nat.le_of_ble_eq_true rfl) (ix_tb_at tb_X11_shrink 1 rfl) (c_X11_areSteps hKp h_2) rfl (pc1 := 4) rfl ?_
  refine ix_if_ne (tgt := 15) X (ix_tb_at tb_X11_shrink 2 rfl) (by decide) (pc1 := 7) rfl (fun q_4 => ?_) (fun q_4 => ?_)
  · have h := ix_iff q_4 h
    refine ix_aload_n (i := 0) (j := 0) X (ix_tb_at tb_X11_shrink 7 rfl) rfl rfl (pc1 := 16) rfl ?_
    obtain ⟨k_7, h⟩ := ix_ck_some h
    obtain ⟨r_8, d_5, h_6, h⟩ := ix_bd2_ex h
    refine ix_callV (As := []) (rest := []) (ci := 10) (T := TX11) (nf := 18) X mf_X11_saidNo mi_X11_saidNo ms_X11_saidNo rfl (Nat.le_of_ble_eq_true rfl) ml_RX11_299 ⟨Nat.le_of_ble_eq_true rfl, Nat.le_of_ble_eq_true rfl⟩ ⟨Nat.le_of_ble_eq_true rfl, Nat.le_of_ble_eq_true rfl⟩ rfl (Nat.le_of_ble_eq_true rfl) (ix_tb_at tb_X11_shrink 8 rfl) ⟨k_7.1, List.mem_singleton.mp k_7.2⟩ (c_X11_saidNo hKp h_6) rfl (pc1 := 19) rfl ?_
    refine ix_if_ne (tgt := 30) X (ix_tb_at tb_X11_shrink 9 rfl) (by decide) (pc1 := 22) rfl (fun q_9 => ?_) (fun q_9 => ?_)
    · have h := ix_iff q_9 h
      refine ix_iload_n (i := 1) (j := 1) X (ix_tb_at tb_X11_shrink 14 rfl) rfl rfl (pc1 := 31) rfl ?_
      refine ix_istore_n (i := 2) (L1 := [(2, .int x1), (0, .ref (K.2.2.1 + a0)), (1, .int x1)]) X (ix_tb_at tb_X11_shrink 15 rfl) rfl (Nat.le_of_ble_eq_true rfl) rfl (pc1 := 32) rfl ?_
      refine ix_iconst (v := 0) X (ix_tb_at tb_X11_shrink 16 rfl) (by decide) (pc1 := 33) rfl ?_
      refine ix_istore_n (i := 3) (L1 := [(3, .int 0), (2, .int x1), (0, .ref (K.2.2.1 + a0)), (1, .int x1)]) X (ix_tb_at tb_X11_shrink 17 rfl) rfl (Nat.le_of_ble_eq_true rfl) rfl (pc1 := 34) rfl ?_
      refine ix_aload_n (i := 0) (j := 2) X (ix_tb_at tb_X11_shrink 18 rfl) rfl rfl (pc1 := 35) rfl ?_
      refine iz_getI X fl_RX11_302 k_7 (ix_tb_at tb_X11_shrink 19 rfl) (pc1 := 38) rfl ?_
      refine ix_aload_n (i := 0) (j := 2) X (ix_tb_at tb_X11_shrink 20 rfl) rfl rfl (pc1 := 39) rfl ?_
      refine iz_getI X fl_RX11_305 k_7 (ix_tb_at tb_X11_shrink 21 rfl) (pc1 := 42) rfl ?_
      refine ix_iadd X (ix_tb_at tb_X11_shrink 22 rfl) (pc1 := 43) rfl ?_
      obtain ⟨x4_10, e_11, h⟩ := ix_lt_ex h
      refine ix_nmi e_11 ?_
      refine ix_istore (i := 4) (L1 := [(4, .int x4_10), (3, .int 0), (2, .int x1), (0, .ref (K.2.2.1 + a0)), (1, .int x1)]) X (ix_tb_at tb_X11_shrink 23 rfl) (Nat.le_of_ble_eq_true rfl) rfl (pc1 := 45) rfl ?_
      refine ix_sub (L1 := [(0, .ref (K.2.2.1 + a0)), (2, .int x1), (3, .int 0), (4, .int x4_10)]) [3, 2, 1, 0] rfl ?_
      exact t_X11_shrink_45 hKp X hr hlk  h
    · have h := ix_ift q_9 h
      refine ix_aload_n (i := 0) (j := 0) X (ix_tb_at tb_X11_shrink 10 rfl) rfl rfl (pc1 := 23) rfl ?_
      refine ix_sipush (v := (-1002)) X (ix_tb_at tb_X11_shrink 11 rfl) (by decide) (pc1 := 26) rfl ?_
      obtain ⟨r_40, d_38, h_39, h⟩ := ix_bd2_ex h
      refine ix_callV (As := [.int ((-1002))]) (rest := []) (ci := 10) (T := TX11) (nf := 18) X mf_X11_refuse mi_X11_refuse ms_X11_refuse rfl (Nat.le_of_ble_eq_true rfl) ml_RX11_73 ⟨Nat.le_of_ble_eq_true rfl, Nat.le_of_ble_eq_true rfl⟩ ⟨Nat.le_of_ble_eq_true rfl, Nat.le_of_ble_eq_true rfl⟩ rfl (Nat.le_of_ble_eq_true rfl) (ix_tb_at tb_X11_shrink 12 rfl) ⟨k_7.1, List.mem_singleton.mp k_7.2⟩ (c_X11_refuse hKp h_39) rfl (pc1 := 29) rfl ?_
      exact ix_iret X hr hlk (ix_r2 (f := fun r => some (.int r)) (g := ix_w z) h) (ix_tb_at tb_X11_shrink 13 rfl)
  · have h := ix_ift q_4 h
    refine ix_aload_n (i := 0) (j := 0) X (ix_tb_at tb_X11_shrink 3 rfl) rfl rfl (pc1 := 8) rfl ?_
    refine ix_sipush (v := (-1001)) X (ix_tb_at tb_X11_shrink 4 rfl) (by decide) (pc1 := 11) rfl ?_
    obtain ⟨k_43, h⟩ := ix_ck_some h
    obtain ⟨r_44, d_41, h_42, h⟩ := ix_bd2_ex h
    refine ix_callV (As := [.int ((-1001))]) (rest := []) (ci := 10) (T := TX11) (nf := 18) X mf_X11_refuse mi_X11_refuse ms_X11_refuse rfl (Nat.le_of_ble_eq_true rfl) ml_RX11_73 ⟨Nat.le_of_ble_eq_true rfl, Nat.le_of_ble_eq_true rfl⟩ ⟨Nat.le_of_ble_eq_true rfl, Nat.le_of_ble_eq_true rfl⟩ rfl (Nat.le_of_ble_eq_true rfl) (ix_tb_at tb_X11_shrink 5 rfl) ⟨k_43.1, List.mem_singleton.mp k_43.2⟩ (c_X11_refuse hKp h_42) rfl (pc1 := 14) rfl ?_
    exact ix_iret X hr hlk (ix_r2 (f := fun r => some (.int r)) (g := ix_w z) h) (ix_tb_at tb_X11_shrink 6 rfl)
def tab_J6_bitCount_0f7a4 : List (Nat × Instr × Nat) := [(0, .iload_n 0, 1), (1, .iload_n 0, 1), (2, .iconst 1, 1), (3, .iushr, 1), (4, .ldc_w 265, 3), (7, .iand, 1), (8, .isub, 1), (9, .istore_n 0, 1), (10, .iload_n 0, 1), (11, .ldc_w 266, 3), (14, .iand, 1), (15, .iload_n 0, 1), (16, .iconst 2, 1), (17, .iushr, 1), (18, .ldc_w 266, 3), (21, .iand, 1), (22, .iadd, 1), (23, .istore_n 0, 1), (24, .iload_n 0, 1), (25, .iload_n 0, 1), (26, .iconst 4, 1), (27, .iushr, 1), (28, .iadd, 1), (29, .ldc_w 267, 3), (32, .iand, 1), (33, .istore_n 0, 1), (34, .iload_n 0, 1), (35, .iload_n 0, 1), (36, .bipush 8, 2), (38, .iushr, 1), (39, .iadd, 1), (40, .istore_n 0, 1), (41, .iload_n 0, 1), (42, .iload_n 0, 1), (43, .bipush 16, 2), (45, .iushr, 1), (46, .iadd, 1), (47, .istore_n 0, 1), (48, .iload_n 0, 1), (49, .bipush 63, 2), (51, .iand, 1), (52, .ireturn, 1)]
theorem tb_J6_bitCount_0f7a4 : ix_tab cJ6_bitCount_0f7a4 tab_J6_bitCount_0f7a4 := by
  unfold ix_tab
  decide +kernel
noncomputable def f_J6_bitCount_0f7a4 (n : Nat) (z : ix_Z) (x0 : Int32) (d : ix_D2) : Option (Int32 × ix_D2) :=
  ix_lt (x0 - (((x0.toUInt32 >>> ((1 : Int32).toUInt32 &&& Int32.toUInt32 31)).toInt32) &&& 1431655765)) (fun x0_1 => ix_lt ((x0_1 &&& 858993459) + (((x0_1.toUInt32 >>> ((2 : Int32).toUInt32 &&& Int32.toUInt32 31)).toInt32) &&& 858993459)) (fun x0_3 => ix_lt ((x0_3 + ((x0_3.toUInt32 >>> ((4 : Int32).toUInt32 &&& Int32.toUInt32 31)).toInt32)) &&& 252645135) (fun x0_5 => ix_lt (x0_5 + ((x0_5.toUInt32 >>> ((8 : Int32).toUInt32 &&& Int32.toUInt32 31)).toInt32)) (fun x0_7 => ix_lt (x0_7 + ((x0_7.toUInt32 >>> ((16 : Int32).toUInt32 &&& Int32.toUInt32 31)).toInt32)) (fun x0_9 => some (x0_9 &&& 63, d))))))
set_option maxRecDepth 20000 in
theorem c_J6_bitCount_0f7a4 {l : Launch} {K : ix_Cx} (hKp : ix_Kp K) {n : Nat} {z : ix_Z} {x0 : Int32} {d : ix_D2} {r : Int32} {d1 : ix_D2} (h : f_J6_bitCount_0f7a4 n z x0 d = some (r, d1)) : ix_M l K yJ6_bitCount_0f7a4 cJ6_bitCount_0f7a4 1 (some .int) 0 0 0 0 [.int x0] (ix_w z d) (some (.int r)) (ix_w z d1) := by
  refine ix_met mf_J6_bitCount_0f7a4 hKp (Nat.le_of_ble_eq_true rfl) ?_
  intro p e s m args below meth c hr hlk hnm X
  have X : ix_X p s m args c K cJ6_bitCount_0f7a4 RJ6 1 := X
  show ix_G p l e (ix_rm 0 0 0 0) s m args below meth c (MQ below (ix_Post K (some (.int r)) (ix_w z d1)) args s 0 0 (ix_A K)) K 1 0 0 0 [(0, .int x0)] [] (ix_w z d)
  unfold f_J6_bitCount_0f7a4 at h
  refine ix_iload_n (i := 0) (j := 0) X (ix_tb_at tb_J6_bitCount_0f7a4 0 rfl) rfl rfl (pc1 := 1) rfl ?_
  refine ix_iload_n (i := 0) (j := 0) X (ix_tb_at tb_J6_bitCount_0f7a4 1 rfl) rfl rfl (pc1 := 2) rfl ?_
  refine ix_iconst (v := 1) X (ix_tb_at tb_J6_bitCount_0f7a4 2 rfl) (by decide) (pc1 := 3) rfl ?_
  refine ix_iushr X (ix_tb_at tb_J6_bitCount_0f7a4 3 rfl) (pc1 := 4) rfl ?_
  refine ix_ldcw (pl := 1422) (v := 1431655765) X (ix_tb_at tb_J6_bitCount_0f7a4 4 rfl) (by decide +kernel) (pc1 := 7) rfl ?_
  refine ix_iand X (ix_tb_at tb_J6_bitCount_0f7a4 5 rfl) (pc1 := 8) rfl ?_
  refine ix_isub X (ix_tb_at tb_J6_bitCount_0f7a4 6 rfl) (pc1 := 9) rfl ?_
  obtain ⟨x0_1, e_2, h⟩ := ix_lt_ex h
  refine ix_nmi e_2 ?_
  refine ix_istore_n (i := 0) (L1 := [(0, .int x0_1)]) X (ix_tb_at tb_J6_bitCount_0f7a4 7 rfl) rfl (Nat.le_of_ble_eq_true rfl) rfl (pc1 := 10) rfl ?_
  refine ix_iload_n (i := 0) (j := 0) X (ix_tb_at tb_J6_bitCount_0f7a4 8 rfl) rfl rfl (pc1 := 11) rfl ?_
  refine ix_ldcw (pl := 1423) (v := 858993459) X (ix_tb_at tb_J6_bitCount_0f7a4 9 rfl) (by decide +kernel) (pc1 := 14) rfl ?_
  refine ix_iand X (ix_tb_at tb_J6_bitCount_0f7a4 10 rfl) (pc1 := 15) rfl ?_
  refine ix_iload_n (i := 0) (j := 0) X (ix_tb_at tb_J6_bitCount_0f7a4 11 rfl) rfl rfl (pc1 := 16) rfl ?_
  refine ix_iconst (v := 2) X (ix_tb_at tb_J6_bitCount_0f7a4 12 rfl) (by decide) (pc1 := 17) rfl ?_
  refine ix_iushr X (ix_tb_at tb_J6_bitCount_0f7a4 13 rfl) (pc1 := 18) rfl ?_
  refine ix_ldcw (pl := 1423) (v := 858993459) X (ix_tb_at tb_J6_bitCount_0f7a4 14 rfl) (by decide +kernel) (pc1 := 21) rfl ?_
  refine ix_iand X (ix_tb_at tb_J6_bitCount_0f7a4 15 rfl) (pc1 := 22) rfl ?_
  refine ix_iadd X (ix_tb_at tb_J6_bitCount_0f7a4 16 rfl) (pc1 := 23) rfl ?_
  obtain ⟨x0_3, e_4, h⟩ := ix_lt_ex h
  refine ix_nmi e_4 ?_
  refine ix_istore_n (i := 0) (L1 := [(0, .int x0_3)]) X (ix_tb_at tb_J6_bitCount_0f7a4 17 rfl) rfl (Nat.le_of_ble_eq_true rfl) rfl (pc1 := 24) rfl ?_
  refine ix_iload_n (i := 0) (j := 0) X (ix_tb_at tb_J6_bitCount_0f7a4 18 rfl) rfl rfl (pc1 := 25) rfl ?_
  refine ix_iload_n (i := 0) (j := 0) X (ix_tb_at tb_J6_bitCount_0f7a4 19 rfl) rfl rfl (pc1 := 26) rfl ?_
  refine ix_iconst (v := 4) X (ix_tb_at tb_J6_bitCount_0f7a4 20 rfl) (by decide) (pc1 := 27) rfl ?_
  refine ix_iushr X (ix_tb_at tb_J6_bitCount_0f7a4 21 rfl) (pc1 := 28) rfl ?_
  refine ix_iadd X (ix_tb_at tb_J6_bitCount_0f7a4 22 rfl) (pc1 := 29) rfl ?_
  refine ix_ldcw (pl := 1424) (v := 252645135) X (ix_tb_at tb_J6_bitCount_0f7a4 23 rfl) (by decide +kernel) (pc1 := 32) rfl ?_
  refine ix_iand X (ix_tb_at tb_J6_bitCount_0f7a4 24 rfl) (pc1 := 33) rfl ?_
  obtain ⟨x0_5, e_6, h⟩ := ix_lt_ex h
  refine ix_nmi e_6 ?_
  refine ix_istore_n (i := 0) (L1 := [(0, .int x0_5)]) X (ix_tb_at tb_J6_bitCount_0f7a4 25 rfl) rfl (Nat.le_of_ble_eq_true rfl) rfl (pc1 := 34) rfl ?_
  refine ix_iload_n (i := 0) (j := 0) X (ix_tb_at tb_J6_bitCount_0f7a4 26 rfl) rfl rfl (pc1 := 35) rfl ?_
  refine ix_iload_n (i := 0) (j := 0) X (ix_tb_at tb_J6_bitCount_0f7a4 27 rfl) rfl rfl (pc1 := 36) rfl ?_
  refine ix_bipush (v := 8) X (ix_tb_at tb_J6_bitCount_0f7a4 28 rfl) (by decide) (pc1 := 38) rfl ?_
  refine ix_iushr X (ix_tb_at tb_J6_bitCount_0f7a4 29 rfl) (pc1 := 39) rfl ?_
  refine ix_iadd X (ix_tb_at tb_J6_bitCount_0f7a4 30 rfl) (pc1 := 40) rfl ?_
  obtain ⟨x0_7, e_8, h⟩ := ix_lt_ex h
  refine ix_nmi e_8 ?_
  refine ix_istore_n (i := 0) (L1 := [(0, .int x0_7)]) X (ix_tb_at tb_J6_bitCount_0f7a4 31 rfl) rfl (Nat.le_of_ble_eq_true rfl) rfl (pc1 := 41) rfl ?_
  refine ix_iload_n (i := 0) (j := 0) X (ix_tb_at tb_J6_bitCount_0f7a4 32 rfl) rfl rfl (pc1 := 42) rfl ?_
  refine ix_iload_n (i := 0) (j := 0) X (ix_tb_at tb_J6_bitCount_0f7a4 33 rfl) rfl rfl (pc1 := 43) rfl ?_
  refine ix_bipush (v := 16) X (ix_tb_at tb_J6_bitCount_0f7a4 34 rfl) (by decide) (pc1 := 45) rfl ?_
  refine ix_iushr X (ix_tb_at tb_J6_bitCount_0f7a4 35 rfl) (pc1 := 46) rfl ?_
  refine ix_iadd X (ix_tb_at tb_J6_bitCount_0f7a4 36 rfl) (pc1 := 47) rfl ?_
  obtain ⟨x0_9, e_10, h⟩ := ix_lt_ex h
  refine ix_nmi e_10 ?_
  refine ix_istore_n (i := 0) (L1 := [(0, .int x0_9)]) X (ix_tb_at tb_J6_bitCount_0f7a4 37 rfl) rfl (Nat.le_of_ble_eq_true rfl) rfl (pc1 := 48) rfl ?_
  refine ix_iload_n (i := 0) (j := 0) X (ix_tb_at tb_J6_bitCount_0f7a4 38 rfl) rfl rfl (pc1 := 49) rfl ?_
  refine ix_bipush (v := 63) X (ix_tb_at tb_J6_bitCount_0f7a4 39 rfl) (by decide) (pc1 := 51) rfl ?_
  refine ix_iand X (ix_tb_at tb_J6_bitCount_0f7a4 40 rfl) (pc1 := 52) rfl ?_
  exact ix_iret X hr hlk (ix_r2 (f := fun r => some (.int r)) (g := ix_w z) h) (ix_tb_at tb_J6_bitCount_0f7a4 41 rfl)
def tab_X11_laySet : List (Nat × Instr × Nat) := [(0, .aload_n 0, 1), (1, .getfield 45, 3), (4, .aload_n 0, 1), (5, .getfield 28, 3), (8, .invokevirtual 266, 3), (11, .iconst 0, 1), (12, .istore_n 2, 1), (13, .iload_n 2, 1), (14, .aload_n 0, 1), (15, .getfield 302, 3), (18, .if_icmp .ge 41, 3), (21, .iload_n 1, 1), (22, .iload_n 2, 1), (23, .ishr, 1), (24, .iconst 1, 1), (25, .iand, 1), (26, .iconst 1, 1), (27, .if_icmp .ne 26, 3), (30, .aload_n 0, 1), (31, .getfield 45, 3), (34, .getfield 177, 3), (37, .aload_n 0, 1), (38, .getfield 28, 3), (41, .getfield 195, 3), (44, .aload_n 0, 1), (45, .getfield 57, 3), (48, .iload_n 2, 1), (49, .iaload, 1), (50, .invokevirtual 433, 3), (53, .iinc 2 1, 3), (56, .goto (-43), 3), (59, .aload_n 0, 1), (60, .iconst (-1), 1), (61, .invokevirtual 436, 3), (64, .return_, 1)]
theorem tb_X11_laySet : ix_tab cX11_laySet tab_X11_laySet := by
  unfold ix_tab
  decide +kernel
noncomputable def f_X11_laySet_53 (n : Nat) (z : ix_Z) (rec13 : Int32 → ix_D2 → Option (ix_D2)) (a0 : Nat) (x1 : Int32) (x2 : Int32) (d : ix_D2) : Option (ix_D2) :=
  ix_lt (x2 + 1) (fun x2_14 => rec13 x2_14 d)
noncomputable def b_X11_laySet_13 (n : Nat) (z : ix_Z)  (a0 : Nat) (x1 : Int32) (rec13 : Int32 → ix_D2 → Option (ix_D2)) (x2 : Int32) (d : ix_D2) : Option (ix_D2) :=
  ix_ck (ix_ok z [10] a0) (ix_if (d.1 a0 10 ≤ x2) (ix_bd1 (f_X11_supposeItems n z a0 ((-1)) d) (fun d_11 => some d_11)) (ix_if ((x1 >>> (x2 &&& 31)) &&& 1 = 1) (ix_bd1 (z.1 a0 7) (fun b_16 => ix_ck (ix_ok z [8] b_16) (ix_bd1 (z.1 b_16 0) (fun b_19 => ix_bd1 (z.1 a0 3) (fun b_21 => ix_ck (ix_ok z [2] b_21) (ix_bd1 (z.1 b_21 0) (fun b_24 => ix_bd1 (z.1 a0 9) (fun b_26 => ix_ck (ix_ix z 20 b_26 x2) (ix_ck (ix_ok z [1] b_19) (ix_bd1 (f_X1_layRow n z b_19 b_24 (d.1 b_26 (ix_n x2)) d) (fun d_29 => f_X11_laySet_53 n z rec13 a0 x1 x2 d_29))))))))))) (f_X11_laySet_53 n z rec13 a0 x1 x2 d)))
noncomputable def f_X11_laySet_13 (n : Nat) (z : ix_Z)  (a0 : Nat) (x1 : Int32) (x2 : Int32) (d : ix_D2) : Option (ix_D2) := ix_fix (b_X11_laySet_13 n z  a0 x1) (fun _ _ => none) n x2 d
noncomputable def f_X11_laySet (n : Nat) (z : ix_Z) (a0 : Nat) (x1 : Int32) (d : ix_D2) : Option (ix_D2) :=
  ix_ck (ix_ok z [10] a0) (ix_bd1 (z.1 a0 7) (fun b_2 => ix_bd1 (z.1 a0 3) (fun b_4 => ix_ck (ix_ok z [8] b_2) (ix_bd1 (f_X9_openBoard n z b_2 b_4 d) (fun d_6 => f_X11_laySet_13 n z  a0 x1 0 d_6)))))
set_option maxRecDepth 20000 in
theorem t_X11_laySet_53 {l : Launch} {p : Program} {e : Env} {s : State} {m : MethodId} {args : Array Value} {below : List Frame} {meth : Method} {c : Code} {K : ix_Cx} (hKp : ix_Kp K) {n : Nat} {z : ix_Z} (X : ix_X p s m args c K cX11_laySet RX11 3) (hr : meth.sig.returnType = (none : Option Jvm.ClassFile.FieldType)) (hlk : meth.locks = false) {rec13 : Int32 → ix_D2 → Option (ix_D2)} {a0 : Nat} {x1 : Int32} {x2 : Int32} {d1 : ix_D2} (hrec13 : ∀ (x2 : Int32) (d : ix_D2), rec13 x2 d = some d1 → ix_G p l e (ix_rm 4 99 0 0) s m args below meth c (MQ below (ix_Post K none (ix_w z d1)) args s 0 0 (ix_A K)) K 3 0 0 13 [(0, .ref (K.2.2.1 + a0)), (1, .int x1), (2, .int x2)] [] (ix_w z d)) {d : ix_D2} (h : f_X11_laySet_53 n z rec13 a0 x1 x2 d = some d1) : ix_G p l e (ix_rm 4 99 0 0) s m args below meth c (MQ below (ix_Post K none (ix_w z d1)) args s 0 0 (ix_A K)) K 3 0 0 53 [(0, .ref (K.2.2.1 + a0)), (1, .int x1), (2, .int x2)] [] (ix_w z d) := by
  unfold f_X11_laySet_53 at h
  obtain ⟨x2_14, e_15, h⟩ := ix_lt_ex h
  refine ix_iinc (i := 2) (j := 2) (v := x2_14) (L1 := [(2, .int x2_14), (0, .ref (K.2.2.1 + a0)), (1, .int x1)]) X (ix_tb_at tb_X11_laySet 29 rfl) rfl (by rw [oi_1]; exact e_15.symm) (Nat.le_of_ble_eq_true rfl) rfl (pc1 := 56) rfl ?_
  refine ix_goto (tgt := 13) X (ix_tb_at tb_X11_laySet 30 rfl) (by decide) ?_
  refine ix_sub (L1 := [(0, .ref (K.2.2.1 + a0)), (1, .int x1), (2, .int x2_14)]) [1, 2, 0] rfl ?_
  exact hrec13 x2_14 d h
set_option maxRecDepth 20000 in
theorem tb_X11_laySet_13 {l : Launch} {p : Program} {e : Env} {s : State} {m : MethodId} {args : Array Value} {below : List Frame} {meth : Method} {c : Code} {K : ix_Cx} (hKp : ix_Kp K) {n : Nat} {z : ix_Z} (X : ix_X p s m args c K cX11_laySet RX11 3) (hr : meth.sig.returnType = (none : Option Jvm.ClassFile.FieldType)) (hlk : meth.locks = false)  {a0 : Nat} {x1 : Int32} {rec13 : Int32 → ix_D2 → Option (ix_D2)} {d1 : ix_D2} (hrec13 : ∀ (x2 : Int32) (d : ix_D2), rec13 x2 d = some d1 → ix_G p l e (ix_rm 4 99 0 0) s m args below meth c (MQ below (ix_Post K none (ix_w z d1)) args s 0 0 (ix_A K)) K 3 0 0 13 [(0, .ref (K.2.2.1 + a0)), (1, .int x1), (2, .int x2)] [] (ix_w z d)) {x2 : Int32} {d : ix_D2} (h : b_X11_laySet_13 n z  a0 x1 rec13 x2 d = some d1) : ix_G p l e (ix_rm 4 99 0 0) s m args below meth c (MQ below (ix_Post K none (ix_w z d1)) args s 0 0 (ix_A K)) K 3 0 0 13 [(0, .ref (K.2.2.1 + a0)), (1, .int x1), (2, .int x2)] [] (ix_w z d) := by
  unfold b_X11_laySet_13 at h
  refine ix_iload_n (i := 2) (j := 2) X (ix_tb_at tb_X11_laySet 7 rfl) rfl rfl (pc1 := 14) rfl ?_
  refine ix_aload_n (i := 0) (j := 0) X (ix_tb_at tb_X11_laySet 8 rfl) rfl rfl (pc1 := 15) rfl ?_
  obtain ⟨k_9, h⟩ := ix_ck_some h
  refine iz_getI X fl_RX11_302 k_9 (ix_tb_at tb_X11_laySet 9 rfl) (pc1 := 18) rfl ?_
  refine ix_icmp_ge (tgt := 59) X (ix_tb_at tb_X11_laySet 10 rfl) (by decide) (pc1 := 21) rfl (fun q_10 => ?_) (fun q_10 => ?_)
  · have h := ix_ift q_10 h
    refine ix_aload_n (i := 0) (j := 0) X (ix_tb_at tb_X11_laySet 31 rfl) rfl rfl (pc1 := 60) rfl ?_
    refine ix_iconst (v := (-1)) X (ix_tb_at tb_X11_laySet 32 rfl) (by decide) (pc1 := 61) rfl ?_
    obtain ⟨d_11, h_12, h⟩ := ix_bd1_ex h
    refine ix_callV (As := [.int ((-1))]) (rest := []) (ci := 10) (T := TX11) (nf := 18) X mf_X11_supposeItems mi_X11_supposeItems ms_X11_supposeItems rfl (Nat.le_of_ble_eq_true rfl) ml_RX11_436 ⟨Nat.le_of_ble_eq_true rfl, Nat.le_of_ble_eq_true rfl⟩ ⟨Nat.le_of_ble_eq_true rfl, Nat.le_of_ble_eq_true rfl⟩ rfl (Nat.le_of_ble_eq_true rfl) (ix_tb_at tb_X11_laySet 33 rfl) ⟨k_9.1, List.mem_singleton.mp k_9.2⟩ (c_X11_supposeItems hKp h_12) rfl (pc1 := 64) rfl ?_
    exact ix_vret X hr hlk (ix_r1 (g := ix_w z) h) (ix_tb_at tb_X11_laySet 34 rfl)
  · have h := ix_iff q_10 h
    refine ix_iload_n (i := 1) (j := 1) X (ix_tb_at tb_X11_laySet 11 rfl) rfl rfl (pc1 := 22) rfl ?_
    refine ix_iload_n (i := 2) (j := 2) X (ix_tb_at tb_X11_laySet 12 rfl) rfl rfl (pc1 := 23) rfl ?_
    refine ix_ishr X (ix_tb_at tb_X11_laySet 13 rfl) (pc1 := 24) rfl ?_
    refine ix_iconst (v := 1) X (ix_tb_at tb_X11_laySet 14 rfl) (by decide) (pc1 := 25) rfl ?_
    refine ix_iand X (ix_tb_at tb_X11_laySet 15 rfl) (pc1 := 26) rfl ?_
    refine ix_iconst (v := 1) X (ix_tb_at tb_X11_laySet 16 rfl) (by decide) (pc1 := 27) rfl ?_
    refine ix_icmp_ne (tgt := 53) X (ix_tb_at tb_X11_laySet 17 rfl) (by decide) (pc1 := 30) rfl (fun q_13 => ?_) (fun q_13 => ?_)
    · have h := ix_iff q_13 h
      refine ix_sub (L1 := [(0, .ref (K.2.2.1 + a0)), (1, .int x1), (2, .int x2)]) [0, 1, 2] rfl ?_
      exact t_X11_laySet_53 hKp X hr hlk hrec13 h
    · have h := ix_ift q_13 h
      refine ix_aload_n (i := 0) (j := 0) X (ix_tb_at tb_X11_laySet 18 rfl) rfl rfl (pc1 := 31) rfl ?_
      obtain ⟨b_16, q_17, h⟩ := ix_bd1_ex h
      refine iz_getR X fl_RX11_45 k_9 q_17 (ix_tb_at tb_X11_laySet 19 rfl) (pc1 := 34) rfl ?_
      obtain ⟨k_18, h⟩ := ix_ck_some h
      obtain ⟨b_19, q_20, h⟩ := ix_bd1_ex h
      refine iz_getR X fl_RX11_177 k_18 q_20 (ix_tb_at tb_X11_laySet 20 rfl) (pc1 := 37) rfl ?_
      refine ix_aload_n (i := 0) (j := 0) X (ix_tb_at tb_X11_laySet 21 rfl) rfl rfl (pc1 := 38) rfl ?_
      obtain ⟨b_21, q_22, h⟩ := ix_bd1_ex h
      refine iz_getR X fl_RX11_28 k_9 q_22 (ix_tb_at tb_X11_laySet 22 rfl) (pc1 := 41) rfl ?_
      obtain ⟨k_23, h⟩ := ix_ck_some h
      obtain ⟨b_24, q_25, h⟩ := ix_bd1_ex h
      refine iz_getR X fl_RX11_195 k_23 q_25 (ix_tb_at tb_X11_laySet 23 rfl) (pc1 := 44) rfl ?_
      refine ix_aload_n (i := 0) (j := 0) X (ix_tb_at tb_X11_laySet 24 rfl) rfl rfl (pc1 := 45) rfl ?_
      obtain ⟨b_26, q_27, h⟩ := ix_bd1_ex h
      refine iz_getR X fl_RX11_57 k_9 q_27 (ix_tb_at tb_X11_laySet 25 rfl) (pc1 := 48) rfl ?_
      refine ix_iload_n (i := 2) (j := 2) X (ix_tb_at tb_X11_laySet 26 rfl) rfl rfl (pc1 := 49) rfl ?_
      obtain ⟨k_28, h⟩ := ix_ck_some h
      refine iz_iald X k_28 (ix_tb_at tb_X11_laySet 27 rfl) (pc1 := 50) rfl ?_
      obtain ⟨k_31, h⟩ := ix_ck_some h
      obtain ⟨d_29, h_30, h⟩ := ix_bd1_ex h
      refine ix_callV (As := [.ref (K.2.2.1 + b_24), .int (d.1 b_26 (ix_n x2))]) (rest := []) (ci := 1) (T := TX1) (nf := 17) X mf_X1_layRow mi_X1_layRow ms_X1_layRow rfl (Nat.le_of_ble_eq_true rfl) ml_RX11_433 ⟨Nat.le_of_ble_eq_true rfl, Nat.le_of_ble_eq_true rfl⟩ ⟨Nat.le_of_ble_eq_true rfl, Nat.le_of_ble_eq_true rfl⟩ rfl (Nat.le_of_ble_eq_true rfl) (ix_tb_at tb_X11_laySet 28 rfl) ⟨k_31.1, List.mem_singleton.mp k_31.2⟩ (c_X1_layRow hKp h_30) rfl (pc1 := 53) rfl ?_
      refine ix_sub (L1 := [(0, .ref (K.2.2.1 + a0)), (1, .int x1), (2, .int x2)]) [0, 1, 2] rfl ?_
      exact t_X11_laySet_53 hKp X hr hlk hrec13 h
theorem t_X11_laySet_13 {l : Launch} {p : Program} {e : Env} {s : State} {m : MethodId} {args : Array Value} {below : List Frame} {meth : Method} {c : Code} {K : ix_Cx} (hKp : ix_Kp K) {n : Nat} {z : ix_Z} (X : ix_X p s m args c K cX11_laySet RX11 3) (hr : meth.sig.returnType = (none : Option Jvm.ClassFile.FieldType)) (hlk : meth.locks = false)  {a0 : Nat} {x1 : Int32} {d1 : ix_D2}  {x2 : Int32} {d : ix_D2} (h : f_X11_laySet_13 n z  a0 x1 x2 d = some d1) : ix_G p l e (ix_rm 4 99 0 0) s m args below meth c (MQ below (ix_Post K none (ix_w z d1)) args s 0 0 (ix_A K)) K 3 0 0 13 [(0, .ref (K.2.2.1 + a0)), (1, .int x1), (2, .int x2)] [] (ix_w z d) := by
  have key : ∀ (f : Nat) (x2 : Int32) (d : ix_D2), ix_fix (b_X11_laySet_13 n z  a0 x1) (fun _ _ => none) f x2 d = some d1 → ix_G p l e (ix_rm 4 99 0 0) s m args below meth c (MQ below (ix_Post K none (ix_w z d1)) args s 0 0 (ix_A K)) K 3 0 0 13 [(0, .ref (K.2.2.1 + a0)), (1, .int x1), (2, .int x2)] [] (ix_w z d) := by
    intro f
    induction f with
    | zero =>
      intro x2 d h
      have h : (none : Option (ix_D2)) = some d1 := h
      cases h
    | succ f ih =>
      intro x2 d h
      exact tb_X11_laySet_13 hKp X hr hlk (rec13 := ix_fix (b_X11_laySet_13 n z  a0 x1) (fun _ _ => none) f)  ih h
  exact key n x2 d h
set_option maxRecDepth 20000 in
theorem c_X11_laySet {l : Launch} {K : ix_Cx} (hKp : ix_Kp K) {n : Nat} {z : ix_Z} {a0 : Nat} {x1 : Int32} {d : ix_D2} {d1 : ix_D2} (h : f_X11_laySet n z a0 x1 d = some d1) : ix_M l K yX11_laySet cX11_laySet 3 (none : Option Jvm.ClassFile.FieldType) 4 99 0 0 [.ref (K.2.2.1 + a0), .int x1] (ix_w z d) none (ix_w z d1) := by
  refine ix_met mf_X11_laySet hKp (Nat.le_of_ble_eq_true rfl) ?_
  intro p e s m args below meth c hr hlk hnm X
  have X : ix_X p s m args c K cX11_laySet RX11 3 := X
  show ix_G p l e (ix_rm 4 99 0 0) s m args below meth c (MQ below (ix_Post K none (ix_w z d1)) args s 0 0 (ix_A K)) K 3 0 0 0 [(0, .ref (K.2.2.1 + a0)), (1, .int x1)] [] (ix_w z d)
  unfold f_X11_laySet at h
  refine ix_aload_n (i := 0) (j := 0) X (ix_tb_at tb_X11_laySet 0 rfl) rfl rfl (pc1 := 1) rfl ?_
  obtain ⟨k_1, h⟩ := ix_ck_some h
  obtain ⟨b_2, q_3, h⟩ := ix_bd1_ex h
  refine iz_getR X fl_RX11_45 k_1 q_3 (ix_tb_at tb_X11_laySet 1 rfl) (pc1 := 4) rfl ?_
  refine ix_aload_n (i := 0) (j := 0) X (ix_tb_at tb_X11_laySet 2 rfl) rfl rfl (pc1 := 5) rfl ?_
  obtain ⟨b_4, q_5, h⟩ := ix_bd1_ex h
  refine iz_getR X fl_RX11_28 k_1 q_5 (ix_tb_at tb_X11_laySet 3 rfl) (pc1 := 8) rfl ?_
  obtain ⟨k_8, h⟩ := ix_ck_some h
  obtain ⟨d_6, h_7, h⟩ := ix_bd1_ex h
  refine ix_callV (As := [.ref (K.2.2.1 + b_4)]) (rest := []) (ci := 8) (T := TX9) (nf := 20) X mf_X9_openBoard mi_X9_openBoard ms_X9_openBoard rfl (Nat.le_of_ble_eq_true rfl) ml_RX11_266 ⟨Nat.le_of_ble_eq_true rfl, Nat.le_of_ble_eq_true rfl⟩ ⟨Nat.le_of_ble_eq_true rfl, Nat.le_of_ble_eq_true rfl⟩ rfl (Nat.le_of_ble_eq_true rfl) (ix_tb_at tb_X11_laySet 4 rfl) ⟨k_8.1, List.mem_singleton.mp k_8.2⟩ (c_X9_openBoard hKp h_7) rfl (pc1 := 11) rfl ?_
  refine ix_iconst (v := 0) X (ix_tb_at tb_X11_laySet 5 rfl) (by decide) (pc1 := 12) rfl ?_
  refine ix_istore_n (i := 2) (L1 := [(2, .int 0), (0, .ref (K.2.2.1 + a0)), (1, .int x1)]) X (ix_tb_at tb_X11_laySet 6 rfl) rfl (Nat.le_of_ble_eq_true rfl) rfl (pc1 := 13) rfl ?_
  refine ix_sub (L1 := [(0, .ref (K.2.2.1 + a0)), (1, .int x1), (2, .int 0)]) [1, 2, 0] rfl ?_
  exact t_X11_laySet_13 hKp X hr hlk  h
def tab_X11_keepSet : List (Nat × Instr × Nat) := [(0, .iconst 0, 1), (1, .istore_n 2, 1), (2, .iconst 0, 1), (3, .istore_n 3, 1), (4, .iload_n 3, 1), (5, .aload_n 0, 1), (6, .getfield 302, 3), (9, .if_icmp .ge 33, 3), (12, .iload_n 1, 1), (13, .iload_n 3, 1), (14, .ishr, 1), (15, .iconst 1, 1), (16, .iand, 1), (17, .iconst 1, 1), (18, .if_icmp .ne 18, 3), (21, .aload_n 0, 1), (22, .getfield 57, 3), (25, .iload_n 2, 1), (26, .aload_n 0, 1), (27, .getfield 57, 3), (30, .iload_n 3, 1), (31, .iaload, 1), (32, .iastore, 1), (33, .iinc 2 1, 3), (36, .iinc 3 1, 3), (39, .goto (-35), 3), (42, .aload_n 0, 1), (43, .iload_n 2, 1), (44, .putfield 302, 3), (47, .return_, 1)]
theorem tb_X11_keepSet : ix_tab cX11_keepSet tab_X11_keepSet := by
  unfold ix_tab
  decide +kernel
noncomputable def f_X11_keepSet_36 (n : Nat) (z : ix_Z) (rec4 : Int32 → Int32 → ix_D2 → Option (ix_D2)) (a0 : Nat) (x1 : Int32) (x2 : Int32) (x3 : Int32) (d : ix_D2) : Option (ix_D2) :=
  ix_lt (x3 + 1) (fun x3_6 => rec4 x2 x3_6 d)
noncomputable def b_X11_keepSet_4 (n : Nat) (z : ix_Z)  (a0 : Nat) (x1 : Int32) (rec4 : Int32 → Int32 → ix_D2 → Option (ix_D2)) (x2 : Int32) (x3 : Int32) (d : ix_D2) : Option (ix_D2) :=
  ix_ck (ix_ok z [10] a0) (ix_if (d.1 a0 10 ≤ x3) (ix_lt (ix_di d a0 10 x2) (fun d_3 => some d_3)) (ix_if ((x1 >>> (x3 &&& 31)) &&& 1 = 1) (ix_bd1 (z.1 a0 9) (fun b_8 => ix_ck (ix_ix z 20 b_8 x3) (ix_ck (ix_ix z 20 b_8 x2) (ix_lt (ix_di d b_8 (ix_n x2) (d.1 b_8 (ix_n x3))) (fun d_12 => ix_lt (x2 + 1) (fun x2_14 => f_X11_keepSet_36 n z rec4 a0 x1 x2_14 x3 d_12)))))) (f_X11_keepSet_36 n z rec4 a0 x1 x2 x3 d)))
noncomputable def f_X11_keepSet_4 (n : Nat) (z : ix_Z)  (a0 : Nat) (x1 : Int32) (x2 : Int32) (x3 : Int32) (d : ix_D2) : Option (ix_D2) := ix_fix (b_X11_keepSet_4 n z  a0 x1) (fun _ _ _ => none) n x2 x3 d
noncomputable def f_X11_keepSet (n : Nat) (z : ix_Z) (a0 : Nat) (x1 : Int32) (d : ix_D2) : Option (ix_D2) :=
  f_X11_keepSet_4 n z  a0 x1 0 0 d
set_option maxRecDepth 20000 in
theorem t_X11_keepSet_36 {l : Launch} {p : Program} {e : Env} {s : State} {m : MethodId} {args : Array Value} {below : List Frame} {meth : Method} {c : Code} {K : ix_Cx} (hKp : ix_Kp K) {n : Nat} {z : ix_Z} (X : ix_X p s m args c K cX11_keepSet RX11 4) (hr : meth.sig.returnType = (none : Option Jvm.ClassFile.FieldType)) (hlk : meth.locks = false) {rec4 : Int32 → Int32 → ix_D2 → Option (ix_D2)} {a0 : Nat} {x1 : Int32} {x2 : Int32} {x3 : Int32} {d1 : ix_D2} (hrec4 : ∀ (x2 : Int32) (x3 : Int32) (d : ix_D2), rec4 x2 x3 d = some d1 → ix_G p l e (ix_rm 0 0 0 0) s m args below meth c (MQ below (ix_Post K none (ix_w z d1)) args s 0 0 (ix_A K)) K 4 0 0 4 [(0, .ref (K.2.2.1 + a0)), (1, .int x1), (2, .int x2), (3, .int x3)] [] (ix_w z d)) {d : ix_D2} (h : f_X11_keepSet_36 n z rec4 a0 x1 x2 x3 d = some d1) : ix_G p l e (ix_rm 0 0 0 0) s m args below meth c (MQ below (ix_Post K none (ix_w z d1)) args s 0 0 (ix_A K)) K 4 0 0 36 [(0, .ref (K.2.2.1 + a0)), (1, .int x1), (2, .int x2), (3, .int x3)] [] (ix_w z d) := by
  unfold f_X11_keepSet_36 at h
  obtain ⟨x3_6, e_7, h⟩ := ix_lt_ex h
  refine ix_iinc (i := 3) (j := 3) (v := x3_6) (L1 := [(3, .int x3_6), (0, .ref (K.2.2.1 + a0)), (1, .int x1), (2, .int x2)]) X (ix_tb_at tb_X11_keepSet 24 rfl) rfl (by rw [oi_1]; exact e_7.symm) (Nat.le_of_ble_eq_true rfl) rfl (pc1 := 39) rfl ?_
  refine ix_goto (tgt := 4) X (ix_tb_at tb_X11_keepSet 25 rfl) (by decide) ?_
  refine ix_sub (L1 := [(0, .ref (K.2.2.1 + a0)), (1, .int x1), (2, .int x2), (3, .int x3_6)]) [1, 2, 3, 0] rfl ?_
  exact hrec4 x2 x3_6 d h
set_option maxRecDepth 20000 in
theorem tb_X11_keepSet_4 {l : Launch} {p : Program} {e : Env} {s : State} {m : MethodId} {args : Array Value} {below : List Frame} {meth : Method} {c : Code} {K : ix_Cx} (hKp : ix_Kp K) {n : Nat} {z : ix_Z} (X : ix_X p s m args c K cX11_keepSet RX11 4) (hr : meth.sig.returnType = (none : Option Jvm.ClassFile.FieldType)) (hlk : meth.locks = false)  {a0 : Nat} {x1 : Int32} {rec4 : Int32 → Int32 → ix_D2 → Option (ix_D2)} {d1 : ix_D2} (hrec4 : ∀ (x2 : Int32) (x3 : Int32) (d : ix_D2), rec4 x2 x3 d = some d1 → ix_G p l e (ix_rm 0 0 0 0) s m args below meth c (MQ below (ix_Post K none (ix_w z d1)) args s 0 0 (ix_A K)) K 4 0 0 4 [(0, .ref (K.2.2.1 + a0)), (1, .int x1), (2, .int x2), (3, .int x3)] [] (ix_w z d)) {x2 : Int32} {x3 : Int32} {d : ix_D2} (h : b_X11_keepSet_4 n z  a0 x1 rec4 x2 x3 d = some d1) : ix_G p l e (ix_rm 0 0 0 0) s m args below meth c (MQ below (ix_Post K none (ix_w z d1)) args s 0 0 (ix_A K)) K 4 0 0 4 [(0, .ref (K.2.2.1 + a0)), (1, .int x1), (2, .int x2), (3, .int x3)] [] (ix_w z d) := by
  unfold b_X11_keepSet_4 at h
  refine ix_iload_n (i := 3) (j := 3) X (ix_tb_at tb_X11_keepSet 4 rfl) rfl rfl (pc1 := 5) rfl ?_
  refine ix_aload_n (i := 0) (j := 0) X (ix_tb_at tb_X11_keepSet 5 rfl) rfl rfl (pc1 := 6) rfl ?_
  obtain ⟨k_1, h⟩ := ix_ck_some h
  refine iz_getI X fl_RX11_302 k_1 (ix_tb_at tb_X11_keepSet 6 rfl) (pc1 := 9) rfl ?_
  refine ix_icmp_ge (tgt := 42) X (ix_tb_at tb_X11_keepSet 7 rfl) (by decide) (pc1 := 12) rfl (fun q_2 => ?_) (fun q_2 => ?_)
  · have h := ix_ift q_2 h
    refine ix_aload_n (i := 0) (j := 0) X (ix_tb_at tb_X11_keepSet 26 rfl) rfl rfl (pc1 := 43) rfl ?_
    refine ix_iload_n (i := 2) (j := 2) X (ix_tb_at tb_X11_keepSet 27 rfl) rfl rfl (pc1 := 44) rfl ?_
    obtain ⟨d_3, e_4, h⟩ := ix_lt_ex h
    refine iz_putI X fp_RX11_302 k_1 (ix_tb_at tb_X11_keepSet 28 rfl) e_4 (pc1 := 47) rfl ?_
    exact ix_vret X hr hlk (ix_r1 (g := ix_w z) h) (ix_tb_at tb_X11_keepSet 29 rfl)
  · have h := ix_iff q_2 h
    refine ix_iload_n (i := 1) (j := 1) X (ix_tb_at tb_X11_keepSet 8 rfl) rfl rfl (pc1 := 13) rfl ?_
    refine ix_iload_n (i := 3) (j := 3) X (ix_tb_at tb_X11_keepSet 9 rfl) rfl rfl (pc1 := 14) rfl ?_
    refine ix_ishr X (ix_tb_at tb_X11_keepSet 10 rfl) (pc1 := 15) rfl ?_
    refine ix_iconst (v := 1) X (ix_tb_at tb_X11_keepSet 11 rfl) (by decide) (pc1 := 16) rfl ?_
    refine ix_iand X (ix_tb_at tb_X11_keepSet 12 rfl) (pc1 := 17) rfl ?_
    refine ix_iconst (v := 1) X (ix_tb_at tb_X11_keepSet 13 rfl) (by decide) (pc1 := 18) rfl ?_
    refine ix_icmp_ne (tgt := 36) X (ix_tb_at tb_X11_keepSet 14 rfl) (by decide) (pc1 := 21) rfl (fun q_5 => ?_) (fun q_5 => ?_)
    · have h := ix_iff q_5 h
      refine ix_sub (L1 := [(0, .ref (K.2.2.1 + a0)), (1, .int x1), (2, .int x2), (3, .int x3)]) [0, 1, 2, 3] rfl ?_
      exact t_X11_keepSet_36 hKp X hr hlk hrec4 h
    · have h := ix_ift q_5 h
      refine ix_aload_n (i := 0) (j := 0) X (ix_tb_at tb_X11_keepSet 15 rfl) rfl rfl (pc1 := 22) rfl ?_
      obtain ⟨b_8, q_9, h⟩ := ix_bd1_ex h
      refine iz_getR X fl_RX11_57 k_1 q_9 (ix_tb_at tb_X11_keepSet 16 rfl) (pc1 := 25) rfl ?_
      refine ix_iload_n (i := 2) (j := 2) X (ix_tb_at tb_X11_keepSet 17 rfl) rfl rfl (pc1 := 26) rfl ?_
      refine ix_aload_n (i := 0) (j := 0) X (ix_tb_at tb_X11_keepSet 18 rfl) rfl rfl (pc1 := 27) rfl ?_
      refine iz_getR X fl_RX11_57 k_1 q_9 (ix_tb_at tb_X11_keepSet 19 rfl) (pc1 := 30) rfl ?_
      refine ix_iload_n (i := 3) (j := 3) X (ix_tb_at tb_X11_keepSet 20 rfl) rfl rfl (pc1 := 31) rfl ?_
      obtain ⟨k_10, h⟩ := ix_ck_some h
      refine iz_iald X k_10 (ix_tb_at tb_X11_keepSet 21 rfl) (pc1 := 32) rfl ?_
      obtain ⟨k_11, h⟩ := ix_ck_some h
      obtain ⟨d_12, e_13, h⟩ := ix_lt_ex h
      refine iz_iast X k_11 (ix_tb_at tb_X11_keepSet 22 rfl) e_13 (pc1 := 33) rfl ?_
      obtain ⟨x2_14, e_15, h⟩ := ix_lt_ex h
      refine ix_iinc (i := 2) (j := 2) (v := x2_14) (L1 := [(2, .int x2_14), (0, .ref (K.2.2.1 + a0)), (1, .int x1), (3, .int x3)]) X (ix_tb_at tb_X11_keepSet 23 rfl) rfl (by rw [oi_1]; exact e_15.symm) (Nat.le_of_ble_eq_true rfl) rfl (pc1 := 36) rfl ?_
      refine ix_sub (L1 := [(0, .ref (K.2.2.1 + a0)), (1, .int x1), (2, .int x2_14), (3, .int x3)]) [1, 2, 0, 3] rfl ?_
      exact t_X11_keepSet_36 hKp X hr hlk hrec4 h
theorem t_X11_keepSet_4 {l : Launch} {p : Program} {e : Env} {s : State} {m : MethodId} {args : Array Value} {below : List Frame} {meth : Method} {c : Code} {K : ix_Cx} (hKp : ix_Kp K) {n : Nat} {z : ix_Z} (X : ix_X p s m args c K cX11_keepSet RX11 4) (hr : meth.sig.returnType = (none : Option Jvm.ClassFile.FieldType)) (hlk : meth.locks = false)  {a0 : Nat} {x1 : Int32} {d1 : ix_D2}  {x2 : Int32} {x3 : Int32} {d : ix_D2} (h : f_X11_keepSet_4 n z  a0 x1 x2 x3 d = some d1) : ix_G p l e (ix_rm 0 0 0 0) s m args below meth c (MQ below (ix_Post K none (ix_w z d1)) args s 0 0 (ix_A K)) K 4 0 0 4 [(0, .ref (K.2.2.1 + a0)), (1, .int x1), (2, .int x2), (3, .int x3)] [] (ix_w z d) := by
  have key : ∀ (f : Nat) (x2 : Int32) (x3 : Int32) (d : ix_D2), ix_fix (b_X11_keepSet_4 n z  a0 x1) (fun _ _ _ => none) f x2 x3 d = some d1 → ix_G p l e (ix_rm 0 0 0 0) s m args below meth c (MQ below (ix_Post K none (ix_w z d1)) args s 0 0 (ix_A K)) K 4 0 0 4 [(0, .ref (K.2.2.1 + a0)), (1, .int x1), (2, .int x2), (3, .int x3)] [] (ix_w z d) := by
    intro f
    induction f with
    | zero =>
      intro x2 x3 d h
      have h : (none : Option (ix_D2)) = some d1 := h
      cases h
    | succ f ih =>
      intro x2 x3 d h
      exact tb_X11_keepSet_4 hKp X hr hlk (rec4 := ix_fix (b_X11_keepSet_4 n z  a0 x1) (fun _ _ _ => none) f)  ih h
  exact key n x2 x3 d h
set_option maxRecDepth 20000 in
theorem c_X11_keepSet {l : Launch} {K : ix_Cx} (hKp : ix_Kp K) {n : Nat} {z : ix_Z} {a0 : Nat} {x1 : Int32} {d : ix_D2} {d1 : ix_D2} (h : f_X11_keepSet n z a0 x1 d = some d1) : ix_M l K yX11_keepSet cX11_keepSet 4 (none : Option Jvm.ClassFile.FieldType) 0 0 0 0 [.ref (K.2.2.1 + a0), .int x1] (ix_w z d) none (ix_w z d1) := by
  refine ix_met mf_X11_keepSet hKp (Nat.le_of_ble_eq_true rfl) ?_
  intro p e s m args below meth c hr hlk hnm X
  have X : ix_X p s m args c K cX11_keepSet RX11 4 := X
  show ix_G p l e (ix_rm 0 0 0 0) s m args below meth c (MQ below (ix_Post K none (ix_w z d1)) args s 0 0 (ix_A K)) K 4 0 0 0 [(0, .ref (K.2.2.1 + a0)), (1, .int x1)] [] (ix_w z d)
  unfold f_X11_keepSet at h
  refine ix_iconst (v := 0) X (ix_tb_at tb_X11_keepSet 0 rfl) (by decide) (pc1 := 1) rfl ?_
  refine ix_istore_n (i := 2) (L1 := [(2, .int 0), (0, .ref (K.2.2.1 + a0)), (1, .int x1)]) X (ix_tb_at tb_X11_keepSet 1 rfl) rfl (Nat.le_of_ble_eq_true rfl) rfl (pc1 := 2) rfl ?_
  refine ix_iconst (v := 0) X (ix_tb_at tb_X11_keepSet 2 rfl) (by decide) (pc1 := 3) rfl ?_
  refine ix_istore_n (i := 3) (L1 := [(3, .int 0), (2, .int 0), (0, .ref (K.2.2.1 + a0)), (1, .int x1)]) X (ix_tb_at tb_X11_keepSet 3 rfl) rfl (Nat.le_of_ble_eq_true rfl) rfl (pc1 := 4) rfl ?_
  refine ix_sub (L1 := [(0, .ref (K.2.2.1 + a0)), (1, .int x1), (2, .int 0), (3, .int 0)]) [2, 3, 1, 0] rfl ?_
  exact t_X11_keepSet_4 hKp X hr hlk  h
def tab_X11_least : List (Nat × Instr × Nat) := [(0, .iload_n 1, 1), (1, .invokestatic 263, 3), (4, .ifCond .ne 11, 3), (7, .aload_n 0, 1), (8, .sipush (-1001), 3), (11, .invokevirtual 73, 3), (14, .ireturn, 1), (15, .aload_n 0, 1), (16, .invokevirtual 299, 3), (19, .ifCond .eq 12, 3), (22, .aload_n 0, 1), (23, .getfield 302, 3), (26, .bipush 10, 2), (28, .if_icmp .le 11, 3), (31, .aload_n 0, 1), (32, .sipush (-1002), 3), (35, .invokevirtual 73, 3), (38, .ireturn, 1), (39, .iload_n 1, 1), (40, .istore_n 2, 1), (41, .iconst 0, 1), (42, .istore_n 3, 1), (43, .iload_n 3, 1), (44, .aload_n 0, 1), (45, .getfield 302, 3), (48, .if_icmp .gt 94, 3), (51, .iconst 0, 1), (52, .istore 4, 2), (54, .iload 4, 2), (56, .iconst 1, 1), (57, .aload_n 0, 1), (58, .getfield 302, 3), (61, .ishl, 1), (62, .if_icmp .ge 74, 3), (65, .iload 4, 2), (67, .invokestatic 317, 3), (70, .iload_n 3, 1), (71, .if_icmp .eq 6, 3), (74, .goto 56, 3), (77, .aload_n 0, 1), (78, .iload 4, 2), (80, .invokevirtual 322, 3), (83, .aload_n 0, 1), (84, .getfield 45, 3), (87, .iload_n 2, 1), (88, .invokevirtual 287, 3), (91, .istore 5, 2), (93, .iload_n 2, 1), (94, .aload_n 0, 1), (95, .getfield 45, 3), (98, .getfield 174, 3), (101, .iconst 1, 1), (102, .iaload, 1), (103, .isub, 1), (104, .istore_n 2, 1), (105, .iload 5, 2), (107, .ifCond .ne 14, 3), (110, .aload_n 0, 1), (111, .iload 4, 2), (113, .invokevirtual 325, 3), (116, .aload_n 0, 1), (117, .getfield 302, 3), (120, .ireturn, 1), (121, .iload 5, 2), (123, .iconst 1, 1), (124, .if_icmp .eq 6, 3), (127, .iload 5, 2), (129, .ireturn, 1), (130, .iinc 4 1, 3), (133, .goto (-79), 3), (136, .iinc 3 1, 3), (139, .goto (-96), 3), (142, .aload_n 0, 1), (143, .getfield 302, 3), (146, .ireturn, 1)]
theorem tb_X11_least : ix_tab cX11_least tab_X11_least := by
  unfold ix_tab
  decide +kernel
noncomputable def f_X11_least_31 (n : Nat) (z : ix_Z)  (a0 : Nat) (d : ix_D2) : Option (Int32 × ix_D2) :=
  ix_ck (ix_ok z [10] a0) (ix_bd2 (f_X11_refuse n z a0 ((-1002)) d) (fun r_13 d_10 => some (r_13, d_10)))
noncomputable def f_X11_least_130 (n : Nat) (z : ix_Z) (rec43 : Int32 → Int32 → ix_D2 → Option (Int32 × ix_D2)) (rec54 : Int32 → Int32 → ix_D2 → Option (Int32 × ix_D2)) (a0 : Nat) (x2 : Int32) (x3 : Int32) (x4 : Int32) (d : ix_D2) : Option (Int32 × ix_D2) :=
  ix_lt (x4 + 1) (fun x4_40 => rec54 x2 x4_40 d)
noncomputable def b_X11_least_54 (n : Nat) (z : ix_Z) (rec43 : Int32 → Int32 → ix_D2 → Option (Int32 × ix_D2)) (a0 : Nat) (x3 : Int32) (rec54 : Int32 → Int32 → ix_D2 → Option (Int32 × ix_D2)) (x2 : Int32) (x4 : Int32) (d : ix_D2) : Option (Int32 × ix_D2) :=
  ix_ck (ix_ok z [10] a0) (ix_if (1 <<< ((d.1 a0 10) &&& 31) ≤ x4) (ix_lt (x3 + 1) (fun x3_19 => rec43 x2 x3_19 d)) (ix_bd2 (f_J6_bitCount_0f7a4 n z x4 d) (fun r_23 d_21 => ix_if (r_23 = x3) (ix_bd1 (f_X11_laySet n z a0 x4 d_21) (fun d_25 => ix_bd1 (z.1 a0 7) (fun b_27 => ix_ck (ix_ok z [8] b_27) (ix_bd2 (f_X9_go n z b_27 x2 d_25) (fun r_32 d_29 => ix_bd1 (z.1 b_27 10) (fun b_33 => ix_ck (ix_ix z 20 b_33 1) (ix_lt (x2 - (d_29.1 b_33 (ix_n 1))) (fun x2_36 => ix_if (r_32 = 0) (ix_bd1 (f_X11_keepSet n z a0 x4 d_29) (fun d_42 => some (d_42.1 a0 10, d_42))) (ix_if (r_32 = 1) (f_X11_least_130 n z rec43 rec54 a0 x2_36 x3 x4 d_29) (some (r_32, d_29))))))))))) (f_X11_least_130 n z rec43 rec54 a0 x2 x3 x4 d_21))))
noncomputable def f_X11_least_54 (n : Nat) (z : ix_Z) (rec43 : Int32 → Int32 → ix_D2 → Option (Int32 × ix_D2)) (a0 : Nat) (x3 : Int32) (x2 : Int32) (x4 : Int32) (d : ix_D2) : Option (Int32 × ix_D2) := ix_fix (b_X11_least_54 n z rec43 a0 x3) (fun _ _ _ => none) n x2 x4 d
noncomputable def b_X11_least_43 (n : Nat) (z : ix_Z)  (a0 : Nat) (rec43 : Int32 → Int32 → ix_D2 → Option (Int32 × ix_D2)) (x2 : Int32) (x3 : Int32) (d : ix_D2) : Option (Int32 × ix_D2) :=
  ix_ck (ix_ok z [10] a0) (ix_if (d.1 a0 10 < x3) (some (d.1 a0 10, d)) (f_X11_least_54 n z rec43 a0 x3 x2 0 d))
noncomputable def f_X11_least_43 (n : Nat) (z : ix_Z)  (a0 : Nat) (x2 : Int32) (x3 : Int32) (d : ix_D2) : Option (Int32 × ix_D2) := ix_fix (b_X11_least_43 n z  a0) (fun _ _ _ => none) n x2 x3 d
noncomputable def f_X11_least (n : Nat) (z : ix_Z) (a0 : Nat) (x1 : Int32) (d : ix_D2) : Option (Int32 × ix_D2) :=
  ix_bd2 (f_X11_areSteps n z x1 d) (fun r_3 d_1 => ix_if (r_3 = 0) (ix_ck (ix_ok z [10] a0) (ix_bd2 (f_X11_refuse n z a0 ((-1001)) d_1) (fun r_47 d_44 => some (r_47, d_44)))) (ix_ck (ix_ok z [10] a0) (ix_bd2 (f_X11_saidNo n z a0 d_1) (fun r_8 d_5 => ix_if (r_8 = 0) (f_X11_least_31 n z  a0 d_5) (ix_if (d_5.1 a0 10 ≤ 10) (f_X11_least_43 n z  a0 x1 0 d_5) (f_X11_least_31 n z  a0 d_5))))))
set_option maxRecDepth 20000 in
theorem t_X11_least_31 {l : Launch} {p : Program} {e : Env} {s : State} {m : MethodId} {args : Array Value} {below : List Frame} {meth : Method} {c : Code} {K : ix_Cx} (hKp : ix_Kp K) {n : Nat} {z : ix_Z} (X : ix_X p s m args c K cX11_least RX11 6) (hr : meth.sig.returnType = (some .int)) (hlk : meth.locks = false)  {a0 : Nat} {r : Int32} {d1 : ix_D2}  {d : ix_D2} (h : f_X11_least_31 n z  a0 d = some (r, d1)) : ix_G p l e (ix_rm 6 145 0 0) s m args below meth c (MQ below (ix_Post K (some (.int r)) (ix_w z d1)) args s 0 0 (ix_A K)) K 6 0 0 31 [(0, .ref (K.2.2.1 + a0))] [] (ix_w z d) := by
  unfold f_X11_least_31 at h
  refine ix_aload_n (i := 0) (j := 0) X (ix_tb_at tb_X11_least 14 rfl) rfl rfl (pc1 := 32) rfl ?_
  refine ix_sipush (v := (-1002)) X (ix_tb_at tb_X11_least 15 rfl) (by decide) (pc1 := 35) rfl ?_
  obtain ⟨k_12, h⟩ := ix_ck_some h
  obtain ⟨r_13, d_10, h_11, h⟩ := ix_bd2_ex h
  refine ix_callV (As := [.int ((-1002))]) (rest := []) (ci := 10) (T := TX11) (nf := 18) X mf_X11_refuse mi_X11_refuse ms_X11_refuse rfl (Nat.le_of_ble_eq_true rfl) ml_RX11_73 ⟨Nat.le_of_ble_eq_true rfl, Nat.le_of_ble_eq_true rfl⟩ ⟨Nat.le_of_ble_eq_true rfl, Nat.le_of_ble_eq_true rfl⟩ rfl (Nat.le_of_ble_eq_true rfl) (ix_tb_at tb_X11_least 16 rfl) ⟨k_12.1, List.mem_singleton.mp k_12.2⟩ (c_X11_refuse hKp h_11) rfl (pc1 := 38) rfl ?_
  exact ix_iret X hr hlk (ix_r2 (f := fun r => some (.int r)) (g := ix_w z) h) (ix_tb_at tb_X11_least 17 rfl)
set_option maxRecDepth 20000 in
theorem t_X11_least_130 {l : Launch} {p : Program} {e : Env} {s : State} {m : MethodId} {args : Array Value} {below : List Frame} {meth : Method} {c : Code} {K : ix_Cx} (hKp : ix_Kp K) {n : Nat} {z : ix_Z} (X : ix_X p s m args c K cX11_least RX11 6) (hr : meth.sig.returnType = (some .int)) (hlk : meth.locks = false) {rec43 : Int32 → Int32 → ix_D2 → Option (Int32 × ix_D2)} {rec54 : Int32 → Int32 → ix_D2 → Option (Int32 × ix_D2)} {a0 : Nat} {x2 : Int32} {x3 : Int32} {x4 : Int32} {r : Int32} {d1 : ix_D2} (hrec43 : ∀ (x2 : Int32) (x3 : Int32) (d : ix_D2), rec43 x2 x3 d = some (r, d1) → ix_G p l e (ix_rm 6 145 0 0) s m args below meth c (MQ below (ix_Post K (some (.int r)) (ix_w z d1)) args s 0 0 (ix_A K)) K 6 0 0 43 [(0, .ref (K.2.2.1 + a0)), (2, .int x2), (3, .int x3)] [] (ix_w z d)) (hrec54 : ∀ (x2 : Int32) (x4 : Int32) (d : ix_D2), rec54 x2 x4 d = some (r, d1) → ix_G p l e (ix_rm 6 145 0 0) s m args below meth c (MQ below (ix_Post K (some (.int r)) (ix_w z d1)) args s 0 0 (ix_A K)) K 6 0 0 54 [(0, .ref (K.2.2.1 + a0)), (2, .int x2), (3, .int x3), (4, .int x4)] [] (ix_w z d)) {d : ix_D2} (h : f_X11_least_130 n z rec43 rec54 a0 x2 x3 x4 d = some (r, d1)) : ix_G p l e (ix_rm 6 145 0 0) s m args below meth c (MQ below (ix_Post K (some (.int r)) (ix_w z d1)) args s 0 0 (ix_A K)) K 6 0 0 130 [(0, .ref (K.2.2.1 + a0)), (2, .int x2), (3, .int x3), (4, .int x4)] [] (ix_w z d) := by
  unfold f_X11_least_130 at h
  obtain ⟨x4_40, e_41, h⟩ := ix_lt_ex h
  refine ix_iinc (i := 4) (j := 3) (v := x4_40) (L1 := [(4, .int x4_40), (0, .ref (K.2.2.1 + a0)), (2, .int x2), (3, .int x3)]) X (ix_tb_at tb_X11_least 68 rfl) rfl (by rw [oi_1]; exact e_41.symm) (Nat.le_of_ble_eq_true rfl) rfl (pc1 := 133) rfl ?_
  refine ix_goto (tgt := 54) X (ix_tb_at tb_X11_least 69 rfl) (by decide) ?_
  refine ix_sub (L1 := [(0, .ref (K.2.2.1 + a0)), (2, .int x2), (3, .int x3), (4, .int x4_40)]) [1, 2, 3, 0] rfl ?_
  exact hrec54 x2 x4_40 d h
set_option maxRecDepth 20000 in
theorem tb_X11_least_54 {l : Launch} {p : Program} {e : Env} {s : State} {m : MethodId} {args : Array Value} {below : List Frame} {meth : Method} {c : Code} {K : ix_Cx} (hKp : ix_Kp K) {n : Nat} {z : ix_Z} (X : ix_X p s m args c K cX11_least RX11 6) (hr : meth.sig.returnType = (some .int)) (hlk : meth.locks = false) {rec43 : Int32 → Int32 → ix_D2 → Option (Int32 × ix_D2)} {a0 : Nat} {x3 : Int32} {rec54 : Int32 → Int32 → ix_D2 → Option (Int32 × ix_D2)} {r : Int32} {d1 : ix_D2} (hrec43 : ∀ (x2 : Int32) (x3 : Int32) (d : ix_D2), rec43 x2 x3 d = some (r, d1) → ix_G p l e (ix_rm 6 145 0 0) s m args below meth c (MQ below (ix_Post K (some (.int r)) (ix_w z d1)) args s 0 0 (ix_A K)) K 6 0 0 43 [(0, .ref (K.2.2.1 + a0)), (2, .int x2), (3, .int x3)] [] (ix_w z d)) (hrec54 : ∀ (x2 : Int32) (x4 : Int32) (d : ix_D2), rec54 x2 x4 d = some (r, d1) → ix_G p l e (ix_rm 6 145 0 0) s m args below meth c (MQ below (ix_Post K (some (.int r)) (ix_w z d1)) args s 0 0 (ix_A K)) K 6 0 0 54 [(0, .ref (K.2.2.1 + a0)), (2, .int x2), (3, .int x3), (4, .int x4)] [] (ix_w z d)) {x2 : Int32} {x4 : Int32} {d : ix_D2} (h : b_X11_least_54 n z rec43 a0 x3 rec54 x2 x4 d = some (r, d1)) : ix_G p l e (ix_rm 6 145 0 0) s m args below meth c (MQ below (ix_Post K (some (.int r)) (ix_w z d1)) args s 0 0 (ix_A K)) K 6 0 0 54 [(0, .ref (K.2.2.1 + a0)), (2, .int x2), (3, .int x3), (4, .int x4)] [] (ix_w z d) := by
  unfold b_X11_least_54 at h
  refine ix_iload (i := 4) (j := 3) X (ix_tb_at tb_X11_least 28 rfl) rfl (pc1 := 56) rfl ?_
  refine ix_iconst (v := 1) X (ix_tb_at tb_X11_least 29 rfl) (by decide) (pc1 := 57) rfl ?_
  refine ix_aload_n (i := 0) (j := 0) X (ix_tb_at tb_X11_least 30 rfl) rfl rfl (pc1 := 58) rfl ?_
  obtain ⟨k_17, h⟩ := ix_ck_some h
  refine iz_getI X fl_RX11_302 k_17 (ix_tb_at tb_X11_least 31 rfl) (pc1 := 61) rfl ?_
  refine ix_ishl X (ix_tb_at tb_X11_least 32 rfl) (pc1 := 62) rfl ?_
  refine ix_icmp_ge (tgt := 136) X (ix_tb_at tb_X11_least 33 rfl) (by decide) (pc1 := 65) rfl (fun q_18 => ?_) (fun q_18 => ?_)
  · have h := ix_ift q_18 h
    obtain ⟨x3_19, e_20, h⟩ := ix_lt_ex h
    refine ix_iinc (i := 3) (j := 2) (v := x3_19) (L1 := [(3, .int x3_19), (0, .ref (K.2.2.1 + a0)), (2, .int x2), (4, .int x4)]) X (ix_tb_at tb_X11_least 70 rfl) rfl (by rw [oi_1]; exact e_20.symm) (Nat.le_of_ble_eq_true rfl) rfl (pc1 := 139) rfl ?_
    refine ix_goto (tgt := 43) X (ix_tb_at tb_X11_least 71 rfl) (by decide) ?_
    refine ix_sub (L1 := [(0, .ref (K.2.2.1 + a0)), (2, .int x2), (3, .int x3_19)]) [1, 2, 0] rfl ?_
    exact hrec43 x2 x3_19 d h
  · have h := ix_iff q_18 h
    refine ix_iload (i := 4) (j := 3) X (ix_tb_at tb_X11_least 34 rfl) rfl (pc1 := 67) rfl ?_
    obtain ⟨r_23, d_21, h_22, h⟩ := ix_bd2_ex h
    refine ix_callS (As := [.int x4]) (rest := []) X mf_J6_bitCount_0f7a4 st_J6_bitCount_0f7a4 ml_RX11_317 ⟨Nat.le_of_ble_eq_true rfl, Nat.le_of_ble_eq_true rfl⟩ ⟨Nat.le_of_ble_eq_true rfl, Nat.le_of_ble_eq_true rfl⟩ rfl (Nat.le_of_ble_eq_true rfl) (ix_tb_at tb_X11_least 35 rfl) (c_J6_bitCount_0f7a4 hKp h_22) rfl (pc1 := 70) rfl ?_
    refine ix_iload_n (i := 3) (j := 2) X (ix_tb_at tb_X11_least 36 rfl) rfl rfl (pc1 := 71) rfl ?_
    refine ix_icmp_eq (tgt := 77) X (ix_tb_at tb_X11_least 37 rfl) (by decide) (pc1 := 74) rfl (fun q_24 => ?_) (fun q_24 => ?_)
    · have h := ix_ift q_24 h
      refine ix_aload_n (i := 0) (j := 0) X (ix_tb_at tb_X11_least 39 rfl) rfl rfl (pc1 := 78) rfl ?_
      refine ix_iload (i := 4) (j := 3) X (ix_tb_at tb_X11_least 40 rfl) rfl (pc1 := 80) rfl ?_
      obtain ⟨d_25, h_26, h⟩ := ix_bd1_ex h
      refine ix_callV (As := [.int x4]) (rest := []) (ci := 10) (T := TX11) (nf := 18) X mf_X11_laySet mi_X11_laySet ms_X11_laySet rfl (Nat.le_of_ble_eq_true rfl) ml_RX11_322 ⟨Nat.le_of_ble_eq_true rfl, Nat.le_of_ble_eq_true rfl⟩ ⟨Nat.le_of_ble_eq_true rfl, Nat.le_of_ble_eq_true rfl⟩ rfl (Nat.le_of_ble_eq_true rfl) (ix_tb_at tb_X11_least 41 rfl) ⟨k_17.1, List.mem_singleton.mp k_17.2⟩ (c_X11_laySet hKp h_26) rfl (pc1 := 83) rfl ?_
      refine ix_aload_n (i := 0) (j := 0) X (ix_tb_at tb_X11_least 42 rfl) rfl rfl (pc1 := 84) rfl ?_
      obtain ⟨b_27, q_28, h⟩ := ix_bd1_ex h
      refine iz_getR X fl_RX11_45 k_17 q_28 (ix_tb_at tb_X11_least 43 rfl) (pc1 := 87) rfl ?_
      refine ix_iload_n (i := 2) (j := 1) X (ix_tb_at tb_X11_least 44 rfl) rfl rfl (pc1 := 88) rfl ?_
      obtain ⟨k_31, h⟩ := ix_ck_some h
      obtain ⟨r_32, d_29, h_30, h⟩ := ix_bd2_ex h
      refine ix_callV (As := [.int x2]) (rest := []) (ci := 8) (T := TX9) (nf := 20) X mf_X9_go mi_X9_go ms_X9_go rfl (Nat.le_of_ble_eq_true rfl) ml_RX11_287 ⟨Nat.le_of_ble_eq_true rfl, Nat.le_of_ble_eq_true rfl⟩ ⟨Nat.le_of_ble_eq_true rfl, Nat.le_of_ble_eq_true rfl⟩ rfl (Nat.le_of_ble_eq_true rfl) (ix_tb_at tb_X11_least 45 rfl) ⟨k_31.1, List.mem_singleton.mp k_31.2⟩ (c_X9_go hKp h_30) rfl (pc1 := 91) rfl ?_
      refine ix_istore (i := 5) (L1 := [(5, .int r_32), (0, .ref (K.2.2.1 + a0)), (2, .int x2), (3, .int x3), (4, .int x4)]) X (ix_tb_at tb_X11_least 46 rfl) (Nat.le_of_ble_eq_true rfl) rfl (pc1 := 93) rfl ?_
      refine ix_iload_n (i := 2) (j := 2) X (ix_tb_at tb_X11_least 47 rfl) rfl rfl (pc1 := 94) rfl ?_
      refine ix_aload_n (i := 0) (j := 1) X (ix_tb_at tb_X11_least 48 rfl) rfl rfl (pc1 := 95) rfl ?_
      refine iz_getR X fl_RX11_45 k_17 q_28 (ix_tb_at tb_X11_least 49 rfl) (pc1 := 98) rfl ?_
      obtain ⟨b_33, q_34, h⟩ := ix_bd1_ex h
      refine iz_getR X fl_RX11_174 k_31 q_34 (ix_tb_at tb_X11_least 50 rfl) (pc1 := 101) rfl ?_
      refine ix_iconst (v := 1) X (ix_tb_at tb_X11_least 51 rfl) (by decide) (pc1 := 102) rfl ?_
      obtain ⟨k_35, h⟩ := ix_ck_some h
      refine iz_iald X k_35 (ix_tb_at tb_X11_least 52 rfl) (pc1 := 103) rfl ?_
      refine ix_isub X (ix_tb_at tb_X11_least 53 rfl) (pc1 := 104) rfl ?_
      obtain ⟨x2_36, e_37, h⟩ := ix_lt_ex h
      refine ix_nmi e_37 ?_
      refine ix_istore_n (i := 2) (L1 := [(2, .int x2_36), (5, .int r_32), (0, .ref (K.2.2.1 + a0)), (3, .int x3), (4, .int x4)]) X (ix_tb_at tb_X11_least 54 rfl) rfl (Nat.le_of_ble_eq_true rfl) rfl (pc1 := 105) rfl ?_
      refine ix_iload (i := 5) (j := 1) X (ix_tb_at tb_X11_least 55 rfl) rfl (pc1 := 107) rfl ?_
      refine ix_if_ne (tgt := 121) X (ix_tb_at tb_X11_least 56 rfl) (by decide) (pc1 := 110) rfl (fun q_38 => ?_) (fun q_38 => ?_)
      · have h := ix_iff q_38 h
        refine ix_iload (i := 5) (j := 1) X (ix_tb_at tb_X11_least 63 rfl) rfl (pc1 := 123) rfl ?_
        refine ix_iconst (v := 1) X (ix_tb_at tb_X11_least 64 rfl) (by decide) (pc1 := 124) rfl ?_
        refine ix_icmp_eq (tgt := 130) X (ix_tb_at tb_X11_least 65 rfl) (by decide) (pc1 := 127) rfl (fun q_39 => ?_) (fun q_39 => ?_)
        · have h := ix_ift q_39 h
          refine ix_sub (L1 := [(0, .ref (K.2.2.1 + a0)), (2, .int x2_36), (3, .int x3), (4, .int x4)]) [2, 0, 3, 4] rfl ?_
          exact t_X11_least_130 hKp X hr hlk hrec43 hrec54 h
        · have h := ix_iff q_39 h
          refine ix_iload (i := 5) (j := 1) X (ix_tb_at tb_X11_least 66 rfl) rfl (pc1 := 129) rfl ?_
          exact ix_iret X hr hlk (ix_r2 (f := fun r => some (.int r)) (g := ix_w z) h) (ix_tb_at tb_X11_least 67 rfl)
      · have h := ix_ift q_38 h
        refine ix_aload_n (i := 0) (j := 2) X (ix_tb_at tb_X11_least 57 rfl) rfl rfl (pc1 := 111) rfl ?_
        refine ix_iload (i := 4) (j := 4) X (ix_tb_at tb_X11_least 58 rfl) rfl (pc1 := 113) rfl ?_
        obtain ⟨d_42, h_43, h⟩ := ix_bd1_ex h
        refine ix_callV (As := [.int x4]) (rest := []) (ci := 10) (T := TX11) (nf := 18) X mf_X11_keepSet mi_X11_keepSet ms_X11_keepSet rfl (Nat.le_of_ble_eq_true rfl) ml_RX11_325 ⟨Nat.le_of_ble_eq_true rfl, Nat.le_of_ble_eq_true rfl⟩ ⟨Nat.le_of_ble_eq_true rfl, Nat.le_of_ble_eq_true rfl⟩ rfl (Nat.le_of_ble_eq_true rfl) (ix_tb_at tb_X11_least 59 rfl) ⟨k_17.1, List.mem_singleton.mp k_17.2⟩ (c_X11_keepSet hKp h_43) rfl (pc1 := 116) rfl ?_
        refine ix_aload_n (i := 0) (j := 2) X (ix_tb_at tb_X11_least 60 rfl) rfl rfl (pc1 := 117) rfl ?_
        refine iz_getI X fl_RX11_302 k_17 (ix_tb_at tb_X11_least 61 rfl) (pc1 := 120) rfl ?_
        exact ix_iret X hr hlk (ix_r2 (f := fun r => some (.int r)) (g := ix_w z) h) (ix_tb_at tb_X11_least 62 rfl)
    · have h := ix_iff q_24 h
      refine ix_goto (tgt := 130) X (ix_tb_at tb_X11_least 38 rfl) (by decide) ?_
      refine ix_sub (L1 := [(0, .ref (K.2.2.1 + a0)), (2, .int x2), (3, .int x3), (4, .int x4)]) [0, 1, 2, 3] rfl ?_
      exact t_X11_least_130 hKp X hr hlk hrec43 hrec54 h
theorem t_X11_least_54 {l : Launch} {p : Program} {e : Env} {s : State} {m : MethodId} {args : Array Value} {below : List Frame} {meth : Method} {c : Code} {K : ix_Cx} (hKp : ix_Kp K) {n : Nat} {z : ix_Z} (X : ix_X p s m args c K cX11_least RX11 6) (hr : meth.sig.returnType = (some .int)) (hlk : meth.locks = false) {rec43 : Int32 → Int32 → ix_D2 → Option (Int32 × ix_D2)} {a0 : Nat} {x3 : Int32} {r : Int32} {d1 : ix_D2} (hrec43 : ∀ (x2 : Int32) (x3 : Int32) (d : ix_D2), rec43 x2 x3 d = some (r, d1) → ix_G p l e (ix_rm 6 145 0 0) s m args below meth c (MQ below (ix_Post K (some (.int r)) (ix_w z d1)) args s 0 0 (ix_A K)) K 6 0 0 43 [(0, .ref (K.2.2.1 + a0)), (2, .int x2), (3, .int x3)] [] (ix_w z d)) {x2 : Int32} {x4 : Int32} {d : ix_D2} (h : f_X11_least_54 n z rec43 a0 x3 x2 x4 d = some (r, d1)) : ix_G p l e (ix_rm 6 145 0 0) s m args below meth c (MQ below (ix_Post K (some (.int r)) (ix_w z d1)) args s 0 0 (ix_A K)) K 6 0 0 54 [(0, .ref (K.2.2.1 + a0)), (2, .int x2), (3, .int x3), (4, .int x4)] [] (ix_w z d) := by
  have key : ∀ (f : Nat) (x2 : Int32) (x4 : Int32) (d : ix_D2), ix_fix (b_X11_least_54 n z rec43 a0 x3) (fun _ _ _ => none) f x2 x4 d = some (r, d1) → ix_G p l e (ix_rm 6 145 0 0) s m args below meth c (MQ below (ix_Post K (some (.int r)) (ix_w z d1)) args s 0 0 (ix_A K)) K 6 0 0 54 [(0, .ref (K.2.2.1 + a0)), (2, .int x2), (3, .int x3), (4, .int x4)] [] (ix_w z d) := by
    intro f
    induction f with
    | zero =>
      intro x2 x4 d h
      have h : (none : Option (Int32 × ix_D2)) = some (r, d1) := h
      cases h
    | succ f ih =>
      intro x2 x4 d h
      exact tb_X11_least_54 hKp X hr hlk (rec54 := ix_fix (b_X11_least_54 n z rec43 a0 x3) (fun _ _ _ => none) f) hrec43 ih h
  exact key n x2 x4 d h
set_option maxRecDepth 20000 in
theorem tb_X11_least_43 {l : Launch} {p : Program} {e : Env} {s : State} {m : MethodId} {args : Array Value} {below : List Frame} {meth : Method} {c : Code} {K : ix_Cx} (hKp : ix_Kp K) {n : Nat} {z : ix_Z} (X : ix_X p s m args c K cX11_least RX11 6) (hr : meth.sig.returnType = (some .int)) (hlk : meth.locks = false)  {a0 : Nat} {rec43 : Int32 → Int32 → ix_D2 → Option (Int32 × ix_D2)} {r : Int32} {d1 : ix_D2} (hrec43 : ∀ (x2 : Int32) (x3 : Int32) (d : ix_D2), rec43 x2 x3 d = some (r, d1) → ix_G p l e (ix_rm 6 145 0 0) s m args below meth c (MQ below (ix_Post K (some (.int r)) (ix_w z d1)) args s 0 0 (ix_A K)) K 6 0 0 43 [(0, .ref (K.2.2.1 + a0)), (2, .int x2), (3, .int x3)] [] (ix_w z d)) {x2 : Int32} {x3 : Int32} {d : ix_D2} (h : b_X11_least_43 n z  a0 rec43 x2 x3 d = some (r, d1)) : ix_G p l e (ix_rm 6 145 0 0) s m args below meth c (MQ below (ix_Post K (some (.int r)) (ix_w z d1)) args s 0 0 (ix_A K)) K 6 0 0 43 [(0, .ref (K.2.2.1 + a0)), (2, .int x2), (3, .int x3)] [] (ix_w z d) := by
  unfold b_X11_least_43 at h
  refine ix_iload_n (i := 3) (j := 2) X (ix_tb_at tb_X11_least 22 rfl) rfl rfl (pc1 := 44) rfl ?_
  refine ix_aload_n (i := 0) (j := 0) X (ix_tb_at tb_X11_least 23 rfl) rfl rfl (pc1 := 45) rfl ?_
  obtain ⟨k_15, h⟩ := ix_ck_some h
  refine iz_getI X fl_RX11_302 k_15 (ix_tb_at tb_X11_least 24 rfl) (pc1 := 48) rfl ?_
  refine ix_icmp_gt (tgt := 142) X (ix_tb_at tb_X11_least 25 rfl) (by decide) (pc1 := 51) rfl (fun q_16 => ?_) (fun q_16 => ?_)
  · have h := ix_ift q_16 h
    refine ix_aload_n (i := 0) (j := 0) X (ix_tb_at tb_X11_least 72 rfl) rfl rfl (pc1 := 143) rfl ?_
    refine iz_getI X fl_RX11_302 k_15 (ix_tb_at tb_X11_least 73 rfl) (pc1 := 146) rfl ?_
    exact ix_iret X hr hlk (ix_r2 (f := fun r => some (.int r)) (g := ix_w z) h) (ix_tb_at tb_X11_least 74 rfl)
  · have h := ix_iff q_16 h
    refine ix_iconst (v := 0) X (ix_tb_at tb_X11_least 26 rfl) (by decide) (pc1 := 52) rfl ?_
    refine ix_istore (i := 4) (L1 := [(4, .int 0), (0, .ref (K.2.2.1 + a0)), (2, .int x2), (3, .int x3)]) X (ix_tb_at tb_X11_least 27 rfl) (Nat.le_of_ble_eq_true rfl) rfl (pc1 := 54) rfl ?_
    refine ix_sub (L1 := [(0, .ref (K.2.2.1 + a0)), (2, .int x2), (3, .int x3), (4, .int 0)]) [1, 2, 3, 0] rfl ?_
    exact t_X11_least_54 hKp X hr hlk hrec43 h
theorem t_X11_least_43 {l : Launch} {p : Program} {e : Env} {s : State} {m : MethodId} {args : Array Value} {below : List Frame} {meth : Method} {c : Code} {K : ix_Cx} (hKp : ix_Kp K) {n : Nat} {z : ix_Z} (X : ix_X p s m args c K cX11_least RX11 6) (hr : meth.sig.returnType = (some .int)) (hlk : meth.locks = false)  {a0 : Nat} {r : Int32} {d1 : ix_D2}  {x2 : Int32} {x3 : Int32} {d : ix_D2} (h : f_X11_least_43 n z  a0 x2 x3 d = some (r, d1)) : ix_G p l e (ix_rm 6 145 0 0) s m args below meth c (MQ below (ix_Post K (some (.int r)) (ix_w z d1)) args s 0 0 (ix_A K)) K 6 0 0 43 [(0, .ref (K.2.2.1 + a0)), (2, .int x2), (3, .int x3)] [] (ix_w z d) := by
  have key : ∀ (f : Nat) (x2 : Int32) (x3 : Int32) (d : ix_D2), ix_fix (b_X11_least_43 n z  a0) (fun _ _ _ => none) f x2 x3 d = some (r, d1) → ix_G p l e (ix_rm 6 145 0 0) s m args below meth c (MQ below (ix_Post K (some (.int r)) (ix_w z d1)) args s 0 0 (ix_A K)) K 6 0 0 43 [(0, .ref (K.2.2.1 + a0)), (2, .int x2), (3, .int x3)] [] (ix_w z d) := by
    intro f
    induction f with
    | zero =>
      intro x2 x3 d h
      have h : (none : Option (Int32 × ix_D2)) = some (r, d1) := h
      cases h
    | succ f ih =>
      intro x2 x3 d h
      exact tb_X11_least_43 hKp X hr hlk (rec43 := ix_fix (b_X11_least_43 n z  a0) (fun _ _ _ => none) f)  ih h
  exact key n x2 x3 d h
set_option maxRecDepth 20000 in
theorem c_X11_least {l : Launch} {K : ix_Cx} (hKp : ix_Kp K) {n : Nat} {z : ix_Z} {a0 : Nat} {x1 : Int32} {d : ix_D2} {r : Int32} {d1 : ix_D2} (h : f_X11_least n z a0 x1 d = some (r, d1)) : ix_M l K yX11_least cX11_least 6 (some .int) 6 145 0 0 [.ref (K.2.2.1 + a0), .int x1] (ix_w z d) (some (.int r)) (ix_w z d1) := by
  refine ix_met mf_X11_least hKp (Nat.le_of_ble_eq_true rfl) ?_
  intro p e s m args below meth c hr hlk hnm X
  have X : ix_X p s m args c K cX11_least RX11 6 := X
  show ix_G p l e (ix_rm 6 145 0 0) s m args below meth c (MQ below (ix_Post K (some (.int r)) (ix_w z d1)) args s 0 0 (ix_A K)) K 6 0 0 0 [(0, .ref (K.2.2.1 + a0)), (1, .int x1)] [] (ix_w z d)
  unfold f_X11_least at h
  refine ix_iload_n (i := 1) (j := 1) X (ix_tb_at tb_X11_least 0 rfl) rfl rfl (pc1 := 1) rfl ?_
  obtain ⟨r_3, d_1, h_2, h⟩ := ix_bd2_ex h
  refine ix_callS (As := [.int x1]) (rest := []) X mf_X11_areSteps st_X11_areSteps ml_RX11_263 ⟨Nat.le_of_ble_eq_true rfl, Nat.le_of_ble_eq_true rfl⟩ ⟨Nat.le_of_ble_eq_true rfl, Nat.le_of_ble_eq_true rfl⟩ rfl (Nat.le_of_ble_eq_true rfl) (ix_tb_at tb_X11_least 1 rfl) (c_X11_areSteps hKp h_2) rfl (pc1 := 4) rfl ?_
  refine ix_if_ne (tgt := 15) X (ix_tb_at tb_X11_least 2 rfl) (by decide) (pc1 := 7) rfl (fun q_4 => ?_) (fun q_4 => ?_)
  · have h := ix_iff q_4 h
    refine ix_aload_n (i := 0) (j := 0) X (ix_tb_at tb_X11_least 7 rfl) rfl rfl (pc1 := 16) rfl ?_
    obtain ⟨k_7, h⟩ := ix_ck_some h
    obtain ⟨r_8, d_5, h_6, h⟩ := ix_bd2_ex h
    refine ix_callV (As := []) (rest := []) (ci := 10) (T := TX11) (nf := 18) X mf_X11_saidNo mi_X11_saidNo ms_X11_saidNo rfl (Nat.le_of_ble_eq_true rfl) ml_RX11_299 ⟨Nat.le_of_ble_eq_true rfl, Nat.le_of_ble_eq_true rfl⟩ ⟨Nat.le_of_ble_eq_true rfl, Nat.le_of_ble_eq_true rfl⟩ rfl (Nat.le_of_ble_eq_true rfl) (ix_tb_at tb_X11_least 8 rfl) ⟨k_7.1, List.mem_singleton.mp k_7.2⟩ (c_X11_saidNo hKp h_6) rfl (pc1 := 19) rfl ?_
    refine ix_if_eq (tgt := 31) X (ix_tb_at tb_X11_least 9 rfl) (by decide) (pc1 := 22) rfl (fun q_9 => ?_) (fun q_9 => ?_)
    · have h := ix_ift q_9 h
      refine ix_sub (L1 := [(0, .ref (K.2.2.1 + a0))]) [0] rfl ?_
      exact t_X11_least_31 hKp X hr hlk  h
    · have h := ix_iff q_9 h
      refine ix_aload_n (i := 0) (j := 0) X (ix_tb_at tb_X11_least 10 rfl) rfl rfl (pc1 := 23) rfl ?_
      refine iz_getI X fl_RX11_302 k_7 (ix_tb_at tb_X11_least 11 rfl) (pc1 := 26) rfl ?_
      refine ix_bipush (v := 10) X (ix_tb_at tb_X11_least 12 rfl) (by decide) (pc1 := 28) rfl ?_
      refine ix_icmp_le (tgt := 39) X (ix_tb_at tb_X11_least 13 rfl) (by decide) (pc1 := 31) rfl (fun q_14 => ?_) (fun q_14 => ?_)
      · have h := ix_ift q_14 h
        refine ix_iload_n (i := 1) (j := 1) X (ix_tb_at tb_X11_least 18 rfl) rfl rfl (pc1 := 40) rfl ?_
        refine ix_istore_n (i := 2) (L1 := [(2, .int x1), (0, .ref (K.2.2.1 + a0)), (1, .int x1)]) X (ix_tb_at tb_X11_least 19 rfl) rfl (Nat.le_of_ble_eq_true rfl) rfl (pc1 := 41) rfl ?_
        refine ix_iconst (v := 0) X (ix_tb_at tb_X11_least 20 rfl) (by decide) (pc1 := 42) rfl ?_
        refine ix_istore_n (i := 3) (L1 := [(3, .int 0), (2, .int x1), (0, .ref (K.2.2.1 + a0)), (1, .int x1)]) X (ix_tb_at tb_X11_least 21 rfl) rfl (Nat.le_of_ble_eq_true rfl) rfl (pc1 := 43) rfl ?_
        refine ix_sub (L1 := [(0, .ref (K.2.2.1 + a0)), (2, .int x1), (3, .int 0)]) [2, 1, 0] rfl ?_
        exact t_X11_least_43 hKp X hr hlk  h
      · have h := ix_iff q_14 h
        refine ix_sub (L1 := [(0, .ref (K.2.2.1 + a0))]) [0] rfl ?_
        exact t_X11_least_31 hKp X hr hlk  h
  · have h := ix_ift q_4 h
    refine ix_aload_n (i := 0) (j := 0) X (ix_tb_at tb_X11_least 3 rfl) rfl rfl (pc1 := 8) rfl ?_
    refine ix_sipush (v := (-1001)) X (ix_tb_at tb_X11_least 4 rfl) (by decide) (pc1 := 11) rfl ?_
    obtain ⟨k_46, h⟩ := ix_ck_some h
    obtain ⟨r_47, d_44, h_45, h⟩ := ix_bd2_ex h
    refine ix_callV (As := [.int ((-1001))]) (rest := []) (ci := 10) (T := TX11) (nf := 18) X mf_X11_refuse mi_X11_refuse ms_X11_refuse rfl (Nat.le_of_ble_eq_true rfl) ml_RX11_73 ⟨Nat.le_of_ble_eq_true rfl, Nat.le_of_ble_eq_true rfl⟩ ⟨Nat.le_of_ble_eq_true rfl, Nat.le_of_ble_eq_true rfl⟩ rfl (Nat.le_of_ble_eq_true rfl) (ix_tb_at tb_X11_least 5 rfl) ⟨k_46.1, List.mem_singleton.mp k_46.2⟩ (c_X11_refuse hKp h_45) rfl (pc1 := 14) rfl ?_
    exact ix_iret X hr hlk (ix_r2 (f := fun r => some (.int r)) (g := ix_w z) h) (ix_tb_at tb_X11_least 6 rfl)
def tab_X11_take : List (Nat × Instr × Nat) := [(0, .aload_n 0, 1), (1, .invokevirtual 299, 3), (4, .ifCond .ne 11, 3), (7, .aload_n 0, 1), (8, .sipush (-1002), 3), (11, .invokevirtual 73, 3), (14, .ireturn, 1), (15, .aload_n 0, 1), (16, .getfield 41, 3), (19, .getfield 177, 3), (22, .astore_n 1, 1), (23, .aload_n 0, 1), (24, .getfield 53, 3), (27, .iconst 0, 1), (28, .invokevirtual 328, 3), (31, .aload_n 1, 1), (32, .getfield 186, 3), (35, .istore_n 2, 1), (36, .iload_n 2, 1), (37, .aload_n 1, 1), (38, .getfield 181, 3), (41, .getfield 224, 3), (44, .if_icmp .ge 41, 3), (47, .aload_n 0, 1), (48, .getfield 53, 3), (51, .aload_n 1, 1), (52, .getfield 181, 3), (55, .getfield 331, 3), (58, .aload_n 1, 1), (59, .getfield 181, 3), (62, .getfield 332, 3), (65, .iload_n 2, 1), (66, .iaload, 1), (67, .aload_n 1, 1), (68, .getfield 181, 3), (71, .iload_n 2, 1), (72, .invokevirtual 335, 3), (75, .invokevirtual 338, 3), (78, .pop, 1), (79, .iinc 2 1, 3), (82, .goto (-46), 3), (85, .aload_n 0, 1), (86, .getfield 53, 3), (89, .getfield 224, 3), (92, .ireturn, 1)]
theorem tb_X11_take : ix_tab cX11_take tab_X11_take := by
  unfold ix_tab
  decide +kernel
noncomputable def b_X11_take_36 (n : Nat) (z : ix_Z)  (a0 : Nat) (a1 : Nat) (rec36 : Int32 → ix_D2 → Option (Int32 × ix_D2)) (x2 : Int32) (d : ix_D2) : Option (Int32 × ix_D2) :=
  ix_ck (ix_ok z [1] a1) (ix_bd1 (z.1 a1 0) (fun b_20 => ix_ck (ix_ok z [7] b_20) (ix_if (d.1 b_20 2 ≤ x2) (ix_ck (ix_ok z [10] a0) (ix_bd1 (z.1 a0 8) (fun b_25 => ix_ck (ix_ok z [7] b_25) (some (d.1 b_25 2, d))))) (ix_ck (ix_ok z [10] a0) (ix_bd1 (z.1 a0 8) (fun b_29 => ix_bd1 (z.1 b_20 0) (fun b_31 => ix_bd1 (z.1 b_20 1) (fun b_33 => ix_ck (ix_ix z 20 b_33 x2) (ix_bd2 (f_X7_size n z b_20 x2 d) (fun r_38 d_36 => ix_ck (ix_ok z [7] b_29) (ix_bd2 (f_X7_push n z b_29 b_31 (d.1 b_33 (ix_n x2)) r_38 d_36) (fun r_42 d_39 => ix_lt (x2 + 1) (fun x2_43 => rec36 x2_43 d_39)))))))))))))
noncomputable def f_X11_take_36 (n : Nat) (z : ix_Z)  (a0 : Nat) (a1 : Nat) (x2 : Int32) (d : ix_D2) : Option (Int32 × ix_D2) := ix_fix (b_X11_take_36 n z  a0 a1) (fun _ _ => none) n x2 d
noncomputable def f_X11_take (n : Nat) (z : ix_Z) (a0 : Nat) (d : ix_D2) : Option (Int32 × ix_D2) :=
  ix_ck (ix_ok z [10] a0) (ix_bd2 (f_X11_saidNo n z a0 d) (fun r_4 d_1 => ix_if (r_4 = 0) (ix_bd2 (f_X11_refuse n z a0 ((-1002)) d_1) (fun r_47 d_45 => some (r_47, d_45))) (ix_bd1 (z.1 a0 6) (fun b_6 => ix_ck (ix_ok z [8] b_6) (ix_bd1 (z.1 b_6 0) (fun b_9 => ix_bd1 (z.1 a0 8) (fun b_11 => ix_ck (ix_ok z [7] b_11) (ix_bd1 (f_X7_shortenTo n z b_11 0 d_1) (fun d_13 => ix_ck (ix_ok z [1] b_9) (ix_lt (d_13.1 b_9 16) (fun x2_17 => f_X11_take_36 n z  a0 b_9 x2_17 d_13)))))))))))
set_option maxRecDepth 20000 in
theorem tb_X11_take_36 {l : Launch} {p : Program} {e : Env} {s : State} {m : MethodId} {args : Array Value} {below : List Frame} {meth : Method} {c : Code} {K : ix_Cx} (hKp : ix_Kp K) {n : Nat} {z : ix_Z} (X : ix_X p s m args c K cX11_take RX11 3) (hr : meth.sig.returnType = (some .int)) (hlk : meth.locks = false)  {a0 : Nat} {a1 : Nat} {rec36 : Int32 → ix_D2 → Option (Int32 × ix_D2)} {r : Int32} {d1 : ix_D2} (hrec36 : ∀ (x2 : Int32) (d : ix_D2), rec36 x2 d = some (r, d1) → ix_G p l e (ix_rm 2 50 0 0) s m args below meth c (MQ below (ix_Post K (some (.int r)) (ix_w z d1)) args s 0 0 (ix_A K)) K 3 0 0 36 [(0, .ref (K.2.2.1 + a0)), (1, .ref (K.2.2.1 + a1)), (2, .int x2)] [] (ix_w z d)) {x2 : Int32} {d : ix_D2} (h : b_X11_take_36 n z  a0 a1 rec36 x2 d = some (r, d1)) : ix_G p l e (ix_rm 2 50 0 0) s m args below meth c (MQ below (ix_Post K (some (.int r)) (ix_w z d1)) args s 0 0 (ix_A K)) K 3 0 0 36 [(0, .ref (K.2.2.1 + a0)), (1, .ref (K.2.2.1 + a1)), (2, .int x2)] [] (ix_w z d) := by
  unfold b_X11_take_36 at h
  refine ix_iload_n (i := 2) (j := 2) X (ix_tb_at tb_X11_take 18 rfl) rfl rfl (pc1 := 37) rfl ?_
  refine ix_aload_n (i := 1) (j := 1) X (ix_tb_at tb_X11_take 19 rfl) rfl rfl (pc1 := 38) rfl ?_
  obtain ⟨k_19, h⟩ := ix_ck_some h
  obtain ⟨b_20, q_21, h⟩ := ix_bd1_ex h
  refine iz_getR X fl_RX11_181 k_19 q_21 (ix_tb_at tb_X11_take 20 rfl) (pc1 := 41) rfl ?_
  obtain ⟨k_22, h⟩ := ix_ck_some h
  refine iz_getI X fl_RX11_224 k_22 (ix_tb_at tb_X11_take 21 rfl) (pc1 := 44) rfl ?_
  refine ix_icmp_ge (tgt := 85) X (ix_tb_at tb_X11_take 22 rfl) (by decide) (pc1 := 47) rfl (fun q_23 => ?_) (fun q_23 => ?_)
  · have h := ix_ift q_23 h
    refine ix_aload_n (i := 0) (j := 0) X (ix_tb_at tb_X11_take 41 rfl) rfl rfl (pc1 := 86) rfl ?_
    obtain ⟨k_24, h⟩ := ix_ck_some h
    obtain ⟨b_25, q_26, h⟩ := ix_bd1_ex h
    refine iz_getR X fl_RX11_53 k_24 q_26 (ix_tb_at tb_X11_take 42 rfl) (pc1 := 89) rfl ?_
    obtain ⟨k_27, h⟩ := ix_ck_some h
    refine iz_getI X fl_RX11_224 k_27 (ix_tb_at tb_X11_take 43 rfl) (pc1 := 92) rfl ?_
    exact ix_iret X hr hlk (ix_r2 (f := fun r => some (.int r)) (g := ix_w z) h) (ix_tb_at tb_X11_take 44 rfl)
  · have h := ix_iff q_23 h
    refine ix_aload_n (i := 0) (j := 0) X (ix_tb_at tb_X11_take 23 rfl) rfl rfl (pc1 := 48) rfl ?_
    obtain ⟨k_28, h⟩ := ix_ck_some h
    obtain ⟨b_29, q_30, h⟩ := ix_bd1_ex h
    refine iz_getR X fl_RX11_53 k_28 q_30 (ix_tb_at tb_X11_take 24 rfl) (pc1 := 51) rfl ?_
    refine ix_aload_n (i := 1) (j := 1) X (ix_tb_at tb_X11_take 25 rfl) rfl rfl (pc1 := 52) rfl ?_
    refine iz_getR X fl_RX11_181 k_19 q_21 (ix_tb_at tb_X11_take 26 rfl) (pc1 := 55) rfl ?_
    obtain ⟨b_31, q_32, h⟩ := ix_bd1_ex h
    refine iz_getR X fl_RX11_331 k_22 q_32 (ix_tb_at tb_X11_take 27 rfl) (pc1 := 58) rfl ?_
    refine ix_aload_n (i := 1) (j := 1) X (ix_tb_at tb_X11_take 28 rfl) rfl rfl (pc1 := 59) rfl ?_
    refine iz_getR X fl_RX11_181 k_19 q_21 (ix_tb_at tb_X11_take 29 rfl) (pc1 := 62) rfl ?_
    obtain ⟨b_33, q_34, h⟩ := ix_bd1_ex h
    refine iz_getR X fl_RX11_332 k_22 q_34 (ix_tb_at tb_X11_take 30 rfl) (pc1 := 65) rfl ?_
    refine ix_iload_n (i := 2) (j := 2) X (ix_tb_at tb_X11_take 31 rfl) rfl rfl (pc1 := 66) rfl ?_
    obtain ⟨k_35, h⟩ := ix_ck_some h
    refine iz_iald X k_35 (ix_tb_at tb_X11_take 32 rfl) (pc1 := 67) rfl ?_
    refine ix_aload_n (i := 1) (j := 1) X (ix_tb_at tb_X11_take 33 rfl) rfl rfl (pc1 := 68) rfl ?_
    refine iz_getR X fl_RX11_181 k_19 q_21 (ix_tb_at tb_X11_take 34 rfl) (pc1 := 71) rfl ?_
    refine ix_iload_n (i := 2) (j := 2) X (ix_tb_at tb_X11_take 35 rfl) rfl rfl (pc1 := 72) rfl ?_
    obtain ⟨r_38, d_36, h_37, h⟩ := ix_bd2_ex h
    refine ix_callV (As := [.int x2]) (rest := [.int (d.1 b_33 (ix_n x2)), .ref (K.2.2.1 + b_31), .ref (K.2.2.1 + b_29)]) (ci := 7) (T := TX7) (nf := 3) X mf_X7_size mi_X7_size ms_X7_size rfl (Nat.le_of_ble_eq_true rfl) ml_RX11_335 ⟨Nat.le_of_ble_eq_true rfl, Nat.le_of_ble_eq_true rfl⟩ ⟨Nat.le_of_ble_eq_true rfl, Nat.le_of_ble_eq_true rfl⟩ rfl (Nat.le_of_ble_eq_true rfl) (ix_tb_at tb_X11_take 36 rfl) ⟨k_22.1, List.mem_singleton.mp k_22.2⟩ (c_X7_size hKp h_37) rfl (pc1 := 75) rfl ?_
    obtain ⟨k_41, h⟩ := ix_ck_some h
    obtain ⟨r_42, d_39, h_40, h⟩ := ix_bd2_ex h
    refine ix_callV (As := [.ref (K.2.2.1 + b_31), .int (d.1 b_33 (ix_n x2)), .int r_38]) (rest := []) (ci := 7) (T := TX7) (nf := 3) X mf_X7_push mi_X7_push ms_X7_push rfl (Nat.le_of_ble_eq_true rfl) ml_RX11_338 ⟨Nat.le_of_ble_eq_true rfl, Nat.le_of_ble_eq_true rfl⟩ ⟨Nat.le_of_ble_eq_true rfl, Nat.le_of_ble_eq_true rfl⟩ rfl (Nat.le_of_ble_eq_true rfl) (ix_tb_at tb_X11_take 37 rfl) ⟨k_41.1, List.mem_singleton.mp k_41.2⟩ (c_X7_push hKp h_40) rfl (pc1 := 78) rfl ?_
    refine ix_pop X (ix_tb_at tb_X11_take 38 rfl) rfl (pc1 := 79) rfl ?_
    obtain ⟨x2_43, e_44, h⟩ := ix_lt_ex h
    refine ix_iinc (i := 2) (j := 2) (v := x2_43) (L1 := [(2, .int x2_43), (0, .ref (K.2.2.1 + a0)), (1, .ref (K.2.2.1 + a1))]) X (ix_tb_at tb_X11_take 39 rfl) rfl (by rw [oi_1]; exact e_44.symm) (Nat.le_of_ble_eq_true rfl) rfl (pc1 := 82) rfl ?_
    refine ix_goto (tgt := 36) X (ix_tb_at tb_X11_take 40 rfl) (by decide) ?_
    refine ix_sub (L1 := [(0, .ref (K.2.2.1 + a0)), (1, .ref (K.2.2.1 + a1)), (2, .int x2_43)]) [1, 2, 0] rfl ?_
    exact hrec36 x2_43 d_39 h
theorem t_X11_take_36 {l : Launch} {p : Program} {e : Env} {s : State} {m : MethodId} {args : Array Value} {below : List Frame} {meth : Method} {c : Code} {K : ix_Cx} (hKp : ix_Kp K) {n : Nat} {z : ix_Z} (X : ix_X p s m args c K cX11_take RX11 3) (hr : meth.sig.returnType = (some .int)) (hlk : meth.locks = false)  {a0 : Nat} {a1 : Nat} {r : Int32} {d1 : ix_D2}  {x2 : Int32} {d : ix_D2} (h : f_X11_take_36 n z  a0 a1 x2 d = some (r, d1)) : ix_G p l e (ix_rm 2 50 0 0) s m args below meth c (MQ below (ix_Post K (some (.int r)) (ix_w z d1)) args s 0 0 (ix_A K)) K 3 0 0 36 [(0, .ref (K.2.2.1 + a0)), (1, .ref (K.2.2.1 + a1)), (2, .int x2)] [] (ix_w z d) := by
  have key : ∀ (f : Nat) (x2 : Int32) (d : ix_D2), ix_fix (b_X11_take_36 n z  a0 a1) (fun _ _ => none) f x2 d = some (r, d1) → ix_G p l e (ix_rm 2 50 0 0) s m args below meth c (MQ below (ix_Post K (some (.int r)) (ix_w z d1)) args s 0 0 (ix_A K)) K 3 0 0 36 [(0, .ref (K.2.2.1 + a0)), (1, .ref (K.2.2.1 + a1)), (2, .int x2)] [] (ix_w z d) := by
    intro f
    induction f with
    | zero =>
      intro x2 d h
      have h : (none : Option (Int32 × ix_D2)) = some (r, d1) := h
      cases h
    | succ f ih =>
      intro x2 d h
      exact tb_X11_take_36 hKp X hr hlk (rec36 := ix_fix (b_X11_take_36 n z  a0 a1) (fun _ _ => none) f)  ih h
  exact key n x2 d h
set_option maxRecDepth 20000 in
theorem c_X11_take {l : Launch} {K : ix_Cx} (hKp : ix_Kp K) {n : Nat} {z : ix_Z} {a0 : Nat} {d : ix_D2} {r : Int32} {d1 : ix_D2} (h : f_X11_take n z a0 d = some (r, d1)) : ix_M l K yX11_take cX11_take 3 (some .int) 2 50 0 0 [.ref (K.2.2.1 + a0)] (ix_w z d) (some (.int r)) (ix_w z d1) := by
  refine ix_met mf_X11_take hKp (Nat.le_of_ble_eq_true rfl) ?_
  intro p e s m args below meth c hr hlk hnm X
  have X : ix_X p s m args c K cX11_take RX11 3 := X
  show ix_G p l e (ix_rm 2 50 0 0) s m args below meth c (MQ below (ix_Post K (some (.int r)) (ix_w z d1)) args s 0 0 (ix_A K)) K 3 0 0 0 [(0, .ref (K.2.2.1 + a0))] [] (ix_w z d)
  unfold f_X11_take at h
  refine ix_aload_n (i := 0) (j := 0) X (ix_tb_at tb_X11_take 0 rfl) rfl rfl (pc1 := 1) rfl ?_
  obtain ⟨k_3, h⟩ := ix_ck_some h
  obtain ⟨r_4, d_1, h_2, h⟩ := ix_bd2_ex h
  refine ix_callV (As := []) (rest := []) (ci := 10) (T := TX11) (nf := 18) X mf_X11_saidNo mi_X11_saidNo ms_X11_saidNo rfl (Nat.le_of_ble_eq_true rfl) ml_RX11_299 ⟨Nat.le_of_ble_eq_true rfl, Nat.le_of_ble_eq_true rfl⟩ ⟨Nat.le_of_ble_eq_true rfl, Nat.le_of_ble_eq_true rfl⟩ rfl (Nat.le_of_ble_eq_true rfl) (ix_tb_at tb_X11_take 1 rfl) ⟨k_3.1, List.mem_singleton.mp k_3.2⟩ (c_X11_saidNo hKp h_2) rfl (pc1 := 4) rfl ?_
  refine ix_if_ne (tgt := 15) X (ix_tb_at tb_X11_take 2 rfl) (by decide) (pc1 := 7) rfl (fun q_5 => ?_) (fun q_5 => ?_)
  · have h := ix_iff q_5 h
    refine ix_aload_n (i := 0) (j := 0) X (ix_tb_at tb_X11_take 7 rfl) rfl rfl (pc1 := 16) rfl ?_
    obtain ⟨b_6, q_7, h⟩ := ix_bd1_ex h
    refine iz_getR X fl_RX11_41 k_3 q_7 (ix_tb_at tb_X11_take 8 rfl) (pc1 := 19) rfl ?_
    obtain ⟨k_8, h⟩ := ix_ck_some h
    obtain ⟨b_9, q_10, h⟩ := ix_bd1_ex h
    refine iz_getR X fl_RX11_177 k_8 q_10 (ix_tb_at tb_X11_take 9 rfl) (pc1 := 22) rfl ?_
    refine ix_astore_n (i := 1) (L1 := [(1, .ref (K.2.2.1 + b_9)), (0, .ref (K.2.2.1 + a0))]) X (ix_tb_at tb_X11_take 10 rfl) rfl (Nat.le_of_ble_eq_true rfl) rfl (pc1 := 23) rfl ?_
    refine ix_aload_n (i := 0) (j := 1) X (ix_tb_at tb_X11_take 11 rfl) rfl rfl (pc1 := 24) rfl ?_
    obtain ⟨b_11, q_12, h⟩ := ix_bd1_ex h
    refine iz_getR X fl_RX11_53 k_3 q_12 (ix_tb_at tb_X11_take 12 rfl) (pc1 := 27) rfl ?_
    refine ix_iconst (v := 0) X (ix_tb_at tb_X11_take 13 rfl) (by decide) (pc1 := 28) rfl ?_
    obtain ⟨k_15, h⟩ := ix_ck_some h
    obtain ⟨d_13, h_14, h⟩ := ix_bd1_ex h
    refine ix_callV (As := [.int 0]) (rest := []) (ci := 7) (T := TX7) (nf := 3) X mf_X7_shortenTo mi_X7_shortenTo ms_X7_shortenTo rfl (Nat.le_of_ble_eq_true rfl) ml_RX11_328 ⟨Nat.le_of_ble_eq_true rfl, Nat.le_of_ble_eq_true rfl⟩ ⟨Nat.le_of_ble_eq_true rfl, Nat.le_of_ble_eq_true rfl⟩ rfl (Nat.le_of_ble_eq_true rfl) (ix_tb_at tb_X11_take 14 rfl) ⟨k_15.1, List.mem_singleton.mp k_15.2⟩ (c_X7_shortenTo hKp h_14) rfl (pc1 := 31) rfl ?_
    refine ix_aload_n (i := 1) (j := 0) X (ix_tb_at tb_X11_take 15 rfl) rfl rfl (pc1 := 32) rfl ?_
    obtain ⟨k_16, h⟩ := ix_ck_some h
    refine iz_getI X fl_RX11_186 k_16 (ix_tb_at tb_X11_take 16 rfl) (pc1 := 35) rfl ?_
    obtain ⟨x2_17, e_18, h⟩ := ix_lt_ex h
    refine ix_nmi e_18 ?_
    refine ix_istore_n (i := 2) (L1 := [(2, .int x2_17), (1, .ref (K.2.2.1 + b_9)), (0, .ref (K.2.2.1 + a0))]) X (ix_tb_at tb_X11_take 17 rfl) rfl (Nat.le_of_ble_eq_true rfl) rfl (pc1 := 36) rfl ?_
    refine ix_sub (L1 := [(0, .ref (K.2.2.1 + a0)), (1, .ref (K.2.2.1 + b_9)), (2, .int x2_17)]) [2, 1, 0] rfl ?_
    exact t_X11_take_36 hKp X hr hlk  h
  · have h := ix_ift q_5 h
    refine ix_aload_n (i := 0) (j := 0) X (ix_tb_at tb_X11_take 3 rfl) rfl rfl (pc1 := 8) rfl ?_
    refine ix_sipush (v := (-1002)) X (ix_tb_at tb_X11_take 4 rfl) (by decide) (pc1 := 11) rfl ?_
    obtain ⟨r_47, d_45, h_46, h⟩ := ix_bd2_ex h
    refine ix_callV (As := [.int ((-1002))]) (rest := []) (ci := 10) (T := TX11) (nf := 18) X mf_X11_refuse mi_X11_refuse ms_X11_refuse rfl (Nat.le_of_ble_eq_true rfl) ml_RX11_73 ⟨Nat.le_of_ble_eq_true rfl, Nat.le_of_ble_eq_true rfl⟩ ⟨Nat.le_of_ble_eq_true rfl, Nat.le_of_ble_eq_true rfl⟩ rfl (Nat.le_of_ble_eq_true rfl) (ix_tb_at tb_X11_take 5 rfl) ⟨k_3.1, List.mem_singleton.mp k_3.2⟩ (c_X11_refuse hKp h_46) rfl (pc1 := 14) rfl ?_
    exact ix_iret X hr hlk (ix_r2 (f := fun r => some (.int r)) (g := ix_w z) h) (ix_tb_at tb_X11_take 6 rfl)
def tab_X11_claim : List (Nat × Instr × Nat) := [(0, .aload_n 0, 1), (1, .iload_n 1, 1), (2, .invokevirtual 114, 3), (5, .istore_n 2, 1), (6, .iload_n 2, 1), (7, .ifCond .eq 9, 3), (10, .aload_n 0, 1), (11, .iload_n 2, 1), (12, .invokevirtual 73, 3), (15, .ireturn, 1), (16, .iconst 0, 1), (17, .istore_n 3, 1), (18, .iload_n 3, 1), (19, .aload_n 0, 1), (20, .getfield 14, 3), (23, .iload_n 1, 1), (24, .iaload, 1), (25, .if_icmp .ge 24, 3), (28, .aload_n 0, 1), (29, .getfield 28, 3), (32, .aload_n 0, 1), (33, .getfield 11, 3), (36, .iload_n 1, 1), (37, .aaload, 1), (38, .iload_n 3, 1), (39, .iaload, 1), (40, .invokevirtual 342, 3), (43, .iinc 3 1, 3), (46, .goto (-28), 3), (49, .aload_n 0, 1), (50, .getfield 28, 3), (53, .getfield 345, 3), (56, .istore_n 3, 1), (57, .aload_n 0, 1), (58, .getfield 28, 3), (61, .iconst 0, 1), (62, .putfield 345, 3), (65, .aload_n 0, 1), (66, .getfield 53, 3), (69, .aload_n 0, 1), (70, .getfield 28, 3), (73, .getfield 348, 3), (76, .iconst 0, 1), (77, .iload_n 3, 1), (78, .invokevirtual 338, 3), (81, .ifCond .eq 13, 3), (84, .aload_n 0, 1), (85, .getfield 53, 3), (88, .getfield 224, 3), (91, .goto 10, 3), (94, .aload_n 0, 1), (95, .sipush (-1003), 3), (98, .invokevirtual 73, 3), (101, .ireturn, 1)]
theorem tb_X11_claim : ix_tab cX11_claim tab_X11_claim := by
  unfold ix_tab
  decide +kernel
noncomputable def b_X11_claim_18 (n : Nat) (z : ix_Z)  (a0 : Nat) (x1 : Int32) (rec18 : Int32 → ix_D2 → Option (Int32 × ix_D2)) (x3 : Int32) (d : ix_D2) : Option (Int32 × ix_D2) :=
  ix_ck (ix_ok z [10] a0) (ix_bd1 (z.1 a0 1) (fun b_7 => ix_ck (ix_ix z 20 b_7 x1) (ix_if (d.1 b_7 (ix_n x1) ≤ x3) (ix_bd1 (z.1 a0 3) (fun b_11 => ix_ck (ix_ok z [2] b_11) (ix_lt (d.1 b_11 10) (fun x3_14 => ix_lt (ix_di d b_11 10 0) (fun d_16 => ix_bd1 (z.1 a0 8) (fun b_18 => ix_bd1 (z.1 b_11 4) (fun b_20 => ix_ck (ix_ok z [7] b_18) (ix_bd2 (f_X7_push n z b_18 b_20 0 x3_14 d_16) (fun r_25 d_22 => ix_if (r_25 = 0) (ix_bd2 (f_X11_refuse n z a0 ((-1003)) d_22) (fun r_29 d_27 => some (r_29, d_27))) (some (d_22.1 b_18 2, d_22))))))))))) (ix_bd1 (z.1 a0 3) (fun b_30 => ix_bd1 (z.1 a0 0) (fun b_32 => ix_ck (ix_ix z 25 b_32 x1) (ix_bd1 (z.1 b_32 (ix_n x1)) (fun b_35 => ix_ck (ix_ix z 20 b_35 x3) (ix_ck (ix_ok z [2] b_30) (ix_bd1 (f_X2_add n z b_30 (d.1 b_35 (ix_n x3)) d) (fun d_38 => ix_lt (x3 + 1) (fun x3_41 => rec18 x3_41 d_38))))))))))))
noncomputable def f_X11_claim_18 (n : Nat) (z : ix_Z)  (a0 : Nat) (x1 : Int32) (x3 : Int32) (d : ix_D2) : Option (Int32 × ix_D2) := ix_fix (b_X11_claim_18 n z  a0 x1) (fun _ _ => none) n x3 d
noncomputable def f_X11_claim (n : Nat) (z : ix_Z) (a0 : Nat) (x1 : Int32) (d : ix_D2) : Option (Int32 × ix_D2) :=
  ix_ck (ix_ok z [10] a0) (ix_bd2 (f_X11_lookForItems n z a0 x1 d) (fun r_4 d_1 => ix_if (r_4 = 0) (f_X11_claim_18 n z  a0 x1 0 d_1) (ix_bd2 (f_X11_refuse n z a0 r_4 d_1) (fun r_45 d_43 => some (r_45, d_43)))))
set_option maxRecDepth 20000 in
theorem tb_X11_claim_18 {l : Launch} {p : Program} {e : Env} {s : State} {m : MethodId} {args : Array Value} {below : List Frame} {meth : Method} {c : Code} {K : ix_Cx} (hKp : ix_Kp K) {n : Nat} {z : ix_Z} (X : ix_X p s m args c K cX11_claim RX11 4) (hr : meth.sig.returnType = (some .int)) (hlk : meth.locks = false)  {a0 : Nat} {x1 : Int32} {rec18 : Int32 → ix_D2 → Option (Int32 × ix_D2)} {r : Int32} {d1 : ix_D2} (hrec18 : ∀ (x3 : Int32) (d : ix_D2), rec18 x3 d = some (r, d1) → ix_G p l e (ix_rm 3 67 0 0) s m args below meth c (MQ below (ix_Post K (some (.int r)) (ix_w z d1)) args s 0 0 (ix_A K)) K 4 0 0 18 [(0, .ref (K.2.2.1 + a0)), (1, .int x1), (3, .int x3)] [] (ix_w z d)) {x3 : Int32} {d : ix_D2} (h : b_X11_claim_18 n z  a0 x1 rec18 x3 d = some (r, d1)) : ix_G p l e (ix_rm 3 67 0 0) s m args below meth c (MQ below (ix_Post K (some (.int r)) (ix_w z d1)) args s 0 0 (ix_A K)) K 4 0 0 18 [(0, .ref (K.2.2.1 + a0)), (1, .int x1), (3, .int x3)] [] (ix_w z d) := by
  unfold b_X11_claim_18 at h
  refine ix_iload_n (i := 3) (j := 2) X (ix_tb_at tb_X11_claim 12 rfl) rfl rfl (pc1 := 19) rfl ?_
  refine ix_aload_n (i := 0) (j := 0) X (ix_tb_at tb_X11_claim 13 rfl) rfl rfl (pc1 := 20) rfl ?_
  obtain ⟨k_6, h⟩ := ix_ck_some h
  obtain ⟨b_7, q_8, h⟩ := ix_bd1_ex h
  refine iz_getR X fl_RX11_14 k_6 q_8 (ix_tb_at tb_X11_claim 14 rfl) (pc1 := 23) rfl ?_
  refine ix_iload_n (i := 1) (j := 1) X (ix_tb_at tb_X11_claim 15 rfl) rfl rfl (pc1 := 24) rfl ?_
  obtain ⟨k_9, h⟩ := ix_ck_some h
  refine iz_iald X k_9 (ix_tb_at tb_X11_claim 16 rfl) (pc1 := 25) rfl ?_
  refine ix_icmp_ge (tgt := 49) X (ix_tb_at tb_X11_claim 17 rfl) (by decide) (pc1 := 28) rfl (fun q_10 => ?_) (fun q_10 => ?_)
  · have h := ix_ift q_10 h
    refine ix_aload_n (i := 0) (j := 0) X (ix_tb_at tb_X11_claim 29 rfl) rfl rfl (pc1 := 50) rfl ?_
    obtain ⟨b_11, q_12, h⟩ := ix_bd1_ex h
    refine iz_getR X fl_RX11_28 k_6 q_12 (ix_tb_at tb_X11_claim 30 rfl) (pc1 := 53) rfl ?_
    obtain ⟨k_13, h⟩ := ix_ck_some h
    refine iz_getI X fl_RX11_345 k_13 (ix_tb_at tb_X11_claim 31 rfl) (pc1 := 56) rfl ?_
    obtain ⟨x3_14, e_15, h⟩ := ix_lt_ex h
    refine ix_nmi e_15 ?_
    refine ix_istore_n (i := 3) (L1 := [(3, .int x3_14), (0, .ref (K.2.2.1 + a0)), (1, .int x1)]) X (ix_tb_at tb_X11_claim 32 rfl) rfl (Nat.le_of_ble_eq_true rfl) rfl (pc1 := 57) rfl ?_
    refine ix_aload_n (i := 0) (j := 1) X (ix_tb_at tb_X11_claim 33 rfl) rfl rfl (pc1 := 58) rfl ?_
    refine iz_getR X fl_RX11_28 k_6 q_12 (ix_tb_at tb_X11_claim 34 rfl) (pc1 := 61) rfl ?_
    refine ix_iconst (v := 0) X (ix_tb_at tb_X11_claim 35 rfl) (by decide) (pc1 := 62) rfl ?_
    obtain ⟨d_16, e_17, h⟩ := ix_lt_ex h
    refine iz_putI X fp_RX11_345 k_13 (ix_tb_at tb_X11_claim 36 rfl) e_17 (pc1 := 65) rfl ?_
    refine ix_aload_n (i := 0) (j := 1) X (ix_tb_at tb_X11_claim 37 rfl) rfl rfl (pc1 := 66) rfl ?_
    obtain ⟨b_18, q_19, h⟩ := ix_bd1_ex h
    refine iz_getR X fl_RX11_53 k_6 q_19 (ix_tb_at tb_X11_claim 38 rfl) (pc1 := 69) rfl ?_
    refine ix_aload_n (i := 0) (j := 1) X (ix_tb_at tb_X11_claim 39 rfl) rfl rfl (pc1 := 70) rfl ?_
    refine iz_getR X fl_RX11_28 k_6 q_12 (ix_tb_at tb_X11_claim 40 rfl) (pc1 := 73) rfl ?_
    obtain ⟨b_20, q_21, h⟩ := ix_bd1_ex h
    refine iz_getR X fl_RX11_348 k_13 q_21 (ix_tb_at tb_X11_claim 41 rfl) (pc1 := 76) rfl ?_
    refine ix_iconst (v := 0) X (ix_tb_at tb_X11_claim 42 rfl) (by decide) (pc1 := 77) rfl ?_
    refine ix_iload_n (i := 3) (j := 0) X (ix_tb_at tb_X11_claim 43 rfl) rfl rfl (pc1 := 78) rfl ?_
    obtain ⟨k_24, h⟩ := ix_ck_some h
    obtain ⟨r_25, d_22, h_23, h⟩ := ix_bd2_ex h
    refine ix_callV (As := [.ref (K.2.2.1 + b_20), .int 0, .int x3_14]) (rest := []) (ci := 7) (T := TX7) (nf := 3) X mf_X7_push mi_X7_push ms_X7_push rfl (Nat.le_of_ble_eq_true rfl) ml_RX11_338 ⟨Nat.le_of_ble_eq_true rfl, Nat.le_of_ble_eq_true rfl⟩ ⟨Nat.le_of_ble_eq_true rfl, Nat.le_of_ble_eq_true rfl⟩ rfl (Nat.le_of_ble_eq_true rfl) (ix_tb_at tb_X11_claim 44 rfl) ⟨k_24.1, List.mem_singleton.mp k_24.2⟩ (c_X7_push hKp h_23) rfl (pc1 := 81) rfl ?_
    refine ix_if_eq (tgt := 94) X (ix_tb_at tb_X11_claim 45 rfl) (by decide) (pc1 := 84) rfl (fun q_26 => ?_) (fun q_26 => ?_)
    · have h := ix_ift q_26 h
      refine ix_aload_n (i := 0) (j := 1) X (ix_tb_at tb_X11_claim 50 rfl) rfl rfl (pc1 := 95) rfl ?_
      refine ix_sipush (v := (-1003)) X (ix_tb_at tb_X11_claim 51 rfl) (by decide) (pc1 := 98) rfl ?_
      obtain ⟨r_29, d_27, h_28, h⟩ := ix_bd2_ex h
      refine ix_callV (As := [.int ((-1003))]) (rest := []) (ci := 10) (T := TX11) (nf := 18) X mf_X11_refuse mi_X11_refuse ms_X11_refuse rfl (Nat.le_of_ble_eq_true rfl) ml_RX11_73 ⟨Nat.le_of_ble_eq_true rfl, Nat.le_of_ble_eq_true rfl⟩ ⟨Nat.le_of_ble_eq_true rfl, Nat.le_of_ble_eq_true rfl⟩ rfl (Nat.le_of_ble_eq_true rfl) (ix_tb_at tb_X11_claim 52 rfl) ⟨k_6.1, List.mem_singleton.mp k_6.2⟩ (c_X11_refuse hKp h_28) rfl (pc1 := 101) rfl ?_
      exact ix_iret X hr hlk (ix_r2 (f := fun r => some (.int r)) (g := ix_w z) h) (ix_tb_at tb_X11_claim 53 rfl)
    · have h := ix_iff q_26 h
      refine ix_aload_n (i := 0) (j := 1) X (ix_tb_at tb_X11_claim 46 rfl) rfl rfl (pc1 := 85) rfl ?_
      refine iz_getR X fl_RX11_53 k_6 q_19 (ix_tb_at tb_X11_claim 47 rfl) (pc1 := 88) rfl ?_
      refine iz_getI X fl_RX11_224 k_24 (ix_tb_at tb_X11_claim 48 rfl) (pc1 := 91) rfl ?_
      refine ix_goto (tgt := 101) X (ix_tb_at tb_X11_claim 49 rfl) (by decide) ?_
      exact ix_iret X hr hlk (ix_r2 (f := fun r => some (.int r)) (g := ix_w z) h) (ix_tb_at tb_X11_claim 53 rfl)
  · have h := ix_iff q_10 h
    refine ix_aload_n (i := 0) (j := 0) X (ix_tb_at tb_X11_claim 18 rfl) rfl rfl (pc1 := 29) rfl ?_
    obtain ⟨b_30, q_31, h⟩ := ix_bd1_ex h
    refine iz_getR X fl_RX11_28 k_6 q_31 (ix_tb_at tb_X11_claim 19 rfl) (pc1 := 32) rfl ?_
    refine ix_aload_n (i := 0) (j := 0) X (ix_tb_at tb_X11_claim 20 rfl) rfl rfl (pc1 := 33) rfl ?_
    obtain ⟨b_32, q_33, h⟩ := ix_bd1_ex h
    refine iz_getR X fl_RX11_11 k_6 q_33 (ix_tb_at tb_X11_claim 21 rfl) (pc1 := 36) rfl ?_
    refine ix_iload_n (i := 1) (j := 1) X (ix_tb_at tb_X11_claim 22 rfl) rfl rfl (pc1 := 37) rfl ?_
    obtain ⟨k_34, h⟩ := ix_ck_some h
    refine iz_aald X (Or.inr rfl) k_34 (ix_tb_at tb_X11_claim 23 rfl) (pc1 := 38) rfl ?_
    obtain ⟨b_35, q_36, h⟩ := ix_bd1_ex h
    refine ix_rvs q_36 ?_
    refine ix_iload_n (i := 3) (j := 2) X (ix_tb_at tb_X11_claim 24 rfl) rfl rfl (pc1 := 39) rfl ?_
    obtain ⟨k_37, h⟩ := ix_ck_some h
    refine iz_iald X k_37 (ix_tb_at tb_X11_claim 25 rfl) (pc1 := 40) rfl ?_
    obtain ⟨k_40, h⟩ := ix_ck_some h
    obtain ⟨d_38, h_39, h⟩ := ix_bd1_ex h
    refine ix_callV (As := [.int (d.1 b_35 (ix_n x3))]) (rest := []) (ci := 2) (T := TX2) (nf := 12) X mf_X2_add mi_X2_add ms_X2_add rfl (Nat.le_of_ble_eq_true rfl) ml_RX11_342 ⟨Nat.le_of_ble_eq_true rfl, Nat.le_of_ble_eq_true rfl⟩ ⟨Nat.le_of_ble_eq_true rfl, Nat.le_of_ble_eq_true rfl⟩ rfl (Nat.le_of_ble_eq_true rfl) (ix_tb_at tb_X11_claim 26 rfl) ⟨k_40.1, List.mem_singleton.mp k_40.2⟩ (c_X2_add hKp h_39) rfl (pc1 := 43) rfl ?_
    obtain ⟨x3_41, e_42, h⟩ := ix_lt_ex h
    refine ix_iinc (i := 3) (j := 2) (v := x3_41) (L1 := [(3, .int x3_41), (0, .ref (K.2.2.1 + a0)), (1, .int x1)]) X (ix_tb_at tb_X11_claim 27 rfl) rfl (by rw [oi_1]; exact e_42.symm) (Nat.le_of_ble_eq_true rfl) rfl (pc1 := 46) rfl ?_
    refine ix_goto (tgt := 18) X (ix_tb_at tb_X11_claim 28 rfl) (by decide) ?_
    refine ix_sub (L1 := [(0, .ref (K.2.2.1 + a0)), (1, .int x1), (3, .int x3_41)]) [1, 2, 0] rfl ?_
    exact hrec18 x3_41 d_38 h
theorem t_X11_claim_18 {l : Launch} {p : Program} {e : Env} {s : State} {m : MethodId} {args : Array Value} {below : List Frame} {meth : Method} {c : Code} {K : ix_Cx} (hKp : ix_Kp K) {n : Nat} {z : ix_Z} (X : ix_X p s m args c K cX11_claim RX11 4) (hr : meth.sig.returnType = (some .int)) (hlk : meth.locks = false)  {a0 : Nat} {x1 : Int32} {r : Int32} {d1 : ix_D2}  {x3 : Int32} {d : ix_D2} (h : f_X11_claim_18 n z  a0 x1 x3 d = some (r, d1)) : ix_G p l e (ix_rm 3 67 0 0) s m args below meth c (MQ below (ix_Post K (some (.int r)) (ix_w z d1)) args s 0 0 (ix_A K)) K 4 0 0 18 [(0, .ref (K.2.2.1 + a0)), (1, .int x1), (3, .int x3)] [] (ix_w z d) := by
  have key : ∀ (f : Nat) (x3 : Int32) (d : ix_D2), ix_fix (b_X11_claim_18 n z  a0 x1) (fun _ _ => none) f x3 d = some (r, d1) → ix_G p l e (ix_rm 3 67 0 0) s m args below meth c (MQ below (ix_Post K (some (.int r)) (ix_w z d1)) args s 0 0 (ix_A K)) K 4 0 0 18 [(0, .ref (K.2.2.1 + a0)), (1, .int x1), (3, .int x3)] [] (ix_w z d) := by
    intro f
    induction f with
    | zero =>
      intro x3 d h
      have h : (none : Option (Int32 × ix_D2)) = some (r, d1) := h
      cases h
    | succ f ih =>
      intro x3 d h
      exact tb_X11_claim_18 hKp X hr hlk (rec18 := ix_fix (b_X11_claim_18 n z  a0 x1) (fun _ _ => none) f)  ih h
  exact key n x3 d h
set_option maxRecDepth 20000 in
theorem c_X11_claim {l : Launch} {K : ix_Cx} (hKp : ix_Kp K) {n : Nat} {z : ix_Z} {a0 : Nat} {x1 : Int32} {d : ix_D2} {r : Int32} {d1 : ix_D2} (h : f_X11_claim n z a0 x1 d = some (r, d1)) : ix_M l K yX11_claim cX11_claim 4 (some .int) 3 67 0 0 [.ref (K.2.2.1 + a0), .int x1] (ix_w z d) (some (.int r)) (ix_w z d1) := by
  refine ix_met mf_X11_claim hKp (Nat.le_of_ble_eq_true rfl) ?_
  intro p e s m args below meth c hr hlk hnm X
  have X : ix_X p s m args c K cX11_claim RX11 4 := X
  show ix_G p l e (ix_rm 3 67 0 0) s m args below meth c (MQ below (ix_Post K (some (.int r)) (ix_w z d1)) args s 0 0 (ix_A K)) K 4 0 0 0 [(0, .ref (K.2.2.1 + a0)), (1, .int x1)] [] (ix_w z d)
  unfold f_X11_claim at h
  refine ix_aload_n (i := 0) (j := 0) X (ix_tb_at tb_X11_claim 0 rfl) rfl rfl (pc1 := 1) rfl ?_
  refine ix_iload_n (i := 1) (j := 1) X (ix_tb_at tb_X11_claim 1 rfl) rfl rfl (pc1 := 2) rfl ?_
  obtain ⟨k_3, h⟩ := ix_ck_some h
  obtain ⟨r_4, d_1, h_2, h⟩ := ix_bd2_ex h
  refine ix_callV (As := [.int x1]) (rest := []) (ci := 10) (T := TX11) (nf := 18) X mf_X11_lookForItems mi_X11_lookForItems ms_X11_lookForItems rfl (Nat.le_of_ble_eq_true rfl) ml_RX11_114 ⟨Nat.le_of_ble_eq_true rfl, Nat.le_of_ble_eq_true rfl⟩ ⟨Nat.le_of_ble_eq_true rfl, Nat.le_of_ble_eq_true rfl⟩ rfl (Nat.le_of_ble_eq_true rfl) (ix_tb_at tb_X11_claim 2 rfl) ⟨k_3.1, List.mem_singleton.mp k_3.2⟩ (c_X11_lookForItems hKp h_2) rfl (pc1 := 5) rfl ?_
  refine ix_istore_n (i := 2) (L1 := [(2, .int r_4), (0, .ref (K.2.2.1 + a0)), (1, .int x1)]) X (ix_tb_at tb_X11_claim 3 rfl) rfl (Nat.le_of_ble_eq_true rfl) rfl (pc1 := 6) rfl ?_
  refine ix_iload_n (i := 2) (j := 0) X (ix_tb_at tb_X11_claim 4 rfl) rfl rfl (pc1 := 7) rfl ?_
  refine ix_if_eq (tgt := 16) X (ix_tb_at tb_X11_claim 5 rfl) (by decide) (pc1 := 10) rfl (fun q_5 => ?_) (fun q_5 => ?_)
  · have h := ix_ift q_5 h
    refine ix_iconst (v := 0) X (ix_tb_at tb_X11_claim 10 rfl) (by decide) (pc1 := 17) rfl ?_
    refine ix_istore_n (i := 3) (L1 := [(3, .int 0), (2, .int r_4), (0, .ref (K.2.2.1 + a0)), (1, .int x1)]) X (ix_tb_at tb_X11_claim 11 rfl) rfl (Nat.le_of_ble_eq_true rfl) rfl (pc1 := 18) rfl ?_
    refine ix_sub (L1 := [(0, .ref (K.2.2.1 + a0)), (1, .int x1), (3, .int 0)]) [2, 3, 0] rfl ?_
    exact t_X11_claim_18 hKp X hr hlk  h
  · have h := ix_iff q_5 h
    refine ix_aload_n (i := 0) (j := 1) X (ix_tb_at tb_X11_claim 6 rfl) rfl rfl (pc1 := 11) rfl ?_
    refine ix_iload_n (i := 2) (j := 0) X (ix_tb_at tb_X11_claim 7 rfl) rfl rfl (pc1 := 12) rfl ?_
    obtain ⟨r_45, d_43, h_44, h⟩ := ix_bd2_ex h
    refine ix_callV (As := [.int r_4]) (rest := []) (ci := 10) (T := TX11) (nf := 18) X mf_X11_refuse mi_X11_refuse ms_X11_refuse rfl (Nat.le_of_ble_eq_true rfl) ml_RX11_73 ⟨Nat.le_of_ble_eq_true rfl, Nat.le_of_ble_eq_true rfl⟩ ⟨Nat.le_of_ble_eq_true rfl, Nat.le_of_ble_eq_true rfl⟩ rfl (Nat.le_of_ble_eq_true rfl) (ix_tb_at tb_X11_claim 8 rfl) ⟨k_3.1, List.mem_singleton.mp k_3.2⟩ (c_X11_refuse hKp h_44) rfl (pc1 := 15) rfl ?_
    exact ix_iret X hr hlk (ix_r2 (f := fun r => some (.int r)) (g := ix_w z) h) (ix_tb_at tb_X11_claim 9 rfl)
def tab_X11_strike : List (Nat × Instr × Nat) := [(0, .aload_n 0, 1), (1, .getfield 53, 3), (4, .iload_n 1, 1), (5, .invokevirtual 351, 3), (8, .ifCond .ne 7, 3), (11, .sipush (-1005), 3), (14, .ireturn, 1), (15, .aload_n 0, 1), (16, .getfield 53, 3), (19, .iload_n 1, 1), (20, .invokevirtual 354, 3), (23, .iconst 1, 1), (24, .ireturn, 1)]
theorem tb_X11_strike : ix_tab cX11_strike tab_X11_strike := by
  unfold ix_tab
  decide +kernel
noncomputable def f_X11_strike (n : Nat) (z : ix_Z) (a0 : Nat) (x1 : Int32) (d : ix_D2) : Option (Int32 × ix_D2) :=
  ix_ck (ix_ok z [10] a0) (ix_bd1 (z.1 a0 8) (fun b_2 => ix_ck (ix_ok z [7] b_2) (ix_bd2 (f_X7_has n z b_2 x1 d) (fun r_7 d_4 => ix_if (r_7 = 0) (some ((-1005), d_4)) (ix_bd1 (f_X7_remove n z b_2 x1 d_4) (fun d_9 => some (1, d_9)))))))
set_option maxRecDepth 20000 in
theorem c_X11_strike {l : Launch} {K : ix_Cx} (hKp : ix_Kp K) {n : Nat} {z : ix_Z} {a0 : Nat} {x1 : Int32} {d : ix_D2} {r : Int32} {d1 : ix_D2} (h : f_X11_strike n z a0 x1 d = some (r, d1)) : ix_M l K yX11_strike cX11_strike 2 (some .int) 3 65 0 0 [.ref (K.2.2.1 + a0), .int x1] (ix_w z d) (some (.int r)) (ix_w z d1) := by
  refine ix_met mf_X11_strike hKp (Nat.le_of_ble_eq_true rfl) ?_
  intro p e s m args below meth c hr hlk hnm X
  have X : ix_X p s m args c K cX11_strike RX11 2 := X
  show ix_G p l e (ix_rm 3 65 0 0) s m args below meth c (MQ below (ix_Post K (some (.int r)) (ix_w z d1)) args s 0 0 (ix_A K)) K 2 0 0 0 [(0, .ref (K.2.2.1 + a0)), (1, .int x1)] [] (ix_w z d)
  unfold f_X11_strike at h
  refine ix_aload_n (i := 0) (j := 0) X (ix_tb_at tb_X11_strike 0 rfl) rfl rfl (pc1 := 1) rfl ?_
  obtain ⟨k_1, h⟩ := ix_ck_some h
  obtain ⟨b_2, q_3, h⟩ := ix_bd1_ex h
  refine iz_getR X fl_RX11_53 k_1 q_3 (ix_tb_at tb_X11_strike 1 rfl) (pc1 := 4) rfl ?_
  refine ix_iload_n (i := 1) (j := 1) X (ix_tb_at tb_X11_strike 2 rfl) rfl rfl (pc1 := 5) rfl ?_
  obtain ⟨k_6, h⟩ := ix_ck_some h
  obtain ⟨r_7, d_4, h_5, h⟩ := ix_bd2_ex h
  refine ix_callV (As := [.int x1]) (rest := []) (ci := 7) (T := TX7) (nf := 3) X mf_X7_has mi_X7_has ms_X7_has rfl (Nat.le_of_ble_eq_true rfl) ml_RX11_351 ⟨Nat.le_of_ble_eq_true rfl, Nat.le_of_ble_eq_true rfl⟩ ⟨Nat.le_of_ble_eq_true rfl, Nat.le_of_ble_eq_true rfl⟩ rfl (Nat.le_of_ble_eq_true rfl) (ix_tb_at tb_X11_strike 3 rfl) ⟨k_6.1, List.mem_singleton.mp k_6.2⟩ (c_X7_has hKp h_5) rfl (pc1 := 8) rfl ?_
  refine ix_if_ne (tgt := 15) X (ix_tb_at tb_X11_strike 4 rfl) (by decide) (pc1 := 11) rfl (fun q_8 => ?_) (fun q_8 => ?_)
  · have h := ix_iff q_8 h
    refine ix_aload_n (i := 0) (j := 0) X (ix_tb_at tb_X11_strike 7 rfl) rfl rfl (pc1 := 16) rfl ?_
    refine iz_getR X fl_RX11_53 k_1 q_3 (ix_tb_at tb_X11_strike 8 rfl) (pc1 := 19) rfl ?_
    refine ix_iload_n (i := 1) (j := 1) X (ix_tb_at tb_X11_strike 9 rfl) rfl rfl (pc1 := 20) rfl ?_
    obtain ⟨d_9, h_10, h⟩ := ix_bd1_ex h
    refine ix_callV (As := [.int x1]) (rest := []) (ci := 7) (T := TX7) (nf := 3) X mf_X7_remove mi_X7_remove ms_X7_remove rfl (Nat.le_of_ble_eq_true rfl) ml_RX11_354 ⟨Nat.le_of_ble_eq_true rfl, Nat.le_of_ble_eq_true rfl⟩ ⟨Nat.le_of_ble_eq_true rfl, Nat.le_of_ble_eq_true rfl⟩ rfl (Nat.le_of_ble_eq_true rfl) (ix_tb_at tb_X11_strike 10 rfl) ⟨k_6.1, List.mem_singleton.mp k_6.2⟩ (c_X7_remove hKp h_10) rfl (pc1 := 23) rfl ?_
    refine ix_iconst (v := 1) X (ix_tb_at tb_X11_strike 11 rfl) (by decide) (pc1 := 24) rfl ?_
    exact ix_iret X hr hlk (ix_r2 (f := fun r => some (.int r)) (g := ix_w z) h) (ix_tb_at tb_X11_strike 12 rfl)
  · have h := ix_ift q_8 h
    refine ix_sipush (v := (-1005)) X (ix_tb_at tb_X11_strike 5 rfl) (by decide) (pc1 := 14) rfl ?_
    exact ix_iret X hr hlk (ix_r2 (f := fun r => some (.int r)) (g := ix_w z) h) (ix_tb_at tb_X11_strike 6 rfl)
def tab_X11_proof : List (Nat × Instr × Nat) := [(0, .aload_n 0, 1), (1, .getfield 53, 3), (4, .iload_n 1, 1), (5, .iload_n 2, 1), (6, .invokevirtual 189, 3), (9, .ireturn, 1)]
theorem tb_X11_proof : ix_tab cX11_proof tab_X11_proof := by
  unfold ix_tab
  decide +kernel
noncomputable def f_X11_proof (n : Nat) (z : ix_Z) (a0 : Nat) (x1 : Int32) (x2 : Int32) (d : ix_D2) : Option (Int32 × ix_D2) :=
  ix_ck (ix_ok z [10] a0) (ix_bd1 (z.1 a0 8) (fun b_2 => ix_ck (ix_ok z [7] b_2) (ix_bd2 (f_X7_tell n z b_2 x1 x2 d) (fun r_7 d_4 => some (r_7, d_4)))))
set_option maxRecDepth 20000 in
theorem c_X11_proof {l : Launch} {K : ix_Cx} (hKp : ix_Kp K) {n : Nat} {z : ix_Z} {a0 : Nat} {x1 : Int32} {x2 : Int32} {d : ix_D2} {r : Int32} {d1 : ix_D2} (h : f_X11_proof n z a0 x1 x2 d = some (r, d1)) : ix_M l K yX11_proof cX11_proof 3 (some .int) 3 64 0 0 [.ref (K.2.2.1 + a0), .int x1, .int x2] (ix_w z d) (some (.int r)) (ix_w z d1) := by
  refine ix_met mf_X11_proof hKp (Nat.le_of_ble_eq_true rfl) ?_
  intro p e s m args below meth c hr hlk hnm X
  have X : ix_X p s m args c K cX11_proof RX11 3 := X
  show ix_G p l e (ix_rm 3 64 0 0) s m args below meth c (MQ below (ix_Post K (some (.int r)) (ix_w z d1)) args s 0 0 (ix_A K)) K 3 0 0 0 [(0, .ref (K.2.2.1 + a0)), (1, .int x1), (2, .int x2)] [] (ix_w z d)
  unfold f_X11_proof at h
  refine ix_aload_n (i := 0) (j := 0) X (ix_tb_at tb_X11_proof 0 rfl) rfl rfl (pc1 := 1) rfl ?_
  obtain ⟨k_1, h⟩ := ix_ck_some h
  obtain ⟨b_2, q_3, h⟩ := ix_bd1_ex h
  refine iz_getR X fl_RX11_53 k_1 q_3 (ix_tb_at tb_X11_proof 1 rfl) (pc1 := 4) rfl ?_
  refine ix_iload_n (i := 1) (j := 1) X (ix_tb_at tb_X11_proof 2 rfl) rfl rfl (pc1 := 5) rfl ?_
  refine ix_iload_n (i := 2) (j := 2) X (ix_tb_at tb_X11_proof 3 rfl) rfl rfl (pc1 := 6) rfl ?_
  obtain ⟨k_6, h⟩ := ix_ck_some h
  obtain ⟨r_7, d_4, h_5, h⟩ := ix_bd2_ex h
  refine ix_callV (As := [.int x1, .int x2]) (rest := []) (ci := 7) (T := TX7) (nf := 3) X mf_X7_tell mi_X7_tell ms_X7_tell rfl (Nat.le_of_ble_eq_true rfl) ml_RX11_189 ⟨Nat.le_of_ble_eq_true rfl, Nat.le_of_ble_eq_true rfl⟩ ⟨Nat.le_of_ble_eq_true rfl, Nat.le_of_ble_eq_true rfl⟩ rfl (Nat.le_of_ble_eq_true rfl) (ix_tb_at tb_X11_proof 4 rfl) ⟨k_6.1, List.mem_singleton.mp k_6.2⟩ (c_X7_tell hKp h_5) rfl (pc1 := 9) rfl ?_
  exact ix_iret X hr hlk (ix_r2 (f := fun r => some (.int r)) (g := ix_w z) h) (ix_tb_at tb_X11_proof 5 rfl)
def tab_X11_firstRefused : List (Nat × Instr × Nat) := [(0, .aload_n 0, 1), (1, .getfield 45, 3), (4, .getfield 177, 3), (7, .astore_n 1, 1), (8, .aload_n 1, 1), (9, .aload_n 0, 1), (10, .getfield 28, 3), (13, .getfield 77, 3), (16, .invokevirtual 439, 3), (19, .iconst 0, 1), (20, .istore_n 2, 1), (21, .iload_n 2, 1), (22, .aload_n 0, 1), (23, .getfield 28, 3), (26, .getfield 195, 3), (29, .getfield 224, 3), (32, .if_icmp .ge 21, 3), (35, .aload_n 1, 1), (36, .aload_n 0, 1), (37, .getfield 28, 3), (40, .getfield 195, 3), (43, .iload_n 2, 1), (44, .invokevirtual 433, 3), (47, .iinc 2 1, 3), (50, .goto (-29), 3), (53, .iconst 0, 1), (54, .istore_n 2, 1), (55, .iload_n 2, 1), (56, .aload_n 0, 1), (57, .getfield 53, 3), (60, .getfield 224, 3), (63, .if_icmp .ge 32, 3), (66, .aload_n 1, 1), (67, .aload_n 0, 1), (68, .getfield 53, 3), (71, .iload_n 2, 1), (72, .invokevirtual 442, 3), (75, .ifCond .ne 5, 3), (78, .iload_n 2, 1), (79, .ireturn, 1), (80, .aload_n 1, 1), (81, .aload_n 0, 1), (82, .getfield 53, 3), (85, .iload_n 2, 1), (86, .invokevirtual 433, 3), (89, .iinc 2 1, 3), (92, .goto (-37), 3), (95, .aload_n 0, 1), (96, .getfield 53, 3), (99, .getfield 224, 3), (102, .ireturn, 1)]
theorem tb_X11_firstRefused : ix_tab cX11_firstRefused tab_X11_firstRefused := by
  unfold ix_tab
  decide +kernel
noncomputable def b_X11_firstRefused_55 (n : Nat) (z : ix_Z)  (a0 : Nat) (a1 : Nat) (rec55 : Int32 → ix_D2 → Option (Int32 × ix_D2)) (x2 : Int32) (d : ix_D2) : Option (Int32 × ix_D2) :=
  ix_ck (ix_ok z [10] a0) (ix_bd1 (z.1 a0 8) (fun b_22 => ix_ck (ix_ok z [7] b_22) (ix_if (d.1 b_22 2 ≤ x2) (some (d.1 b_22 2, d)) (ix_ck (ix_ok z [1] a1) (ix_bd2 (f_X1_follows n z a1 b_22 x2 d) (fun r_29 d_26 => ix_if (r_29 = 0) (some (x2, d_26)) (ix_bd1 (f_X1_layRow n z a1 b_22 x2 d_26) (fun d_31 => ix_lt (x2 + 1) (fun x2_33 => rec55 x2_33 d_31)))))))))
noncomputable def f_X11_firstRefused_55 (n : Nat) (z : ix_Z)  (a0 : Nat) (a1 : Nat) (x2 : Int32) (d : ix_D2) : Option (Int32 × ix_D2) := ix_fix (b_X11_firstRefused_55 n z  a0 a1) (fun _ _ => none) n x2 d
noncomputable def b_X11_firstRefused_21 (n : Nat) (z : ix_Z)  (a0 : Nat) (a1 : Nat) (rec21 : Int32 → ix_D2 → Option (Int32 × ix_D2)) (x2 : Int32) (d : ix_D2) : Option (Int32 × ix_D2) :=
  ix_ck (ix_ok z [10] a0) (ix_bd1 (z.1 a0 3) (fun b_14 => ix_ck (ix_ok z [2] b_14) (ix_bd1 (z.1 b_14 0) (fun b_17 => ix_ck (ix_ok z [7] b_17) (ix_if (d.1 b_17 2 ≤ x2) (f_X11_firstRefused_55 n z  a0 a1 0 d) (ix_ck (ix_ok z [1] a1) (ix_bd1 (f_X1_layRow n z a1 b_17 x2 d) (fun d_35 => ix_lt (x2 + 1) (fun x2_38 => rec21 x2_38 d_35)))))))))
noncomputable def f_X11_firstRefused_21 (n : Nat) (z : ix_Z)  (a0 : Nat) (a1 : Nat) (x2 : Int32) (d : ix_D2) : Option (Int32 × ix_D2) := ix_fix (b_X11_firstRefused_21 n z  a0 a1) (fun _ _ => none) n x2 d
noncomputable def f_X11_firstRefused (n : Nat) (z : ix_Z) (a0 : Nat) (d : ix_D2) : Option (Int32 × ix_D2) :=
  ix_ck (ix_ok z [10] a0) (ix_bd1 (z.1 a0 7) (fun b_2 => ix_ck (ix_ok z [8] b_2) (ix_bd1 (z.1 b_2 0) (fun b_5 => ix_bd1 (z.1 a0 3) (fun b_7 => ix_ck (ix_ok z [2] b_7) (ix_ck (ix_ok z [1] b_5) (ix_bd1 (f_X1_clear n z b_5 (d.1 b_7 5) d) (fun d_10 => f_X11_firstRefused_21 n z  a0 b_5 0 d_10))))))))
set_option maxRecDepth 20000 in
theorem tb_X11_firstRefused_55 {l : Launch} {p : Program} {e : Env} {s : State} {m : MethodId} {args : Array Value} {below : List Frame} {meth : Method} {c : Code} {K : ix_Cx} (hKp : ix_Kp K) {n : Nat} {z : ix_Z} (X : ix_X p s m args c K cX11_firstRefused RX11 3) (hr : meth.sig.returnType = (some .int)) (hlk : meth.locks = false)  {a0 : Nat} {a1 : Nat} {rec55 : Int32 → ix_D2 → Option (Int32 × ix_D2)} {r : Int32} {d1 : ix_D2} (hrec55 : ∀ (x2 : Int32) (d : ix_D2), rec55 x2 d = some (r, d1) → ix_G p l e (ix_rm 5 121 0 0) s m args below meth c (MQ below (ix_Post K (some (.int r)) (ix_w z d1)) args s 0 0 (ix_A K)) K 3 0 0 55 [(0, .ref (K.2.2.1 + a0)), (1, .ref (K.2.2.1 + a1)), (2, .int x2)] [] (ix_w z d)) {x2 : Int32} {d : ix_D2} (h : b_X11_firstRefused_55 n z  a0 a1 rec55 x2 d = some (r, d1)) : ix_G p l e (ix_rm 5 121 0 0) s m args below meth c (MQ below (ix_Post K (some (.int r)) (ix_w z d1)) args s 0 0 (ix_A K)) K 3 0 0 55 [(0, .ref (K.2.2.1 + a0)), (1, .ref (K.2.2.1 + a1)), (2, .int x2)] [] (ix_w z d) := by
  unfold b_X11_firstRefused_55 at h
  refine ix_iload_n (i := 2) (j := 2) X (ix_tb_at tb_X11_firstRefused 27 rfl) rfl rfl (pc1 := 56) rfl ?_
  refine ix_aload_n (i := 0) (j := 0) X (ix_tb_at tb_X11_firstRefused 28 rfl) rfl rfl (pc1 := 57) rfl ?_
  obtain ⟨k_21, h⟩ := ix_ck_some h
  obtain ⟨b_22, q_23, h⟩ := ix_bd1_ex h
  refine iz_getR X fl_RX11_53 k_21 q_23 (ix_tb_at tb_X11_firstRefused 29 rfl) (pc1 := 60) rfl ?_
  obtain ⟨k_24, h⟩ := ix_ck_some h
  refine iz_getI X fl_RX11_224 k_24 (ix_tb_at tb_X11_firstRefused 30 rfl) (pc1 := 63) rfl ?_
  refine ix_icmp_ge (tgt := 95) X (ix_tb_at tb_X11_firstRefused 31 rfl) (by decide) (pc1 := 66) rfl (fun q_25 => ?_) (fun q_25 => ?_)
  · have h := ix_ift q_25 h
    refine ix_aload_n (i := 0) (j := 0) X (ix_tb_at tb_X11_firstRefused 47 rfl) rfl rfl (pc1 := 96) rfl ?_
    refine iz_getR X fl_RX11_53 k_21 q_23 (ix_tb_at tb_X11_firstRefused 48 rfl) (pc1 := 99) rfl ?_
    refine iz_getI X fl_RX11_224 k_24 (ix_tb_at tb_X11_firstRefused 49 rfl) (pc1 := 102) rfl ?_
    exact ix_iret X hr hlk (ix_r2 (f := fun r => some (.int r)) (g := ix_w z) h) (ix_tb_at tb_X11_firstRefused 50 rfl)
  · have h := ix_iff q_25 h
    refine ix_aload_n (i := 1) (j := 1) X (ix_tb_at tb_X11_firstRefused 32 rfl) rfl rfl (pc1 := 67) rfl ?_
    refine ix_aload_n (i := 0) (j := 0) X (ix_tb_at tb_X11_firstRefused 33 rfl) rfl rfl (pc1 := 68) rfl ?_
    refine iz_getR X fl_RX11_53 k_21 q_23 (ix_tb_at tb_X11_firstRefused 34 rfl) (pc1 := 71) rfl ?_
    refine ix_iload_n (i := 2) (j := 2) X (ix_tb_at tb_X11_firstRefused 35 rfl) rfl rfl (pc1 := 72) rfl ?_
    obtain ⟨k_28, h⟩ := ix_ck_some h
    obtain ⟨r_29, d_26, h_27, h⟩ := ix_bd2_ex h
    refine ix_callV (As := [.ref (K.2.2.1 + b_22), .int x2]) (rest := []) (ci := 1) (T := TX1) (nf := 17) X mf_X1_follows mi_X1_follows ms_X1_follows rfl (Nat.le_of_ble_eq_true rfl) ml_RX11_442 ⟨Nat.le_of_ble_eq_true rfl, Nat.le_of_ble_eq_true rfl⟩ ⟨Nat.le_of_ble_eq_true rfl, Nat.le_of_ble_eq_true rfl⟩ rfl (Nat.le_of_ble_eq_true rfl) (ix_tb_at tb_X11_firstRefused 36 rfl) ⟨k_28.1, List.mem_singleton.mp k_28.2⟩ (c_X1_follows hKp h_27) rfl (pc1 := 75) rfl ?_
    refine ix_if_ne (tgt := 80) X (ix_tb_at tb_X11_firstRefused 37 rfl) (by decide) (pc1 := 78) rfl (fun q_30 => ?_) (fun q_30 => ?_)
    · have h := ix_iff q_30 h
      refine ix_aload_n (i := 1) (j := 1) X (ix_tb_at tb_X11_firstRefused 40 rfl) rfl rfl (pc1 := 81) rfl ?_
      refine ix_aload_n (i := 0) (j := 0) X (ix_tb_at tb_X11_firstRefused 41 rfl) rfl rfl (pc1 := 82) rfl ?_
      refine iz_getR X fl_RX11_53 k_21 q_23 (ix_tb_at tb_X11_firstRefused 42 rfl) (pc1 := 85) rfl ?_
      refine ix_iload_n (i := 2) (j := 2) X (ix_tb_at tb_X11_firstRefused 43 rfl) rfl rfl (pc1 := 86) rfl ?_
      obtain ⟨d_31, h_32, h⟩ := ix_bd1_ex h
      refine ix_callV (As := [.ref (K.2.2.1 + b_22), .int x2]) (rest := []) (ci := 1) (T := TX1) (nf := 17) X mf_X1_layRow mi_X1_layRow ms_X1_layRow rfl (Nat.le_of_ble_eq_true rfl) ml_RX11_433 ⟨Nat.le_of_ble_eq_true rfl, Nat.le_of_ble_eq_true rfl⟩ ⟨Nat.le_of_ble_eq_true rfl, Nat.le_of_ble_eq_true rfl⟩ rfl (Nat.le_of_ble_eq_true rfl) (ix_tb_at tb_X11_firstRefused 44 rfl) ⟨k_28.1, List.mem_singleton.mp k_28.2⟩ (c_X1_layRow hKp h_32) rfl (pc1 := 89) rfl ?_
      obtain ⟨x2_33, e_34, h⟩ := ix_lt_ex h
      refine ix_iinc (i := 2) (j := 2) (v := x2_33) (L1 := [(2, .int x2_33), (0, .ref (K.2.2.1 + a0)), (1, .ref (K.2.2.1 + a1))]) X (ix_tb_at tb_X11_firstRefused 45 rfl) rfl (by rw [oi_1]; exact e_34.symm) (Nat.le_of_ble_eq_true rfl) rfl (pc1 := 92) rfl ?_
      refine ix_goto (tgt := 55) X (ix_tb_at tb_X11_firstRefused 46 rfl) (by decide) ?_
      refine ix_sub (L1 := [(0, .ref (K.2.2.1 + a0)), (1, .ref (K.2.2.1 + a1)), (2, .int x2_33)]) [1, 2, 0] rfl ?_
      exact hrec55 x2_33 d_31 h
    · have h := ix_ift q_30 h
      refine ix_iload_n (i := 2) (j := 2) X (ix_tb_at tb_X11_firstRefused 38 rfl) rfl rfl (pc1 := 79) rfl ?_
      exact ix_iret X hr hlk (ix_r2 (f := fun r => some (.int r)) (g := ix_w z) h) (ix_tb_at tb_X11_firstRefused 39 rfl)
theorem t_X11_firstRefused_55 {l : Launch} {p : Program} {e : Env} {s : State} {m : MethodId} {args : Array Value} {below : List Frame} {meth : Method} {c : Code} {K : ix_Cx} (hKp : ix_Kp K) {n : Nat} {z : ix_Z} (X : ix_X p s m args c K cX11_firstRefused RX11 3) (hr : meth.sig.returnType = (some .int)) (hlk : meth.locks = false)  {a0 : Nat} {a1 : Nat} {r : Int32} {d1 : ix_D2}  {x2 : Int32} {d : ix_D2} (h : f_X11_firstRefused_55 n z  a0 a1 x2 d = some (r, d1)) : ix_G p l e (ix_rm 5 121 0 0) s m args below meth c (MQ below (ix_Post K (some (.int r)) (ix_w z d1)) args s 0 0 (ix_A K)) K 3 0 0 55 [(0, .ref (K.2.2.1 + a0)), (1, .ref (K.2.2.1 + a1)), (2, .int x2)] [] (ix_w z d) := by
  have key : ∀ (f : Nat) (x2 : Int32) (d : ix_D2), ix_fix (b_X11_firstRefused_55 n z  a0 a1) (fun _ _ => none) f x2 d = some (r, d1) → ix_G p l e (ix_rm 5 121 0 0) s m args below meth c (MQ below (ix_Post K (some (.int r)) (ix_w z d1)) args s 0 0 (ix_A K)) K 3 0 0 55 [(0, .ref (K.2.2.1 + a0)), (1, .ref (K.2.2.1 + a1)), (2, .int x2)] [] (ix_w z d) := by
    intro f
    induction f with
    | zero =>
      intro x2 d h
      have h : (none : Option (Int32 × ix_D2)) = some (r, d1) := h
      cases h
    | succ f ih =>
      intro x2 d h
      exact tb_X11_firstRefused_55 hKp X hr hlk (rec55 := ix_fix (b_X11_firstRefused_55 n z  a0 a1) (fun _ _ => none) f)  ih h
  exact key n x2 d h
set_option maxRecDepth 20000 in
theorem tb_X11_firstRefused_21 {l : Launch} {p : Program} {e : Env} {s : State} {m : MethodId} {args : Array Value} {below : List Frame} {meth : Method} {c : Code} {K : ix_Cx} (hKp : ix_Kp K) {n : Nat} {z : ix_Z} (X : ix_X p s m args c K cX11_firstRefused RX11 3) (hr : meth.sig.returnType = (some .int)) (hlk : meth.locks = false)  {a0 : Nat} {a1 : Nat} {rec21 : Int32 → ix_D2 → Option (Int32 × ix_D2)} {r : Int32} {d1 : ix_D2} (hrec21 : ∀ (x2 : Int32) (d : ix_D2), rec21 x2 d = some (r, d1) → ix_G p l e (ix_rm 5 121 0 0) s m args below meth c (MQ below (ix_Post K (some (.int r)) (ix_w z d1)) args s 0 0 (ix_A K)) K 3 0 0 21 [(0, .ref (K.2.2.1 + a0)), (1, .ref (K.2.2.1 + a1)), (2, .int x2)] [] (ix_w z d)) {x2 : Int32} {d : ix_D2} (h : b_X11_firstRefused_21 n z  a0 a1 rec21 x2 d = some (r, d1)) : ix_G p l e (ix_rm 5 121 0 0) s m args below meth c (MQ below (ix_Post K (some (.int r)) (ix_w z d1)) args s 0 0 (ix_A K)) K 3 0 0 21 [(0, .ref (K.2.2.1 + a0)), (1, .ref (K.2.2.1 + a1)), (2, .int x2)] [] (ix_w z d) := by
  unfold b_X11_firstRefused_21 at h
  refine ix_iload_n (i := 2) (j := 2) X (ix_tb_at tb_X11_firstRefused 11 rfl) rfl rfl (pc1 := 22) rfl ?_
  refine ix_aload_n (i := 0) (j := 0) X (ix_tb_at tb_X11_firstRefused 12 rfl) rfl rfl (pc1 := 23) rfl ?_
  obtain ⟨k_13, h⟩ := ix_ck_some h
  obtain ⟨b_14, q_15, h⟩ := ix_bd1_ex h
  refine iz_getR X fl_RX11_28 k_13 q_15 (ix_tb_at tb_X11_firstRefused 13 rfl) (pc1 := 26) rfl ?_
  obtain ⟨k_16, h⟩ := ix_ck_some h
  obtain ⟨b_17, q_18, h⟩ := ix_bd1_ex h
  refine iz_getR X fl_RX11_195 k_16 q_18 (ix_tb_at tb_X11_firstRefused 14 rfl) (pc1 := 29) rfl ?_
  obtain ⟨k_19, h⟩ := ix_ck_some h
  refine iz_getI X fl_RX11_224 k_19 (ix_tb_at tb_X11_firstRefused 15 rfl) (pc1 := 32) rfl ?_
  refine ix_icmp_ge (tgt := 53) X (ix_tb_at tb_X11_firstRefused 16 rfl) (by decide) (pc1 := 35) rfl (fun q_20 => ?_) (fun q_20 => ?_)
  · have h := ix_ift q_20 h
    refine ix_iconst (v := 0) X (ix_tb_at tb_X11_firstRefused 25 rfl) (by decide) (pc1 := 54) rfl ?_
    refine ix_istore_n (i := 2) (L1 := [(2, .int 0), (0, .ref (K.2.2.1 + a0)), (1, .ref (K.2.2.1 + a1))]) X (ix_tb_at tb_X11_firstRefused 26 rfl) rfl (Nat.le_of_ble_eq_true rfl) rfl (pc1 := 55) rfl ?_
    refine ix_sub (L1 := [(0, .ref (K.2.2.1 + a0)), (1, .ref (K.2.2.1 + a1)), (2, .int 0)]) [1, 2, 0] rfl ?_
    exact t_X11_firstRefused_55 hKp X hr hlk  h
  · have h := ix_iff q_20 h
    refine ix_aload_n (i := 1) (j := 1) X (ix_tb_at tb_X11_firstRefused 17 rfl) rfl rfl (pc1 := 36) rfl ?_
    refine ix_aload_n (i := 0) (j := 0) X (ix_tb_at tb_X11_firstRefused 18 rfl) rfl rfl (pc1 := 37) rfl ?_
    refine iz_getR X fl_RX11_28 k_13 q_15 (ix_tb_at tb_X11_firstRefused 19 rfl) (pc1 := 40) rfl ?_
    refine iz_getR X fl_RX11_195 k_16 q_18 (ix_tb_at tb_X11_firstRefused 20 rfl) (pc1 := 43) rfl ?_
    refine ix_iload_n (i := 2) (j := 2) X (ix_tb_at tb_X11_firstRefused 21 rfl) rfl rfl (pc1 := 44) rfl ?_
    obtain ⟨k_37, h⟩ := ix_ck_some h
    obtain ⟨d_35, h_36, h⟩ := ix_bd1_ex h
    refine ix_callV (As := [.ref (K.2.2.1 + b_17), .int x2]) (rest := []) (ci := 1) (T := TX1) (nf := 17) X mf_X1_layRow mi_X1_layRow ms_X1_layRow rfl (Nat.le_of_ble_eq_true rfl) ml_RX11_433 ⟨Nat.le_of_ble_eq_true rfl, Nat.le_of_ble_eq_true rfl⟩ ⟨Nat.le_of_ble_eq_true rfl, Nat.le_of_ble_eq_true rfl⟩ rfl (Nat.le_of_ble_eq_true rfl) (ix_tb_at tb_X11_firstRefused 22 rfl) ⟨k_37.1, List.mem_singleton.mp k_37.2⟩ (c_X1_layRow hKp h_36) rfl (pc1 := 47) rfl ?_
    obtain ⟨x2_38, e_39, h⟩ := ix_lt_ex h
    refine ix_iinc (i := 2) (j := 2) (v := x2_38) (L1 := [(2, .int x2_38), (0, .ref (K.2.2.1 + a0)), (1, .ref (K.2.2.1 + a1))]) X (ix_tb_at tb_X11_firstRefused 23 rfl) rfl (by rw [oi_1]; exact e_39.symm) (Nat.le_of_ble_eq_true rfl) rfl (pc1 := 50) rfl ?_
    refine ix_goto (tgt := 21) X (ix_tb_at tb_X11_firstRefused 24 rfl) (by decide) ?_
    refine ix_sub (L1 := [(0, .ref (K.2.2.1 + a0)), (1, .ref (K.2.2.1 + a1)), (2, .int x2_38)]) [1, 2, 0] rfl ?_
    exact hrec21 x2_38 d_35 h
theorem t_X11_firstRefused_21 {l : Launch} {p : Program} {e : Env} {s : State} {m : MethodId} {args : Array Value} {below : List Frame} {meth : Method} {c : Code} {K : ix_Cx} (hKp : ix_Kp K) {n : Nat} {z : ix_Z} (X : ix_X p s m args c K cX11_firstRefused RX11 3) (hr : meth.sig.returnType = (some .int)) (hlk : meth.locks = false)  {a0 : Nat} {a1 : Nat} {r : Int32} {d1 : ix_D2}  {x2 : Int32} {d : ix_D2} (h : f_X11_firstRefused_21 n z  a0 a1 x2 d = some (r, d1)) : ix_G p l e (ix_rm 5 121 0 0) s m args below meth c (MQ below (ix_Post K (some (.int r)) (ix_w z d1)) args s 0 0 (ix_A K)) K 3 0 0 21 [(0, .ref (K.2.2.1 + a0)), (1, .ref (K.2.2.1 + a1)), (2, .int x2)] [] (ix_w z d) := by
  have key : ∀ (f : Nat) (x2 : Int32) (d : ix_D2), ix_fix (b_X11_firstRefused_21 n z  a0 a1) (fun _ _ => none) f x2 d = some (r, d1) → ix_G p l e (ix_rm 5 121 0 0) s m args below meth c (MQ below (ix_Post K (some (.int r)) (ix_w z d1)) args s 0 0 (ix_A K)) K 3 0 0 21 [(0, .ref (K.2.2.1 + a0)), (1, .ref (K.2.2.1 + a1)), (2, .int x2)] [] (ix_w z d) := by
    intro f
    induction f with
    | zero =>
      intro x2 d h
      have h : (none : Option (Int32 × ix_D2)) = some (r, d1) := h
      cases h
    | succ f ih =>
      intro x2 d h
      exact tb_X11_firstRefused_21 hKp X hr hlk (rec21 := ix_fix (b_X11_firstRefused_21 n z  a0 a1) (fun _ _ => none) f)  ih h
  exact key n x2 d h
set_option maxRecDepth 20000 in
theorem c_X11_firstRefused {l : Launch} {K : ix_Cx} (hKp : ix_Kp K) {n : Nat} {z : ix_Z} {a0 : Nat} {d : ix_D2} {r : Int32} {d1 : ix_D2} (h : f_X11_firstRefused n z a0 d = some (r, d1)) : ix_M l K yX11_firstRefused cX11_firstRefused 3 (some .int) 5 121 0 0 [.ref (K.2.2.1 + a0)] (ix_w z d) (some (.int r)) (ix_w z d1) := by
  refine ix_met mf_X11_firstRefused hKp (Nat.le_of_ble_eq_true rfl) ?_
  intro p e s m args below meth c hr hlk hnm X
  have X : ix_X p s m args c K cX11_firstRefused RX11 3 := X
  show ix_G p l e (ix_rm 5 121 0 0) s m args below meth c (MQ below (ix_Post K (some (.int r)) (ix_w z d1)) args s 0 0 (ix_A K)) K 3 0 0 0 [(0, .ref (K.2.2.1 + a0))] [] (ix_w z d)
  unfold f_X11_firstRefused at h
  refine ix_aload_n (i := 0) (j := 0) X (ix_tb_at tb_X11_firstRefused 0 rfl) rfl rfl (pc1 := 1) rfl ?_
  obtain ⟨k_1, h⟩ := ix_ck_some h
  obtain ⟨b_2, q_3, h⟩ := ix_bd1_ex h
  refine iz_getR X fl_RX11_45 k_1 q_3 (ix_tb_at tb_X11_firstRefused 1 rfl) (pc1 := 4) rfl ?_
  obtain ⟨k_4, h⟩ := ix_ck_some h
  obtain ⟨b_5, q_6, h⟩ := ix_bd1_ex h
  refine iz_getR X fl_RX11_177 k_4 q_6 (ix_tb_at tb_X11_firstRefused 2 rfl) (pc1 := 7) rfl ?_
  refine ix_astore_n (i := 1) (L1 := [(1, .ref (K.2.2.1 + b_5)), (0, .ref (K.2.2.1 + a0))]) X (ix_tb_at tb_X11_firstRefused 3 rfl) rfl (Nat.le_of_ble_eq_true rfl) rfl (pc1 := 8) rfl ?_
  refine ix_aload_n (i := 1) (j := 0) X (ix_tb_at tb_X11_firstRefused 4 rfl) rfl rfl (pc1 := 9) rfl ?_
  refine ix_aload_n (i := 0) (j := 1) X (ix_tb_at tb_X11_firstRefused 5 rfl) rfl rfl (pc1 := 10) rfl ?_
  obtain ⟨b_7, q_8, h⟩ := ix_bd1_ex h
  refine iz_getR X fl_RX11_28 k_1 q_8 (ix_tb_at tb_X11_firstRefused 6 rfl) (pc1 := 13) rfl ?_
  obtain ⟨k_9, h⟩ := ix_ck_some h
  refine iz_getI X fl_RX11_77 k_9 (ix_tb_at tb_X11_firstRefused 7 rfl) (pc1 := 16) rfl ?_
  obtain ⟨k_12, h⟩ := ix_ck_some h
  obtain ⟨d_10, h_11, h⟩ := ix_bd1_ex h
  refine ix_callV (As := [.int (d.1 b_7 5)]) (rest := []) (ci := 1) (T := TX1) (nf := 17) X mf_X1_clear mi_X1_clear ms_X1_clear rfl (Nat.le_of_ble_eq_true rfl) ml_RX11_439 ⟨Nat.le_of_ble_eq_true rfl, Nat.le_of_ble_eq_true rfl⟩ ⟨Nat.le_of_ble_eq_true rfl, Nat.le_of_ble_eq_true rfl⟩ rfl (Nat.le_of_ble_eq_true rfl) (ix_tb_at tb_X11_firstRefused 8 rfl) ⟨k_12.1, List.mem_singleton.mp k_12.2⟩ (c_X1_clear hKp h_11) rfl (pc1 := 19) rfl ?_
  refine ix_iconst (v := 0) X (ix_tb_at tb_X11_firstRefused 9 rfl) (by decide) (pc1 := 20) rfl ?_
  refine ix_istore_n (i := 2) (L1 := [(2, .int 0), (1, .ref (K.2.2.1 + b_5)), (0, .ref (K.2.2.1 + a0))]) X (ix_tb_at tb_X11_firstRefused 10 rfl) rfl (Nat.le_of_ble_eq_true rfl) rfl (pc1 := 21) rfl ?_
  refine ix_sub (L1 := [(0, .ref (K.2.2.1 + a0)), (1, .ref (K.2.2.1 + b_5)), (2, .int 0)]) [2, 1, 0] rfl ?_
  exact t_X11_firstRefused_21 hKp X hr hlk  h
def tab_X11_endsRightly : List (Nat × Instr × Nat) := [(0, .aload_n 0, 1), (1, .getfield 53, 3), (4, .getfield 224, 3), (7, .iconst 1, 1), (8, .isub, 1), (9, .istore_n 1, 1), (10, .iconst 0, 1), (11, .istore_n 2, 1), (12, .iload_n 2, 1), (13, .aload_n 0, 1), (14, .getfield 53, 3), (17, .iload_n 1, 1), (18, .invokevirtual 335, 3), (21, .if_icmp .ge 31, 3), (24, .aload_n 0, 1), (25, .getfield 28, 3), (28, .aload_n 0, 1), (29, .getfield 53, 3), (32, .iload_n 1, 1), (33, .iload_n 2, 1), (34, .invokevirtual 189, 3), (37, .ineg, 1), (38, .invokevirtual 238, 3), (41, .ifCond .ne 5, 3), (44, .iconst 0, 1), (45, .ireturn, 1), (46, .iinc 2 1, 3), (49, .goto (-37), 3), (52, .iload_n 1, 1), (53, .ifCond .lt 7, 3), (56, .iconst 1, 1), (57, .goto 4, 3), (60, .iconst 0, 1), (61, .ireturn, 1)]
theorem tb_X11_endsRightly : ix_tab cX11_endsRightly tab_X11_endsRightly := by
  unfold ix_tab
  decide +kernel
noncomputable def b_X11_endsRightly_12 (n : Nat) (z : ix_Z)  (a0 : Nat) (x1 : Int32) (rec12 : Int32 → ix_D2 → Option (Int32 × ix_D2)) (x2 : Int32) (d : ix_D2) : Option (Int32 × ix_D2) :=
  ix_ck (ix_ok z [10] a0) (ix_bd1 (z.1 a0 8) (fun b_8 => ix_ck (ix_ok z [7] b_8) (ix_bd2 (f_X7_size n z b_8 x1 d) (fun r_13 d_10 => ix_if (r_13 ≤ x2) (ix_if (x1 < 0) (some (0, d_10)) (some (1, d_10))) (ix_bd1 (z.1 a0 3) (fun b_16 => ix_bd2 (f_X7_tell n z b_8 x1 x2 d_10) (fun r_20 d_18 => ix_ck (ix_ok z [2] b_16) (ix_bd2 (f_X2_isAssumed n z b_16 (-r_20) d_18) (fun r_24 d_21 => ix_if (r_24 = 0) (some (0, d_21)) (ix_lt (x2 + 1) (fun x2_26 => rec12 x2_26 d_21)))))))))))
noncomputable def f_X11_endsRightly_12 (n : Nat) (z : ix_Z)  (a0 : Nat) (x1 : Int32) (x2 : Int32) (d : ix_D2) : Option (Int32 × ix_D2) := ix_fix (b_X11_endsRightly_12 n z  a0 x1) (fun _ _ => none) n x2 d
noncomputable def f_X11_endsRightly (n : Nat) (z : ix_Z) (a0 : Nat) (d : ix_D2) : Option (Int32 × ix_D2) :=
  ix_ck (ix_ok z [10] a0) (ix_bd1 (z.1 a0 8) (fun b_2 => ix_ck (ix_ok z [7] b_2) (ix_lt ((d.1 b_2 2) - 1) (fun x1_5 => f_X11_endsRightly_12 n z  a0 x1_5 0 d))))
set_option maxRecDepth 20000 in
theorem tb_X11_endsRightly_12 {l : Launch} {p : Program} {e : Env} {s : State} {m : MethodId} {args : Array Value} {below : List Frame} {meth : Method} {c : Code} {K : ix_Cx} (hKp : ix_Kp K) {n : Nat} {z : ix_Z} (X : ix_X p s m args c K cX11_endsRightly RX11 3) (hr : meth.sig.returnType = (some .boolean)) (hlk : meth.locks = false)  {a0 : Nat} {x1 : Int32} {rec12 : Int32 → ix_D2 → Option (Int32 × ix_D2)} {r : Int32} {d1 : ix_D2} (hrec12 : ∀ (x2 : Int32) (d : ix_D2), rec12 x2 d = some (r, d1) → ix_G p l e (ix_rm 3 64 0 0) s m args below meth c (MQ below (ix_Post K (some (.int r)) (ix_w z d1)) args s 0 0 (ix_A K)) K 3 0 0 12 [(0, .ref (K.2.2.1 + a0)), (1, .int x1), (2, .int x2)] [] (ix_w z d)) {x2 : Int32} {d : ix_D2} (h : b_X11_endsRightly_12 n z  a0 x1 rec12 x2 d = some (r, d1)) : ix_G p l e (ix_rm 3 64 0 0) s m args below meth c (MQ below (ix_Post K (some (.int r)) (ix_w z d1)) args s 0 0 (ix_A K)) K 3 0 0 12 [(0, .ref (K.2.2.1 + a0)), (1, .int x1), (2, .int x2)] [] (ix_w z d) := by
  unfold b_X11_endsRightly_12 at h
  refine ix_iload_n (i := 2) (j := 2) X (ix_tb_at tb_X11_endsRightly 8 rfl) rfl rfl (pc1 := 13) rfl ?_
  refine ix_aload_n (i := 0) (j := 0) X (ix_tb_at tb_X11_endsRightly 9 rfl) rfl rfl (pc1 := 14) rfl ?_
  obtain ⟨k_7, h⟩ := ix_ck_some h
  obtain ⟨b_8, q_9, h⟩ := ix_bd1_ex h
  refine iz_getR X fl_RX11_53 k_7 q_9 (ix_tb_at tb_X11_endsRightly 10 rfl) (pc1 := 17) rfl ?_
  refine ix_iload_n (i := 1) (j := 1) X (ix_tb_at tb_X11_endsRightly 11 rfl) rfl rfl (pc1 := 18) rfl ?_
  obtain ⟨k_12, h⟩ := ix_ck_some h
  obtain ⟨r_13, d_10, h_11, h⟩ := ix_bd2_ex h
  refine ix_callV (As := [.int x1]) (rest := [.int x2]) (ci := 7) (T := TX7) (nf := 3) X mf_X7_size mi_X7_size ms_X7_size rfl (Nat.le_of_ble_eq_true rfl) ml_RX11_335 ⟨Nat.le_of_ble_eq_true rfl, Nat.le_of_ble_eq_true rfl⟩ ⟨Nat.le_of_ble_eq_true rfl, Nat.le_of_ble_eq_true rfl⟩ rfl (Nat.le_of_ble_eq_true rfl) (ix_tb_at tb_X11_endsRightly 12 rfl) ⟨k_12.1, List.mem_singleton.mp k_12.2⟩ (c_X7_size hKp h_11) rfl (pc1 := 21) rfl ?_
  refine ix_icmp_ge (tgt := 52) X (ix_tb_at tb_X11_endsRightly 13 rfl) (by decide) (pc1 := 24) rfl (fun q_14 => ?_) (fun q_14 => ?_)
  · have h := ix_ift q_14 h
    refine ix_iload_n (i := 1) (j := 1) X (ix_tb_at tb_X11_endsRightly 28 rfl) rfl rfl (pc1 := 53) rfl ?_
    refine ix_if_lt (tgt := 60) X (ix_tb_at tb_X11_endsRightly 29 rfl) (by decide) (pc1 := 56) rfl (fun q_15 => ?_) (fun q_15 => ?_)
    · have h := ix_ift q_15 h
      refine ix_iconst (v := 0) X (ix_tb_at tb_X11_endsRightly 32 rfl) (by decide) (pc1 := 61) rfl ?_
      exact ix_zret X hr hlk (by decide) (ix_r2 (f := fun r => some (.int r)) (g := ix_w z) h) (ix_tb_at tb_X11_endsRightly 33 rfl)
    · have h := ix_iff q_15 h
      refine ix_iconst (v := 1) X (ix_tb_at tb_X11_endsRightly 30 rfl) (by decide) (pc1 := 57) rfl ?_
      refine ix_goto (tgt := 61) X (ix_tb_at tb_X11_endsRightly 31 rfl) (by decide) ?_
      exact ix_zret X hr hlk (by decide) (ix_r2 (f := fun r => some (.int r)) (g := ix_w z) h) (ix_tb_at tb_X11_endsRightly 33 rfl)
  · have h := ix_iff q_14 h
    refine ix_aload_n (i := 0) (j := 0) X (ix_tb_at tb_X11_endsRightly 14 rfl) rfl rfl (pc1 := 25) rfl ?_
    obtain ⟨b_16, q_17, h⟩ := ix_bd1_ex h
    refine iz_getR X fl_RX11_28 k_7 q_17 (ix_tb_at tb_X11_endsRightly 15 rfl) (pc1 := 28) rfl ?_
    refine ix_aload_n (i := 0) (j := 0) X (ix_tb_at tb_X11_endsRightly 16 rfl) rfl rfl (pc1 := 29) rfl ?_
    refine iz_getR X fl_RX11_53 k_7 q_9 (ix_tb_at tb_X11_endsRightly 17 rfl) (pc1 := 32) rfl ?_
    refine ix_iload_n (i := 1) (j := 1) X (ix_tb_at tb_X11_endsRightly 18 rfl) rfl rfl (pc1 := 33) rfl ?_
    refine ix_iload_n (i := 2) (j := 2) X (ix_tb_at tb_X11_endsRightly 19 rfl) rfl rfl (pc1 := 34) rfl ?_
    obtain ⟨r_20, d_18, h_19, h⟩ := ix_bd2_ex h
    refine ix_callV (As := [.int x1, .int x2]) (rest := [.ref (K.2.2.1 + b_16)]) (ci := 7) (T := TX7) (nf := 3) X mf_X7_tell mi_X7_tell ms_X7_tell rfl (Nat.le_of_ble_eq_true rfl) ml_RX11_189 ⟨Nat.le_of_ble_eq_true rfl, Nat.le_of_ble_eq_true rfl⟩ ⟨Nat.le_of_ble_eq_true rfl, Nat.le_of_ble_eq_true rfl⟩ rfl (Nat.le_of_ble_eq_true rfl) (ix_tb_at tb_X11_endsRightly 20 rfl) ⟨k_12.1, List.mem_singleton.mp k_12.2⟩ (c_X7_tell hKp h_19) rfl (pc1 := 37) rfl ?_
    refine ix_ineg X (ix_tb_at tb_X11_endsRightly 21 rfl) (pc1 := 38) rfl ?_
    obtain ⟨k_23, h⟩ := ix_ck_some h
    obtain ⟨r_24, d_21, h_22, h⟩ := ix_bd2_ex h
    refine ix_callV (As := [.int (-r_20)]) (rest := []) (ci := 2) (T := TX2) (nf := 12) X mf_X2_isAssumed mi_X2_isAssumed ms_X2_isAssumed rfl (Nat.le_of_ble_eq_true rfl) ml_RX11_238 ⟨Nat.le_of_ble_eq_true rfl, Nat.le_of_ble_eq_true rfl⟩ ⟨Nat.le_of_ble_eq_true rfl, Nat.le_of_ble_eq_true rfl⟩ rfl (Nat.le_of_ble_eq_true rfl) (ix_tb_at tb_X11_endsRightly 22 rfl) ⟨k_23.1, List.mem_singleton.mp k_23.2⟩ (c_X2_isAssumed hKp h_22) rfl (pc1 := 41) rfl ?_
    refine ix_if_ne (tgt := 46) X (ix_tb_at tb_X11_endsRightly 23 rfl) (by decide) (pc1 := 44) rfl (fun q_25 => ?_) (fun q_25 => ?_)
    · have h := ix_iff q_25 h
      obtain ⟨x2_26, e_27, h⟩ := ix_lt_ex h
      refine ix_iinc (i := 2) (j := 2) (v := x2_26) (L1 := [(2, .int x2_26), (0, .ref (K.2.2.1 + a0)), (1, .int x1)]) X (ix_tb_at tb_X11_endsRightly 26 rfl) rfl (by rw [oi_1]; exact e_27.symm) (Nat.le_of_ble_eq_true rfl) rfl (pc1 := 49) rfl ?_
      refine ix_goto (tgt := 12) X (ix_tb_at tb_X11_endsRightly 27 rfl) (by decide) ?_
      refine ix_sub (L1 := [(0, .ref (K.2.2.1 + a0)), (1, .int x1), (2, .int x2_26)]) [1, 2, 0] rfl ?_
      exact hrec12 x2_26 d_21 h
    · have h := ix_ift q_25 h
      refine ix_iconst (v := 0) X (ix_tb_at tb_X11_endsRightly 24 rfl) (by decide) (pc1 := 45) rfl ?_
      exact ix_zret X hr hlk (by decide) (ix_r2 (f := fun r => some (.int r)) (g := ix_w z) h) (ix_tb_at tb_X11_endsRightly 25 rfl)
theorem t_X11_endsRightly_12 {l : Launch} {p : Program} {e : Env} {s : State} {m : MethodId} {args : Array Value} {below : List Frame} {meth : Method} {c : Code} {K : ix_Cx} (hKp : ix_Kp K) {n : Nat} {z : ix_Z} (X : ix_X p s m args c K cX11_endsRightly RX11 3) (hr : meth.sig.returnType = (some .boolean)) (hlk : meth.locks = false)  {a0 : Nat} {x1 : Int32} {r : Int32} {d1 : ix_D2}  {x2 : Int32} {d : ix_D2} (h : f_X11_endsRightly_12 n z  a0 x1 x2 d = some (r, d1)) : ix_G p l e (ix_rm 3 64 0 0) s m args below meth c (MQ below (ix_Post K (some (.int r)) (ix_w z d1)) args s 0 0 (ix_A K)) K 3 0 0 12 [(0, .ref (K.2.2.1 + a0)), (1, .int x1), (2, .int x2)] [] (ix_w z d) := by
  have key : ∀ (f : Nat) (x2 : Int32) (d : ix_D2), ix_fix (b_X11_endsRightly_12 n z  a0 x1) (fun _ _ => none) f x2 d = some (r, d1) → ix_G p l e (ix_rm 3 64 0 0) s m args below meth c (MQ below (ix_Post K (some (.int r)) (ix_w z d1)) args s 0 0 (ix_A K)) K 3 0 0 12 [(0, .ref (K.2.2.1 + a0)), (1, .int x1), (2, .int x2)] [] (ix_w z d) := by
    intro f
    induction f with
    | zero =>
      intro x2 d h
      have h : (none : Option (Int32 × ix_D2)) = some (r, d1) := h
      cases h
    | succ f ih =>
      intro x2 d h
      exact tb_X11_endsRightly_12 hKp X hr hlk (rec12 := ix_fix (b_X11_endsRightly_12 n z  a0 x1) (fun _ _ => none) f)  ih h
  exact key n x2 d h
set_option maxRecDepth 20000 in
theorem c_X11_endsRightly {l : Launch} {K : ix_Cx} (hKp : ix_Kp K) {n : Nat} {z : ix_Z} {a0 : Nat} {d : ix_D2} {r : Int32} {d1 : ix_D2} (h : f_X11_endsRightly n z a0 d = some (r, d1)) : ix_M l K yX11_endsRightly cX11_endsRightly 3 (some .boolean) 3 64 0 0 [.ref (K.2.2.1 + a0)] (ix_w z d) (some (.int r)) (ix_w z d1) := by
  refine ix_met mf_X11_endsRightly hKp (Nat.le_of_ble_eq_true rfl) ?_
  intro p e s m args below meth c hr hlk hnm X
  have X : ix_X p s m args c K cX11_endsRightly RX11 3 := X
  show ix_G p l e (ix_rm 3 64 0 0) s m args below meth c (MQ below (ix_Post K (some (.int r)) (ix_w z d1)) args s 0 0 (ix_A K)) K 3 0 0 0 [(0, .ref (K.2.2.1 + a0))] [] (ix_w z d)
  unfold f_X11_endsRightly at h
  refine ix_aload_n (i := 0) (j := 0) X (ix_tb_at tb_X11_endsRightly 0 rfl) rfl rfl (pc1 := 1) rfl ?_
  obtain ⟨k_1, h⟩ := ix_ck_some h
  obtain ⟨b_2, q_3, h⟩ := ix_bd1_ex h
  refine iz_getR X fl_RX11_53 k_1 q_3 (ix_tb_at tb_X11_endsRightly 1 rfl) (pc1 := 4) rfl ?_
  obtain ⟨k_4, h⟩ := ix_ck_some h
  refine iz_getI X fl_RX11_224 k_4 (ix_tb_at tb_X11_endsRightly 2 rfl) (pc1 := 7) rfl ?_
  refine ix_iconst (v := 1) X (ix_tb_at tb_X11_endsRightly 3 rfl) (by decide) (pc1 := 8) rfl ?_
  refine ix_isub X (ix_tb_at tb_X11_endsRightly 4 rfl) (pc1 := 9) rfl ?_
  obtain ⟨x1_5, e_6, h⟩ := ix_lt_ex h
  refine ix_nmi e_6 ?_
  refine ix_istore_n (i := 1) (L1 := [(1, .int x1_5), (0, .ref (K.2.2.1 + a0))]) X (ix_tb_at tb_X11_endsRightly 5 rfl) rfl (Nat.le_of_ble_eq_true rfl) rfl (pc1 := 10) rfl ?_
  refine ix_iconst (v := 0) X (ix_tb_at tb_X11_endsRightly 6 rfl) (by decide) (pc1 := 11) rfl ?_
  refine ix_istore_n (i := 2) (L1 := [(2, .int 0), (1, .int x1_5), (0, .ref (K.2.2.1 + a0))]) X (ix_tb_at tb_X11_endsRightly 7 rfl) rfl (Nat.le_of_ble_eq_true rfl) rfl (pc1 := 12) rfl ?_
  refine ix_sub (L1 := [(0, .ref (K.2.2.1 + a0)), (1, .int x1_5), (2, .int 0)]) [2, 1, 0] rfl ?_
  exact t_X11_endsRightly_12 hKp X hr hlk  h
def tab_X11_check : List (Nat × Instr × Nat) := [(0, .aload_n 0, 1), (1, .invokevirtual 357, 3), (4, .istore_n 1, 1), (5, .iload_n 1, 1), (6, .aload_n 0, 1), (7, .getfield 53, 3), (10, .getfield 224, 3), (13, .if_icmp .ne 14, 3), (16, .aload_n 0, 1), (17, .invokevirtual 360, 3), (20, .ifCond .eq 7, 3), (23, .iconst 1, 1), (24, .goto 4, 3), (27, .iconst 0, 1), (28, .istore_n 2, 1), (29, .aload_n 0, 1), (30, .iload_n 2, 1), (31, .ifCond .eq 9, 3), (34, .sipush (-1005), 3), (37, .goto 4, 3), (40, .iload_n 1, 1), (41, .putfield 63, 3), (44, .iload_n 2, 1), (45, .ifCond .eq 7, 3), (48, .iconst 1, 1), (49, .goto 4, 3), (52, .iconst 0, 1), (53, .ireturn, 1)]
theorem tb_X11_check : ix_tab cX11_check tab_X11_check := by
  unfold ix_tab
  decide +kernel
noncomputable def f_X11_check_41 (n : Nat) (z : ix_Z)  (x2 : Int32) (s0 : Int32) (s1 : Nat) (d : ix_D2) : Option (Int32 × ix_D2) :=
  ix_ck (ix_ok z [10] s1) (ix_lt (ix_di d s1 16 s0) (fun d_11 => ix_if (x2 = 0) (some (0, d_11)) (some (1, d_11))))
noncomputable def f_X11_check_28 (n : Nat) (z : ix_Z)  (a0 : Nat) (x1 : Int32) (s0 : Int32) (d : ix_D2) : Option (Int32 × ix_D2) :=
  ix_if (s0 = 0) (f_X11_check_41 n z  s0 x1 a0 d) (f_X11_check_41 n z  s0 ((-1005)) a0 d)
noncomputable def f_X11_check_27 (n : Nat) (z : ix_Z)  (a0 : Nat) (x1 : Int32) (d : ix_D2) : Option (Int32 × ix_D2) :=
  f_X11_check_28 n z  a0 x1 0 d
noncomputable def f_X11_check (n : Nat) (z : ix_Z) (a0 : Nat) (d : ix_D2) : Option (Int32 × ix_D2) :=
  ix_ck (ix_ok z [10] a0) (ix_bd2 (f_X11_firstRefused n z a0 d) (fun r_4 d_1 => ix_bd1 (z.1 a0 8) (fun b_5 => ix_ck (ix_ok z [7] b_5) (ix_if (r_4 = d_1.1 b_5 2) (ix_bd2 (f_X11_endsRightly n z a0 d_1) (fun r_16 d_14 => ix_if (r_16 = 0) (f_X11_check_27 n z  a0 r_4 d_14) (f_X11_check_28 n z  a0 r_4 1 d_14))) (f_X11_check_27 n z  a0 r_4 d_1)))))
set_option maxRecDepth 20000 in
theorem t_X11_check_41 {l : Launch} {p : Program} {e : Env} {s : State} {m : MethodId} {args : Array Value} {below : List Frame} {meth : Method} {c : Code} {K : ix_Cx} (hKp : ix_Kp K) {n : Nat} {z : ix_Z} (X : ix_X p s m args c K cX11_check RX11 3) (hr : meth.sig.returnType = (some .int)) (hlk : meth.locks = false)  {x2 : Int32} {s0 : Int32} {s1 : Nat} {r : Int32} {d1 : ix_D2}  {d : ix_D2} (h : f_X11_check_41 n z  x2 s0 s1 d = some (r, d1)) : ix_G p l e (ix_rm 6 143 0 0) s m args below meth c (MQ below (ix_Post K (some (.int r)) (ix_w z d1)) args s 0 0 (ix_A K)) K 3 0 0 41 [(2, .int x2)] [.int s0, .ref (K.2.2.1 + s1)] (ix_w z d) := by
  unfold f_X11_check_41 at h
  obtain ⟨k_10, h⟩ := ix_ck_some h
  obtain ⟨d_11, e_12, h⟩ := ix_lt_ex h
  refine iz_putI X fp_RX11_63 k_10 (ix_tb_at tb_X11_check 21 rfl) e_12 (pc1 := 44) rfl ?_
  refine ix_iload_n (i := 2) (j := 0) X (ix_tb_at tb_X11_check 22 rfl) rfl rfl (pc1 := 45) rfl ?_
  refine ix_if_eq (tgt := 52) X (ix_tb_at tb_X11_check 23 rfl) (by decide) (pc1 := 48) rfl (fun q_13 => ?_) (fun q_13 => ?_)
  · have h := ix_ift q_13 h
    refine ix_iconst (v := 0) X (ix_tb_at tb_X11_check 26 rfl) (by decide) (pc1 := 53) rfl ?_
    exact ix_iret X hr hlk (ix_r2 (f := fun r => some (.int r)) (g := ix_w z) h) (ix_tb_at tb_X11_check 27 rfl)
  · have h := ix_iff q_13 h
    refine ix_iconst (v := 1) X (ix_tb_at tb_X11_check 24 rfl) (by decide) (pc1 := 49) rfl ?_
    refine ix_goto (tgt := 53) X (ix_tb_at tb_X11_check 25 rfl) (by decide) ?_
    exact ix_iret X hr hlk (ix_r2 (f := fun r => some (.int r)) (g := ix_w z) h) (ix_tb_at tb_X11_check 27 rfl)
set_option maxRecDepth 20000 in
theorem t_X11_check_28 {l : Launch} {p : Program} {e : Env} {s : State} {m : MethodId} {args : Array Value} {below : List Frame} {meth : Method} {c : Code} {K : ix_Cx} (hKp : ix_Kp K) {n : Nat} {z : ix_Z} (X : ix_X p s m args c K cX11_check RX11 3) (hr : meth.sig.returnType = (some .int)) (hlk : meth.locks = false)  {a0 : Nat} {x1 : Int32} {s0 : Int32} {r : Int32} {d1 : ix_D2}  {d : ix_D2} (h : f_X11_check_28 n z  a0 x1 s0 d = some (r, d1)) : ix_G p l e (ix_rm 6 143 0 0) s m args below meth c (MQ below (ix_Post K (some (.int r)) (ix_w z d1)) args s 0 0 (ix_A K)) K 3 0 0 28 [(0, .ref (K.2.2.1 + a0)), (1, .int x1)] [.int s0] (ix_w z d) := by
  unfold f_X11_check_28 at h
  refine ix_istore_n (i := 2) (L1 := [(2, .int s0), (0, .ref (K.2.2.1 + a0)), (1, .int x1)]) X (ix_tb_at tb_X11_check 14 rfl) rfl (Nat.le_of_ble_eq_true rfl) rfl (pc1 := 29) rfl ?_
  refine ix_aload_n (i := 0) (j := 1) X (ix_tb_at tb_X11_check 15 rfl) rfl rfl (pc1 := 30) rfl ?_
  refine ix_iload_n (i := 2) (j := 0) X (ix_tb_at tb_X11_check 16 rfl) rfl rfl (pc1 := 31) rfl ?_
  refine ix_if_eq (tgt := 40) X (ix_tb_at tb_X11_check 17 rfl) (by decide) (pc1 := 34) rfl (fun q_9 => ?_) (fun q_9 => ?_)
  · have h := ix_ift q_9 h
    refine ix_iload_n (i := 1) (j := 2) X (ix_tb_at tb_X11_check 20 rfl) rfl rfl (pc1 := 41) rfl ?_
    refine ix_sub (L1 := [(2, .int s0)]) [0] rfl ?_
    exact t_X11_check_41 hKp X hr hlk  h
  · have h := ix_iff q_9 h
    refine ix_sipush (v := (-1005)) X (ix_tb_at tb_X11_check 18 rfl) (by decide) (pc1 := 37) rfl ?_
    refine ix_goto (tgt := 41) X (ix_tb_at tb_X11_check 19 rfl) (by decide) ?_
    refine ix_sub (L1 := [(2, .int s0)]) [0] rfl ?_
    exact t_X11_check_41 hKp X hr hlk  h
set_option maxRecDepth 20000 in
theorem t_X11_check_27 {l : Launch} {p : Program} {e : Env} {s : State} {m : MethodId} {args : Array Value} {below : List Frame} {meth : Method} {c : Code} {K : ix_Cx} (hKp : ix_Kp K) {n : Nat} {z : ix_Z} (X : ix_X p s m args c K cX11_check RX11 3) (hr : meth.sig.returnType = (some .int)) (hlk : meth.locks = false)  {a0 : Nat} {x1 : Int32} {r : Int32} {d1 : ix_D2}  {d : ix_D2} (h : f_X11_check_27 n z  a0 x1 d = some (r, d1)) : ix_G p l e (ix_rm 6 143 0 0) s m args below meth c (MQ below (ix_Post K (some (.int r)) (ix_w z d1)) args s 0 0 (ix_A K)) K 3 0 0 27 [(0, .ref (K.2.2.1 + a0)), (1, .int x1)] [] (ix_w z d) := by
  unfold f_X11_check_27 at h
  refine ix_iconst (v := 0) X (ix_tb_at tb_X11_check 13 rfl) (by decide) (pc1 := 28) rfl ?_
  refine ix_sub (L1 := [(0, .ref (K.2.2.1 + a0)), (1, .int x1)]) [0, 1] rfl ?_
  exact t_X11_check_28 hKp X hr hlk  h
set_option maxRecDepth 20000 in
theorem c_X11_check {l : Launch} {K : ix_Cx} (hKp : ix_Kp K) {n : Nat} {z : ix_Z} {a0 : Nat} {d : ix_D2} {r : Int32} {d1 : ix_D2} (h : f_X11_check n z a0 d = some (r, d1)) : ix_M l K yX11_check cX11_check 3 (some .int) 6 143 0 0 [.ref (K.2.2.1 + a0)] (ix_w z d) (some (.int r)) (ix_w z d1) := by
  refine ix_met mf_X11_check hKp (Nat.le_of_ble_eq_true rfl) ?_
  intro p e s m args below meth c hr hlk hnm X
  have X : ix_X p s m args c K cX11_check RX11 3 := X
  show ix_G p l e (ix_rm 6 143 0 0) s m args below meth c (MQ below (ix_Post K (some (.int r)) (ix_w z d1)) args s 0 0 (ix_A K)) K 3 0 0 0 [(0, .ref (K.2.2.1 + a0))] [] (ix_w z d)
  unfold f_X11_check at h
  refine ix_aload_n (i := 0) (j := 0) X (ix_tb_at tb_X11_check 0 rfl) rfl rfl (pc1 := 1) rfl ?_
  obtain ⟨k_3, h⟩ := ix_ck_some h
  obtain ⟨r_4, d_1, h_2, h⟩ := ix_bd2_ex h
  refine ix_callV (As := []) (rest := []) (ci := 10) (T := TX11) (nf := 18) X mf_X11_firstRefused mi_X11_firstRefused ms_X11_firstRefused rfl (Nat.le_of_ble_eq_true rfl) ml_RX11_357 ⟨Nat.le_of_ble_eq_true rfl, Nat.le_of_ble_eq_true rfl⟩ ⟨Nat.le_of_ble_eq_true rfl, Nat.le_of_ble_eq_true rfl⟩ rfl (Nat.le_of_ble_eq_true rfl) (ix_tb_at tb_X11_check 1 rfl) ⟨k_3.1, List.mem_singleton.mp k_3.2⟩ (c_X11_firstRefused hKp h_2) rfl (pc1 := 4) rfl ?_
  refine ix_istore_n (i := 1) (L1 := [(1, .int r_4), (0, .ref (K.2.2.1 + a0))]) X (ix_tb_at tb_X11_check 2 rfl) rfl (Nat.le_of_ble_eq_true rfl) rfl (pc1 := 5) rfl ?_
  refine ix_iload_n (i := 1) (j := 0) X (ix_tb_at tb_X11_check 3 rfl) rfl rfl (pc1 := 6) rfl ?_
  refine ix_aload_n (i := 0) (j := 1) X (ix_tb_at tb_X11_check 4 rfl) rfl rfl (pc1 := 7) rfl ?_
  obtain ⟨b_5, q_6, h⟩ := ix_bd1_ex h
  refine iz_getR X fl_RX11_53 k_3 q_6 (ix_tb_at tb_X11_check 5 rfl) (pc1 := 10) rfl ?_
  obtain ⟨k_7, h⟩ := ix_ck_some h
  refine iz_getI X fl_RX11_224 k_7 (ix_tb_at tb_X11_check 6 rfl) (pc1 := 13) rfl ?_
  refine ix_icmp_ne (tgt := 27) X (ix_tb_at tb_X11_check 7 rfl) (by decide) (pc1 := 16) rfl (fun q_8 => ?_) (fun q_8 => ?_)
  · have h := ix_iff q_8 h
    refine ix_sub (L1 := [(0, .ref (K.2.2.1 + a0)), (1, .int r_4)]) [1, 0] rfl ?_
    exact t_X11_check_27 hKp X hr hlk  h
  · have h := ix_ift q_8 h
    refine ix_aload_n (i := 0) (j := 1) X (ix_tb_at tb_X11_check 8 rfl) rfl rfl (pc1 := 17) rfl ?_
    obtain ⟨r_16, d_14, h_15, h⟩ := ix_bd2_ex h
    refine ix_callV (As := []) (rest := []) (ci := 10) (T := TX11) (nf := 18) X mf_X11_endsRightly mi_X11_endsRightly ms_X11_endsRightly rfl (Nat.le_of_ble_eq_true rfl) ml_RX11_360 ⟨Nat.le_of_ble_eq_true rfl, Nat.le_of_ble_eq_true rfl⟩ ⟨Nat.le_of_ble_eq_true rfl, Nat.le_of_ble_eq_true rfl⟩ rfl (Nat.le_of_ble_eq_true rfl) (ix_tb_at tb_X11_check 9 rfl) ⟨k_3.1, List.mem_singleton.mp k_3.2⟩ (c_X11_endsRightly hKp h_15) rfl (pc1 := 20) rfl ?_
    refine ix_if_eq (tgt := 27) X (ix_tb_at tb_X11_check 10 rfl) (by decide) (pc1 := 23) rfl (fun q_17 => ?_) (fun q_17 => ?_)
    · have h := ix_ift q_17 h
      refine ix_sub (L1 := [(0, .ref (K.2.2.1 + a0)), (1, .int r_4)]) [1, 0] rfl ?_
      exact t_X11_check_27 hKp X hr hlk  h
    · have h := ix_iff q_17 h
      refine ix_iconst (v := 1) X (ix_tb_at tb_X11_check 11 rfl) (by decide) (pc1 := 24) rfl ?_
      refine ix_goto (tgt := 28) X (ix_tb_at tb_X11_check 12 rfl) (by decide) ?_
      refine ix_sub (L1 := [(0, .ref (K.2.2.1 + a0)), (1, .int r_4)]) [1, 0] rfl ?_
      exact t_X11_check_28 hKp X hr hlk  h
def tab_X11_refusedAt : List (Nat × Instr × Nat) := [(0, .aload_n 0, 1), (1, .getfield 63, 3), (4, .ireturn, 1)]
theorem tb_X11_refusedAt : ix_tab cX11_refusedAt tab_X11_refusedAt := by
  unfold ix_tab
  decide +kernel
noncomputable def f_X11_refusedAt (n : Nat) (z : ix_Z) (a0 : Nat) (d : ix_D2) : Option (Int32 × ix_D2) :=
  ix_ck (ix_ok z [10] a0) (some (d.1 a0 16, d))
set_option maxRecDepth 20000 in
theorem c_X11_refusedAt {l : Launch} {K : ix_Cx} (hKp : ix_Kp K) {n : Nat} {z : ix_Z} {a0 : Nat} {d : ix_D2} {r : Int32} {d1 : ix_D2} (h : f_X11_refusedAt n z a0 d = some (r, d1)) : ix_M l K yX11_refusedAt cX11_refusedAt 1 (some .int) 0 0 0 0 [.ref (K.2.2.1 + a0)] (ix_w z d) (some (.int r)) (ix_w z d1) := by
  refine ix_met mf_X11_refusedAt hKp (Nat.le_of_ble_eq_true rfl) ?_
  intro p e s m args below meth c hr hlk hnm X
  have X : ix_X p s m args c K cX11_refusedAt RX11 1 := X
  show ix_G p l e (ix_rm 0 0 0 0) s m args below meth c (MQ below (ix_Post K (some (.int r)) (ix_w z d1)) args s 0 0 (ix_A K)) K 1 0 0 0 [(0, .ref (K.2.2.1 + a0))] [] (ix_w z d)
  unfold f_X11_refusedAt at h
  refine ix_aload_n (i := 0) (j := 0) X (ix_tb_at tb_X11_refusedAt 0 rfl) rfl rfl (pc1 := 1) rfl ?_
  obtain ⟨k_1, h⟩ := ix_ck_some h
  refine iz_getI X fl_RX11_63 k_1 (ix_tb_at tb_X11_refusedAt 1 rfl) (pc1 := 4) rfl ?_
  exact ix_iret X hr hlk (ix_r2 (f := fun r => some (.int r)) (g := ix_w z) h) (ix_tb_at tb_X11_refusedAt 2 rfl)
def tab_X11_counted : List (Nat × Instr × Nat) := [(0, .aload_n 0, 1), (1, .iload_n 1, 1), (2, .invokevirtual 247, 3), (5, .ifCond .ne 11, 3), (8, .aload_n 0, 1), (9, .sipush (-1001), 3), (12, .invokevirtual 73, 3), (15, .ireturn, 1), (16, .aload_n 0, 1), (17, .getfield 28, 3), (20, .getfield 363, 3), (23, .iload_n 1, 1), (24, .baload, 1), (25, .istore_n 3, 1), (26, .iload_n 2, 1), (27, .ifCond .eq 27, 3), (30, .iload_n 3, 1), (31, .ifCond .ne 23, 3), (34, .aload_n 0, 1), (35, .getfield 28, 3), (38, .getfield 367, 3), (41, .bipush 20, 2), (43, .if_icmp .lt 11, 3), (46, .aload_n 0, 1), (47, .sipush (-1003), 3), (50, .invokevirtual 73, 3), (53, .ireturn, 1), (54, .aload_n 0, 1), (55, .getfield 28, 3), (58, .getfield 363, 3), (61, .iload_n 1, 1), (62, .iload_n 2, 1), (63, .bastore, 1), (64, .aload_n 0, 1), (65, .getfield 28, 3), (68, .dup, 1), (69, .getfield 367, 3), (72, .iload_n 2, 1), (73, .ifCond .eq 7, 3), (76, .iconst 1, 1), (77, .goto 4, 3), (80, .iconst 0, 1), (81, .iload_n 3, 1), (82, .ifCond .eq 7, 3), (85, .iconst 1, 1), (86, .goto 4, 3), (89, .iconst 0, 1), (90, .isub, 1), (91, .iadd, 1), (92, .putfield 367, 3), (95, .iload_n 3, 1), (96, .ifCond .eq 7, 3), (99, .iconst 1, 1), (100, .goto 4, 3), (103, .iconst 0, 1), (104, .ireturn, 1)]
theorem tb_X11_counted : ix_tab cX11_counted tab_X11_counted := by
  unfold ix_tab
  decide +kernel
noncomputable def f_X11_counted_90 (n : Nat) (z : ix_Z)  (x3 : Int32) (s0 : Int32) (s1 : Int32) (s2 : Int32) (s3 : Nat) (d : ix_D2) : Option (Int32 × ix_D2) :=
  ix_ck (ix_ok z [2] s3) (ix_lt (ix_di d s3 6 (s2 + (s1 - s0))) (fun d_27 => ix_if (x3 = 0) (some (0, d_27)) (some (1, d_27))))
noncomputable def f_X11_counted_81 (n : Nat) (z : ix_Z)  (x3 : Int32) (s0 : Int32) (s1 : Int32) (s2 : Nat) (d : ix_D2) : Option (Int32 × ix_D2) :=
  ix_if (x3 = 0) (f_X11_counted_90 n z  x3 0 s0 s1 s2 d) (f_X11_counted_90 n z  x3 1 s0 s1 s2 d)
noncomputable def f_X11_counted_54 (n : Nat) (z : ix_Z)  (a0 : Nat) (x1 : Int32) (x2 : Int32) (x3 : Int32) (d : ix_D2) : Option (Int32 × ix_D2) :=
  ix_ck (ix_ok z [10] a0) (ix_bd1 (z.1 a0 3) (fun b_16 => ix_ck (ix_ok z [2] b_16) (ix_bd1 (z.1 b_16 2) (fun b_19 => ix_ck (ix_ix z 22 b_19 x1) (ix_lt (ix_di d b_19 (ix_n x1) (vp_nar .boolean x2)) (fun d_22 => ix_if (x2 = 0) (f_X11_counted_81 n z  x3 0 (d_22.1 b_16 6) b_16 d_22) (f_X11_counted_81 n z  x3 1 (d_22.1 b_16 6) b_16 d_22)))))))
noncomputable def f_X11_counted (n : Nat) (z : ix_Z) (a0 : Nat) (x1 : Int32) (x2 : Int32) (d : ix_D2) : Option (Int32 × ix_D2) :=
  ix_ck (ix_ok z [10] a0) (ix_bd2 (f_X11_isName n z a0 x1 d) (fun r_4 d_1 => ix_if (r_4 = 0) (ix_bd2 (f_X11_refuse n z a0 ((-1001)) d_1) (fun r_37 d_35 => some (r_37, d_35))) (ix_bd1 (z.1 a0 3) (fun b_6 => ix_ck (ix_ok z [2] b_6) (ix_bd1 (z.1 b_6 2) (fun b_9 => ix_ck (ix_ix z 22 b_9 x1) (ix_lt (d_1.1 b_9 (ix_n x1)) (fun x3_12 => ix_if (x2 = 0) (f_X11_counted_54 n z  a0 x1 x2 x3_12 d_1) (ix_if (x3_12 = 0) (ix_if (d_1.1 b_6 6 < 20) (f_X11_counted_54 n z  a0 x1 x2 x3_12 d_1) (ix_bd2 (f_X11_refuse n z a0 ((-1003)) d_1) (fun r_34 d_32 => some (r_34, d_32)))) (f_X11_counted_54 n z  a0 x1 x2 x3_12 d_1))))))))))
set_option maxRecDepth 20000 in
theorem t_X11_counted_90 {l : Launch} {p : Program} {e : Env} {s : State} {m : MethodId} {args : Array Value} {below : List Frame} {meth : Method} {c : Code} {K : ix_Cx} (hKp : ix_Kp K) {n : Nat} {z : ix_Z} (X : ix_X p s m args c K cX11_counted RX11 4) (hr : meth.sig.returnType = (some .int)) (hlk : meth.locks = false)  {x3 : Int32} {s0 : Int32} {s1 : Int32} {s2 : Int32} {s3 : Nat} {r : Int32} {d1 : ix_D2}  {d : ix_D2} (h : f_X11_counted_90 n z  x3 s0 s1 s2 s3 d = some (r, d1)) : ix_G p l e (ix_rm 1 21 0 0) s m args below meth c (MQ below (ix_Post K (some (.int r)) (ix_w z d1)) args s 0 0 (ix_A K)) K 4 0 0 90 [(3, .int x3)] [.int s0, .int s1, .int s2, .ref (K.2.2.1 + s3)] (ix_w z d) := by
  unfold f_X11_counted_90 at h
  refine ix_isub X (ix_tb_at tb_X11_counted 47 rfl) (pc1 := 91) rfl ?_
  refine ix_iadd X (ix_tb_at tb_X11_counted 48 rfl) (pc1 := 92) rfl ?_
  obtain ⟨k_26, h⟩ := ix_ck_some h
  obtain ⟨d_27, e_28, h⟩ := ix_lt_ex h
  refine iz_putI X fp_RX11_367 k_26 (ix_tb_at tb_X11_counted 49 rfl) e_28 (pc1 := 95) rfl ?_
  refine ix_iload_n (i := 3) (j := 0) X (ix_tb_at tb_X11_counted 50 rfl) rfl rfl (pc1 := 96) rfl ?_
  refine ix_if_eq (tgt := 103) X (ix_tb_at tb_X11_counted 51 rfl) (by decide) (pc1 := 99) rfl (fun q_29 => ?_) (fun q_29 => ?_)
  · have h := ix_ift q_29 h
    refine ix_iconst (v := 0) X (ix_tb_at tb_X11_counted 54 rfl) (by decide) (pc1 := 104) rfl ?_
    exact ix_iret X hr hlk (ix_r2 (f := fun r => some (.int r)) (g := ix_w z) h) (ix_tb_at tb_X11_counted 55 rfl)
  · have h := ix_iff q_29 h
    refine ix_iconst (v := 1) X (ix_tb_at tb_X11_counted 52 rfl) (by decide) (pc1 := 100) rfl ?_
    refine ix_goto (tgt := 104) X (ix_tb_at tb_X11_counted 53 rfl) (by decide) ?_
    exact ix_iret X hr hlk (ix_r2 (f := fun r => some (.int r)) (g := ix_w z) h) (ix_tb_at tb_X11_counted 55 rfl)
set_option maxRecDepth 20000 in
theorem t_X11_counted_81 {l : Launch} {p : Program} {e : Env} {s : State} {m : MethodId} {args : Array Value} {below : List Frame} {meth : Method} {c : Code} {K : ix_Cx} (hKp : ix_Kp K) {n : Nat} {z : ix_Z} (X : ix_X p s m args c K cX11_counted RX11 4) (hr : meth.sig.returnType = (some .int)) (hlk : meth.locks = false)  {x3 : Int32} {s0 : Int32} {s1 : Int32} {s2 : Nat} {r : Int32} {d1 : ix_D2}  {d : ix_D2} (h : f_X11_counted_81 n z  x3 s0 s1 s2 d = some (r, d1)) : ix_G p l e (ix_rm 1 21 0 0) s m args below meth c (MQ below (ix_Post K (some (.int r)) (ix_w z d1)) args s 0 0 (ix_A K)) K 4 0 0 81 [(3, .int x3)] [.int s0, .int s1, .ref (K.2.2.1 + s2)] (ix_w z d) := by
  unfold f_X11_counted_81 at h
  refine ix_iload_n (i := 3) (j := 0) X (ix_tb_at tb_X11_counted 42 rfl) rfl rfl (pc1 := 82) rfl ?_
  refine ix_if_eq (tgt := 89) X (ix_tb_at tb_X11_counted 43 rfl) (by decide) (pc1 := 85) rfl (fun q_25 => ?_) (fun q_25 => ?_)
  · have h := ix_ift q_25 h
    refine ix_iconst (v := 0) X (ix_tb_at tb_X11_counted 46 rfl) (by decide) (pc1 := 90) rfl ?_
    refine ix_sub (L1 := [(3, .int x3)]) [0] rfl ?_
    exact t_X11_counted_90 hKp X hr hlk  h
  · have h := ix_iff q_25 h
    refine ix_iconst (v := 1) X (ix_tb_at tb_X11_counted 44 rfl) (by decide) (pc1 := 86) rfl ?_
    refine ix_goto (tgt := 90) X (ix_tb_at tb_X11_counted 45 rfl) (by decide) ?_
    refine ix_sub (L1 := [(3, .int x3)]) [0] rfl ?_
    exact t_X11_counted_90 hKp X hr hlk  h
set_option maxRecDepth 20000 in
theorem t_X11_counted_54 {l : Launch} {p : Program} {e : Env} {s : State} {m : MethodId} {args : Array Value} {below : List Frame} {meth : Method} {c : Code} {K : ix_Cx} (hKp : ix_Kp K) {n : Nat} {z : ix_Z} (X : ix_X p s m args c K cX11_counted RX11 4) (hr : meth.sig.returnType = (some .int)) (hlk : meth.locks = false)  {a0 : Nat} {x1 : Int32} {x2 : Int32} {x3 : Int32} {r : Int32} {d1 : ix_D2}  {d : ix_D2} (h : f_X11_counted_54 n z  a0 x1 x2 x3 d = some (r, d1)) : ix_G p l e (ix_rm 1 21 0 0) s m args below meth c (MQ below (ix_Post K (some (.int r)) (ix_w z d1)) args s 0 0 (ix_A K)) K 4 0 0 54 [(0, .ref (K.2.2.1 + a0)), (1, .int x1), (2, .int x2), (3, .int x3)] [] (ix_w z d) := by
  unfold f_X11_counted_54 at h
  refine ix_aload_n (i := 0) (j := 0) X (ix_tb_at tb_X11_counted 27 rfl) rfl rfl (pc1 := 55) rfl ?_
  obtain ⟨k_15, h⟩ := ix_ck_some h
  obtain ⟨b_16, q_17, h⟩ := ix_bd1_ex h
  refine iz_getR X fl_RX11_28 k_15 q_17 (ix_tb_at tb_X11_counted 28 rfl) (pc1 := 58) rfl ?_
  obtain ⟨k_18, h⟩ := ix_ck_some h
  obtain ⟨b_19, q_20, h⟩ := ix_bd1_ex h
  refine iz_getR X fl_RX11_363 k_18 q_20 (ix_tb_at tb_X11_counted 29 rfl) (pc1 := 61) rfl ?_
  refine ix_iload_n (i := 1) (j := 1) X (ix_tb_at tb_X11_counted 30 rfl) rfl rfl (pc1 := 62) rfl ?_
  refine ix_iload_n (i := 2) (j := 2) X (ix_tb_at tb_X11_counted 31 rfl) rfl rfl (pc1 := 63) rfl ?_
  obtain ⟨k_21, h⟩ := ix_ck_some h
  obtain ⟨d_22, e_23, h⟩ := ix_lt_ex h
  refine iz_zast X k_21 (ix_tb_at tb_X11_counted 32 rfl) e_23 (pc1 := 64) rfl ?_
  refine ix_aload_n (i := 0) (j := 0) X (ix_tb_at tb_X11_counted 33 rfl) rfl rfl (pc1 := 65) rfl ?_
  refine iz_getR X fl_RX11_28 k_15 q_17 (ix_tb_at tb_X11_counted 34 rfl) (pc1 := 68) rfl ?_
  refine ix_dup X (ix_tb_at tb_X11_counted 35 rfl) rfl (pc1 := 69) rfl ?_
  refine iz_getI X fl_RX11_367 k_18 (ix_tb_at tb_X11_counted 36 rfl) (pc1 := 72) rfl ?_
  refine ix_iload_n (i := 2) (j := 2) X (ix_tb_at tb_X11_counted 37 rfl) rfl rfl (pc1 := 73) rfl ?_
  refine ix_if_eq (tgt := 80) X (ix_tb_at tb_X11_counted 38 rfl) (by decide) (pc1 := 76) rfl (fun q_24 => ?_) (fun q_24 => ?_)
  · have h := ix_ift q_24 h
    refine ix_iconst (v := 0) X (ix_tb_at tb_X11_counted 41 rfl) (by decide) (pc1 := 81) rfl ?_
    refine ix_sub (L1 := [(3, .int x3)]) [3] rfl ?_
    exact t_X11_counted_81 hKp X hr hlk  h
  · have h := ix_iff q_24 h
    refine ix_iconst (v := 1) X (ix_tb_at tb_X11_counted 39 rfl) (by decide) (pc1 := 77) rfl ?_
    refine ix_goto (tgt := 81) X (ix_tb_at tb_X11_counted 40 rfl) (by decide) ?_
    refine ix_sub (L1 := [(3, .int x3)]) [3] rfl ?_
    exact t_X11_counted_81 hKp X hr hlk  h
set_option maxRecDepth 20000 in
theorem c_X11_counted {l : Launch} {K : ix_Cx} (hKp : ix_Kp K) {n : Nat} {z : ix_Z} {a0 : Nat} {x1 : Int32} {x2 : Int32} {d : ix_D2} {r : Int32} {d1 : ix_D2} (h : f_X11_counted n z a0 x1 x2 d = some (r, d1)) : ix_M l K yX11_counted cX11_counted 4 (some .int) 1 21 0 0 [.ref (K.2.2.1 + a0), .int x1, .int x2] (ix_w z d) (some (.int r)) (ix_w z d1) := by
  refine ix_met mf_X11_counted hKp (Nat.le_of_ble_eq_true rfl) ?_
  intro p e s m args below meth c hr hlk hnm X
  have X : ix_X p s m args c K cX11_counted RX11 4 := X
  show ix_G p l e (ix_rm 1 21 0 0) s m args below meth c (MQ below (ix_Post K (some (.int r)) (ix_w z d1)) args s 0 0 (ix_A K)) K 4 0 0 0 [(0, .ref (K.2.2.1 + a0)), (1, .int x1), (2, .int x2)] [] (ix_w z d)
  unfold f_X11_counted at h
  refine ix_aload_n (i := 0) (j := 0) X (ix_tb_at tb_X11_counted 0 rfl) rfl rfl (pc1 := 1) rfl ?_
  refine ix_iload_n (i := 1) (j := 1) X (ix_tb_at tb_X11_counted 1 rfl) rfl rfl (pc1 := 2) rfl ?_
  obtain ⟨k_3, h⟩ := ix_ck_some h
  obtain ⟨r_4, d_1, h_2, h⟩ := ix_bd2_ex h
  refine ix_callV (As := [.int x1]) (rest := []) (ci := 10) (T := TX11) (nf := 18) X mf_X11_isName mi_X11_isName ms_X11_isName rfl (Nat.le_of_ble_eq_true rfl) ml_RX11_247 ⟨Nat.le_of_ble_eq_true rfl, Nat.le_of_ble_eq_true rfl⟩ ⟨Nat.le_of_ble_eq_true rfl, Nat.le_of_ble_eq_true rfl⟩ rfl (Nat.le_of_ble_eq_true rfl) (ix_tb_at tb_X11_counted 2 rfl) ⟨k_3.1, List.mem_singleton.mp k_3.2⟩ (c_X11_isName hKp h_2) rfl (pc1 := 5) rfl ?_
  refine ix_if_ne (tgt := 16) X (ix_tb_at tb_X11_counted 3 rfl) (by decide) (pc1 := 8) rfl (fun q_5 => ?_) (fun q_5 => ?_)
  · have h := ix_iff q_5 h
    refine ix_aload_n (i := 0) (j := 0) X (ix_tb_at tb_X11_counted 8 rfl) rfl rfl (pc1 := 17) rfl ?_
    obtain ⟨b_6, q_7, h⟩ := ix_bd1_ex h
    refine iz_getR X fl_RX11_28 k_3 q_7 (ix_tb_at tb_X11_counted 9 rfl) (pc1 := 20) rfl ?_
    obtain ⟨k_8, h⟩ := ix_ck_some h
    obtain ⟨b_9, q_10, h⟩ := ix_bd1_ex h
    refine iz_getR X fl_RX11_363 k_8 q_10 (ix_tb_at tb_X11_counted 10 rfl) (pc1 := 23) rfl ?_
    refine ix_iload_n (i := 1) (j := 1) X (ix_tb_at tb_X11_counted 11 rfl) rfl rfl (pc1 := 24) rfl ?_
    obtain ⟨k_11, h⟩ := ix_ck_some h
    refine iz_zald X k_11 (ix_tb_at tb_X11_counted 12 rfl) (pc1 := 25) rfl ?_
    obtain ⟨x3_12, e_13, h⟩ := ix_lt_ex h
    refine ix_nmi e_13 ?_
    refine ix_istore_n (i := 3) (L1 := [(3, .int x3_12), (0, .ref (K.2.2.1 + a0)), (1, .int x1), (2, .int x2)]) X (ix_tb_at tb_X11_counted 13 rfl) rfl (Nat.le_of_ble_eq_true rfl) rfl (pc1 := 26) rfl ?_
    refine ix_iload_n (i := 2) (j := 3) X (ix_tb_at tb_X11_counted 14 rfl) rfl rfl (pc1 := 27) rfl ?_
    refine ix_if_eq (tgt := 54) X (ix_tb_at tb_X11_counted 15 rfl) (by decide) (pc1 := 30) rfl (fun q_14 => ?_) (fun q_14 => ?_)
    · have h := ix_ift q_14 h
      refine ix_sub (L1 := [(0, .ref (K.2.2.1 + a0)), (1, .int x1), (2, .int x2), (3, .int x3_12)]) [1, 2, 3, 0] rfl ?_
      exact t_X11_counted_54 hKp X hr hlk  h
    · have h := ix_iff q_14 h
      refine ix_iload_n (i := 3) (j := 0) X (ix_tb_at tb_X11_counted 16 rfl) rfl rfl (pc1 := 31) rfl ?_
      refine ix_if_ne (tgt := 54) X (ix_tb_at tb_X11_counted 17 rfl) (by decide) (pc1 := 34) rfl (fun q_30 => ?_) (fun q_30 => ?_)
      · have h := ix_iff q_30 h
        refine ix_sub (L1 := [(0, .ref (K.2.2.1 + a0)), (1, .int x1), (2, .int x2), (3, .int x3_12)]) [1, 2, 3, 0] rfl ?_
        exact t_X11_counted_54 hKp X hr hlk  h
      · have h := ix_ift q_30 h
        refine ix_aload_n (i := 0) (j := 1) X (ix_tb_at tb_X11_counted 18 rfl) rfl rfl (pc1 := 35) rfl ?_
        refine iz_getR X fl_RX11_28 k_3 q_7 (ix_tb_at tb_X11_counted 19 rfl) (pc1 := 38) rfl ?_
        refine iz_getI X fl_RX11_367 k_8 (ix_tb_at tb_X11_counted 20 rfl) (pc1 := 41) rfl ?_
        refine ix_bipush (v := 20) X (ix_tb_at tb_X11_counted 21 rfl) (by decide) (pc1 := 43) rfl ?_
        refine ix_icmp_lt (tgt := 54) X (ix_tb_at tb_X11_counted 22 rfl) (by decide) (pc1 := 46) rfl (fun q_31 => ?_) (fun q_31 => ?_)
        · have h := ix_ift q_31 h
          refine ix_sub (L1 := [(0, .ref (K.2.2.1 + a0)), (1, .int x1), (2, .int x2), (3, .int x3_12)]) [1, 2, 3, 0] rfl ?_
          exact t_X11_counted_54 hKp X hr hlk  h
        · have h := ix_iff q_31 h
          refine ix_aload_n (i := 0) (j := 1) X (ix_tb_at tb_X11_counted 23 rfl) rfl rfl (pc1 := 47) rfl ?_
          refine ix_sipush (v := (-1003)) X (ix_tb_at tb_X11_counted 24 rfl) (by decide) (pc1 := 50) rfl ?_
          obtain ⟨r_34, d_32, h_33, h⟩ := ix_bd2_ex h
          refine ix_callV (As := [.int ((-1003))]) (rest := []) (ci := 10) (T := TX11) (nf := 18) X mf_X11_refuse mi_X11_refuse ms_X11_refuse rfl (Nat.le_of_ble_eq_true rfl) ml_RX11_73 ⟨Nat.le_of_ble_eq_true rfl, Nat.le_of_ble_eq_true rfl⟩ ⟨Nat.le_of_ble_eq_true rfl, Nat.le_of_ble_eq_true rfl⟩ rfl (Nat.le_of_ble_eq_true rfl) (ix_tb_at tb_X11_counted 25 rfl) ⟨k_3.1, List.mem_singleton.mp k_3.2⟩ (c_X11_refuse hKp h_33) rfl (pc1 := 53) rfl ?_
          exact ix_iret X hr hlk (ix_r2 (f := fun r => some (.int r)) (g := ix_w z) h) (ix_tb_at tb_X11_counted 26 rfl)
  · have h := ix_ift q_5 h
    refine ix_aload_n (i := 0) (j := 0) X (ix_tb_at tb_X11_counted 4 rfl) rfl rfl (pc1 := 9) rfl ?_
    refine ix_sipush (v := (-1001)) X (ix_tb_at tb_X11_counted 5 rfl) (by decide) (pc1 := 12) rfl ?_
    obtain ⟨r_37, d_35, h_36, h⟩ := ix_bd2_ex h
    refine ix_callV (As := [.int ((-1001))]) (rest := []) (ci := 10) (T := TX11) (nf := 18) X mf_X11_refuse mi_X11_refuse ms_X11_refuse rfl (Nat.le_of_ble_eq_true rfl) ml_RX11_73 ⟨Nat.le_of_ble_eq_true rfl, Nat.le_of_ble_eq_true rfl⟩ ⟨Nat.le_of_ble_eq_true rfl, Nat.le_of_ble_eq_true rfl⟩ rfl (Nat.le_of_ble_eq_true rfl) (ix_tb_at tb_X11_counted 6 rfl) ⟨k_3.1, List.mem_singleton.mp k_3.2⟩ (c_X11_refuse hKp h_36) rfl (pc1 := 15) rfl ?_
    exact ix_iret X hr hlk (ix_r2 (f := fun r => some (.int r)) (g := ix_w z) h) (ix_tb_at tb_X11_counted 7 rfl)
def tab_X11_next : List (Nat × Instr × Nat) := [(0, .iload_n 1, 1), (1, .invokestatic 263, 3), (4, .ifCond .ne 11, 3), (7, .aload_n 0, 1), (8, .sipush (-1001), 3), (11, .invokevirtual 73, 3), (14, .ireturn, 1), (15, .aload_n 0, 1), (16, .getfield 41, 3), (19, .getfield 192, 3), (22, .getfield 224, 3), (25, .bipush 64, 2), (27, .if_icmp .lt 11, 3), (30, .aload_n 0, 1), (31, .sipush (-1003), 3), (34, .invokevirtual 73, 3), (37, .ireturn, 1), (38, .aload_n 0, 1), (39, .aload_n 0, 1), (40, .getfield 281, 3), (43, .putfield 200, 3), (46, .aload_n 0, 1), (47, .iconst 1, 1), (48, .putfield 284, 3), (51, .aload_n 0, 1), (52, .iconst 0, 1), (53, .putfield 80, 3), (56, .aload_n 0, 1), (57, .getfield 41, 3), (60, .aload_n 0, 1), (61, .getfield 28, 3), (64, .invokevirtual 370, 3), (67, .aload_n 0, 1), (68, .getfield 41, 3), (71, .iload_n 1, 1), (72, .invokevirtual 287, 3), (75, .istore_n 2, 1), (76, .iload_n 2, 1), (77, .iconst 1, 1), (78, .if_icmp .ne 14, 3), (81, .aload_n 0, 1), (82, .getfield 41, 3), (85, .aload_n 0, 1), (86, .getfield 28, 3), (89, .invokevirtual 373, 3), (92, .iload_n 2, 1), (93, .ireturn, 1)]
theorem tb_X11_next : ix_tab cX11_next tab_X11_next := by
  unfold ix_tab
  decide +kernel
noncomputable def f_X11_next (n : Nat) (z : ix_Z) (a0 : Nat) (x1 : Int32) (d : ix_D2) : Option (Int32 × ix_D2) :=
  ix_bd2 (f_X11_areSteps n z x1 d) (fun r_3 d_1 => ix_if (r_3 = 0) (ix_ck (ix_ok z [10] a0) (ix_bd2 (f_X11_refuse n z a0 ((-1001)) d_1) (fun r_35 d_32 => some (r_35, d_32)))) (ix_ck (ix_ok z [10] a0) (ix_bd1 (z.1 a0 6) (fun b_6 => ix_ck (ix_ok z [8] b_6) (ix_bd1 (z.1 b_6 1) (fun b_9 => ix_ck (ix_ok z [7] b_9) (ix_if (d_1.1 b_9 2 < 64) (ix_lt (ix_di d_1 a0 15 (d_1.1 a0 5)) (fun d_13 => ix_lt (ix_di d_13 a0 13 1) (fun d_15 => ix_lt (ix_di d_15 a0 14 0) (fun d_17 => ix_bd1 (z.1 a0 3) (fun b_19 => ix_bd1 (f_X9_openNext n z b_6 b_19 d_17) (fun d_21 => ix_bd2 (f_X9_go n z b_6 x1 d_21) (fun r_25 d_23 => ix_if (r_25 = 1) (ix_bd1 (f_X9_barTruth n z b_6 b_19 d_23) (fun d_27 => some (r_25, d_27))) (some (r_25, d_23))))))))) (ix_bd2 (f_X11_refuse n z a0 ((-1003)) d_1) (fun r_31 d_29 => some (r_31, d_29))))))))))
set_option maxRecDepth 20000 in
theorem c_X11_next {l : Launch} {K : ix_Cx} (hKp : ix_Kp K) {n : Nat} {z : ix_Z} {a0 : Nat} {x1 : Int32} {d : ix_D2} {r : Int32} {d1 : ix_D2} (h : f_X11_next n z a0 x1 d = some (r, d1)) : ix_M l K yX11_next cX11_next 3 (some .int) 6 145 0 0 [.ref (K.2.2.1 + a0), .int x1] (ix_w z d) (some (.int r)) (ix_w z d1) := by
  refine ix_met mf_X11_next hKp (Nat.le_of_ble_eq_true rfl) ?_
  intro p e s m args below meth c hr hlk hnm X
  have X : ix_X p s m args c K cX11_next RX11 3 := X
  show ix_G p l e (ix_rm 6 145 0 0) s m args below meth c (MQ below (ix_Post K (some (.int r)) (ix_w z d1)) args s 0 0 (ix_A K)) K 3 0 0 0 [(0, .ref (K.2.2.1 + a0)), (1, .int x1)] [] (ix_w z d)
  unfold f_X11_next at h
  refine ix_iload_n (i := 1) (j := 1) X (ix_tb_at tb_X11_next 0 rfl) rfl rfl (pc1 := 1) rfl ?_
  obtain ⟨r_3, d_1, h_2, h⟩ := ix_bd2_ex h
  refine ix_callS (As := [.int x1]) (rest := []) X mf_X11_areSteps st_X11_areSteps ml_RX11_263 ⟨Nat.le_of_ble_eq_true rfl, Nat.le_of_ble_eq_true rfl⟩ ⟨Nat.le_of_ble_eq_true rfl, Nat.le_of_ble_eq_true rfl⟩ rfl (Nat.le_of_ble_eq_true rfl) (ix_tb_at tb_X11_next 1 rfl) (c_X11_areSteps hKp h_2) rfl (pc1 := 4) rfl ?_
  refine ix_if_ne (tgt := 15) X (ix_tb_at tb_X11_next 2 rfl) (by decide) (pc1 := 7) rfl (fun q_4 => ?_) (fun q_4 => ?_)
  · have h := ix_iff q_4 h
    refine ix_aload_n (i := 0) (j := 0) X (ix_tb_at tb_X11_next 7 rfl) rfl rfl (pc1 := 16) rfl ?_
    obtain ⟨k_5, h⟩ := ix_ck_some h
    obtain ⟨b_6, q_7, h⟩ := ix_bd1_ex h
    refine iz_getR X fl_RX11_41 k_5 q_7 (ix_tb_at tb_X11_next 8 rfl) (pc1 := 19) rfl ?_
    obtain ⟨k_8, h⟩ := ix_ck_some h
    obtain ⟨b_9, q_10, h⟩ := ix_bd1_ex h
    refine iz_getR X fl_RX11_192 k_8 q_10 (ix_tb_at tb_X11_next 9 rfl) (pc1 := 22) rfl ?_
    obtain ⟨k_11, h⟩ := ix_ck_some h
    refine iz_getI X fl_RX11_224 k_11 (ix_tb_at tb_X11_next 10 rfl) (pc1 := 25) rfl ?_
    refine ix_bipush (v := 64) X (ix_tb_at tb_X11_next 11 rfl) (by decide) (pc1 := 27) rfl ?_
    refine ix_icmp_lt (tgt := 38) X (ix_tb_at tb_X11_next 12 rfl) (by decide) (pc1 := 30) rfl (fun q_12 => ?_) (fun q_12 => ?_)
    · have h := ix_ift q_12 h
      refine ix_aload_n (i := 0) (j := 0) X (ix_tb_at tb_X11_next 17 rfl) rfl rfl (pc1 := 39) rfl ?_
      refine ix_aload_n (i := 0) (j := 0) X (ix_tb_at tb_X11_next 18 rfl) rfl rfl (pc1 := 40) rfl ?_
      refine iz_getI X fl_RX11_281 k_5 (ix_tb_at tb_X11_next 19 rfl) (pc1 := 43) rfl ?_
      obtain ⟨d_13, e_14, h⟩ := ix_lt_ex h
      refine iz_putI X fp_RX11_200 k_5 (ix_tb_at tb_X11_next 20 rfl) e_14 (pc1 := 46) rfl ?_
      refine ix_aload_n (i := 0) (j := 0) X (ix_tb_at tb_X11_next 21 rfl) rfl rfl (pc1 := 47) rfl ?_
      refine ix_iconst (v := 1) X (ix_tb_at tb_X11_next 22 rfl) (by decide) (pc1 := 48) rfl ?_
      obtain ⟨d_15, e_16, h⟩ := ix_lt_ex h
      refine iz_putZ X fp_RX11_284 k_5 (ix_tb_at tb_X11_next 23 rfl) (by decide) e_16 (pc1 := 51) rfl ?_
      refine ix_aload_n (i := 0) (j := 0) X (ix_tb_at tb_X11_next 24 rfl) rfl rfl (pc1 := 52) rfl ?_
      refine ix_iconst (v := 0) X (ix_tb_at tb_X11_next 25 rfl) (by decide) (pc1 := 53) rfl ?_
      obtain ⟨d_17, e_18, h⟩ := ix_lt_ex h
      refine iz_putZ X fp_RX11_80 k_5 (ix_tb_at tb_X11_next 26 rfl) (by decide) e_18 (pc1 := 56) rfl ?_
      refine ix_aload_n (i := 0) (j := 0) X (ix_tb_at tb_X11_next 27 rfl) rfl rfl (pc1 := 57) rfl ?_
      refine iz_getR X fl_RX11_41 k_5 q_7 (ix_tb_at tb_X11_next 28 rfl) (pc1 := 60) rfl ?_
      refine ix_aload_n (i := 0) (j := 0) X (ix_tb_at tb_X11_next 29 rfl) rfl rfl (pc1 := 61) rfl ?_
      obtain ⟨b_19, q_20, h⟩ := ix_bd1_ex h
      refine iz_getR X fl_RX11_28 k_5 q_20 (ix_tb_at tb_X11_next 30 rfl) (pc1 := 64) rfl ?_
      obtain ⟨d_21, h_22, h⟩ := ix_bd1_ex h
      refine ix_callV (As := [.ref (K.2.2.1 + b_19)]) (rest := []) (ci := 8) (T := TX9) (nf := 20) X mf_X9_openNext mi_X9_openNext ms_X9_openNext rfl (Nat.le_of_ble_eq_true rfl) ml_RX11_370 ⟨Nat.le_of_ble_eq_true rfl, Nat.le_of_ble_eq_true rfl⟩ ⟨Nat.le_of_ble_eq_true rfl, Nat.le_of_ble_eq_true rfl⟩ rfl (Nat.le_of_ble_eq_true rfl) (ix_tb_at tb_X11_next 31 rfl) ⟨k_8.1, List.mem_singleton.mp k_8.2⟩ (c_X9_openNext hKp h_22) rfl (pc1 := 67) rfl ?_
      refine ix_aload_n (i := 0) (j := 0) X (ix_tb_at tb_X11_next 32 rfl) rfl rfl (pc1 := 68) rfl ?_
      refine iz_getR X fl_RX11_41 k_5 q_7 (ix_tb_at tb_X11_next 33 rfl) (pc1 := 71) rfl ?_
      refine ix_iload_n (i := 1) (j := 1) X (ix_tb_at tb_X11_next 34 rfl) rfl rfl (pc1 := 72) rfl ?_
      obtain ⟨r_25, d_23, h_24, h⟩ := ix_bd2_ex h
      refine ix_callV (As := [.int x1]) (rest := []) (ci := 8) (T := TX9) (nf := 20) X mf_X9_go mi_X9_go ms_X9_go rfl (Nat.le_of_ble_eq_true rfl) ml_RX11_287 ⟨Nat.le_of_ble_eq_true rfl, Nat.le_of_ble_eq_true rfl⟩ ⟨Nat.le_of_ble_eq_true rfl, Nat.le_of_ble_eq_true rfl⟩ rfl (Nat.le_of_ble_eq_true rfl) (ix_tb_at tb_X11_next 35 rfl) ⟨k_8.1, List.mem_singleton.mp k_8.2⟩ (c_X9_go hKp h_24) rfl (pc1 := 75) rfl ?_
      refine ix_istore_n (i := 2) (L1 := [(2, .int r_25), (0, .ref (K.2.2.1 + a0)), (1, .int x1)]) X (ix_tb_at tb_X11_next 36 rfl) rfl (Nat.le_of_ble_eq_true rfl) rfl (pc1 := 76) rfl ?_
      refine ix_iload_n (i := 2) (j := 0) X (ix_tb_at tb_X11_next 37 rfl) rfl rfl (pc1 := 77) rfl ?_
      refine ix_iconst (v := 1) X (ix_tb_at tb_X11_next 38 rfl) (by decide) (pc1 := 78) rfl ?_
      refine ix_icmp_ne (tgt := 92) X (ix_tb_at tb_X11_next 39 rfl) (by decide) (pc1 := 81) rfl (fun q_26 => ?_) (fun q_26 => ?_)
      · have h := ix_iff q_26 h
        refine ix_iload_n (i := 2) (j := 0) X (ix_tb_at tb_X11_next 45 rfl) rfl rfl (pc1 := 93) rfl ?_
        exact ix_iret X hr hlk (ix_r2 (f := fun r => some (.int r)) (g := ix_w z) h) (ix_tb_at tb_X11_next 46 rfl)
      · have h := ix_ift q_26 h
        refine ix_aload_n (i := 0) (j := 1) X (ix_tb_at tb_X11_next 40 rfl) rfl rfl (pc1 := 82) rfl ?_
        refine iz_getR X fl_RX11_41 k_5 q_7 (ix_tb_at tb_X11_next 41 rfl) (pc1 := 85) rfl ?_
        refine ix_aload_n (i := 0) (j := 1) X (ix_tb_at tb_X11_next 42 rfl) rfl rfl (pc1 := 86) rfl ?_
        refine iz_getR X fl_RX11_28 k_5 q_20 (ix_tb_at tb_X11_next 43 rfl) (pc1 := 89) rfl ?_
        obtain ⟨d_27, h_28, h⟩ := ix_bd1_ex h
        refine ix_callV (As := [.ref (K.2.2.1 + b_19)]) (rest := []) (ci := 8) (T := TX9) (nf := 20) X mf_X9_barTruth mi_X9_barTruth ms_X9_barTruth rfl (Nat.le_of_ble_eq_true rfl) ml_RX11_373 ⟨Nat.le_of_ble_eq_true rfl, Nat.le_of_ble_eq_true rfl⟩ ⟨Nat.le_of_ble_eq_true rfl, Nat.le_of_ble_eq_true rfl⟩ rfl (Nat.le_of_ble_eq_true rfl) (ix_tb_at tb_X11_next 44 rfl) ⟨k_8.1, List.mem_singleton.mp k_8.2⟩ (c_X9_barTruth hKp h_28) rfl (pc1 := 92) rfl ?_
        refine ix_iload_n (i := 2) (j := 0) X (ix_tb_at tb_X11_next 45 rfl) rfl rfl (pc1 := 93) rfl ?_
        exact ix_iret X hr hlk (ix_r2 (f := fun r => some (.int r)) (g := ix_w z) h) (ix_tb_at tb_X11_next 46 rfl)
    · have h := ix_iff q_12 h
      refine ix_aload_n (i := 0) (j := 0) X (ix_tb_at tb_X11_next 13 rfl) rfl rfl (pc1 := 31) rfl ?_
      refine ix_sipush (v := (-1003)) X (ix_tb_at tb_X11_next 14 rfl) (by decide) (pc1 := 34) rfl ?_
      obtain ⟨r_31, d_29, h_30, h⟩ := ix_bd2_ex h
      refine ix_callV (As := [.int ((-1003))]) (rest := []) (ci := 10) (T := TX11) (nf := 18) X mf_X11_refuse mi_X11_refuse ms_X11_refuse rfl (Nat.le_of_ble_eq_true rfl) ml_RX11_73 ⟨Nat.le_of_ble_eq_true rfl, Nat.le_of_ble_eq_true rfl⟩ ⟨Nat.le_of_ble_eq_true rfl, Nat.le_of_ble_eq_true rfl⟩ rfl (Nat.le_of_ble_eq_true rfl) (ix_tb_at tb_X11_next 15 rfl) ⟨k_5.1, List.mem_singleton.mp k_5.2⟩ (c_X11_refuse hKp h_30) rfl (pc1 := 37) rfl ?_
      exact ix_iret X hr hlk (ix_r2 (f := fun r => some (.int r)) (g := ix_w z) h) (ix_tb_at tb_X11_next 16 rfl)
  · have h := ix_ift q_4 h
    refine ix_aload_n (i := 0) (j := 0) X (ix_tb_at tb_X11_next 3 rfl) rfl rfl (pc1 := 8) rfl ?_
    refine ix_sipush (v := (-1001)) X (ix_tb_at tb_X11_next 4 rfl) (by decide) (pc1 := 11) rfl ?_
    obtain ⟨k_34, h⟩ := ix_ck_some h
    obtain ⟨r_35, d_32, h_33, h⟩ := ix_bd2_ex h
    refine ix_callV (As := [.int ((-1001))]) (rest := []) (ci := 10) (T := TX11) (nf := 18) X mf_X11_refuse mi_X11_refuse ms_X11_refuse rfl (Nat.le_of_ble_eq_true rfl) ml_RX11_73 ⟨Nat.le_of_ble_eq_true rfl, Nat.le_of_ble_eq_true rfl⟩ ⟨Nat.le_of_ble_eq_true rfl, Nat.le_of_ble_eq_true rfl⟩ rfl (Nat.le_of_ble_eq_true rfl) (ix_tb_at tb_X11_next 5 rfl) ⟨k_34.1, List.mem_singleton.mp k_34.2⟩ (c_X11_refuse hKp h_33) rfl (pc1 := 14) rfl ?_
    exact ix_iret X hr hlk (ix_r2 (f := fun r => some (.int r)) (g := ix_w z) h) (ix_tb_at tb_X11_next 6 rfl)

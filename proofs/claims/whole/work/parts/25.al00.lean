theorem fp_RX8_7 : ix_fpb 509 0 false RX8 7 "ClauseCourt$Rule" [0, 3, 5, 6, 9] 0 "[I" true = true := by decide +kernel
theorem mf_X8_init : ix_mf yX8_init cX8_init 2 (none : Option Jvm.ClassFile.FieldType) 1 := ⟨ix_wm (i := 507) (by decide +kernel), ix_wm (i := 11) (by decide +kernel), ⟨by decide +kernel, by decide +kernel⟩, by decide +kernel, by decide +kernel⟩
theorem mi_X8_init : Cond.instanceMethod yX8_init ∈ lw_tbl := ix_wm (i := 506) (by decide +kernel)
theorem ml_RX3_1 : tables_1[505]? = some (Cond.methodLink RX3 1 yX8_init) := by decide +kernel
theorem mf_X3_init : ix_mf yX3_init cX3_init 2 (none : Option Jvm.ClassFile.FieldType) 1 := ⟨ix_wm (i := 504) (by decide +kernel), ix_wm (i := 12) (by decide +kernel), ⟨by decide +kernel, by decide +kernel⟩, by decide +kernel, by decide +kernel⟩
theorem mi_X3_init : Cond.instanceMethod yX3_init ∈ lw_tbl := ix_wm (i := 503) (by decide +kernel)
theorem ml_RX0_1 : tables_1[637]? = some (Cond.methodLink RX0 1 yX3_init) := by decide +kernel
theorem fp_RX0_7 : ix_fpb 638 0 false RX0 7 "ClauseCourt$AtMost" [0, 5] 3 "I" true = true := by decide +kernel
theorem mf_X0_init : ix_mf yX0_init cX0_init 3 (none : Option Jvm.ClassFile.FieldType) 2 := ⟨ix_wm (i := 636) (by decide +kernel), ix_wm (i := 15) (by decide +kernel), ⟨by decide +kernel, by decide +kernel⟩, by decide +kernel, by decide +kernel⟩
theorem mi_X0_init : Cond.instanceMethod yX0_init ∈ lw_tbl := ix_wm (i := 635) (by decide +kernel)
theorem ml_RX0_27 : tables_1[545]? = some (Cond.methodLink RX0 27 yX2_makeName) := by decide +kernel
theorem ml_RX0_21 : tables_1[549]? = some (Cond.methodLink RX0 21 yX2_lay) := by decide +kernel
theorem mf_X0_laySums : ix_mf yX0_laySums cX0_laySums 9 (some (.array .int)) 1 := ⟨ix_wm (i := 544) (by decide +kernel), ix_wm (i := 15) (by decide +kernel), ⟨by decide +kernel, by decide +kernel⟩, by decide +kernel, by decide +kernel⟩
theorem mi_X0_laySums : Cond.instanceMethod yX0_laySums ∈ lw_tbl := ix_wm (i := 540) (by decide +kernel)
def ix_lf (z : ix_Z) (a : Option ix_D2) : Option (ix_Z × ix_D2) := a.bind (fun d => some (z, d))
theorem ix_lf_ex {z z1 : ix_Z} {a : Option ix_D2} {d1 : ix_D2} (h : ix_lf z a = some (z1, d1)) : a = some d1 ∧ z1 = z := by
  cases a with
  | none => cases h
  | some d => cases h; exact ⟨rfl, rfl⟩
theorem ml_RX0_13 : tables_1[539]? = some (Cond.methodLink RX0 13 (⟨"ClauseCourt$AtMost", "laySums", "(LClauseCourt$Case;)[I"⟩ : MethodName)) := by decide +kernel
theorem mf_X0_layInto : ix_mf yX0_layInto cX0_layInto 3 (none : Option Jvm.ClassFile.FieldType) 1 := ⟨ix_wm (i := 538) (by decide +kernel), ix_wm (i := 15) (by decide +kernel), ⟨by decide +kernel, by decide +kernel⟩, by decide +kernel, by decide +kernel⟩
theorem mi_X0_layInto : Cond.instanceMethod yX0_layInto ∈ lw_tbl := ix_wm (i := 537) (by decide +kernel)
theorem fp_RX7_9 : ix_fpb 112 0 false RX7 9 "ClauseCourt$Rows" [7] 0 "[I" true = true := by decide +kernel
theorem fp_RX7_15 : ix_fpb 116 0 false RX7 15 "ClauseCourt$Rows" [7] 1 "[I" true = true := by decide +kernel
theorem mf_X7_init : ix_mf yX7_init cX7_init 3 (none : Option Jvm.ClassFile.FieldType) 2 := ⟨ix_wm (i := 110) (by decide +kernel), ix_wm (i := 4) (by decide +kernel), ⟨by decide +kernel, by decide +kernel⟩, by decide +kernel, by decide +kernel⟩
theorem mi_X7_init : Cond.instanceMethod yX7_init ∈ lw_tbl := ix_wm (i := 109) (by decide +kernel)
theorem ml_RX1_13 : tables_1[199]? = some (Cond.methodLink RX1 13 yX7_init) := by decide +kernel
theorem fp_RX1_16 : ix_fpb 200 0 false RX1 16 "ClauseCourt$Board" [1] 0 "LClauseCourt$Rows;" true = true := by decide +kernel
theorem fp_RX1_20 : ix_fpb 203 0 false RX1 20 "ClauseCourt$Board" [1] 1 "[I" true = true := by decide +kernel
theorem fp_RX1_24 : ix_fpb 204 0 false RX1 24 "ClauseCourt$Board" [1] 2 "[I" true = true := by decide +kernel
theorem fp_RX1_27 : ix_fpb 205 0 false RX1 27 "ClauseCourt$Board" [1] 3 "[I" true = true := by decide +kernel
theorem fp_RX1_30 : ix_fpb 206 0 false RX1 30 "ClauseCourt$Board" [1] 4 "[I" true = true := by decide +kernel
theorem fp_RX1_33 : ix_fpb 208 0 false RX1 33 "ClauseCourt$Board" [1] 5 "[J" true = true := by decide +kernel
theorem fp_RX1_37 : ix_fpb 209 0 false RX1 37 "ClauseCourt$Board" [1] 6 "[J" true = true := by decide +kernel
theorem fp_RX1_40 : ix_fpb 210 0 false RX1 40 "ClauseCourt$Board" [1] 7 "[I" true = true := by decide +kernel
theorem fp_RX1_43 : ix_fpb 212 0 false RX1 43 "ClauseCourt$Board" [1] 8 "[I" true = true := by decide +kernel
theorem fp_RX1_46 : ix_fpb 214 0 false RX1 46 "ClauseCourt$Board" [1] 9 "[I" true = true := by decide +kernel
theorem fp_RX1_49 : ix_fpb 216 0 false RX1 49 "ClauseCourt$Board" [1] 10 "[I" true = true := by decide +kernel
theorem fp_RX1_52 : ix_fpb 219 0 false RX1 52 "ClauseCourt$Board" [1] 11 "[I" true = true := by decide +kernel
theorem mf_X1_init : ix_mf yX1_init cX1_init 1 (none : Option Jvm.ClassFile.FieldType) 0 := ⟨ix_wm (i := 196) (by decide +kernel), ix_wm (i := 6) (by decide +kernel), ⟨by decide +kernel, by decide +kernel⟩, by decide +kernel, by decide +kernel⟩
theorem mi_X1_init : Cond.instanceMethod yX1_init ∈ lw_tbl := ix_wm (i := 195) (by decide +kernel)
theorem ml_RX2_11 : tables_1[108]? = some (Cond.methodLink RX2 11 yX7_init) := by decide +kernel
theorem fp_RX2_14 : ix_fpb 131 0 false RX2 14 "ClauseCourt$Case" [2] 0 "LClauseCourt$Rows;" true = true := by decide +kernel
theorem fp_RX2_20 : ix_fpb 134 0 false RX2 20 "ClauseCourt$Case" [2] 1 "[I" true = true := by decide +kernel
theorem fp_RX2_24 : ix_fpb 137 0 false RX2 24 "ClauseCourt$Case" [2] 2 "[Z" true = true := by decide +kernel
theorem fp_RX2_28 : ix_fpb 140 0 false RX2 28 "ClauseCourt$Case" [2] 3 "[I" true = true := by decide +kernel
theorem fp_RX2_31 : ix_fpb 142 0 false RX2 31 "ClauseCourt$Case" [2] 4 "[I" true = true := by decide +kernel
theorem mf_X2_init : ix_mf yX2_init cX2_init 1 (none : Option Jvm.ClassFile.FieldType) 0 := ⟨ix_wm (i := 104) (by decide +kernel), ix_wm (i := 3) (by decide +kernel), ⟨by decide +kernel, by decide +kernel⟩, by decide +kernel, by decide +kernel⟩
theorem mi_X2_init : Cond.instanceMethod yX2_init ∈ lw_tbl := ix_wm (i := 103) (by decide +kernel)
theorem fp_RX4_11 : ix_fpb 40 0 false RX4 11 "ClauseCourt$Desk" [4] 0 "[B" true = true := by decide +kernel
theorem fp_RX4_15 : ix_fpb 44 0 false RX4 15 "ClauseCourt$Desk" [4] 2 "[B" true = true := by decide +kernel
theorem fp_RX4_18 : ix_fpb 48 0 false RX4 18 "ClauseCourt$Desk" [4] 4 "[I" true = true := by decide +kernel
theorem fp_RX4_22 : ix_fpb 51 0 false RX4 22 "ClauseCourt$Desk" [4] 6 "[I" true = true := by decide +kernel
theorem fp_RX4_25 : ix_fpb 54 0 false RX4 25 "ClauseCourt$Desk" [4] 8 "[I" true = true := by decide +kernel
theorem fp_RX4_28 : ix_fpb 55 0 false RX4 28 "ClauseCourt$Desk" [4] 9 "[I" true = true := by decide +kernel
theorem fp_RX4_31 : ix_fpb 56 0 false RX4 31 "ClauseCourt$Desk" [4] 10 "[I" true = true := by decide +kernel
theorem mf_X4_init : ix_mf yX4_init cX4_init 1 (none : Option Jvm.ClassFile.FieldType) 0 := ⟨ix_wm (i := 38) (by decide +kernel), ix_wm (i := 2) (by decide +kernel), ⟨by decide +kernel, by decide +kernel⟩, by decide +kernel, by decide +kernel⟩
theorem mi_X4_init : Cond.instanceMethod yX4_init ∈ lw_tbl := ix_wm (i := 37) (by decide +kernel)
theorem mf_X4_namesRead : ix_mf yX4_namesRead cX4_namesRead 5 (some (.array .int)) 0 := ⟨ix_wm (i := 813) (by decide +kernel), ix_wm (i := 2) (by decide +kernel), ⟨by decide +kernel, by decide +kernel⟩, by decide +kernel, by decide +kernel⟩
theorem mi_X4_namesRead : Cond.instanceMethod yX4_namesRead ∈ lw_tbl := ix_wm (i := 811) (by decide +kernel)
theorem ml_RX5_1 : tables_1[656]? = some (Cond.methodLink RX5 1 yX0_init) := by decide +kernel
theorem mf_X5_init : ix_mf yX5_init cX5_init 3 (none : Option Jvm.ClassFile.FieldType) 2 := ⟨ix_wm (i := 655) (by decide +kernel), ix_wm (i := 16) (by decide +kernel), ⟨by decide +kernel, by decide +kernel⟩, by decide +kernel, by decide +kernel⟩
theorem mi_X5_init : Cond.instanceMethod yX5_init ∈ lw_tbl := ix_wm (i := 654) (by decide +kernel)
theorem ml_RX5_7 : tables_1[574]? = some (Cond.methodLink RX5 7 (⟨"ClauseCourt$Group", "laySums", "(LClauseCourt$Case;)[I"⟩ : MethodName)) := by decide +kernel
theorem fl_RX5_13 : ix_flb 516 517 false RX5 13 "ClauseCourt$Group" [5] 0 2 = true := by decide +kernel
theorem ml_RX5_21 : tables_1[578]? = some (Cond.methodLink RX5 21 yX2_lay) := by decide +kernel
theorem ml_RX5_27 : tables_1[579]? = some (Cond.methodLink RX5 27 yX2_layDraft) := by decide +kernel
theorem mf_X5_layInto : ix_mf yX5_layInto cX5_layInto 3 (none : Option Jvm.ClassFile.FieldType) 1 := ⟨ix_wm (i := 573) (by decide +kernel), ix_wm (i := 16) (by decide +kernel), ⟨by decide +kernel, by decide +kernel⟩, by decide +kernel, by decide +kernel⟩
theorem mi_X5_layInto : Cond.instanceMethod yX5_layInto ∈ lw_tbl := ix_wm (i := 572) (by decide +kernel)
theorem ml_RX6_1 : tables_1[671]? = some (Cond.methodLink RX6 1 yX8_init) := by decide +kernel
theorem fp_RX6_7 : ix_fpb 672 0 false RX6 7 "ClauseCourt$Parity" [6] 3 "Z" true = true := by decide +kernel
theorem mf_X6_init : ix_mf yX6_init cX6_init 3 (none : Option Jvm.ClassFile.FieldType) 2 := ⟨ix_wm (i := 670) (by decide +kernel), ix_wm (i := 13) (by decide +kernel), ⟨by decide +kernel, by decide +kernel⟩, by decide +kernel, by decide +kernel⟩
theorem mi_X6_init : Cond.instanceMethod yX6_init ∈ lw_tbl := ix_wm (i := 669) (by decide +kernel)
theorem ml_RX9_11 : tables_1[194]? = some (Cond.methodLinkNest RX9 11 yX1_init "ClauseCourt") := by decide +kernel
theorem fp_RX9_12 : ix_fpb 276 0 false RX9 12 "ClauseCourt$Solver" [8] 0 "LClauseCourt$Board;" true = true := by decide +kernel
theorem ml_RX9_20 : tables_1[272]? = some (Cond.methodLink RX9 20 yX7_init) := by decide +kernel
theorem fp_RX9_23 : ix_fpb 278 0 false RX9 23 "ClauseCourt$Solver" [8] 1 "LClauseCourt$Rows;" true = true := by decide +kernel
theorem fp_RX9_27 : ix_fpb 280 0 false RX9 27 "ClauseCourt$Solver" [8] 2 "[J" true = true := by decide +kernel
theorem fp_RX9_31 : ix_fpb 283 0 false RX9 31 "ClauseCourt$Solver" [8] 4 "[I" true = true := by decide +kernel
theorem fp_RX9_35 : ix_fpb 285 0 false RX9 35 "ClauseCourt$Solver" [8] 6 "[I" true = true := by decide +kernel
theorem fp_RX9_38 : ix_fpb 286 0 false RX9 38 "ClauseCourt$Solver" [8] 7 "[J" true = true := by decide +kernel
theorem fp_RX9_41 : ix_fpb 287 0 false RX9 41 "ClauseCourt$Solver" [8] 8 "[J" true = true := by decide +kernel
theorem fp_RX9_44 : ix_fpb 288 0 false RX9 44 "ClauseCourt$Solver" [8] 9 "[J" true = true := by decide +kernel
theorem fp_RX9_47 : ix_fpb 289 0 false RX9 47 "ClauseCourt$Solver" [8] 10 "[I" true = true := by decide +kernel
theorem fp_RX9_50 : ix_fpb 291 0 false RX9 50 "ClauseCourt$Solver" [8] 11 "[I" true = true := by decide +kernel
theorem fp_RX9_53 : ix_fpb 293 0 false RX9 53 "ClauseCourt$Solver" [8] 12 "[I" true = true := by decide +kernel
theorem fp_RX9_56 : ix_fpb 294 0 false RX9 56 "ClauseCourt$Solver" [8] 13 "[I" true = true := by decide +kernel
theorem fp_RX9_59 : ix_fpb 296 0 false RX9 59 "ClauseCourt$Solver" [8] 15 "[I" true = true := by decide +kernel
theorem mf_X9_init : ix_mf yX9_init cX9_init 1 (none : Option Jvm.ClassFile.FieldType) 0 := ⟨ix_wm (i := 190) (by decide +kernel), ix_wm (i := 5) (by decide +kernel), ⟨by decide +kernel, by decide +kernel⟩, by decide +kernel, by decide +kernel⟩
theorem mi_X9_init : Cond.instanceMethod yX9_init ∈ lw_tbl := ix_wm (i := 189) (by decide +kernel)
theorem ml_RJ7_304 : tables_1[498]? = some (Cond.methodLink RJ7 304 Lib.Math.min.name) := by decide +kernel
theorem ml_RJ7_150 : tables_1[501]? = some (Cond.methodLink RJ7 150 arraycopyName) := by decide +kernel
theorem mf_J7_copyOf_9075b : ix_mf yJ7_copyOf_9075b cJ7_copyOf_9075b 3 (some (.array .byte)) 2 := ⟨ix_wm (i := 818) (by decide +kernel), ix_wm (i := 7) (by decide +kernel), ⟨by decide +kernel, by decide +kernel⟩, by decide +kernel, by decide +kernel⟩
theorem st_J7_copyOf_9075b : Cond.static yJ7_copyOf_9075b ∈ lw_tbl := ix_wm (i := 817) (by decide +kernel)
theorem mf_J7_copyOf_59c91 : ix_mf yJ7_copyOf_59c91 cJ7_copyOf_59c91 3 (some (.array .int)) 2 := ⟨ix_wm (i := 490) (by decide +kernel), ix_wm (i := 7) (by decide +kernel), ⟨by decide +kernel, by decide +kernel⟩, by decide +kernel, by decide +kernel⟩
theorem st_J7_copyOf_59c91 : Cond.static yJ7_copyOf_59c91 ∈ lw_tbl := ix_wm (i := 489) (by decide +kernel)
theorem ms_X4_namesRead : Cond.selects yX4_namesRead.cls yX4_namesRead yX4_namesRead ∈ lw_tbl := ix_wm (i := 812) (by decide +kernel)
theorem ml_RX10_1 : tables_1[810]? = some (Cond.methodLink RX10 1 yX4_namesRead) := by decide +kernel
theorem ml_RX10_7 : tables_1[815]? = some (Cond.methodLink RX10 7 yX3_init) := by decide +kernel
theorem fl_RX10_13 : ix_flb 41 0 true RX10 13 "ClauseCourt$Desk" [4] 0 2 = true := by decide +kernel
theorem ml_RX10_17 : tables_1[816]? = some (Cond.methodLink RX10 17 yJ7_copyOf_9075b) := by decide +kernel
theorem fp_RX10_23 : ix_fpb 825 0 false RX10 23 "ClauseCourt$Told" [9] 3 "[B" true = true := by decide +kernel
theorem fl_RX10_28 : ix_flb 50 0 true RX10 28 "ClauseCourt$Desk" [4] 6 2 = true := by decide +kernel
theorem fl_RX10_32 : ix_flb 52 0 true RX10 32 "ClauseCourt$Desk" [4] 7 0 = true := by decide +kernel
theorem ml_RX10_36 : tables_1[824]? = some (Cond.methodLink RX10 36 yJ7_copyOf_59c91) := by decide +kernel
theorem fp_RX10_39 : ix_fpb 826 0 false RX10 39 "ClauseCourt$Told" [9] 4 "[I" true = true := by decide +kernel
theorem fp_RX10_40 : ix_fpb 827 0 false RX10 40 "ClauseCourt$Told" [9] 5 "[I" true = true := by decide +kernel
theorem mf_X10_init : ix_mf yX10_init cX10_init 3 (none : Option Jvm.ClassFile.FieldType) 2 := ⟨ix_wm (i := 809) (by decide +kernel), ix_wm (i := 14) (by decide +kernel), ⟨by decide +kernel, by decide +kernel⟩, by decide +kernel, by decide +kernel⟩
theorem mi_X10_init : Cond.instanceMethod yX10_init ∈ lw_tbl := ix_wm (i := 808) (by decide +kernel)
theorem fp_RX11_11 : ix_fpb 345 0 false RX11 11 "ClauseCourt" [10] 0 "[[I" true = true := by decide +kernel
theorem fp_RX11_14 : ix_fpb 346 0 false RX11 14 "ClauseCourt" [10] 1 "[I" true = true := by decide +kernel
theorem ml_RX11_20 : tables_1[36]? = some (Cond.methodLinkNest RX11 20 yX4_init "ClauseCourt") := by decide +kernel
theorem fp_RX11_21 : ix_fpb 347 0 false RX11 21 "ClauseCourt" [10] 2 "LClauseCourt$Desk;" true = true := by decide +kernel
theorem ml_RX11_27 : tables_1[102]? = some (Cond.methodLinkNest RX11 27 yX2_init "ClauseCourt") := by decide +kernel
theorem fp_RX11_28 : ix_fpb 348 0 false RX11 28 "ClauseCourt" [10] 3 "LClauseCourt$Case;" true = true := by decide +kernel
theorem fp_RX11_34 : ix_fpb 349 0 false RX11 34 "ClauseCourt" [10] 4 "[LClauseCourt$Rule;" true = true := by decide +kernel
theorem ml_RX11_40 : tables_1[188]? = some (Cond.methodLink RX11 40 yX9_init) := by decide +kernel
theorem fp_RX11_41 : ix_fpb 351 0 false RX11 41 "ClauseCourt" [10] 6 "LClauseCourt$Solver;" true = true := by decide +kernel
theorem fp_RX11_45 : ix_fpb 352 0 false RX11 45 "ClauseCourt" [10] 7 "LClauseCourt$Solver;" true = true := by decide +kernel
theorem ml_RX11_50 : tables_1[343]? = some (Cond.methodLink RX11 50 yX7_init) := by decide +kernel
theorem fp_RX11_53 : ix_fpb 353 0 false RX11 53 "ClauseCourt" [10] 8 "LClauseCourt$Rows;" true = true := by decide +kernel
theorem fp_RX11_57 : ix_fpb 354 0 false RX11 57 "ClauseCourt" [10] 9 "[I" true = true := by decide +kernel
theorem fp_RX11_60 : ix_fpb 356 0 false RX11 60 "ClauseCourt" [10] 11 "[I" true = true := by decide +kernel
theorem mf_X11_init : ix_mf yX11_init cX11_init 1 (none : Option Jvm.ClassFile.FieldType) 0 := ⟨ix_wm (i := 28) (by decide +kernel), ix_wm (i := 1) (by decide +kernel), ⟨by decide +kernel, by decide +kernel⟩, by decide +kernel, by decide +kernel⟩
theorem mi_X11_init : Cond.instanceMethod yX11_init ∈ lw_tbl := ix_wm (i := 27) (by decide +kernel)
theorem ml_RX11_411 : tables_1[488]? = some (Cond.methodLink RX11 411 yJ7_copyOf_59c91) := by decide +kernel
theorem mf_X11_itemsOf : ix_mf yX11_itemsOf cX11_itemsOf 2 (some (.array .int)) 1 := ⟨ix_wm (i := 487) (by decide +kernel), ix_wm (i := 1) (by decide +kernel), ⟨by decide +kernel, by decide +kernel⟩, by decide +kernel, by decide +kernel⟩
theorem mi_X11_itemsOf : Cond.instanceMethod yX11_itemsOf ∈ lw_tbl := ix_wm (i := 486) (by decide +kernel)
theorem fp_RX11_415 : ix_fpb 157 0 true RX11 415 "ClauseCourt$Case" [2] 11 "Z" false = true := by decide +kernel
theorem ml_RX11_418 : tables_1[533]? = some (Cond.methodLink RX11 418 (⟨"ClauseCourt$Rule", "layInto", "(LClauseCourt$Case;)V"⟩ : MethodName)) := by decide +kernel
theorem fl_RX11_415 : ix_flb 157 0 true RX11 415 "ClauseCourt$Case" [2] 11 0 = true := by decide +kernel
theorem fp_RX11_171 : ix_fpb 519 0 false RX11 171 "ClauseCourt$Rule" [0, 3, 5, 6, 9] 1 "I" false = true := by decide +kernel
theorem fp_RX11_168 : ix_fpb 521 0 false RX11 168 "ClauseCourt$Rule" [0, 3, 5, 6, 9] 2 "I" false = true := by decide +kernel
theorem fp_RX11_281 : ix_fpb 350 0 false RX11 281 "ClauseCourt" [10] 5 "I" false = true := by decide +kernel
theorem mf_X11_admit : ix_mf yX11_admit cX11_admit 4 (some .int) 1 := ⟨ix_wm (i := 532) (by decide +kernel), ix_wm (i := 1) (by decide +kernel), ⟨by decide +kernel, by decide +kernel⟩, by decide +kernel, by decide +kernel⟩
theorem mi_X11_admit : Cond.instanceMethod yX11_admit ∈ lw_tbl := ix_wm (i := 531) (by decide +kernel)
theorem ms_X11_itemsOf : Cond.selects yX11_itemsOf.cls yX11_itemsOf yX11_itemsOf ∈ lw_tbl := List.mem_append_left _ (List.mem_of_getElem? (i := 4) (by decide +kernel))
theorem ml_RX11_119 : tables_1[484]? = some (Cond.methodLink RX11 119 yX11_itemsOf) := by decide +kernel
theorem ml_RX11_123 : tables_1[502]? = some (Cond.methodLink RX11 123 yX3_init) := by decide +kernel
theorem ms_X11_admit : Cond.selects yX11_admit.cls yX11_admit yX11_admit ∈ lw_tbl := List.mem_append_left _ (List.mem_of_getElem? (i := 5) (by decide +kernel))
theorem ml_RX11_126 : tables_1[529]? = some (Cond.methodLink RX11 126 yX11_admit) := by decide +kernel
theorem mf_X11_clause : ix_mf yX11_clause cX11_clause 3 (some .int) 1 := ⟨ix_wm (i := 470) (by decide +kernel), ix_wm (i := 1) (by decide +kernel), ⟨by decide +kernel, by decide +kernel⟩, by decide +kernel, by decide +kernel⟩
theorem mi_X11_clause : Cond.instanceMethod yX11_clause ∈ lw_tbl := ix_wm (i := 468) (by decide +kernel)
theorem ml_RX11_132 : tables_1[634]? = some (Cond.methodLink RX11 132 yX0_init) := by decide +kernel
theorem mf_X11_atMost : ix_mf yX11_atMost cX11_atMost 4 (some .int) 2 := ⟨ix_wm (i := 631) (by decide +kernel), ix_wm (i := 1) (by decide +kernel), ⟨by decide +kernel, by decide +kernel⟩, by decide +kernel, by decide +kernel⟩
theorem mi_X11_atMost : Cond.instanceMethod yX11_atMost ∈ lw_tbl := ix_wm (i := 629) (by decide +kernel)
theorem ml_RX11_136 : tables_1[653]? = some (Cond.methodLink RX11 136 yX5_init) := by decide +kernel
theorem mf_X11_group : ix_mf yX11_group cX11_group 4 (some .int) 2 := ⟨ix_wm (i := 650) (by decide +kernel), ix_wm (i := 1) (by decide +kernel), ⟨by decide +kernel, by decide +kernel⟩, by decide +kernel, by decide +kernel⟩
theorem mi_X11_group : Cond.instanceMethod yX11_group ∈ lw_tbl := ix_wm (i := 648) (by decide +kernel)
theorem ml_RX11_139 : tables_1[668]? = some (Cond.methodLink RX11 139 yX6_init) := by decide +kernel
theorem mf_X11_parity : ix_mf yX11_parity cX11_parity 4 (some .int) 2 := ⟨ix_wm (i := 665) (by decide +kernel), ix_wm (i := 1) (by decide +kernel), ⟨by decide +kernel, by decide +kernel⟩, by decide +kernel, by decide +kernel⟩
theorem mi_X11_parity : Cond.instanceMethod yX11_parity ∈ lw_tbl := ix_wm (i := 663) (by decide +kernel)
theorem ms_X4_readTape : Cond.selects yX4_readTape.cls yX4_readTape yX4_readTape ∈ lw_tbl := ix_wm (i := 685) (by decide +kernel)
theorem ml_RX11_142 : tables_1[683]? = some (Cond.methodLink RX11 142 yX4_readTape) := by decide +kernel
theorem ms_X4_lookForNames : Cond.selects yX4_lookForNames.cls yX4_lookForNames yX4_lookForNames ∈ lw_tbl := ix_wm (i := 803) (by decide +kernel)
theorem ml_RX11_145 : tables_1[801]? = some (Cond.methodLink RX11 145 yX4_lookForNames) := by decide +kernel
theorem ml_RX11_151 : tables_1[807]? = some (Cond.methodLink RX11 151 yX10_init) := by decide +kernel
theorem mf_X11_told : ix_mf yX11_told cX11_told 4 (some .int) 0 := ⟨ix_wm (i := 682) (by decide +kernel), ix_wm (i := 1) (by decide +kernel), ⟨by decide +kernel, by decide +kernel⟩, by decide +kernel, by decide +kernel⟩
theorem mi_X11_told : Cond.instanceMethod yX11_told ∈ lw_tbl := ix_wm (i := 680) (by decide +kernel)
theorem fp_RX12_7 : ix_fpb 1566 0 false RX12 7 "ClauseCourtModel" [11] 2 "[I" true = true := by decide +kernel
theorem fp_RX12_13 : ix_fpb 1567 0 false RX12 13 "ClauseCourtModel" [11] 3 "[Z" true = true := by decide +kernel
theorem fp_RX12_17 : ix_fpb 1569 0 false RX12 17 "ClauseCourtModel" [11] 5 "[I" true = true := by decide +kernel
theorem fp_RX12_20 : ix_fpb 1570 0 false RX12 20 "ClauseCourtModel" [11] 6 "[I" true = true := by decide +kernel
theorem fp_RX12_23 : ix_fpb 1571 0 false RX12 23 "ClauseCourtModel" [11] 7 "[I" true = true := by decide +kernel
theorem fp_RX12_26 : ix_fpb 1573 0 false RX12 26 "ClauseCourtModel" [11] 9 "[I" true = true := by decide +kernel
theorem fp_RX12_29 : ix_fpb 1576 0 false RX12 29 "ClauseCourtModel" [11] 12 "[I" true = true := by decide +kernel
theorem fp_RX12_32 : ix_fpb 1577 0 false RX12 32 "ClauseCourtModel" [11] 13 "[I" true = true := by decide +kernel
theorem fp_RX12_35 : ix_fpb 1578 0 false RX12 35 "ClauseCourtModel" [11] 14 "[Z" true = true := by decide +kernel
theorem fp_RX12_38 : ix_fpb 1579 0 false RX12 38 "ClauseCourtModel" [11] 15 "[I" true = true := by decide +kernel
theorem fp_RX12_41 : ix_fpb 1580 0 false RX12 41 "ClauseCourtModel" [11] 16 "[I" true = true := by decide +kernel
theorem fp_RX12_44 : ix_fpb 1581 0 false RX12 44 "ClauseCourtModel" [11] 17 "[I" true = true := by decide +kernel
theorem fp_RX12_47 : ix_fpb 1582 0 false RX12 47 "ClauseCourtModel" [11] 18 "[I" true = true := by decide +kernel
theorem fp_RX12_50 : ix_fpb 1583 0 false RX12 50 "ClauseCourtModel" [11] 19 "[I" true = true := by decide +kernel
theorem fp_RX12_53 : ix_fpb 1584 0 false RX12 53 "ClauseCourtModel" [11] 20 "[I" true = true := by decide +kernel
theorem fp_RX12_56 : ix_fpb 1585 0 false RX12 56 "ClauseCourtModel" [11] 21 "[I" true = true := by decide +kernel
theorem fp_RX12_59 : ix_fpb 1586 0 false RX12 59 "ClauseCourtModel" [11] 22 "[I" true = true := by decide +kernel
theorem fp_RX12_62 : ix_fpb 1588 0 false RX12 62 "ClauseCourtModel" [11] 24 "[I" true = true := by decide +kernel
theorem fp_RX12_65 : ix_fpb 1589 0 false RX12 65 "ClauseCourtModel" [11] 25 "[I" true = true := by decide +kernel
theorem fp_RX12_68 : ix_fpb 1590 0 false RX12 68 "ClauseCourtModel" [11] 26 "[I" true = true := by decide +kernel
theorem fp_RX12_71 : ix_fpb 1592 0 false RX12 71 "ClauseCourtModel" [11] 28 "[I" true = true := by decide +kernel
theorem fp_RX12_74 : ix_fpb 1597 0 false RX12 74 "ClauseCourtModel" [11] 33 "[I" true = true := by decide +kernel
theorem fp_RX12_77 : ix_fpb 1598 0 false RX12 77 "ClauseCourtModel" [11] 34 "[I" true = true := by decide +kernel
theorem fp_RX12_80 : ix_fpb 1599 0 false RX12 80 "ClauseCourtModel" [11] 35 "[I" true = true := by decide +kernel
theorem fp_RX12_83 : ix_fpb 1603 0 false RX12 83 "ClauseCourtModel" [11] 39 "[I" true = true := by decide +kernel
theorem fp_RX12_86 : ix_fpb 1605 0 false RX12 86 "ClauseCourtModel" [11] 41 "[I" true = true := by decide +kernel
theorem fp_RX12_89 : ix_fpb 1607 0 false RX12 89 "ClauseCourtModel" [11] 43 "[I" true = true := by decide +kernel
theorem fp_RX12_92 : ix_fpb 1608 0 false RX12 92 "ClauseCourtModel" [11] 44 "[I" true = true := by decide +kernel
theorem fp_RX12_95 : ix_fpb 1609 0 false RX12 95 "ClauseCourtModel" [11] 45 "[I" true = true := by decide +kernel
theorem fp_RX12_98 : ix_fpb 1611 0 false RX12 98 "ClauseCourtModel" [11] 47 "[I" true = true := by decide +kernel
theorem fp_RX12_101 : ix_fpb 1612 0 false RX12 101 "ClauseCourtModel" [11] 48 "[I" true = true := by decide +kernel
theorem fp_RX12_104 : ix_fpb 1617 0 false RX12 104 "ClauseCourtModel" [11] 53 "[I" true = true := by decide +kernel
theorem fp_RX12_107 : ix_fpb 1619 0 false RX12 107 "ClauseCourtModel" [11] 55 "[Z" true = true := by decide +kernel
theorem fp_RX12_110 : ix_fpb 1620 0 false RX12 110 "ClauseCourtModel" [11] 56 "[I" true = true := by decide +kernel
theorem fp_RX12_113 : ix_fpb 1624 0 false RX12 113 "ClauseCourtModel" [11] 60 "[I" true = true := by decide +kernel
theorem fp_RX12_116 : ix_fpb 1625 0 false RX12 116 "ClauseCourtModel" [11] 61 "[I" true = true := by decide +kernel
theorem fp_RX12_119 : ix_fpb 1626 0 false RX12 119 "ClauseCourtModel" [11] 62 "[I" true = true := by decide +kernel
theorem fp_RX12_122 : ix_fpb 1627 0 false RX12 122 "ClauseCourtModel" [11] 63 "[Z" true = true := by decide +kernel
theorem fp_RX12_125 : ix_fpb 1628 0 false RX12 125 "ClauseCourtModel" [11] 64 "[I" true = true := by decide +kernel
theorem fp_RX12_128 : ix_fpb 1629 0 false RX12 128 "ClauseCourtModel" [11] 65 "[I" true = true := by decide +kernel
theorem fp_RX12_131 : ix_fpb 1632 0 false RX12 131 "ClauseCourtModel" [11] 68 "[I" true = true := by decide +kernel
theorem fp_RX12_134 : ix_fpb 1633 0 false RX12 134 "ClauseCourtModel" [11] 69 "[I" true = true := by decide +kernel
theorem fp_RX12_137 : ix_fpb 1634 0 false RX12 137 "ClauseCourtModel" [11] 70 "[I" true = true := by decide +kernel
theorem fp_RX12_140 : ix_fpb 1635 0 false RX12 140 "ClauseCourtModel" [11] 71 "[I" true = true := by decide +kernel
theorem fp_RX12_143 : ix_fpb 1636 0 false RX12 143 "ClauseCourtModel" [11] 72 "[I" true = true := by decide +kernel
theorem fp_RX12_146 : ix_fpb 1637 0 false RX12 146 "ClauseCourtModel" [11] 73 "[J" true = true := by decide +kernel
theorem fp_RX12_150 : ix_fpb 1638 0 false RX12 150 "ClauseCourtModel" [11] 74 "[J" true = true := by decide +kernel
theorem fp_RX12_153 : ix_fpb 1639 0 false RX12 153 "ClauseCourtModel" [11] 75 "[I" true = true := by decide +kernel
theorem fp_RX12_156 : ix_fpb 1640 0 false RX12 156 "ClauseCourtModel" [11] 76 "[I" true = true := by decide +kernel
theorem fp_RX12_159 : ix_fpb 1641 0 false RX12 159 "ClauseCourtModel" [11] 77 "[I" true = true := by decide +kernel
theorem fp_RX12_162 : ix_fpb 1642 0 false RX12 162 "ClauseCourtModel" [11] 78 "[I" true = true := by decide +kernel
theorem fp_RX12_165 : ix_fpb 1643 0 false RX12 165 "ClauseCourtModel" [11] 79 "[I" true = true := by decide +kernel
theorem fp_RX12_168 : ix_fpb 1644 0 false RX12 168 "ClauseCourtModel" [11] 80 "[I" true = true := by decide +kernel
theorem fp_RX12_171 : ix_fpb 1645 0 false RX12 171 "ClauseCourtModel" [11] 81 "[I" true = true := by decide +kernel
theorem fp_RX12_174 : ix_fpb 1646 0 false RX12 174 "ClauseCourtModel" [11] 82 "[Z" true = true := by decide +kernel
theorem fp_RX12_177 : ix_fpb 1647 0 false RX12 177 "ClauseCourtModel" [11] 83 "[I" true = true := by decide +kernel
theorem fp_RX12_180 : ix_fpb 1648 0 false RX12 180 "ClauseCourtModel" [11] 84 "[J" true = true := by decide +kernel
theorem fp_RX12_183 : ix_fpb 1649 0 false RX12 183 "ClauseCourtModel" [11] 85 "[J" true = true := by decide +kernel
theorem fp_RX12_186 : ix_fpb 1650 0 false RX12 186 "ClauseCourtModel" [11] 86 "[J" true = true := by decide +kernel
theorem fp_RX12_189 : ix_fpb 1651 0 false RX12 189 "ClauseCourtModel" [11] 87 "[I" true = true := by decide +kernel
theorem fp_RX12_192 : ix_fpb 1652 0 false RX12 192 "ClauseCourtModel" [11] 88 "[I" true = true := by decide +kernel
theorem fp_RX12_195 : ix_fpb 1654 0 false RX12 195 "ClauseCourtModel" [11] 90 "[I" true = true := by decide +kernel
theorem fp_RX12_198 : ix_fpb 1656 0 false RX12 198 "ClauseCourtModel" [11] 92 "[I" true = true := by decide +kernel
theorem fp_RX12_201 : ix_fpb 1657 0 false RX12 201 "ClauseCourtModel" [11] 93 "[I" true = true := by decide +kernel
theorem fp_RX12_204 : ix_fpb 1659 0 false RX12 204 "ClauseCourtModel" [11] 95 "[I" true = true := by decide +kernel
theorem fp_RX12_207 : ix_fpb 1665 0 false RX12 207 "ClauseCourtModel" [11] 101 "[I" true = true := by decide +kernel
theorem fp_RX12_210 : ix_fpb 1666 0 false RX12 210 "ClauseCourtModel" [11] 102 "[Z" true = true := by decide +kernel
theorem fp_RX12_213 : ix_fpb 1667 0 false RX12 213 "ClauseCourtModel" [11] 103 "[Z" true = true := by decide +kernel
theorem fp_RX12_216 : ix_fpb 1669 0 false RX12 216 "ClauseCourtModel" [11] 105 "[I" true = true := by decide +kernel
theorem fp_RX12_219 : ix_fpb 1671 0 false RX12 219 "ClauseCourtModel" [11] 107 "[Z" true = true := by decide +kernel
theorem fp_RX12_222 : ix_fpb 1673 0 false RX12 222 "ClauseCourtModel" [11] 109 "[I" true = true := by decide +kernel
theorem fp_RX12_225 : ix_fpb 1674 0 false RX12 225 "ClauseCourtModel" [11] 110 "[I" true = true := by decide +kernel
theorem fp_RX12_228 : ix_fpb 1676 0 false RX12 228 "ClauseCourtModel" [11] 112 "[I" true = true := by decide +kernel
theorem fl_RX12_131 : ix_flb 1632 0 false RX12 131 "ClauseCourtModel" [11] 68 2 = true := by decide +kernel
theorem fp_RX12_231 : ix_fpb 1675 0 false RX12 231 "ClauseCourtModel" [11] 111 "I" false = true := by decide +kernel
theorem fl_RX12_17 : ix_flb 1569 0 false RX12 17 "ClauseCourtModel" [11] 5 2 = true := by decide +kernel
theorem mf_X12_init : ix_mf yX12_init cX12_init 2 (none : Option Jvm.ClassFile.FieldType) 0 := ⟨ix_wm (i := 1562) (by decide +kernel), ix_wm (i := 8) (by decide +kernel), ⟨by decide +kernel, by decide +kernel⟩, by decide +kernel, by decide +kernel⟩
theorem mi_X12_init : Cond.instanceMethod yX12_init ∈ lw_tbl := ix_wm (i := 1561) (by decide +kernel)
def tab_X8_init : List (Nat × Instr × Nat) := [(0, .aload_n 0, 1), (1, .invokespecial 1, 3), (4, .aload_n 0, 1), (5, .aload_n 1, 1), (6, .putfield 7, 3), (9, .return_, 1)]
theorem tb_X8_init : ix_tab cX8_init tab_X8_init := by
  unfold ix_tab
  decide +kernel
noncomputable def f_X8_init (n : Nat) (z : ix_Z) (a0 : Nat) (a1 : Nat) (d : ix_D2) : Option (ix_Z × ix_D2) :=
  ix_ck (ix_ok z [0, 3, 5, 6, 9] a0) (ix_lt (ix_zr z a0 0 (some a1)) (fun z_2 => some (z_2, d)))
set_option maxRecDepth 20000 in
theorem c_X8_init {l : Launch} {K : ix_Cx} (hKp : ix_Kp K) {n : Nat} {z : ix_Z} {a0 : Nat} {a1 : Nat} {d : ix_D2} {z1 : ix_Z} {d1 : ix_D2} (h : f_X8_init n z a0 a1 d = some (z1, d1)) : ix_M l K yX8_init cX8_init 2 (none : Option Jvm.ClassFile.FieldType) 1 23 0 0 [.ref (K.2.2.1 + a0), .ref (K.2.2.1 + a1)] (ix_w z d) none (ix_w z1 d1) := by
  refine ix_met mf_X8_init hKp (Nat.le_of_ble_eq_true rfl) ?_
  intro p e s m args below meth c hr hlk hnm X
  have X : ix_X p s m args c K cX8_init RX8 2 := X
  have hnm : meth.name = "<init>" := hnm
  show ix_G p l e (ix_rm 1 23 0 0) s m args below meth c (MQ below (ix_Post K none (ix_w z1 d1)) args s 0 0 (ix_A K)) K 2 0 0 0 [(0, .ref (K.2.2.1 + a0)), (1, .ref (K.2.2.1 + a1))] [] (ix_w z d)
  unfold f_X8_init at h
  refine ix_aload_n (i := 0) (j := 0) X (ix_tb_at tb_X8_init 0 rfl) rfl rfl (pc1 := 1) rfl ?_
  refine ix_objI (pl := 508) X (by decide +kernel) (Nat.le_of_ble_eq_true rfl) (Nat.le_of_ble_eq_true rfl) (ix_tb_at tb_X8_init 1 rfl) (pc1 := 4) rfl ?_
  refine ix_aload_n (i := 0) (j := 0) X (ix_tb_at tb_X8_init 2 rfl) rfl rfl (pc1 := 5) rfl ?_
  refine ix_aload_n (i := 1) (j := 1) X (ix_tb_at tb_X8_init 3 rfl) rfl rfl (pc1 := 6) rfl ?_
  obtain ⟨k_1, h⟩ := ix_ck_some h
  obtain ⟨z_2, e_3, h⟩ := ix_lt_ex h
  refine iz_putR (ty := .array .int) X fp_RX8_7 (fun _ => ⟨rfl, hnm⟩) k_1 (by decide +kernel) (by decide +kernel) (Or.inr ⟨_, rfl⟩) (ix_tb_at tb_X8_init 4 rfl) e_3 (pc1 := 9) rfl ?_
  exact ix_vret X hr hlk (ix_r2v (g := ix_w) h) (ix_tb_at tb_X8_init 5 rfl)
def tab_X3_init : List (Nat × Instr × Nat) := [(0, .aload_n 0, 1), (1, .aload_n 1, 1), (2, .invokespecial 1, 3), (5, .return_, 1)]
theorem tb_X3_init : ix_tab cX3_init tab_X3_init := by
  unfold ix_tab
  decide +kernel
noncomputable def f_X3_init (n : Nat) (z : ix_Z) (a0 : Nat) (a1 : Nat) (d : ix_D2) : Option (ix_Z × ix_D2) :=
  ix_bd2 (f_X8_init n z a0 a1 d) (fun z_3 d_1 => some (z_3, d_1))
set_option maxRecDepth 20000 in
theorem c_X3_init {l : Launch} {K : ix_Cx} (hKp : ix_Kp K) {n : Nat} {z : ix_Z} {a0 : Nat} {a1 : Nat} {d : ix_D2} {z1 : ix_Z} {d1 : ix_D2} (h : f_X3_init n z a0 a1 d = some (z1, d1)) : ix_M l K yX3_init cX3_init 2 (none : Option Jvm.ClassFile.FieldType) 2 44 0 0 [.ref (K.2.2.1 + a0), .ref (K.2.2.1 + a1)] (ix_w z d) none (ix_w z1 d1) := by
  refine ix_met mf_X3_init hKp (Nat.le_of_ble_eq_true rfl) ?_
  intro p e s m args below meth c hr hlk hnm X
  have X : ix_X p s m args c K cX3_init RX3 2 := X
  have hnm : meth.name = "<init>" := hnm
  show ix_G p l e (ix_rm 2 44 0 0) s m args below meth c (MQ below (ix_Post K none (ix_w z1 d1)) args s 0 0 (ix_A K)) K 2 0 0 0 [(0, .ref (K.2.2.1 + a0)), (1, .ref (K.2.2.1 + a1))] [] (ix_w z d)
  unfold f_X3_init at h
  refine ix_aload_n (i := 0) (j := 0) X (ix_tb_at tb_X3_init 0 rfl) rfl rfl (pc1 := 1) rfl ?_
  refine ix_aload_n (i := 1) (j := 1) X (ix_tb_at tb_X3_init 1 rfl) rfl rfl (pc1 := 2) rfl ?_
  obtain ⟨z_3, d_1, h_2, h⟩ := ix_bd2_ex h
  refine ix_callI (As := [.ref (K.2.2.1 + a1)]) (rest := []) X mf_X8_init mi_X8_init rfl ml_RX3_1 ⟨Nat.le_of_ble_eq_true rfl, Nat.le_of_ble_eq_true rfl⟩ ⟨Nat.le_of_ble_eq_true rfl, Nat.le_of_ble_eq_true rfl⟩ rfl (Nat.le_of_ble_eq_true rfl) (ix_tb_at tb_X3_init 2 rfl) (c_X8_init hKp h_2) rfl (pc1 := 5) rfl ?_
  exact ix_vret X hr hlk (ix_r2v (g := ix_w) h) (ix_tb_at tb_X3_init 3 rfl)
def tab_X0_init : List (Nat × Instr × Nat) := [(0, .aload_n 0, 1), (1, .aload_n 1, 1), (2, .invokespecial 1, 3), (5, .aload_n 0, 1), (6, .iload_n 2, 1), (7, .putfield 7, 3), (10, .return_, 1)]
theorem tb_X0_init : ix_tab cX0_init tab_X0_init := by
  unfold ix_tab
  decide +kernel
noncomputable def f_X0_init (n : Nat) (z : ix_Z) (a0 : Nat) (a1 : Nat) (x2 : Int32) (d : ix_D2) : Option (ix_Z × ix_D2) :=
  ix_bd2 (f_X3_init n z a0 a1 d) (fun z_3 d_1 => ix_ck (ix_ok z_3 [0, 5] a0) (ix_lt (ix_di d_1 a0 3 x2) (fun d_6 => some (z_3, d_6))))
set_option maxRecDepth 20000 in
theorem c_X0_init {l : Launch} {K : ix_Cx} (hKp : ix_Kp K) {n : Nat} {z : ix_Z} {a0 : Nat} {a1 : Nat} {x2 : Int32} {d : ix_D2} {z1 : ix_Z} {d1 : ix_D2} (h : f_X0_init n z a0 a1 x2 d = some (z1, d1)) : ix_M l K yX0_init cX0_init 3 (none : Option Jvm.ClassFile.FieldType) 3 65 0 0 [.ref (K.2.2.1 + a0), .ref (K.2.2.1 + a1), .int x2] (ix_w z d) none (ix_w z1 d1) := by
  refine ix_met mf_X0_init hKp (Nat.le_of_ble_eq_true rfl) ?_
  intro p e s m args below meth c hr hlk hnm X
  have X : ix_X p s m args c K cX0_init RX0 3 := X
  have hnm : meth.name = "<init>" := hnm
  show ix_G p l e (ix_rm 3 65 0 0) s m args below meth c (MQ below (ix_Post K none (ix_w z1 d1)) args s 0 0 (ix_A K)) K 3 0 0 0 [(0, .ref (K.2.2.1 + a0)), (1, .ref (K.2.2.1 + a1)), (2, .int x2)] [] (ix_w z d)
  unfold f_X0_init at h
  refine ix_aload_n (i := 0) (j := 0) X (ix_tb_at tb_X0_init 0 rfl) rfl rfl (pc1 := 1) rfl ?_
  refine ix_aload_n (i := 1) (j := 1) X (ix_tb_at tb_X0_init 1 rfl) rfl rfl (pc1 := 2) rfl ?_
  obtain ⟨z_3, d_1, h_2, h⟩ := ix_bd2_ex h
  refine ix_callI (As := [.ref (K.2.2.1 + a1)]) (rest := []) X mf_X3_init mi_X3_init rfl ml_RX0_1 ⟨Nat.le_of_ble_eq_true rfl, Nat.le_of_ble_eq_true rfl⟩ ⟨Nat.le_of_ble_eq_true rfl, Nat.le_of_ble_eq_true rfl⟩ rfl (Nat.le_of_ble_eq_true rfl) (ix_tb_at tb_X0_init 2 rfl) (c_X3_init hKp h_2) rfl (pc1 := 5) rfl ?_
  refine ix_aload_n (i := 0) (j := 0) X (ix_tb_at tb_X0_init 3 rfl) rfl rfl (pc1 := 6) rfl ?_
  refine ix_iload_n (i := 2) (j := 2) X (ix_tb_at tb_X0_init 4 rfl) rfl rfl (pc1 := 7) rfl ?_
  obtain ⟨k_5, h⟩ := ix_ck_some h
  obtain ⟨d_6, e_7, h⟩ := ix_lt_ex h
  refine iz_putIF X fp_RX0_7 hnm k_5 (ix_tb_at tb_X0_init 5 rfl) e_7 (pc1 := 10) rfl ?_
  exact ix_vret X hr hlk (ix_r2v (g := ix_w) h) (ix_tb_at tb_X0_init 6 rfl)
def tab_X0_laySums : List (Nat × Instr × Nat) := [(0, .aload_n 0, 1), (1, .getfield 7, 3), (4, .iconst 2, 1), (5, .iadd, 1), (6, .newarray .int, 2), (8, .astore_n 2, 1), (9, .aload_n 0, 1), (10, .getfield 17, 3), (13, .arraylength, 1), (14, .ifCond .le 12, 3), (17, .aload_n 2, 1), (18, .iconst 1, 1), (19, .aload_n 0, 1), (20, .getfield 17, 3), (23, .iconst 0, 1), (24, .iaload, 1), (25, .iastore, 1), (26, .iconst 2, 1), (27, .istore_n 3, 1), (28, .iload_n 3, 1), (29, .aload_n 0, 1), (30, .getfield 17, 3), (33, .arraylength, 1), (34, .if_icmp .gt 134, 3), (37, .aload_n 0, 1), (38, .getfield 17, 3), (41, .iload_n 3, 1), (42, .iconst 1, 1), (43, .isub, 1), (44, .iaload, 1), (45, .istore 4, 2), (47, .iconst 0, 1), (48, .istore 5, 2), (50, .iconst 1, 1), (51, .istore 6, 2), (53, .iload 6, 2), (55, .iload_n 3, 1), (56, .if_icmp .gt 106, 3), (59, .iload 6, 2), (61, .aload_n 0, 1), (62, .getfield 7, 3), (65, .iconst 1, 1), (66, .iadd, 1), (67, .if_icmp .gt 95, 3), (70, .iload 6, 2), (72, .iload_n 3, 1), (73, .if_icmp .ge 10, 3), (76, .aload_n 2, 1), (77, .iload 6, 2), (79, .iaload, 1), (80, .goto 4, 3), (83, .iconst 0, 1), (84, .istore 7, 2), (86, .aload_n 1, 1), (87, .invokevirtual 27, 3), (90, .istore 8, 2), (92, .iload 7, 2), (94, .ifCond .eq 13, 3), (97, .aload_n 1, 1), (98, .iload 7, 2), (100, .ineg, 1), (101, .iload 8, 2), (103, .iconst 0, 1), (104, .invokevirtual 21, 3), (107, .aload_n 1, 1), (108, .iload 4, 2), (110, .ineg, 1), (111, .iload 5, 2), (113, .ineg, 1), (114, .iload 8, 2), (116, .invokevirtual 21, 3), (119, .aload_n 1, 1), (120, .iload 7, 2), (122, .iload 4, 2), (124, .iload 8, 2), (126, .ineg, 1), (127, .invokevirtual 21, 3), (130, .iload 5, 2), (132, .ifCond .eq 14, 3), (135, .aload_n 1, 1), (136, .iload 7, 2), (138, .iload 5, 2), (140, .iload 8, 2), (142, .ineg, 1), (143, .invokevirtual 21, 3), (146, .aload_n 2, 1), (147, .iload 6, 2), (149, .iload 8, 2), (151, .iastore, 1), (152, .iload 7, 2), (154, .istore 5, 2), (156, .iinc 6 1, 3), (159, .goto (-106), 3), (162, .iinc 3 1, 3), (165, .goto (-137), 3), (168, .aload_n 2, 1), (169, .areturn, 1)]
theorem tb_X0_laySums : ix_tab cX0_laySums tab_X0_laySums := by
  unfold ix_tab
  decide +kernel
noncomputable def f_X0_laySums_162 (n : Nat) (z : ix_Z) (rec28 : Int32 → ix_D2 → Option (Option Nat × ix_Z × ix_D2)) (a0 : Nat) (a1 : Nat) (a2 : Nat) (x3 : Int32) (d : ix_D2) : Option (Option Nat × ix_Z × ix_D2) :=
  ix_lt (x3 + 1) (fun x3_21 => rec28 x3_21 d)
noncomputable def f_X0_laySums_146 (n : Nat) (z : ix_Z) (rec28 : Int32 → ix_D2 → Option (Option Nat × ix_Z × ix_D2)) (rec53 : Int32 → Int32 → ix_D2 → Option (Option Nat × ix_Z × ix_D2)) (a0 : Nat) (a1 : Nat) (a2 : Nat) (x3 : Int32) (x4 : Int32) (x6 : Int32) (x7 : Int32) (x8 : Int32) (d : ix_D2) : Option (Option Nat × ix_Z × ix_D2) :=
  ix_ck (ix_ix z 20 a2 x6) (ix_lt (ix_di d a2 (ix_n x6) x8) (fun d_38 => ix_lt (x6 + 1) (fun x6_40 => rec53 x7 x6_40 d_38)))
noncomputable def f_X0_laySums_107 (n : Nat) (z : ix_Z) (rec28 : Int32 → ix_D2 → Option (Option Nat × ix_Z × ix_D2)) (rec53 : Int32 → Int32 → ix_D2 → Option (Option Nat × ix_Z × ix_D2)) (a0 : Nat) (a1 : Nat) (a2 : Nat) (x3 : Int32) (x4 : Int32) (x5 : Int32) (x6 : Int32) (x7 : Int32) (x8 : Int32) (d : ix_D2) : Option (Option Nat × ix_Z × ix_D2) :=
  ix_ck (ix_ok z [2] a1) (ix_bd1 (f_X2_lay n z a1 (-x4) (-x5) x8 d) (fun d_31 => ix_bd1 (f_X2_lay n z a1 x7 x4 (-x8) d_31) (fun d_34 => ix_if (x5 = 0) (f_X0_laySums_146 n z rec28 rec53 a0 a1 a2 x3 x4 x6 x7 x8 d_34) (ix_bd1 (f_X2_lay n z a1 x7 x5 (-x8) d_34) (fun d_42 => f_X0_laySums_146 n z rec28 rec53 a0 a1 a2 x3 x4 x6 x7 x8 d_42)))))
noncomputable def f_X0_laySums_84 (n : Nat) (z : ix_Z) (rec28 : Int32 → ix_D2 → Option (Option Nat × ix_Z × ix_D2)) (rec53 : Int32 → Int32 → ix_D2 → Option (Option Nat × ix_Z × ix_D2)) (a0 : Nat) (a1 : Nat) (a2 : Nat) (x3 : Int32) (x4 : Int32) (x5 : Int32) (x6 : Int32) (s0 : Int32) (d : ix_D2) : Option (Option Nat × ix_Z × ix_D2) :=
  ix_ck (ix_ok z [2] a1) (ix_bd2 (f_X2_makeName n z a1 d) (fun r_29 d_26 => ix_if (s0 = 0) (f_X0_laySums_107 n z rec28 rec53 a0 a1 a2 x3 x4 x5 x6 s0 r_29 d_26) (ix_bd1 (f_X2_lay n z a1 (-s0) r_29 0 d_26) (fun d_44 => f_X0_laySums_107 n z rec28 rec53 a0 a1 a2 x3 x4 x5 x6 s0 r_29 d_44))))
noncomputable def b_X0_laySums_53 (n : Nat) (z : ix_Z) (rec28 : Int32 → ix_D2 → Option (Option Nat × ix_Z × ix_D2)) (a0 : Nat) (a1 : Nat) (a2 : Nat) (x3 : Int32) (x4 : Int32) (rec53 : Int32 → Int32 → ix_D2 → Option (Option Nat × ix_Z × ix_D2)) (x5 : Int32) (x6 : Int32) (d : ix_D2) : Option (Option Nat × ix_Z × ix_D2) :=
  ix_if (x3 < x6) (f_X0_laySums_162 n z rec28 a0 a1 a2 x3 d) (ix_ck (ix_ok z [0, 5] a0) (ix_if ((d.1 a0 3) + 1 < x6) (f_X0_laySums_162 n z rec28 a0 a1 a2 x3 d) (ix_if (x3 ≤ x6) (f_X0_laySums_84 n z rec28 rec53 a0 a1 a2 x3 x4 x5 x6 0 d) (ix_ck (ix_ix z 20 a2 x6) (f_X0_laySums_84 n z rec28 rec53 a0 a1 a2 x3 x4 x5 x6 (d.1 a2 (ix_n x6)) d)))))
noncomputable def f_X0_laySums_53 (n : Nat) (z : ix_Z) (rec28 : Int32 → ix_D2 → Option (Option Nat × ix_Z × ix_D2)) (a0 : Nat) (a1 : Nat) (a2 : Nat) (x3 : Int32) (x4 : Int32) (x5 : Int32) (x6 : Int32) (d : ix_D2) : Option (Option Nat × ix_Z × ix_D2) := ix_fix (b_X0_laySums_53 n z rec28 a0 a1 a2 x3 x4) (fun _ _ _ => none) n x5 x6 d
noncomputable def b_X0_laySums_28 (n : Nat) (z : ix_Z)  (a0 : Nat) (a1 : Nat) (a2 : Nat) (rec28 : Int32 → ix_D2 → Option (Option Nat × ix_Z × ix_D2)) (x3 : Int32) (d : ix_D2) : Option (Option Nat × ix_Z × ix_D2) :=
  ix_ck (ix_ok z [0, 5] a0) (ix_bd1 (z.1 a0 0) (fun b_13 => ix_ck (b_13 < z.2.2 ∧ 20 ≤ (z.2.1 b_13).1 ∧ (z.2.1 b_13).1 < 26) (ix_if (nI (z.2.1 b_13).2 < x3) (some ((some a2), z, d)) (ix_ck (ix_ix z 20 b_13 (x3 - 1)) (ix_lt (d.1 b_13 (ix_n (x3 - 1))) (fun x4_18 => f_X0_laySums_53 n z rec28 a0 a1 a2 x3 x4_18 0 1 d))))))
noncomputable def f_X0_laySums_28 (n : Nat) (z : ix_Z)  (a0 : Nat) (a1 : Nat) (a2 : Nat) (x3 : Int32) (d : ix_D2) : Option (Option Nat × ix_Z × ix_D2) := ix_fix (b_X0_laySums_28 n z  a0 a1 a2) (fun _ _ => none) n x3 d
noncomputable def f_X0_laySums_26 (n : Nat) (z : ix_Z)  (a0 : Nat) (a1 : Nat) (a2 : Nat) (d : ix_D2) : Option (Option Nat × ix_Z × ix_D2) :=
  f_X0_laySums_28 n z  a0 a1 a2 2 d
noncomputable def f_X0_laySums (n : Nat) (z : ix_Z) (a0 : Nat) (a1 : Nat) (d : ix_D2) : Option (Option Nat × ix_Z × ix_D2) :=
  ix_ck (ix_ok z [0, 5] a0) (ix_ck (¬ ((d.1 a0 3) + 2) < 0 ∧ ix_n ((d.1 a0 3) + 2) ≤ 14) (ix_lt (ix_zn z 20 (ix_n ((d.1 a0 3) + 2))) (fun z_3 => ix_lt (ix_dn d z.2.2) (fun d_5 => ix_ck (ix_ok z_3 [0, 5] a0) (ix_bd1 (z_3.1 a0 0) (fun b_8 => ix_ck (b_8 < z_3.2.2 ∧ 20 ≤ (z_3.2.1 b_8).1 ∧ (z_3.2.1 b_8).1 < 26) (ix_if (nI (z_3.2.1 b_8).2 ≤ 0) (f_X0_laySums_26 n z_3  a0 a1 z.2.2 d_5) (ix_ck (ix_ix z_3 20 b_8 0) (ix_ck (ix_ix z_3 20 z_3.2.2 1) (ix_lt (ix_di d_5 z_3.2.2 (ix_n 1) (d_5.1 b_8 (ix_n 0))) (fun d_49 => f_X0_laySums_26 n z_3  a0 a1 z.2.2 d_49)))))))))))
set_option maxRecDepth 20000 in
theorem t_X0_laySums_162 {l : Launch} {p : Program} {e : Env} {s : State} {m : MethodId} {args : Array Value} {below : List Frame} {meth : Method} {c : Code} {K : ix_Cx} (hKp : ix_Kp K) {n : Nat} {z : ix_Z} (X : ix_X p s m args c K cX0_laySums RX0 9) (hr : meth.sig.returnType = (some (.array .int))) (hlk : meth.locks = false) {rec28 : Int32 → ix_D2 → Option (Option Nat × ix_Z × ix_D2)} {a0 : Nat} {a1 : Nat} {a2 : Nat} {x3 : Int32} {r : Option Nat} {z1 : ix_Z} {d1 : ix_D2} (hrec28 : ∀ (x3 : Int32) (d : ix_D2), rec28 x3 d = some (r, z1, d1) → ix_G p l e (ix_rm 4 94 1 14) s m args below meth c (MQ below (ix_Post K (some (ix_rv K r)) (ix_w z1 d1)) args s 1 14 (ix_A K)) K 9 1 14 28 [(0, .ref (K.2.2.1 + a0)), (1, .ref (K.2.2.1 + a1)), (2, .ref (K.2.2.1 + a2)), (3, .int x3)] [] (ix_w z d)) {d : ix_D2} (h : f_X0_laySums_162 n z rec28 a0 a1 a2 x3 d = some (r, z1, d1)) : ix_G p l e (ix_rm 4 94 1 14) s m args below meth c (MQ below (ix_Post K (some (ix_rv K r)) (ix_w z1 d1)) args s 1 14 (ix_A K)) K 9 1 14 162 [(0, .ref (K.2.2.1 + a0)), (1, .ref (K.2.2.1 + a1)), (2, .ref (K.2.2.1 + a2)), (3, .int x3)] [] (ix_w z d) := by
  unfold f_X0_laySums_162 at h
  obtain ⟨x3_21, e_22, h⟩ := ix_lt_ex h
  refine ix_iinc (i := 3) (j := 3) (v := x3_21) (L1 := [(3, .int x3_21), (0, .ref (K.2.2.1 + a0)), (1, .ref (K.2.2.1 + a1)), (2, .ref (K.2.2.1 + a2))]) X (ix_tb_at tb_X0_laySums 93 rfl) rfl (by rw [oi_1]; exact e_22.symm) (Nat.le_of_ble_eq_true rfl) rfl (pc1 := 165) rfl ?_
  refine ix_goto (tgt := 28) X (ix_tb_at tb_X0_laySums 94 rfl) (by decide) ?_
  refine ix_sub (L1 := [(0, .ref (K.2.2.1 + a0)), (1, .ref (K.2.2.1 + a1)), (2, .ref (K.2.2.1 + a2)), (3, .int x3_21)]) [1, 2, 3, 0] rfl ?_
  exact hrec28 x3_21 d h
set_option maxRecDepth 20000 in
theorem t_X0_laySums_146 {l : Launch} {p : Program} {e : Env} {s : State} {m : MethodId} {args : Array Value} {below : List Frame} {meth : Method} {c : Code} {K : ix_Cx} (hKp : ix_Kp K) {n : Nat} {z : ix_Z} (X : ix_X p s m args c K cX0_laySums RX0 9) (hr : meth.sig.returnType = (some (.array .int))) (hlk : meth.locks = false) {rec28 : Int32 → ix_D2 → Option (Option Nat × ix_Z × ix_D2)} {rec53 : Int32 → Int32 → ix_D2 → Option (Option Nat × ix_Z × ix_D2)} {a0 : Nat} {a1 : Nat} {a2 : Nat} {x3 : Int32} {x4 : Int32} {x6 : Int32} {x7 : Int32} {x8 : Int32} {r : Option Nat} {z1 : ix_Z} {d1 : ix_D2} (hrec28 : ∀ (x3 : Int32) (d : ix_D2), rec28 x3 d = some (r, z1, d1) → ix_G p l e (ix_rm 4 94 1 14) s m args below meth c (MQ below (ix_Post K (some (ix_rv K r)) (ix_w z1 d1)) args s 1 14 (ix_A K)) K 9 1 14 28 [(0, .ref (K.2.2.1 + a0)), (1, .ref (K.2.2.1 + a1)), (2, .ref (K.2.2.1 + a2)), (3, .int x3)] [] (ix_w z d)) (hrec53 : ∀ (x5 : Int32) (x6 : Int32) (d : ix_D2), rec53 x5 x6 d = some (r, z1, d1) → ix_G p l e (ix_rm 4 94 1 14) s m args below meth c (MQ below (ix_Post K (some (ix_rv K r)) (ix_w z1 d1)) args s 1 14 (ix_A K)) K 9 1 14 53 [(0, .ref (K.2.2.1 + a0)), (1, .ref (K.2.2.1 + a1)), (2, .ref (K.2.2.1 + a2)), (3, .int x3), (4, .int x4), (5, .int x5), (6, .int x6)] [] (ix_w z d)) {d : ix_D2} (h : f_X0_laySums_146 n z rec28 rec53 a0 a1 a2 x3 x4 x6 x7 x8 d = some (r, z1, d1)) : ix_G p l e (ix_rm 4 94 1 14) s m args below meth c (MQ below (ix_Post K (some (ix_rv K r)) (ix_w z1 d1)) args s 1 14 (ix_A K)) K 9 1 14 146 [(0, .ref (K.2.2.1 + a0)), (1, .ref (K.2.2.1 + a1)), (2, .ref (K.2.2.1 + a2)), (3, .int x3), (4, .int x4), (6, .int x6), (7, .int x7), (8, .int x8)] [] (ix_w z d) := by
  unfold f_X0_laySums_146 at h
  refine ix_aload_n (i := 2) (j := 2) X (ix_tb_at tb_X0_laySums 85 rfl) rfl rfl (pc1 := 147) rfl ?_
  refine ix_iload (i := 6) (j := 5) X (ix_tb_at tb_X0_laySums 86 rfl) rfl (pc1 := 149) rfl ?_
  refine ix_iload (i := 8) (j := 7) X (ix_tb_at tb_X0_laySums 87 rfl) rfl (pc1 := 151) rfl ?_
  obtain ⟨k_37, h⟩ := ix_ck_some h
  obtain ⟨d_38, e_39, h⟩ := ix_lt_ex h
  refine iz_iast X k_37 (ix_tb_at tb_X0_laySums 88 rfl) e_39 (pc1 := 152) rfl ?_
  refine ix_iload (i := 7) (j := 6) X (ix_tb_at tb_X0_laySums 89 rfl) rfl (pc1 := 154) rfl ?_
  refine ix_istore (i := 5) (L1 := [(5, .int x7), (0, .ref (K.2.2.1 + a0)), (1, .ref (K.2.2.1 + a1)), (2, .ref (K.2.2.1 + a2)), (3, .int x3), (4, .int x4), (6, .int x6), (7, .int x7), (8, .int x8)]) X (ix_tb_at tb_X0_laySums 90 rfl) (Nat.le_of_ble_eq_true rfl) rfl (pc1 := 156) rfl ?_
  obtain ⟨x6_40, e_41, h⟩ := ix_lt_ex h
  refine ix_iinc (i := 6) (j := 6) (v := x6_40) (L1 := [(6, .int x6_40), (5, .int x7), (0, .ref (K.2.2.1 + a0)), (1, .ref (K.2.2.1 + a1)), (2, .ref (K.2.2.1 + a2)), (3, .int x3), (4, .int x4), (7, .int x7), (8, .int x8)]) X (ix_tb_at tb_X0_laySums 91 rfl) rfl (by rw [oi_1]; exact e_41.symm) (Nat.le_of_ble_eq_true rfl) rfl (pc1 := 159) rfl ?_
  refine ix_goto (tgt := 53) X (ix_tb_at tb_X0_laySums 92 rfl) (by decide) ?_
  refine ix_sub (L1 := [(0, .ref (K.2.2.1 + a0)), (1, .ref (K.2.2.1 + a1)), (2, .ref (K.2.2.1 + a2)), (3, .int x3), (4, .int x4), (5, .int x7), (6, .int x6_40)]) [2, 3, 4, 5, 6, 1, 0] rfl ?_
  exact hrec53 x7 x6_40 d_38 h
set_option maxRecDepth 20000 in
theorem t_X0_laySums_107 {l : Launch} {p : Program} {e : Env} {s : State} {m : MethodId} {args : Array Value} {below : List Frame} {meth : Method} {c : Code} {K : ix_Cx} (hKp : ix_Kp K) {n : Nat} {z : ix_Z} (X : ix_X p s m args c K cX0_laySums RX0 9) (hr : meth.sig.returnType = (some (.array .int))) (hlk : meth.locks = false) {rec28 : Int32 → ix_D2 → Option (Option Nat × ix_Z × ix_D2)} {rec53 : Int32 → Int32 → ix_D2 → Option (Option Nat × ix_Z × ix_D2)} {a0 : Nat} {a1 : Nat} {a2 : Nat} {x3 : Int32} {x4 : Int32} {x5 : Int32} {x6 : Int32} {x7 : Int32} {x8 : Int32} {r : Option Nat} {z1 : ix_Z} {d1 : ix_D2} (hrec28 : ∀ (x3 : Int32) (d : ix_D2), rec28 x3 d = some (r, z1, d1) → ix_G p l e (ix_rm 4 94 1 14) s m args below meth c (MQ below (ix_Post K (some (ix_rv K r)) (ix_w z1 d1)) args s 1 14 (ix_A K)) K 9 1 14 28 [(0, .ref (K.2.2.1 + a0)), (1, .ref (K.2.2.1 + a1)), (2, .ref (K.2.2.1 + a2)), (3, .int x3)] [] (ix_w z d)) (hrec53 : ∀ (x5 : Int32) (x6 : Int32) (d : ix_D2), rec53 x5 x6 d = some (r, z1, d1) → ix_G p l e (ix_rm 4 94 1 14) s m args below meth c (MQ below (ix_Post K (some (ix_rv K r)) (ix_w z1 d1)) args s 1 14 (ix_A K)) K 9 1 14 53 [(0, .ref (K.2.2.1 + a0)), (1, .ref (K.2.2.1 + a1)), (2, .ref (K.2.2.1 + a2)), (3, .int x3), (4, .int x4), (5, .int x5), (6, .int x6)] [] (ix_w z d)) {d : ix_D2} (h : f_X0_laySums_107 n z rec28 rec53 a0 a1 a2 x3 x4 x5 x6 x7 x8 d = some (r, z1, d1)) : ix_G p l e (ix_rm 4 94 1 14) s m args below meth c (MQ below (ix_Post K (some (ix_rv K r)) (ix_w z1 d1)) args s 1 14 (ix_A K)) K 9 1 14 107 [(0, .ref (K.2.2.1 + a0)), (1, .ref (K.2.2.1 + a1)), (2, .ref (K.2.2.1 + a2)), (3, .int x3), (4, .int x4), (5, .int x5), (6, .int x6), (7, .int x7), (8, .int x8)] [] (ix_w z d) := by
  unfold f_X0_laySums_107 at h
  refine ix_aload_n (i := 1) (j := 1) X (ix_tb_at tb_X0_laySums 64 rfl) rfl rfl (pc1 := 108) rfl ?_
  refine ix_iload (i := 4) (j := 4) X (ix_tb_at tb_X0_laySums 65 rfl) rfl (pc1 := 110) rfl ?_
  refine ix_ineg X (ix_tb_at tb_X0_laySums 66 rfl) (pc1 := 111) rfl ?_
  refine ix_iload (i := 5) (j := 5) X (ix_tb_at tb_X0_laySums 67 rfl) rfl (pc1 := 113) rfl ?_
  refine ix_ineg X (ix_tb_at tb_X0_laySums 68 rfl) (pc1 := 114) rfl ?_
  refine ix_iload (i := 8) (j := 8) X (ix_tb_at tb_X0_laySums 69 rfl) rfl (pc1 := 116) rfl ?_
  obtain ⟨k_33, h⟩ := ix_ck_some h
  obtain ⟨d_31, h_32, h⟩ := ix_bd1_ex h
  refine ix_callV (As := [.int (-x4), .int (-x5), .int x8]) (rest := []) (ci := 2) (T := TX2) (nf := 12) X mf_X2_lay mi_X2_lay ms_X2_lay rfl (Nat.le_of_ble_eq_true rfl) ml_RX0_21 ⟨Nat.le_of_ble_eq_true rfl, Nat.le_of_ble_eq_true rfl⟩ ⟨Nat.le_of_ble_eq_true rfl, Nat.le_of_ble_eq_true rfl⟩ rfl (Nat.le_of_ble_eq_true rfl) (ix_tb_at tb_X0_laySums 70 rfl) ⟨k_33.1, List.mem_singleton.mp k_33.2⟩ (c_X2_lay hKp h_32) rfl (pc1 := 119) rfl ?_
  refine ix_aload_n (i := 1) (j := 1) X (ix_tb_at tb_X0_laySums 71 rfl) rfl rfl (pc1 := 120) rfl ?_
  refine ix_iload (i := 7) (j := 7) X (ix_tb_at tb_X0_laySums 72 rfl) rfl (pc1 := 122) rfl ?_
  refine ix_iload (i := 4) (j := 4) X (ix_tb_at tb_X0_laySums 73 rfl) rfl (pc1 := 124) rfl ?_
  refine ix_iload (i := 8) (j := 8) X (ix_tb_at tb_X0_laySums 74 rfl) rfl (pc1 := 126) rfl ?_
  refine ix_ineg X (ix_tb_at tb_X0_laySums 75 rfl) (pc1 := 127) rfl ?_
  obtain ⟨d_34, h_35, h⟩ := ix_bd1_ex h
  refine ix_callV (As := [.int x7, .int x4, .int (-x8)]) (rest := []) (ci := 2) (T := TX2) (nf := 12) X mf_X2_lay mi_X2_lay ms_X2_lay rfl (Nat.le_of_ble_eq_true rfl) ml_RX0_21 ⟨Nat.le_of_ble_eq_true rfl, Nat.le_of_ble_eq_true rfl⟩ ⟨Nat.le_of_ble_eq_true rfl, Nat.le_of_ble_eq_true rfl⟩ rfl (Nat.le_of_ble_eq_true rfl) (ix_tb_at tb_X0_laySums 76 rfl) ⟨k_33.1, List.mem_singleton.mp k_33.2⟩ (c_X2_lay hKp h_35) rfl (pc1 := 130) rfl ?_
  refine ix_iload (i := 5) (j := 5) X (ix_tb_at tb_X0_laySums 77 rfl) rfl (pc1 := 132) rfl ?_
  refine ix_if_eq (tgt := 146) X (ix_tb_at tb_X0_laySums 78 rfl) (by decide) (pc1 := 135) rfl (fun q_36 => ?_) (fun q_36 => ?_)
  · have h := ix_ift q_36 h
    refine ix_sub (L1 := [(0, .ref (K.2.2.1 + a0)), (1, .ref (K.2.2.1 + a1)), (2, .ref (K.2.2.1 + a2)), (3, .int x3), (4, .int x4), (6, .int x6), (7, .int x7), (8, .int x8)]) [0, 1, 2, 3, 4, 6, 7, 8] rfl ?_
    exact t_X0_laySums_146 hKp X hr hlk hrec28 hrec53 h
  · have h := ix_iff q_36 h
    refine ix_aload_n (i := 1) (j := 1) X (ix_tb_at tb_X0_laySums 79 rfl) rfl rfl (pc1 := 136) rfl ?_
    refine ix_iload (i := 7) (j := 7) X (ix_tb_at tb_X0_laySums 80 rfl) rfl (pc1 := 138) rfl ?_
    refine ix_iload (i := 5) (j := 5) X (ix_tb_at tb_X0_laySums 81 rfl) rfl (pc1 := 140) rfl ?_
    refine ix_iload (i := 8) (j := 8) X (ix_tb_at tb_X0_laySums 82 rfl) rfl (pc1 := 142) rfl ?_
    refine ix_ineg X (ix_tb_at tb_X0_laySums 83 rfl) (pc1 := 143) rfl ?_
    obtain ⟨d_42, h_43, h⟩ := ix_bd1_ex h
    refine ix_callV (As := [.int x7, .int x5, .int (-x8)]) (rest := []) (ci := 2) (T := TX2) (nf := 12) X mf_X2_lay mi_X2_lay ms_X2_lay rfl (Nat.le_of_ble_eq_true rfl) ml_RX0_21 ⟨Nat.le_of_ble_eq_true rfl, Nat.le_of_ble_eq_true rfl⟩ ⟨Nat.le_of_ble_eq_true rfl, Nat.le_of_ble_eq_true rfl⟩ rfl (Nat.le_of_ble_eq_true rfl) (ix_tb_at tb_X0_laySums 84 rfl) ⟨k_33.1, List.mem_singleton.mp k_33.2⟩ (c_X2_lay hKp h_43) rfl (pc1 := 146) rfl ?_
    refine ix_sub (L1 := [(0, .ref (K.2.2.1 + a0)), (1, .ref (K.2.2.1 + a1)), (2, .ref (K.2.2.1 + a2)), (3, .int x3), (4, .int x4), (6, .int x6), (7, .int x7), (8, .int x8)]) [0, 1, 2, 3, 4, 6, 7, 8] rfl ?_
    exact t_X0_laySums_146 hKp X hr hlk hrec28 hrec53 h
set_option maxRecDepth 20000 in
theorem t_X0_laySums_84 {l : Launch} {p : Program} {e : Env} {s : State} {m : MethodId} {args : Array Value} {below : List Frame} {meth : Method} {c : Code} {K : ix_Cx} (hKp : ix_Kp K) {n : Nat} {z : ix_Z} (X : ix_X p s m args c K cX0_laySums RX0 9) (hr : meth.sig.returnType = (some (.array .int))) (hlk : meth.locks = false) {rec28 : Int32 → ix_D2 → Option (Option Nat × ix_Z × ix_D2)} {rec53 : Int32 → Int32 → ix_D2 → Option (Option Nat × ix_Z × ix_D2)} {a0 : Nat} {a1 : Nat} {a2 : Nat} {x3 : Int32} {x4 : Int32} {x5 : Int32} {x6 : Int32} {s0 : Int32} {r : Option Nat} {z1 : ix_Z} {d1 : ix_D2} (hrec28 : ∀ (x3 : Int32) (d : ix_D2), rec28 x3 d = some (r, z1, d1) → ix_G p l e (ix_rm 4 94 1 14) s m args below meth c (MQ below (ix_Post K (some (ix_rv K r)) (ix_w z1 d1)) args s 1 14 (ix_A K)) K 9 1 14 28 [(0, .ref (K.2.2.1 + a0)), (1, .ref (K.2.2.1 + a1)), (2, .ref (K.2.2.1 + a2)), (3, .int x3)] [] (ix_w z d)) (hrec53 : ∀ (x5 : Int32) (x6 : Int32) (d : ix_D2), rec53 x5 x6 d = some (r, z1, d1) → ix_G p l e (ix_rm 4 94 1 14) s m args below meth c (MQ below (ix_Post K (some (ix_rv K r)) (ix_w z1 d1)) args s 1 14 (ix_A K)) K 9 1 14 53 [(0, .ref (K.2.2.1 + a0)), (1, .ref (K.2.2.1 + a1)), (2, .ref (K.2.2.1 + a2)), (3, .int x3), (4, .int x4), (5, .int x5), (6, .int x6)] [] (ix_w z d)) {d : ix_D2} (h : f_X0_laySums_84 n z rec28 rec53 a0 a1 a2 x3 x4 x5 x6 s0 d = some (r, z1, d1)) : ix_G p l e (ix_rm 4 94 1 14) s m args below meth c (MQ below (ix_Post K (some (ix_rv K r)) (ix_w z1 d1)) args s 1 14 (ix_A K)) K 9 1 14 84 [(0, .ref (K.2.2.1 + a0)), (1, .ref (K.2.2.1 + a1)), (2, .ref (K.2.2.1 + a2)), (3, .int x3), (4, .int x4), (5, .int x5), (6, .int x6)] [.int s0] (ix_w z d) := by
  unfold f_X0_laySums_84 at h
  refine ix_istore (i := 7) (L1 := [(7, .int s0), (0, .ref (K.2.2.1 + a0)), (1, .ref (K.2.2.1 + a1)), (2, .ref (K.2.2.1 + a2)), (3, .int x3), (4, .int x4), (5, .int x5), (6, .int x6)]) X (ix_tb_at tb_X0_laySums 52 rfl) (Nat.le_of_ble_eq_true rfl) rfl (pc1 := 86) rfl ?_
  refine ix_aload_n (i := 1) (j := 2) X (ix_tb_at tb_X0_laySums 53 rfl) rfl rfl (pc1 := 87) rfl ?_
  obtain ⟨k_28, h⟩ := ix_ck_some h
  obtain ⟨r_29, d_26, h_27, h⟩ := ix_bd2_ex h
  refine ix_callV (As := []) (rest := []) (ci := 2) (T := TX2) (nf := 12) X mf_X2_makeName mi_X2_makeName ms_X2_makeName rfl (Nat.le_of_ble_eq_true rfl) ml_RX0_27 ⟨Nat.le_of_ble_eq_true rfl, Nat.le_of_ble_eq_true rfl⟩ ⟨Nat.le_of_ble_eq_true rfl, Nat.le_of_ble_eq_true rfl⟩ rfl (Nat.le_of_ble_eq_true rfl) (ix_tb_at tb_X0_laySums 54 rfl) ⟨k_28.1, List.mem_singleton.mp k_28.2⟩ (c_X2_makeName hKp h_27) rfl (pc1 := 90) rfl ?_
  refine ix_istore (i := 8) (L1 := [(8, .int r_29), (7, .int s0), (0, .ref (K.2.2.1 + a0)), (1, .ref (K.2.2.1 + a1)), (2, .ref (K.2.2.1 + a2)), (3, .int x3), (4, .int x4), (5, .int x5), (6, .int x6)]) X (ix_tb_at tb_X0_laySums 55 rfl) (Nat.le_of_ble_eq_true rfl) rfl (pc1 := 92) rfl ?_
  refine ix_iload (i := 7) (j := 1) X (ix_tb_at tb_X0_laySums 56 rfl) rfl (pc1 := 94) rfl ?_
  refine ix_if_eq (tgt := 107) X (ix_tb_at tb_X0_laySums 57 rfl) (by decide) (pc1 := 97) rfl (fun q_30 => ?_) (fun q_30 => ?_)
  · have h := ix_ift q_30 h
    refine ix_sub (L1 := [(0, .ref (K.2.2.1 + a0)), (1, .ref (K.2.2.1 + a1)), (2, .ref (K.2.2.1 + a2)), (3, .int x3), (4, .int x4), (5, .int x5), (6, .int x6), (7, .int s0), (8, .int r_29)]) [2, 3, 4, 5, 6, 7, 8, 1, 0] rfl ?_
    exact t_X0_laySums_107 hKp X hr hlk hrec28 hrec53 h
  · have h := ix_iff q_30 h
    refine ix_aload_n (i := 1) (j := 3) X (ix_tb_at tb_X0_laySums 58 rfl) rfl rfl (pc1 := 98) rfl ?_
    refine ix_iload (i := 7) (j := 1) X (ix_tb_at tb_X0_laySums 59 rfl) rfl (pc1 := 100) rfl ?_
    refine ix_ineg X (ix_tb_at tb_X0_laySums 60 rfl) (pc1 := 101) rfl ?_
    refine ix_iload (i := 8) (j := 0) X (ix_tb_at tb_X0_laySums 61 rfl) rfl (pc1 := 103) rfl ?_
    refine ix_iconst (v := 0) X (ix_tb_at tb_X0_laySums 62 rfl) (by decide) (pc1 := 104) rfl ?_
    obtain ⟨d_44, h_45, h⟩ := ix_bd1_ex h
    refine ix_callV (As := [.int (-s0), .int r_29, .int 0]) (rest := []) (ci := 2) (T := TX2) (nf := 12) X mf_X2_lay mi_X2_lay ms_X2_lay rfl (Nat.le_of_ble_eq_true rfl) ml_RX0_21 ⟨Nat.le_of_ble_eq_true rfl, Nat.le_of_ble_eq_true rfl⟩ ⟨Nat.le_of_ble_eq_true rfl, Nat.le_of_ble_eq_true rfl⟩ rfl (Nat.le_of_ble_eq_true rfl) (ix_tb_at tb_X0_laySums 63 rfl) ⟨k_28.1, List.mem_singleton.mp k_28.2⟩ (c_X2_lay hKp h_45) rfl (pc1 := 107) rfl ?_
    refine ix_sub (L1 := [(0, .ref (K.2.2.1 + a0)), (1, .ref (K.2.2.1 + a1)), (2, .ref (K.2.2.1 + a2)), (3, .int x3), (4, .int x4), (5, .int x5), (6, .int x6), (7, .int s0), (8, .int r_29)]) [2, 3, 4, 5, 6, 7, 8, 1, 0] rfl ?_
    exact t_X0_laySums_107 hKp X hr hlk hrec28 hrec53 h
set_option maxRecDepth 20000 in
theorem tb_X0_laySums_53 {l : Launch} {p : Program} {e : Env} {s : State} {m : MethodId} {args : Array Value} {below : List Frame} {meth : Method} {c : Code} {K : ix_Cx} (hKp : ix_Kp K) {n : Nat} {z : ix_Z} (X : ix_X p s m args c K cX0_laySums RX0 9) (hr : meth.sig.returnType = (some (.array .int))) (hlk : meth.locks = false) {rec28 : Int32 → ix_D2 → Option (Option Nat × ix_Z × ix_D2)} {a0 : Nat} {a1 : Nat} {a2 : Nat} {x3 : Int32} {x4 : Int32} {rec53 : Int32 → Int32 → ix_D2 → Option (Option Nat × ix_Z × ix_D2)} {r : Option Nat} {z1 : ix_Z} {d1 : ix_D2} (hrec28 : ∀ (x3 : Int32) (d : ix_D2), rec28 x3 d = some (r, z1, d1) → ix_G p l e (ix_rm 4 94 1 14) s m args below meth c (MQ below (ix_Post K (some (ix_rv K r)) (ix_w z1 d1)) args s 1 14 (ix_A K)) K 9 1 14 28 [(0, .ref (K.2.2.1 + a0)), (1, .ref (K.2.2.1 + a1)), (2, .ref (K.2.2.1 + a2)), (3, .int x3)] [] (ix_w z d)) (hrec53 : ∀ (x5 : Int32) (x6 : Int32) (d : ix_D2), rec53 x5 x6 d = some (r, z1, d1) → ix_G p l e (ix_rm 4 94 1 14) s m args below meth c (MQ below (ix_Post K (some (ix_rv K r)) (ix_w z1 d1)) args s 1 14 (ix_A K)) K 9 1 14 53 [(0, .ref (K.2.2.1 + a0)), (1, .ref (K.2.2.1 + a1)), (2, .ref (K.2.2.1 + a2)), (3, .int x3), (4, .int x4), (5, .int x5), (6, .int x6)] [] (ix_w z d)) {x5 : Int32} {x6 : Int32} {d : ix_D2} (h : b_X0_laySums_53 n z rec28 a0 a1 a2 x3 x4 rec53 x5 x6 d = some (r, z1, d1)) : ix_G p l e (ix_rm 4 94 1 14) s m args below meth c (MQ below (ix_Post K (some (ix_rv K r)) (ix_w z1 d1)) args s 1 14 (ix_A K)) K 9 1 14 53 [(0, .ref (K.2.2.1 + a0)), (1, .ref (K.2.2.1 + a1)), (2, .ref (K.2.2.1 + a2)), (3, .int x3), (4, .int x4), (5, .int x5), (6, .int x6)] [] (ix_w z d) := by
  unfold b_X0_laySums_53 at h
  refine ix_iload (i := 6) (j := 6) X (ix_tb_at tb_X0_laySums 35 rfl) rfl (pc1 := 55) rfl ?_
  refine ix_iload_n (i := 3) (j := 3) X (ix_tb_at tb_X0_laySums 36 rfl) rfl rfl (pc1 := 56) rfl ?_
  refine ix_icmp_gt (tgt := 162) X (ix_tb_at tb_X0_laySums 37 rfl) (by decide) (pc1 := 59) rfl (fun q_20 => ?_) (fun q_20 => ?_)
  · have h := ix_ift q_20 h
    refine ix_sub (L1 := [(0, .ref (K.2.2.1 + a0)), (1, .ref (K.2.2.1 + a1)), (2, .ref (K.2.2.1 + a2)), (3, .int x3)]) [0, 1, 2, 3] rfl ?_
    exact t_X0_laySums_162 hKp X hr hlk hrec28 h
  · have h := ix_iff q_20 h
    refine ix_iload (i := 6) (j := 6) X (ix_tb_at tb_X0_laySums 38 rfl) rfl (pc1 := 61) rfl ?_
    refine ix_aload_n (i := 0) (j := 0) X (ix_tb_at tb_X0_laySums 39 rfl) rfl rfl (pc1 := 62) rfl ?_
    obtain ⟨k_23, h⟩ := ix_ck_some h
    refine iz_getI X fl_RX0_7 k_23 (ix_tb_at tb_X0_laySums 40 rfl) (pc1 := 65) rfl ?_
    refine ix_iconst (v := 1) X (ix_tb_at tb_X0_laySums 41 rfl) (by decide) (pc1 := 66) rfl ?_
    refine ix_iadd X (ix_tb_at tb_X0_laySums 42 rfl) (pc1 := 67) rfl ?_
    refine ix_icmp_gt (tgt := 162) X (ix_tb_at tb_X0_laySums 43 rfl) (by decide) (pc1 := 70) rfl (fun q_24 => ?_) (fun q_24 => ?_)
    · have h := ix_ift q_24 h
      refine ix_sub (L1 := [(0, .ref (K.2.2.1 + a0)), (1, .ref (K.2.2.1 + a1)), (2, .ref (K.2.2.1 + a2)), (3, .int x3)]) [0, 1, 2, 3] rfl ?_
      exact t_X0_laySums_162 hKp X hr hlk hrec28 h
    · have h := ix_iff q_24 h
      refine ix_iload (i := 6) (j := 6) X (ix_tb_at tb_X0_laySums 44 rfl) rfl (pc1 := 72) rfl ?_
      refine ix_iload_n (i := 3) (j := 3) X (ix_tb_at tb_X0_laySums 45 rfl) rfl rfl (pc1 := 73) rfl ?_
      refine ix_icmp_ge (tgt := 83) X (ix_tb_at tb_X0_laySums 46 rfl) (by decide) (pc1 := 76) rfl (fun q_25 => ?_) (fun q_25 => ?_)
      · have h := ix_ift q_25 h
        refine ix_iconst (v := 0) X (ix_tb_at tb_X0_laySums 51 rfl) (by decide) (pc1 := 84) rfl ?_
        refine ix_sub (L1 := [(0, .ref (K.2.2.1 + a0)), (1, .ref (K.2.2.1 + a1)), (2, .ref (K.2.2.1 + a2)), (3, .int x3), (4, .int x4), (5, .int x5), (6, .int x6)]) [0, 1, 2, 3, 4, 5, 6] rfl ?_
        exact t_X0_laySums_84 hKp X hr hlk hrec28 hrec53 h
      · have h := ix_iff q_25 h
        refine ix_aload_n (i := 2) (j := 2) X (ix_tb_at tb_X0_laySums 47 rfl) rfl rfl (pc1 := 77) rfl ?_
        refine ix_iload (i := 6) (j := 6) X (ix_tb_at tb_X0_laySums 48 rfl) rfl (pc1 := 79) rfl ?_
        obtain ⟨k_46, h⟩ := ix_ck_some h
        refine iz_iald X k_46 (ix_tb_at tb_X0_laySums 49 rfl) (pc1 := 80) rfl ?_
        refine ix_goto (tgt := 84) X (ix_tb_at tb_X0_laySums 50 rfl) (by decide) ?_
        refine ix_sub (L1 := [(0, .ref (K.2.2.1 + a0)), (1, .ref (K.2.2.1 + a1)), (2, .ref (K.2.2.1 + a2)), (3, .int x3), (4, .int x4), (5, .int x5), (6, .int x6)]) [0, 1, 2, 3, 4, 5, 6] rfl ?_
        exact t_X0_laySums_84 hKp X hr hlk hrec28 hrec53 h
theorem t_X0_laySums_53 {l : Launch} {p : Program} {e : Env} {s : State} {m : MethodId} {args : Array Value} {below : List Frame} {meth : Method} {c : Code} {K : ix_Cx} (hKp : ix_Kp K) {n : Nat} {z : ix_Z} (X : ix_X p s m args c K cX0_laySums RX0 9) (hr : meth.sig.returnType = (some (.array .int))) (hlk : meth.locks = false) {rec28 : Int32 → ix_D2 → Option (Option Nat × ix_Z × ix_D2)} {a0 : Nat} {a1 : Nat} {a2 : Nat} {x3 : Int32} {x4 : Int32} {r : Option Nat} {z1 : ix_Z} {d1 : ix_D2} (hrec28 : ∀ (x3 : Int32) (d : ix_D2), rec28 x3 d = some (r, z1, d1) → ix_G p l e (ix_rm 4 94 1 14) s m args below meth c (MQ below (ix_Post K (some (ix_rv K r)) (ix_w z1 d1)) args s 1 14 (ix_A K)) K 9 1 14 28 [(0, .ref (K.2.2.1 + a0)), (1, .ref (K.2.2.1 + a1)), (2, .ref (K.2.2.1 + a2)), (3, .int x3)] [] (ix_w z d)) {x5 : Int32} {x6 : Int32} {d : ix_D2} (h : f_X0_laySums_53 n z rec28 a0 a1 a2 x3 x4 x5 x6 d = some (r, z1, d1)) : ix_G p l e (ix_rm 4 94 1 14) s m args below meth c (MQ below (ix_Post K (some (ix_rv K r)) (ix_w z1 d1)) args s 1 14 (ix_A K)) K 9 1 14 53 [(0, .ref (K.2.2.1 + a0)), (1, .ref (K.2.2.1 + a1)), (2, .ref (K.2.2.1 + a2)), (3, .int x3), (4, .int x4), (5, .int x5), (6, .int x6)] [] (ix_w z d) := by
  have key : ∀ (f : Nat) (x5 : Int32) (x6 : Int32) (d : ix_D2), ix_fix (b_X0_laySums_53 n z rec28 a0 a1 a2 x3 x4) (fun _ _ _ => none) f x5 x6 d = some (r, z1, d1) → ix_G p l e (ix_rm 4 94 1 14) s m args below meth c (MQ below (ix_Post K (some (ix_rv K r)) (ix_w z1 d1)) args s 1 14 (ix_A K)) K 9 1 14 53 [(0, .ref (K.2.2.1 + a0)), (1, .ref (K.2.2.1 + a1)), (2, .ref (K.2.2.1 + a2)), (3, .int x3), (4, .int x4), (5, .int x5), (6, .int x6)] [] (ix_w z d) := by
    intro f
    induction f with
    | zero =>
      intro x5 x6 d h
      have h : (none : Option (Option Nat × ix_Z × ix_D2)) = some (r, z1, d1) := h
      cases h
    | succ f ih =>
      intro x5 x6 d h
      exact tb_X0_laySums_53 hKp X hr hlk (rec53 := ix_fix (b_X0_laySums_53 n z rec28 a0 a1 a2 x3 x4) (fun _ _ _ => none) f) hrec28 ih h
  exact key n x5 x6 d h
set_option maxRecDepth 20000 in
theorem tb_X0_laySums_28 {l : Launch} {p : Program} {e : Env} {s : State} {m : MethodId} {args : Array Value} {below : List Frame} {meth : Method} {c : Code} {K : ix_Cx} (hKp : ix_Kp K) {n : Nat} {z : ix_Z} (X : ix_X p s m args c K cX0_laySums RX0 9) (hr : meth.sig.returnType = (some (.array .int))) (hlk : meth.locks = false)  {a0 : Nat} {a1 : Nat} {a2 : Nat} {rec28 : Int32 → ix_D2 → Option (Option Nat × ix_Z × ix_D2)} {r : Option Nat} {z1 : ix_Z} {d1 : ix_D2} (hrec28 : ∀ (x3 : Int32) (d : ix_D2), rec28 x3 d = some (r, z1, d1) → ix_G p l e (ix_rm 4 94 1 14) s m args below meth c (MQ below (ix_Post K (some (ix_rv K r)) (ix_w z1 d1)) args s 1 14 (ix_A K)) K 9 1 14 28 [(0, .ref (K.2.2.1 + a0)), (1, .ref (K.2.2.1 + a1)), (2, .ref (K.2.2.1 + a2)), (3, .int x3)] [] (ix_w z d)) {x3 : Int32} {d : ix_D2} (h : b_X0_laySums_28 n z  a0 a1 a2 rec28 x3 d = some (r, z1, d1)) : ix_G p l e (ix_rm 4 94 1 14) s m args below meth c (MQ below (ix_Post K (some (ix_rv K r)) (ix_w z1 d1)) args s 1 14 (ix_A K)) K 9 1 14 28 [(0, .ref (K.2.2.1 + a0)), (1, .ref (K.2.2.1 + a1)), (2, .ref (K.2.2.1 + a2)), (3, .int x3)] [] (ix_w z d) := by
  unfold b_X0_laySums_28 at h
  refine ix_iload_n (i := 3) (j := 3) X (ix_tb_at tb_X0_laySums 19 rfl) rfl rfl (pc1 := 29) rfl ?_
  refine ix_aload_n (i := 0) (j := 0) X (ix_tb_at tb_X0_laySums 20 rfl) rfl rfl (pc1 := 30) rfl ?_
  obtain ⟨k_12, h⟩ := ix_ck_some h
  obtain ⟨b_13, q_14, h⟩ := ix_bd1_ex h
  refine iz_getR X fl_RX0_17 k_12 q_14 (ix_tb_at tb_X0_laySums 21 rfl) (pc1 := 33) rfl ?_
  obtain ⟨k_15, h⟩ := ix_ck_some h
  refine iz_alen X k_15 (ix_tb_at tb_X0_laySums 22 rfl) (pc1 := 34) rfl ?_
  refine ix_icmp_gt (tgt := 168) X (ix_tb_at tb_X0_laySums 23 rfl) (by decide) (pc1 := 37) rfl (fun q_16 => ?_) (fun q_16 => ?_)
  · have h := ix_ift q_16 h
    refine ix_aload_n (i := 2) (j := 2) X (ix_tb_at tb_X0_laySums 95 rfl) rfl rfl (pc1 := 169) rfl ?_
    exact ix_aret (v := (some a2)) X hr (Or.inr ⟨_, rfl⟩) hlk (ix_r3 (f := fun r => some (ix_rv K r)) (g := ix_w) h) (ix_tb_at tb_X0_laySums 96 rfl)
  · have h := ix_iff q_16 h
    refine ix_aload_n (i := 0) (j := 0) X (ix_tb_at tb_X0_laySums 24 rfl) rfl rfl (pc1 := 38) rfl ?_
    refine iz_getR X fl_RX0_17 k_12 q_14 (ix_tb_at tb_X0_laySums 25 rfl) (pc1 := 41) rfl ?_
    refine ix_iload_n (i := 3) (j := 3) X (ix_tb_at tb_X0_laySums 26 rfl) rfl rfl (pc1 := 42) rfl ?_
    refine ix_iconst (v := 1) X (ix_tb_at tb_X0_laySums 27 rfl) (by decide) (pc1 := 43) rfl ?_
    refine ix_isub X (ix_tb_at tb_X0_laySums 28 rfl) (pc1 := 44) rfl ?_
    obtain ⟨k_17, h⟩ := ix_ck_some h
    refine iz_iald X k_17 (ix_tb_at tb_X0_laySums 29 rfl) (pc1 := 45) rfl ?_
    obtain ⟨x4_18, e_19, h⟩ := ix_lt_ex h
    refine ix_nmi e_19 ?_
    refine ix_istore (i := 4) (L1 := [(4, .int x4_18), (0, .ref (K.2.2.1 + a0)), (1, .ref (K.2.2.1 + a1)), (2, .ref (K.2.2.1 + a2)), (3, .int x3)]) X (ix_tb_at tb_X0_laySums 30 rfl) (Nat.le_of_ble_eq_true rfl) rfl (pc1 := 47) rfl ?_
    refine ix_iconst (v := 0) X (ix_tb_at tb_X0_laySums 31 rfl) (by decide) (pc1 := 48) rfl ?_
    refine ix_istore (i := 5) (L1 := [(5, .int 0), (4, .int x4_18), (0, .ref (K.2.2.1 + a0)), (1, .ref (K.2.2.1 + a1)), (2, .ref (K.2.2.1 + a2)), (3, .int x3)]) X (ix_tb_at tb_X0_laySums 32 rfl) (Nat.le_of_ble_eq_true rfl) rfl (pc1 := 50) rfl ?_
    refine ix_iconst (v := 1) X (ix_tb_at tb_X0_laySums 33 rfl) (by decide) (pc1 := 51) rfl ?_
    refine ix_istore (i := 6) (L1 := [(6, .int 1), (5, .int 0), (4, .int x4_18), (0, .ref (K.2.2.1 + a0)), (1, .ref (K.2.2.1 + a1)), (2, .ref (K.2.2.1 + a2)), (3, .int x3)]) X (ix_tb_at tb_X0_laySums 34 rfl) (Nat.le_of_ble_eq_true rfl) rfl (pc1 := 53) rfl ?_
    refine ix_sub (L1 := [(0, .ref (K.2.2.1 + a0)), (1, .ref (K.2.2.1 + a1)), (2, .ref (K.2.2.1 + a2)), (3, .int x3), (4, .int x4_18), (5, .int 0), (6, .int 1)]) [3, 4, 5, 6, 2, 1, 0] rfl ?_
    exact t_X0_laySums_53 hKp X hr hlk hrec28 h
theorem t_X0_laySums_28 {l : Launch} {p : Program} {e : Env} {s : State} {m : MethodId} {args : Array Value} {below : List Frame} {meth : Method} {c : Code} {K : ix_Cx} (hKp : ix_Kp K) {n : Nat} {z : ix_Z} (X : ix_X p s m args c K cX0_laySums RX0 9) (hr : meth.sig.returnType = (some (.array .int))) (hlk : meth.locks = false)  {a0 : Nat} {a1 : Nat} {a2 : Nat} {r : Option Nat} {z1 : ix_Z} {d1 : ix_D2}  {x3 : Int32} {d : ix_D2} (h : f_X0_laySums_28 n z  a0 a1 a2 x3 d = some (r, z1, d1)) : ix_G p l e (ix_rm 4 94 1 14) s m args below meth c (MQ below (ix_Post K (some (ix_rv K r)) (ix_w z1 d1)) args s 1 14 (ix_A K)) K 9 1 14 28 [(0, .ref (K.2.2.1 + a0)), (1, .ref (K.2.2.1 + a1)), (2, .ref (K.2.2.1 + a2)), (3, .int x3)] [] (ix_w z d) := by
  have key : ∀ (f : Nat) (x3 : Int32) (d : ix_D2), ix_fix (b_X0_laySums_28 n z  a0 a1 a2) (fun _ _ => none) f x3 d = some (r, z1, d1) → ix_G p l e (ix_rm 4 94 1 14) s m args below meth c (MQ below (ix_Post K (some (ix_rv K r)) (ix_w z1 d1)) args s 1 14 (ix_A K)) K 9 1 14 28 [(0, .ref (K.2.2.1 + a0)), (1, .ref (K.2.2.1 + a1)), (2, .ref (K.2.2.1 + a2)), (3, .int x3)] [] (ix_w z d) := by
    intro f
    induction f with
    | zero =>
      intro x3 d h
      have h : (none : Option (Option Nat × ix_Z × ix_D2)) = some (r, z1, d1) := h
      cases h
    | succ f ih =>
      intro x3 d h
      exact tb_X0_laySums_28 hKp X hr hlk (rec28 := ix_fix (b_X0_laySums_28 n z  a0 a1 a2) (fun _ _ => none) f)  ih h
  exact key n x3 d h
set_option maxRecDepth 20000 in
theorem t_X0_laySums_26 {l : Launch} {p : Program} {e : Env} {s : State} {m : MethodId} {args : Array Value} {below : List Frame} {meth : Method} {c : Code} {K : ix_Cx} (hKp : ix_Kp K) {n : Nat} {z : ix_Z} (X : ix_X p s m args c K cX0_laySums RX0 9) (hr : meth.sig.returnType = (some (.array .int))) (hlk : meth.locks = false)  {a0 : Nat} {a1 : Nat} {a2 : Nat} {r : Option Nat} {z1 : ix_Z} {d1 : ix_D2}  {d : ix_D2} (h : f_X0_laySums_26 n z  a0 a1 a2 d = some (r, z1, d1)) : ix_G p l e (ix_rm 4 94 1 14) s m args below meth c (MQ below (ix_Post K (some (ix_rv K r)) (ix_w z1 d1)) args s 1 14 (ix_A K)) K 9 1 14 26 [(0, .ref (K.2.2.1 + a0)), (1, .ref (K.2.2.1 + a1)), (2, .ref (K.2.2.1 + a2))] [] (ix_w z d) := by
  unfold f_X0_laySums_26 at h
  refine ix_iconst (v := 2) X (ix_tb_at tb_X0_laySums 17 rfl) (by decide) (pc1 := 27) rfl ?_
  refine ix_istore_n (i := 3) (L1 := [(3, .int 2), (0, .ref (K.2.2.1 + a0)), (1, .ref (K.2.2.1 + a1)), (2, .ref (K.2.2.1 + a2))]) X (ix_tb_at tb_X0_laySums 18 rfl) rfl (Nat.le_of_ble_eq_true rfl) rfl (pc1 := 28) rfl ?_
  refine ix_sub (L1 := [(0, .ref (K.2.2.1 + a0)), (1, .ref (K.2.2.1 + a1)), (2, .ref (K.2.2.1 + a2)), (3, .int 2)]) [1, 2, 3, 0] rfl ?_
  exact t_X0_laySums_28 hKp X hr hlk  h
set_option maxRecDepth 20000 in
theorem c_X0_laySums {l : Launch} {K : ix_Cx} (hKp : ix_Kp K) {n : Nat} {z : ix_Z} {a0 : Nat} {a1 : Nat} {d : ix_D2} {r : Option Nat} {z1 : ix_Z} {d1 : ix_D2} (h : f_X0_laySums n z a0 a1 d = some (r, z1, d1)) : ix_M l K yX0_laySums cX0_laySums 9 (some (.array .int)) 4 94 1 14 [.ref (K.2.2.1 + a0), .ref (K.2.2.1 + a1)] (ix_w z d) (some (ix_rv K r)) (ix_w z1 d1) := by
  refine ix_met mf_X0_laySums hKp (Nat.le_of_ble_eq_true rfl) ?_
  intro p e s m args below meth c hr hlk hnm X
  have X : ix_X p s m args c K cX0_laySums RX0 9 := X
  show ix_G p l e (ix_rm 4 94 1 14) s m args below meth c (MQ below (ix_Post K (some (ix_rv K r)) (ix_w z1 d1)) args s 1 14 (ix_A K)) K 9 0 0 0 [(0, .ref (K.2.2.1 + a0)), (1, .ref (K.2.2.1 + a1))] [] (ix_w z d)
  unfold f_X0_laySums at h
  refine ix_aload_n (i := 0) (j := 0) X (ix_tb_at tb_X0_laySums 0 rfl) rfl rfl (pc1 := 1) rfl ?_
  obtain ⟨k_1, h⟩ := ix_ck_some h
  refine iz_getI X fl_RX0_7 k_1 (ix_tb_at tb_X0_laySums 1 rfl) (pc1 := 4) rfl ?_
  refine ix_iconst (v := 2) X (ix_tb_at tb_X0_laySums 2 rfl) (by decide) (pc1 := 5) rfl ?_
  refine ix_iadd X (ix_tb_at tb_X0_laySums 3 rfl) (pc1 := 6) rfl ?_
  obtain ⟨k_2, h⟩ := ix_ck_some h
  obtain ⟨z_3, e_4, h⟩ := ix_lt_ex h
  obtain ⟨d_5, e_6, h⟩ := ix_lt_ex h
  refine iz_newa_int (pl := 98) X (by decide +kernel) k_2.1 (Nat.le_trans k_2.2 (by decide)) (Nat.le_of_ble_eq_true rfl) (Nat.le_trans (Nat.add_le_add_left k_2.2 _) (Nat.le_of_ble_eq_true rfl)) (ix_tb_at tb_X0_laySums 4 rfl) e_4 e_6 (pc1 := 8) rfl ?_
  refine ix_widen (k1 := 1) (n1 := 14) (Nat.le_of_ble_eq_true rfl) (Nat.le_trans (Nat.add_le_add_left k_2.2 _) (Nat.le_of_ble_eq_true rfl)) ?_
  refine ix_astore_n (i := 2) (L1 := [(2, .ref (K.2.2.1 + z_3.2.2)), (0, .ref (K.2.2.1 + a0)), (1, .ref (K.2.2.1 + a1))]) X (ix_tb_at tb_X0_laySums 5 rfl) rfl (Nat.le_of_ble_eq_true rfl) rfl (pc1 := 9) rfl ?_
  refine ix_aload_n (i := 0) (j := 1) X (ix_tb_at tb_X0_laySums 6 rfl) rfl rfl (pc1 := 10) rfl ?_
  obtain ⟨k_7, h⟩ := ix_ck_some h
  obtain ⟨b_8, q_9, h⟩ := ix_bd1_ex h
  refine iz_getR X fl_RX0_17 k_7 q_9 (ix_tb_at tb_X0_laySums 7 rfl) (pc1 := 13) rfl ?_
  obtain ⟨k_10, h⟩ := ix_ck_some h
  refine iz_alen X k_10 (ix_tb_at tb_X0_laySums 8 rfl) (pc1 := 14) rfl ?_
  refine ix_if_le (tgt := 26) X (ix_tb_at tb_X0_laySums 9 rfl) (by decide) (pc1 := 17) rfl (fun q_11 => ?_) (fun q_11 => ?_)
  · have h := ix_ift q_11 h
    refine ix_sub (L1 := [(0, .ref (K.2.2.1 + a0)), (1, .ref (K.2.2.1 + a1)), (2, .ref (K.2.2.1 + z.2.2))]) [1, 2, 0] rfl ?_
    exact t_X0_laySums_26 hKp X hr hlk  h
  · have h := ix_iff q_11 h
    refine ix_aload_n (i := 2) (j := 0) X (ix_tb_at tb_X0_laySums 10 rfl) rfl rfl (pc1 := 18) rfl ?_
    refine ix_iconst (v := 1) X (ix_tb_at tb_X0_laySums 11 rfl) (by decide) (pc1 := 19) rfl ?_
    refine ix_aload_n (i := 0) (j := 1) X (ix_tb_at tb_X0_laySums 12 rfl) rfl rfl (pc1 := 20) rfl ?_
    refine iz_getR X fl_RX0_17 k_7 q_9 (ix_tb_at tb_X0_laySums 13 rfl) (pc1 := 23) rfl ?_
    refine ix_iconst (v := 0) X (ix_tb_at tb_X0_laySums 14 rfl) (by decide) (pc1 := 24) rfl ?_
    obtain ⟨k_47, h⟩ := ix_ck_some h
    refine iz_iald X k_47 (ix_tb_at tb_X0_laySums 15 rfl) (pc1 := 25) rfl ?_
    obtain ⟨k_48, h⟩ := ix_ck_some h
    obtain ⟨d_49, e_50, h⟩ := ix_lt_ex h
    refine iz_iast X k_48 (ix_tb_at tb_X0_laySums 16 rfl) e_50 (pc1 := 26) rfl ?_
    refine ix_sub (L1 := [(0, .ref (K.2.2.1 + a0)), (1, .ref (K.2.2.1 + a1)), (2, .ref (K.2.2.1 + z.2.2))]) [1, 2, 0] rfl ?_
    exact t_X0_laySums_26 hKp X hr hlk  h
def tab_X0_layInto : List (Nat × Instr × Nat) := [(0, .aload_n 0, 1), (1, .aload_n 1, 1), (2, .invokevirtual 13, 3), (5, .astore_n 2, 1), (6, .aload_n 0, 1), (7, .getfield 17, 3), (10, .arraylength, 1), (11, .aload_n 0, 1), (12, .getfield 7, 3), (15, .if_icmp .le 18, 3), (18, .aload_n 1, 1), (19, .aload_n 2, 1), (20, .aload_n 0, 1), (21, .getfield 7, 3), (24, .iconst 1, 1), (25, .iadd, 1), (26, .iaload, 1), (27, .ineg, 1), (28, .iconst 0, 1), (29, .iconst 0, 1), (30, .invokevirtual 21, 3), (33, .return_, 1)]
theorem tb_X0_layInto : ix_tab cX0_layInto tab_X0_layInto := by
  unfold ix_tab
  decide +kernel
noncomputable def v_RX0_13 (n : Nat) (z : ix_Z) (b : Nat) (p0 : Nat) (d : ix_D2) : Option (Option Nat × ix_Z × ix_D2) := ix_if ((z.2.1 b).1 = 0) (f_X0_laySums n z b p0 d) (f_X0_laySums n z b p0 d)
theorem tv_RX0_13 {l : Launch} {p : Program} {e : Env} {s : State} {m : MethodId} {args : Array Value} {below : List Frame} {meth : Method} {c : Code} {K : ix_Cx} {R : Room} {Q : State → Prop} {nL k n pc : Nat} {cc : ByteArray} {L : List (Nat × Value)} {rest : List Value} (hKp : ix_Kp K) (X : ix_X p s m args c K cc RX0 nL) {N : Nat} {z : ix_Z} {b : Nat} {p0 : Nat} {d : ix_D2} {r : Option Nat} {z1 : ix_Z} {d1 : ix_D2} (hk : ix_ok z [0, 5] b) (hcall : v_RX0_13 N z b p0 d = some (r, z1, d1)) (hfr : 5 ≤ R.frames) (hlo : 122 ≤ R.locals) (hcs : k + 1 ≤ R.cells ∧ n + 14 ≤ R.slots) (hrm : (rest.map fun v => v.category).sum ≤ 8) (hd : decode cc pc = .ok (.invokevirtual 13, 3)) {pc1 : Nat} (hp : pc + 3 = pc1) (kk : ix_G p l e R s m args below meth c Q K nL (k + 1) (n + 14) pc1 L (ix_rv K r :: rest) (ix_w z1 d1)) : ix_G p l e R s m args below meth c Q K nL k n pc L (.ref (K.2.2.1 + p0) :: .ref (K.2.2.1 + b) :: rest) (ix_w z d) := by
  unfold v_RX0_13 at hcall
  have h2 := hk.2
  simp only [List.mem_cons, List.not_mem_nil, or_false] at h2
  rcases h2 with h2 | h2
  · have hcall := ix_ift h2 hcall
    exact ix_callU (As := [.ref (K.2.2.1 + p0)]) (rest := rest) (x := (⟨"ClauseCourt$AtMost", "laySums", "(LClauseCourt$Case;)[I"⟩ : MethodName)) (owner := "ClauseCourt$AtMost") (C := RX0) (T := TX0) (nf := 4) (ci := 0) X mf_X0_laySums mi_X0_laySums (ix_wm (i := 541) (by decide +kernel)) (ix_wm (i := 542) (by decide +kernel)) (Or.inl (ix_wm (i := 576) (by decide +kernel))) ⟨by decide, by decide⟩ (by decide +kernel) rfl (by decide) ml_RX0_13 ⟨Nat.le_trans (Nat.le_of_ble_eq_true rfl) hfr, Nat.le_trans (Nat.le_of_ble_eq_true rfl) hlo⟩ ⟨Nat.le_trans (Nat.add_le_add_left (by decide) _) hcs.1, Nat.le_trans (Nat.add_le_add_left (by decide) _) hcs.2⟩ rfl hrm hd ⟨hk.1, h2⟩ (c_X0_laySums hKp hcall) rfl hp (ix_widen (Nat.add_le_add_left (by decide) _) (Nat.add_le_add_left (by decide) _) kk)
  · have hcall := ix_iff (by rw [h2]; decide) hcall
    exact ix_callU (As := [.ref (K.2.2.1 + p0)]) (rest := rest) (x := (⟨"ClauseCourt$AtMost", "laySums", "(LClauseCourt$Case;)[I"⟩ : MethodName)) (owner := "ClauseCourt$AtMost") (C := RX5) (T := TX5) (nf := 4) (ci := 5) X mf_X0_laySums mi_X0_laySums (ix_wm (i := 543) (by decide +kernel)) (ix_wm (i := 542) (by decide +kernel)) (Or.inl (ix_wm (i := 576) (by decide +kernel))) ⟨by decide, by decide⟩ (by decide +kernel) rfl (by decide) ml_RX0_13 ⟨Nat.le_trans (Nat.le_of_ble_eq_true rfl) hfr, Nat.le_trans (Nat.le_of_ble_eq_true rfl) hlo⟩ ⟨Nat.le_trans (Nat.add_le_add_left (by decide) _) hcs.1, Nat.le_trans (Nat.add_le_add_left (by decide) _) hcs.2⟩ rfl hrm hd ⟨hk.1, h2⟩ (c_X0_laySums hKp hcall) rfl hp (ix_widen (Nat.add_le_add_left (by decide) _) (Nat.add_le_add_left (by decide) _) kk)
noncomputable def f_X0_layInto (n : Nat) (z : ix_Z) (a0 : Nat) (a1 : Nat) (d : ix_D2) : Option (ix_Z × ix_D2) :=
  ix_ck (ix_ok z [0, 5] a0) (ix_bd3 (v_RX0_13 n z a0 a1 d) (fun r_5 z_3 d_2 => ix_bd1 r_5 (fun b_6 => ix_ck (ix_ok z_3 [0, 5] a0) (ix_bd1 (z_3.1 a0 0) (fun b_9 => ix_ck (b_9 < z_3.2.2 ∧ 20 ≤ (z_3.2.1 b_9).1 ∧ (z_3.2.1 b_9).1 < 26) (ix_if (nI (z_3.2.1 b_9).2 ≤ d_2.1 a0 3) (some (z_3, d_2)) (ix_ck (ix_ix z_3 20 b_6 ((d_2.1 a0 3) + 1)) (ix_ck (ix_ok z_3 [2] a1) (ix_bd1 (f_X2_lay n z_3 a1 (-(d_2.1 b_6 (ix_n ((d_2.1 a0 3) + 1)))) 0 0 d_2) (fun d_14 => some (z_3, d_14)))))))))))
set_option maxRecDepth 20000 in
theorem c_X0_layInto {l : Launch} {K : ix_Cx} (hKp : ix_Kp K) {n : Nat} {z : ix_Z} {a0 : Nat} {a1 : Nat} {d : ix_D2} {z1 : ix_Z} {d1 : ix_D2} (h : f_X0_layInto n z a0 a1 d = some (z1, d1)) : ix_M l K yX0_layInto cX0_layInto 3 (none : Option Jvm.ClassFile.FieldType) 5 122 1 14 [.ref (K.2.2.1 + a0), .ref (K.2.2.1 + a1)] (ix_w z d) none (ix_w z1 d1) := by
  refine ix_met mf_X0_layInto hKp (Nat.le_of_ble_eq_true rfl) ?_
  intro p e s m args below meth c hr hlk hnm X
  have X : ix_X p s m args c K cX0_layInto RX0 3 := X
  show ix_G p l e (ix_rm 5 122 1 14) s m args below meth c (MQ below (ix_Post K none (ix_w z1 d1)) args s 1 14 (ix_A K)) K 3 0 0 0 [(0, .ref (K.2.2.1 + a0)), (1, .ref (K.2.2.1 + a1))] [] (ix_w z d)
  unfold f_X0_layInto at h
  refine ix_aload_n (i := 0) (j := 0) X (ix_tb_at tb_X0_layInto 0 rfl) rfl rfl (pc1 := 1) rfl ?_
  refine ix_aload_n (i := 1) (j := 1) X (ix_tb_at tb_X0_layInto 1 rfl) rfl rfl (pc1 := 2) rfl ?_
  obtain ⟨k_1, h⟩ := ix_ck_some h
  obtain ⟨r_5, z_3, d_2, h_4, h⟩ := ix_bd3_ex h
  refine tv_RX0_13 (rest := []) hKp X k_1 h_4 (Nat.le_of_ble_eq_true rfl) (Nat.le_of_ble_eq_true rfl) ⟨Nat.le_of_ble_eq_true rfl, Nat.le_of_ble_eq_true rfl⟩ (Nat.le_of_ble_eq_true rfl) (ix_tb_at tb_X0_layInto 2 rfl) (pc1 := 5) rfl ?_
  obtain ⟨b_6, q_7, h⟩ := ix_bd1_ex h
  refine ix_rvs q_7 ?_
  refine ix_astore_n (i := 2) (L1 := [(2, .ref (K.2.2.1 + b_6)), (0, .ref (K.2.2.1 + a0)), (1, .ref (K.2.2.1 + a1))]) X (ix_tb_at tb_X0_layInto 3 rfl) rfl (Nat.le_of_ble_eq_true rfl) rfl (pc1 := 6) rfl ?_
  refine ix_aload_n (i := 0) (j := 1) X (ix_tb_at tb_X0_layInto 4 rfl) rfl rfl (pc1 := 7) rfl ?_
  obtain ⟨k_8, h⟩ := ix_ck_some h
  obtain ⟨b_9, q_10, h⟩ := ix_bd1_ex h
  refine iz_getR X fl_RX0_17 k_8 q_10 (ix_tb_at tb_X0_layInto 5 rfl) (pc1 := 10) rfl ?_
  obtain ⟨k_11, h⟩ := ix_ck_some h
  refine iz_alen X k_11 (ix_tb_at tb_X0_layInto 6 rfl) (pc1 := 11) rfl ?_
  refine ix_aload_n (i := 0) (j := 1) X (ix_tb_at tb_X0_layInto 7 rfl) rfl rfl (pc1 := 12) rfl ?_
  refine iz_getI X fl_RX0_7 k_8 (ix_tb_at tb_X0_layInto 8 rfl) (pc1 := 15) rfl ?_
  refine ix_icmp_le (tgt := 33) X (ix_tb_at tb_X0_layInto 9 rfl) (by decide) (pc1 := 18) rfl (fun q_12 => ?_) (fun q_12 => ?_)
  · have h := ix_ift q_12 h
    exact ix_vret X hr hlk (ix_r2v (g := ix_w) h) (ix_tb_at tb_X0_layInto 21 rfl)
  · have h := ix_iff q_12 h
    refine ix_aload_n (i := 1) (j := 2) X (ix_tb_at tb_X0_layInto 10 rfl) rfl rfl (pc1 := 19) rfl ?_
    refine ix_aload_n (i := 2) (j := 0) X (ix_tb_at tb_X0_layInto 11 rfl) rfl rfl (pc1 := 20) rfl ?_
    refine ix_aload_n (i := 0) (j := 1) X (ix_tb_at tb_X0_layInto 12 rfl) rfl rfl (pc1 := 21) rfl ?_
    refine iz_getI X fl_RX0_7 k_8 (ix_tb_at tb_X0_layInto 13 rfl) (pc1 := 24) rfl ?_
    refine ix_iconst (v := 1) X (ix_tb_at tb_X0_layInto 14 rfl) (by decide) (pc1 := 25) rfl ?_
    refine ix_iadd X (ix_tb_at tb_X0_layInto 15 rfl) (pc1 := 26) rfl ?_
    obtain ⟨k_13, h⟩ := ix_ck_some h
    refine iz_iald X k_13 (ix_tb_at tb_X0_layInto 16 rfl) (pc1 := 27) rfl ?_
    refine ix_ineg X (ix_tb_at tb_X0_layInto 17 rfl) (pc1 := 28) rfl ?_
    refine ix_iconst (v := 0) X (ix_tb_at tb_X0_layInto 18 rfl) (by decide) (pc1 := 29) rfl ?_
    refine ix_iconst (v := 0) X (ix_tb_at tb_X0_layInto 19 rfl) (by decide) (pc1 := 30) rfl ?_
    obtain ⟨k_16, h⟩ := ix_ck_some h
    obtain ⟨d_14, h_15, h⟩ := ix_bd1_ex h
    refine ix_callV (As := [.int (-(d_2.1 b_6 (ix_n ((d_2.1 a0 3) + 1)))), .int 0, .int 0]) (rest := []) (ci := 2) (T := TX2) (nf := 12) X mf_X2_lay mi_X2_lay ms_X2_lay rfl (Nat.le_of_ble_eq_true rfl) ml_RX0_21 ⟨Nat.le_of_ble_eq_true rfl, Nat.le_of_ble_eq_true rfl⟩ ⟨Nat.le_of_ble_eq_true rfl, Nat.le_of_ble_eq_true rfl⟩ rfl (Nat.le_of_ble_eq_true rfl) (ix_tb_at tb_X0_layInto 20 rfl) ⟨k_16.1, List.mem_singleton.mp k_16.2⟩ (c_X2_lay hKp h_15) rfl (pc1 := 33) rfl ?_
    exact ix_vret X hr hlk (ix_r2v (g := ix_w) h) (ix_tb_at tb_X0_layInto 21 rfl)
def tab_X7_init : List (Nat × Instr × Nat) := [(0, .aload_n 0, 1), (1, .invokespecial 3, 3), (4, .aload_n 0, 1), (5, .iload_n 2, 1), (6, .newarray .int, 2), (8, .putfield 9, 3), (11, .aload_n 0, 1), (12, .iload_n 1, 1), (13, .iconst 1, 1), (14, .iadd, 1), (15, .newarray .int, 2), (17, .putfield 15, 3), (20, .return_, 1)]
theorem tb_X7_init : ix_tab cX7_init tab_X7_init := by
  unfold ix_tab
  decide +kernel
noncomputable def f_X7_init (n : Nat) (z : ix_Z) (a0 : Nat) (x1 : Int32) (x2 : Int32) (d : ix_D2) : Option (ix_Z × ix_D2) :=
  ix_ck (¬ x2 < 0 ∧ ix_n x2 ≤ 12000) (ix_lt (ix_zn z 20 (ix_n x2)) (fun z_2 => ix_lt (ix_dn d z.2.2) (fun d_4 => ix_ck (ix_ok z_2 [7] a0) (ix_lt (ix_zr z_2 a0 0 (some z_2.2.2)) (fun z_7 => ix_ck (¬ (x1 + 1) < 0 ∧ ix_n (x1 + 1) ≤ 1400) (ix_lt (ix_zn z_7 20 (ix_n (x1 + 1))) (fun z_10 => ix_lt (ix_dn d_4 z_7.2.2) (fun d_12 => ix_ck (ix_ok z_10 [7] a0) (ix_lt (ix_zr z_10 a0 1 (some z_7.2.2)) (fun z_15 => some (z_15, d_12)))))))))))
set_option maxRecDepth 20000 in
theorem c_X7_init {l : Launch} {K : ix_Cx} (hKp : ix_Kp K) {n : Nat} {z : ix_Z} {a0 : Nat} {x1 : Int32} {x2 : Int32} {d : ix_D2} {z1 : ix_Z} {d1 : ix_D2} (h : f_X7_init n z a0 x1 x2 d = some (z1, d1)) : ix_M l K yX7_init cX7_init 3 (none : Option Jvm.ClassFile.FieldType) 1 23 2 13400 [.ref (K.2.2.1 + a0), .int x1, .int x2] (ix_w z d) none (ix_w z1 d1) := by
  refine ix_met mf_X7_init hKp (Nat.le_of_ble_eq_true rfl) ?_
  intro p e s m args below meth c hr hlk hnm X
  have X : ix_X p s m args c K cX7_init RX7 3 := X
  have hnm : meth.name = "<init>" := hnm
  show ix_G p l e (ix_rm 1 23 2 13400) s m args below meth c (MQ below (ix_Post K none (ix_w z1 d1)) args s 2 13400 (ix_A K)) K 3 0 0 0 [(0, .ref (K.2.2.1 + a0)), (1, .int x1), (2, .int x2)] [] (ix_w z d)
  unfold f_X7_init at h
  refine ix_aload_n (i := 0) (j := 0) X (ix_tb_at tb_X7_init 0 rfl) rfl rfl (pc1 := 1) rfl ?_
  refine ix_objI (pl := 111) X (by decide +kernel) (Nat.le_of_ble_eq_true rfl) (Nat.le_of_ble_eq_true rfl) (ix_tb_at tb_X7_init 1 rfl) (pc1 := 4) rfl ?_
  refine ix_aload_n (i := 0) (j := 0) X (ix_tb_at tb_X7_init 2 rfl) rfl rfl (pc1 := 5) rfl ?_
  refine ix_iload_n (i := 2) (j := 2) X (ix_tb_at tb_X7_init 3 rfl) rfl rfl (pc1 := 6) rfl ?_
  obtain ⟨k_1, h⟩ := ix_ck_some h
  obtain ⟨z_2, e_3, h⟩ := ix_lt_ex h
  obtain ⟨d_4, e_5, h⟩ := ix_lt_ex h
  refine iz_newa_int (pl := 98) X (by decide +kernel) k_1.1 (Nat.le_trans k_1.2 (by decide)) (Nat.le_of_ble_eq_true rfl) (Nat.le_trans (Nat.add_le_add_left k_1.2 _) (Nat.le_of_ble_eq_true rfl)) (ix_tb_at tb_X7_init 4 rfl) e_3 e_5 (pc1 := 8) rfl ?_
  refine ix_widen (k1 := 1) (n1 := 12000) (Nat.le_of_ble_eq_true rfl) (Nat.le_trans (Nat.add_le_add_left k_1.2 _) (Nat.le_of_ble_eq_true rfl)) ?_
  obtain ⟨k_6, h⟩ := ix_ck_some h
  obtain ⟨z_7, e_8, h⟩ := ix_lt_ex h
  refine iz_putR (ty := .array .int) X fp_RX7_9 (fun _ => ⟨rfl, hnm⟩) k_6 (by decide +kernel) (by decide +kernel) (Or.inr ⟨_, rfl⟩) (ix_tb_at tb_X7_init 5 rfl) e_8 (pc1 := 11) rfl ?_
  refine ix_aload_n (i := 0) (j := 0) X (ix_tb_at tb_X7_init 6 rfl) rfl rfl (pc1 := 12) rfl ?_
  refine ix_iload_n (i := 1) (j := 1) X (ix_tb_at tb_X7_init 7 rfl) rfl rfl (pc1 := 13) rfl ?_
  refine ix_iconst (v := 1) X (ix_tb_at tb_X7_init 8 rfl) (by decide) (pc1 := 14) rfl ?_
  refine ix_iadd X (ix_tb_at tb_X7_init 9 rfl) (pc1 := 15) rfl ?_
  obtain ⟨k_9, h⟩ := ix_ck_some h
  obtain ⟨z_10, e_11, h⟩ := ix_lt_ex h
  obtain ⟨d_12, e_13, h⟩ := ix_lt_ex h
  refine iz_newa_int (pl := 98) X (by decide +kernel) k_9.1 (Nat.le_trans k_9.2 (by decide)) (Nat.le_of_ble_eq_true rfl) (Nat.le_trans (Nat.add_le_add_left k_9.2 _) (Nat.le_of_ble_eq_true rfl)) (ix_tb_at tb_X7_init 10 rfl) e_11 e_13 (pc1 := 17) rfl ?_
  refine ix_widen (k1 := 2) (n1 := 13400) (Nat.le_of_ble_eq_true rfl) (Nat.le_trans (Nat.add_le_add_left k_9.2 _) (Nat.le_of_ble_eq_true rfl)) ?_
  obtain ⟨k_14, h⟩ := ix_ck_some h
  obtain ⟨z_15, e_16, h⟩ := ix_lt_ex h
  refine iz_putR (ty := .array .int) X fp_RX7_15 (fun _ => ⟨rfl, hnm⟩) k_14 (by decide +kernel) (by decide +kernel) (Or.inr ⟨_, rfl⟩) (ix_tb_at tb_X7_init 11 rfl) e_16 (pc1 := 20) rfl ?_
  exact ix_vret X hr hlk (ix_r2v (g := ix_w) h) (ix_tb_at tb_X7_init 12 rfl)
def tab_X1_init : List (Nat × Instr × Nat) := [(0, .aload_n 0, 1), (1, .invokespecial 5, 3), (4, .aload_n 0, 1), (5, .new 11, 3), (8, .dup, 1), (9, .sipush 1364, 3), (12, .sipush 11780, 3), (15, .invokespecial 13, 3), (18, .putfield 16, 3), (21, .aload_n 0, 1), (22, .sipush 601, 3), (25, .newarray .int, 2), (27, .putfield 20, 3), (30, .aload_n 0, 1), (31, .sipush 11780, 3), (34, .newarray .int, 2), (36, .putfield 24, 3), (39, .aload_n 0, 1), (40, .sipush 11780, 3), (43, .newarray .int, 2), (45, .putfield 27, 3), (48, .aload_n 0, 1), (49, .sipush 1364, 3), (52, .newarray .int, 2), (54, .putfield 30, 3), (57, .aload_n 0, 1), (58, .bipush 22, 2), (60, .newarray .long, 2), (62, .putfield 33, 3), (65, .aload_n 0, 1), (66, .bipush 22, 2), (68, .newarray .long, 2), (70, .putfield 37, 3), (73, .aload_n 0, 1), (74, .sipush 301, 3), (77, .newarray .int, 2), (79, .putfield 40, 3), (82, .aload_n 0, 1), (83, .sipush 301, 3), (86, .newarray .int, 2), (88, .putfield 43, 3), (91, .aload_n 0, 1), (92, .sipush 301, 3), (95, .newarray .int, 2), (97, .putfield 46, 3), (100, .aload_n 0, 1), (101, .sipush 301, 3), (104, .newarray .int, 2), (106, .putfield 49, 3), (109, .aload_n 0, 1), (110, .sipush 301, 3), (113, .newarray .int, 2), (115, .putfield 52, 3), (118, .return_, 1)]
theorem tb_X1_init : ix_tab cX1_init tab_X1_init := by
  unfold ix_tab
  decide +kernel
noncomputable def f_X1_init (n : Nat) (z : ix_Z) (a0 : Nat) (d : ix_D2) : Option (ix_Z × ix_D2) :=
  ix_lt (ix_zn z 7 3) (fun z_1 => ix_lt (ix_dn d z.2.2) (fun d_3 => ix_bd2 (f_X7_init n z_1 z_1.2.2 1364 11780 d_3) (fun z_7 d_5 => ix_ck (ix_ok z_7 [1] a0) (ix_lt (ix_zr z_7 a0 0 (some z_7.2.2)) (fun z_10 => ix_lt (ix_zn z_10 20 (ix_n 601)) (fun z_12 => ix_lt (ix_dn d_5 z_10.2.2) (fun d_14 => ix_ck (ix_ok z_12 [1] a0) (ix_lt (ix_zr z_12 a0 1 (some z_10.2.2)) (fun z_17 => ix_lt (ix_zn z_17 20 (ix_n 11780)) (fun z_19 => ix_lt (ix_dn d_14 z_17.2.2) (fun d_21 => ix_ck (ix_ok z_19 [1] a0) (ix_lt (ix_zr z_19 a0 2 (some z_17.2.2)) (fun z_24 => ix_lt (ix_zn z_24 20 (ix_n 11780)) (fun z_26 => ix_lt (ix_dn d_21 z_24.2.2) (fun d_28 => ix_ck (ix_ok z_26 [1] a0) (ix_lt (ix_zr z_26 a0 3 (some z_24.2.2)) (fun z_31 => ix_lt (ix_zn z_31 20 (ix_n 1364)) (fun z_33 => ix_lt (ix_dn d_28 z_31.2.2) (fun d_35 => ix_ck (ix_ok z_33 [1] a0) (ix_lt (ix_zr z_33 a0 4 (some z_31.2.2)) (fun z_38 => ix_lt (ix_zn z_38 23 (ix_n 22)) (fun z_40 => ix_lt (ix_dn d_35 z_38.2.2) (fun d_42 => ix_ck (ix_ok z_40 [1] a0) (ix_lt (ix_zr z_40 a0 5 (some z_38.2.2)) (fun z_45 => ix_lt (ix_zn z_45 23 (ix_n 22)) (fun z_47 => ix_lt (ix_dn d_42 z_45.2.2) (fun d_49 => ix_ck (ix_ok z_47 [1] a0) (ix_lt (ix_zr z_47 a0 6 (some z_45.2.2)) (fun z_52 => ix_lt (ix_zn z_52 20 (ix_n 301)) (fun z_54 => ix_lt (ix_dn d_49 z_52.2.2) (fun d_56 => ix_ck (ix_ok z_54 [1] a0) (ix_lt (ix_zr z_54 a0 7 (some z_52.2.2)) (fun z_59 => ix_lt (ix_zn z_59 20 (ix_n 301)) (fun z_61 => ix_lt (ix_dn d_56 z_59.2.2) (fun d_63 => ix_ck (ix_ok z_61 [1] a0) (ix_lt (ix_zr z_61 a0 8 (some z_59.2.2)) (fun z_66 => ix_lt (ix_zn z_66 20 (ix_n 301)) (fun z_68 => ix_lt (ix_dn d_63 z_66.2.2) (fun d_70 => ix_ck (ix_ok z_68 [1] a0) (ix_lt (ix_zr z_68 a0 9 (some z_66.2.2)) (fun z_73 => ix_lt (ix_zn z_73 20 (ix_n 301)) (fun z_75 => ix_lt (ix_dn d_70 z_73.2.2) (fun d_77 => ix_ck (ix_ok z_75 [1] a0) (ix_lt (ix_zr z_75 a0 10 (some z_73.2.2)) (fun z_80 => ix_lt (ix_zn z_80 20 (ix_n 301)) (fun z_82 => ix_lt (ix_dn d_77 z_80.2.2) (fun d_84 => ix_ck (ix_ok z_82 [1] a0) (ix_lt (ix_zr z_82 a0 11 (some z_80.2.2)) (fun z_87 => some (z_87, d_84))))))))))))))))))))))))))))))))))))))))))))))))))
set_option maxRecDepth 20000 in
theorem c_X1_init {l : Launch} {K : ix_Cx} (hKp : ix_Kp K) {n : Nat} {z : ix_Z} {a0 : Nat} {d : ix_D2} {z1 : ix_Z} {d1 : ix_D2} (h : f_X1_init n z a0 d = some (z1, d1)) : ix_M l K yX1_init cX1_init 1 (none : Option Jvm.ClassFile.FieldType) 2 45 14 40477 [.ref (K.2.2.1 + a0)] (ix_w z d) none (ix_w z1 d1) := by
  refine ix_met mf_X1_init hKp (Nat.le_of_ble_eq_true rfl) ?_
  intro p e s m args below meth c hr hlk hnm X
  have X : ix_X p s m args c K cX1_init RX1 1 := X
  have hnm : meth.name = "<init>" := hnm
  show ix_G p l e (ix_rm 2 45 14 40477) s m args below meth c (MQ below (ix_Post K none (ix_w z1 d1)) args s 14 40477 (ix_A K)) K 1 0 0 0 [(0, .ref (K.2.2.1 + a0))] [] (ix_w z d)
  unfold f_X1_init at h
  refine ix_aload_n (i := 0) (j := 0) X (ix_tb_at tb_X1_init 0 rfl) rfl rfl (pc1 := 1) rfl ?_
  refine ix_objI (pl := 197) X (by decide +kernel) (Nat.le_of_ble_eq_true rfl) (Nat.le_of_ble_eq_true rfl) (ix_tb_at tb_X1_init 1 rfl) (pc1 := 4) rfl ?_
  refine ix_aload_n (i := 0) (j := 0) X (ix_tb_at tb_X1_init 2 rfl) rfl rfl (pc1 := 5) rfl ?_
  obtain ⟨z_1, e_2, h⟩ := ix_lt_ex h
  obtain ⟨d_3, e_4, h⟩ := ix_lt_ex h
  refine iz_new (ci := 7) (pl := 198) (pi := 107) (pj := 4) (N := 3) (C := RX7) (T := TX7) X rfl (by decide) (by decide +kernel) (by decide +kernel) (by decide +kernel) (Nat.le_of_ble_eq_true rfl) (Nat.le_of_ble_eq_true rfl) (ix_tb_at tb_X1_init 3 rfl) e_2 e_4 (pc1 := 8) rfl ?_
  refine ix_dup X (ix_tb_at tb_X1_init 4 rfl) rfl (pc1 := 9) rfl ?_
  refine ix_sipush (v := 1364) X (ix_tb_at tb_X1_init 5 rfl) (by decide) (pc1 := 12) rfl ?_
  refine ix_sipush (v := 11780) X (ix_tb_at tb_X1_init 6 rfl) (by decide) (pc1 := 15) rfl ?_
  obtain ⟨z_7, d_5, h_6, h⟩ := ix_bd2_ex h
  refine ix_callI (As := [.int 1364, .int 11780]) (rest := [.ref (K.2.2.1 + z_1.2.2), .ref (K.2.2.1 + a0)]) X mf_X7_init mi_X7_init rfl ml_RX1_13 ⟨Nat.le_of_ble_eq_true rfl, Nat.le_of_ble_eq_true rfl⟩ ⟨Nat.le_of_ble_eq_true rfl, Nat.le_of_ble_eq_true rfl⟩ rfl (Nat.le_of_ble_eq_true rfl) (ix_tb_at tb_X1_init 7 rfl) (c_X7_init hKp h_6) rfl (pc1 := 18) rfl ?_
  obtain ⟨k_9, h⟩ := ix_ck_some h
  obtain ⟨z_10, e_11, h⟩ := ix_lt_ex h
  refine iz_putR (ty := .object "ClauseCourt$Rows") X fp_RX1_16 (fun _ => ⟨rfl, hnm⟩) k_9 (by decide +kernel) (by decide +kernel) (Or.inl ⟨_, rfl⟩) (ix_tb_at tb_X1_init 8 rfl) e_11 (pc1 := 21) rfl ?_
  refine ix_aload_n (i := 0) (j := 0) X (ix_tb_at tb_X1_init 9 rfl) rfl rfl (pc1 := 22) rfl ?_
  refine ix_sipush (v := 601) X (ix_tb_at tb_X1_init 10 rfl) (by decide) (pc1 := 25) rfl ?_
  obtain ⟨z_12, e_13, h⟩ := ix_lt_ex h
  obtain ⟨d_14, e_15, h⟩ := ix_lt_ex h
  refine iz_newa_int (pl := 98) X (by decide +kernel) (by decide) (by decide) (Nat.le_of_ble_eq_true rfl) (Nat.le_of_ble_eq_true rfl) (ix_tb_at tb_X1_init 11 rfl) e_13 e_15 (pc1 := 27) rfl ?_
  refine ix_widen (k1 := 4) (n1 := 14004) (Nat.le_of_ble_eq_true rfl) (Nat.le_of_ble_eq_true rfl) ?_
  obtain ⟨k_16, h⟩ := ix_ck_some h
  obtain ⟨z_17, e_18, h⟩ := ix_lt_ex h
  refine iz_putR (ty := .array .int) X fp_RX1_20 (fun _ => ⟨rfl, hnm⟩) k_16 (by decide +kernel) (by decide +kernel) (Or.inr ⟨_, rfl⟩) (ix_tb_at tb_X1_init 12 rfl) e_18 (pc1 := 30) rfl ?_
  refine ix_aload_n (i := 0) (j := 0) X (ix_tb_at tb_X1_init 13 rfl) rfl rfl (pc1 := 31) rfl ?_
  refine ix_sipush (v := 11780) X (ix_tb_at tb_X1_init 14 rfl) (by decide) (pc1 := 34) rfl ?_
  obtain ⟨z_19, e_20, h⟩ := ix_lt_ex h
  obtain ⟨d_21, e_22, h⟩ := ix_lt_ex h
  refine iz_newa_int (pl := 98) X (by decide +kernel) (by decide) (by decide) (Nat.le_of_ble_eq_true rfl) (Nat.le_of_ble_eq_true rfl) (ix_tb_at tb_X1_init 15 rfl) e_20 e_22 (pc1 := 36) rfl ?_
  refine ix_widen (k1 := 5) (n1 := 25784) (Nat.le_of_ble_eq_true rfl) (Nat.le_of_ble_eq_true rfl) ?_
  obtain ⟨k_23, h⟩ := ix_ck_some h
  obtain ⟨z_24, e_25, h⟩ := ix_lt_ex h
  refine iz_putR (ty := .array .int) X fp_RX1_24 (fun _ => ⟨rfl, hnm⟩) k_23 (by decide +kernel) (by decide +kernel) (Or.inr ⟨_, rfl⟩) (ix_tb_at tb_X1_init 16 rfl) e_25 (pc1 := 39) rfl ?_
  refine ix_aload_n (i := 0) (j := 0) X (ix_tb_at tb_X1_init 17 rfl) rfl rfl (pc1 := 40) rfl ?_
  refine ix_sipush (v := 11780) X (ix_tb_at tb_X1_init 18 rfl) (by decide) (pc1 := 43) rfl ?_
  obtain ⟨z_26, e_27, h⟩ := ix_lt_ex h
  obtain ⟨d_28, e_29, h⟩ := ix_lt_ex h
  refine iz_newa_int (pl := 98) X (by decide +kernel) (by decide) (by decide) (Nat.le_of_ble_eq_true rfl) (Nat.le_of_ble_eq_true rfl) (ix_tb_at tb_X1_init 19 rfl) e_27 e_29 (pc1 := 45) rfl ?_
  refine ix_widen (k1 := 6) (n1 := 37564) (Nat.le_of_ble_eq_true rfl) (Nat.le_of_ble_eq_true rfl) ?_
  obtain ⟨k_30, h⟩ := ix_ck_some h
  obtain ⟨z_31, e_32, h⟩ := ix_lt_ex h
  refine iz_putR (ty := .array .int) X fp_RX1_27 (fun _ => ⟨rfl, hnm⟩) k_30 (by decide +kernel) (by decide +kernel) (Or.inr ⟨_, rfl⟩) (ix_tb_at tb_X1_init 20 rfl) e_32 (pc1 := 48) rfl ?_
  refine ix_aload_n (i := 0) (j := 0) X (ix_tb_at tb_X1_init 21 rfl) rfl rfl (pc1 := 49) rfl ?_
  refine ix_sipush (v := 1364) X (ix_tb_at tb_X1_init 22 rfl) (by decide) (pc1 := 52) rfl ?_
  obtain ⟨z_33, e_34, h⟩ := ix_lt_ex h
  obtain ⟨d_35, e_36, h⟩ := ix_lt_ex h
  refine iz_newa_int (pl := 98) X (by decide +kernel) (by decide) (by decide) (Nat.le_of_ble_eq_true rfl) (Nat.le_of_ble_eq_true rfl) (ix_tb_at tb_X1_init 23 rfl) e_34 e_36 (pc1 := 54) rfl ?_
  refine ix_widen (k1 := 7) (n1 := 38928) (Nat.le_of_ble_eq_true rfl) (Nat.le_of_ble_eq_true rfl) ?_
  obtain ⟨k_37, h⟩ := ix_ck_some h
  obtain ⟨z_38, e_39, h⟩ := ix_lt_ex h
  refine iz_putR (ty := .array .int) X fp_RX1_30 (fun _ => ⟨rfl, hnm⟩) k_37 (by decide +kernel) (by decide +kernel) (Or.inr ⟨_, rfl⟩) (ix_tb_at tb_X1_init 24 rfl) e_39 (pc1 := 57) rfl ?_
  refine ix_aload_n (i := 0) (j := 0) X (ix_tb_at tb_X1_init 25 rfl) rfl rfl (pc1 := 58) rfl ?_
  refine ix_bipush (v := 22) X (ix_tb_at tb_X1_init 26 rfl) (by decide) (pc1 := 60) rfl ?_
  obtain ⟨z_40, e_41, h⟩ := ix_lt_ex h
  obtain ⟨d_42, e_43, h⟩ := ix_lt_ex h
  refine iz_newa_long (pl := 270) X (by decide +kernel) (by decide) (by decide) (Nat.le_of_ble_eq_true rfl) (Nat.le_of_ble_eq_true rfl) (ix_tb_at tb_X1_init 27 rfl) e_41 e_43 (pc1 := 62) rfl ?_
  refine ix_widen (k1 := 8) (n1 := 38950) (Nat.le_of_ble_eq_true rfl) (Nat.le_of_ble_eq_true rfl) ?_
  obtain ⟨k_44, h⟩ := ix_ck_some h
  obtain ⟨z_45, e_46, h⟩ := ix_lt_ex h
  refine iz_putR (ty := .array .long) X fp_RX1_33 (fun _ => ⟨rfl, hnm⟩) k_44 (by decide +kernel) (by decide +kernel) (Or.inr ⟨_, rfl⟩) (ix_tb_at tb_X1_init 28 rfl) e_46 (pc1 := 65) rfl ?_
  refine ix_aload_n (i := 0) (j := 0) X (ix_tb_at tb_X1_init 29 rfl) rfl rfl (pc1 := 66) rfl ?_
  refine ix_bipush (v := 22) X (ix_tb_at tb_X1_init 30 rfl) (by decide) (pc1 := 68) rfl ?_
  obtain ⟨z_47, e_48, h⟩ := ix_lt_ex h
  obtain ⟨d_49, e_50, h⟩ := ix_lt_ex h
  refine iz_newa_long (pl := 270) X (by decide +kernel) (by decide) (by decide) (Nat.le_of_ble_eq_true rfl) (Nat.le_of_ble_eq_true rfl) (ix_tb_at tb_X1_init 31 rfl) e_48 e_50 (pc1 := 70) rfl ?_
  refine ix_widen (k1 := 9) (n1 := 38972) (Nat.le_of_ble_eq_true rfl) (Nat.le_of_ble_eq_true rfl) ?_
  obtain ⟨k_51, h⟩ := ix_ck_some h
  obtain ⟨z_52, e_53, h⟩ := ix_lt_ex h
  refine iz_putR (ty := .array .long) X fp_RX1_37 (fun _ => ⟨rfl, hnm⟩) k_51 (by decide +kernel) (by decide +kernel) (Or.inr ⟨_, rfl⟩) (ix_tb_at tb_X1_init 32 rfl) e_53 (pc1 := 73) rfl ?_
  refine ix_aload_n (i := 0) (j := 0) X (ix_tb_at tb_X1_init 33 rfl) rfl rfl (pc1 := 74) rfl ?_
  refine ix_sipush (v := 301) X (ix_tb_at tb_X1_init 34 rfl) (by decide) (pc1 := 77) rfl ?_
  obtain ⟨z_54, e_55, h⟩ := ix_lt_ex h
  obtain ⟨d_56, e_57, h⟩ := ix_lt_ex h
  refine iz_newa_int (pl := 98) X (by decide +kernel) (by decide) (by decide) (Nat.le_of_ble_eq_true rfl) (Nat.le_of_ble_eq_true rfl) (ix_tb_at tb_X1_init 35 rfl) e_55 e_57 (pc1 := 79) rfl ?_
  refine ix_widen (k1 := 10) (n1 := 39273) (Nat.le_of_ble_eq_true rfl) (Nat.le_of_ble_eq_true rfl) ?_
  obtain ⟨k_58, h⟩ := ix_ck_some h
  obtain ⟨z_59, e_60, h⟩ := ix_lt_ex h
  refine iz_putR (ty := .array .int) X fp_RX1_40 (fun _ => ⟨rfl, hnm⟩) k_58 (by decide +kernel) (by decide +kernel) (Or.inr ⟨_, rfl⟩) (ix_tb_at tb_X1_init 36 rfl) e_60 (pc1 := 82) rfl ?_
  refine ix_aload_n (i := 0) (j := 0) X (ix_tb_at tb_X1_init 37 rfl) rfl rfl (pc1 := 83) rfl ?_
  refine ix_sipush (v := 301) X (ix_tb_at tb_X1_init 38 rfl) (by decide) (pc1 := 86) rfl ?_
  obtain ⟨z_61, e_62, h⟩ := ix_lt_ex h
  obtain ⟨d_63, e_64, h⟩ := ix_lt_ex h
  refine iz_newa_int (pl := 98) X (by decide +kernel) (by decide) (by decide) (Nat.le_of_ble_eq_true rfl) (Nat.le_of_ble_eq_true rfl) (ix_tb_at tb_X1_init 39 rfl) e_62 e_64 (pc1 := 88) rfl ?_
  refine ix_widen (k1 := 11) (n1 := 39574) (Nat.le_of_ble_eq_true rfl) (Nat.le_of_ble_eq_true rfl) ?_
  obtain ⟨k_65, h⟩ := ix_ck_some h
  obtain ⟨z_66, e_67, h⟩ := ix_lt_ex h
  refine iz_putR (ty := .array .int) X fp_RX1_43 (fun _ => ⟨rfl, hnm⟩) k_65 (by decide +kernel) (by decide +kernel) (Or.inr ⟨_, rfl⟩) (ix_tb_at tb_X1_init 40 rfl) e_67 (pc1 := 91) rfl ?_
  refine ix_aload_n (i := 0) (j := 0) X (ix_tb_at tb_X1_init 41 rfl) rfl rfl (pc1 := 92) rfl ?_
  refine ix_sipush (v := 301) X (ix_tb_at tb_X1_init 42 rfl) (by decide) (pc1 := 95) rfl ?_
  obtain ⟨z_68, e_69, h⟩ := ix_lt_ex h
  obtain ⟨d_70, e_71, h⟩ := ix_lt_ex h
  refine iz_newa_int (pl := 98) X (by decide +kernel) (by decide) (by decide) (Nat.le_of_ble_eq_true rfl) (Nat.le_of_ble_eq_true rfl) (ix_tb_at tb_X1_init 43 rfl) e_69 e_71 (pc1 := 97) rfl ?_
  refine ix_widen (k1 := 12) (n1 := 39875) (Nat.le_of_ble_eq_true rfl) (Nat.le_of_ble_eq_true rfl) ?_
  obtain ⟨k_72, h⟩ := ix_ck_some h
  obtain ⟨z_73, e_74, h⟩ := ix_lt_ex h
  refine iz_putR (ty := .array .int) X fp_RX1_46 (fun _ => ⟨rfl, hnm⟩) k_72 (by decide +kernel) (by decide +kernel) (Or.inr ⟨_, rfl⟩) (ix_tb_at tb_X1_init 44 rfl) e_74 (pc1 := 100) rfl ?_
  refine ix_aload_n (i := 0) (j := 0) X (ix_tb_at tb_X1_init 45 rfl) rfl rfl (pc1 := 101) rfl ?_
  refine ix_sipush (v := 301) X (ix_tb_at tb_X1_init 46 rfl) (by decide) (pc1 := 104) rfl ?_
  obtain ⟨z_75, e_76, h⟩ := ix_lt_ex h
  obtain ⟨d_77, e_78, h⟩ := ix_lt_ex h
  refine iz_newa_int (pl := 98) X (by decide +kernel) (by decide) (by decide) (Nat.le_of_ble_eq_true rfl) (Nat.le_of_ble_eq_true rfl) (ix_tb_at tb_X1_init 47 rfl) e_76 e_78 (pc1 := 106) rfl ?_
  refine ix_widen (k1 := 13) (n1 := 40176) (Nat.le_of_ble_eq_true rfl) (Nat.le_of_ble_eq_true rfl) ?_
  obtain ⟨k_79, h⟩ := ix_ck_some h
  obtain ⟨z_80, e_81, h⟩ := ix_lt_ex h
  refine iz_putR (ty := .array .int) X fp_RX1_49 (fun _ => ⟨rfl, hnm⟩) k_79 (by decide +kernel) (by decide +kernel) (Or.inr ⟨_, rfl⟩) (ix_tb_at tb_X1_init 48 rfl) e_81 (pc1 := 109) rfl ?_
  refine ix_aload_n (i := 0) (j := 0) X (ix_tb_at tb_X1_init 49 rfl) rfl rfl (pc1 := 110) rfl ?_
  refine ix_sipush (v := 301) X (ix_tb_at tb_X1_init 50 rfl) (by decide) (pc1 := 113) rfl ?_
  obtain ⟨z_82, e_83, h⟩ := ix_lt_ex h
  obtain ⟨d_84, e_85, h⟩ := ix_lt_ex h
  refine iz_newa_int (pl := 98) X (by decide +kernel) (by decide) (by decide) (Nat.le_of_ble_eq_true rfl) (Nat.le_of_ble_eq_true rfl) (ix_tb_at tb_X1_init 51 rfl) e_83 e_85 (pc1 := 115) rfl ?_
  refine ix_widen (k1 := 14) (n1 := 40477) (Nat.le_of_ble_eq_true rfl) (Nat.le_of_ble_eq_true rfl) ?_
  obtain ⟨k_86, h⟩ := ix_ck_some h
  obtain ⟨z_87, e_88, h⟩ := ix_lt_ex h
  refine iz_putR (ty := .array .int) X fp_RX1_52 (fun _ => ⟨rfl, hnm⟩) k_86 (by decide +kernel) (by decide +kernel) (Or.inr ⟨_, rfl⟩) (ix_tb_at tb_X1_init 52 rfl) e_88 (pc1 := 118) rfl ?_
  exact ix_vret X hr hlk (ix_r2v (g := ix_w) h) (ix_tb_at tb_X1_init 53 rfl)
def tab_X2_init : List (Nat × Instr × Nat) := [(0, .aload_n 0, 1), (1, .invokespecial 3, 3), (4, .aload_n 0, 1), (5, .new 9, 3), (8, .dup, 1), (9, .sipush 500, 3), (12, .sipush 2500, 3), (15, .invokespecial 11, 3), (18, .putfield 14, 3), (21, .aload_n 0, 1), (22, .sipush 301, 3), (25, .newarray .int, 2), (27, .putfield 20, 3), (30, .aload_n 0, 1), (31, .sipush 301, 3), (34, .newarray .boolean, 2), (36, .putfield 24, 3), (39, .aload_n 0, 1), (40, .bipush 20, 2), (42, .newarray .int, 2), (44, .putfield 28, 3), (47, .aload_n 0, 1), (48, .bipush 12, 2), (50, .newarray .int, 2), (52, .putfield 31, 3), (55, .return_, 1)]
theorem tb_X2_init : ix_tab cX2_init tab_X2_init := by
  unfold ix_tab
  decide +kernel
noncomputable def f_X2_init (n : Nat) (z : ix_Z) (a0 : Nat) (d : ix_D2) : Option (ix_Z × ix_D2) :=
  ix_lt (ix_zn z 7 3) (fun z_1 => ix_lt (ix_dn d z.2.2) (fun d_3 => ix_bd2 (f_X7_init n z_1 z_1.2.2 500 2500 d_3) (fun z_7 d_5 => ix_ck (ix_ok z_7 [2] a0) (ix_lt (ix_zr z_7 a0 0 (some z_7.2.2)) (fun z_10 => ix_lt (ix_zn z_10 20 (ix_n 301)) (fun z_12 => ix_lt (ix_dn d_5 z_10.2.2) (fun d_14 => ix_ck (ix_ok z_12 [2] a0) (ix_lt (ix_zr z_12 a0 1 (some z_10.2.2)) (fun z_17 => ix_lt (ix_zn z_17 22 (ix_n 301)) (fun z_19 => ix_lt (ix_dn d_14 z_17.2.2) (fun d_21 => ix_ck (ix_ok z_19 [2] a0) (ix_lt (ix_zr z_19 a0 2 (some z_17.2.2)) (fun z_24 => ix_lt (ix_zn z_24 20 (ix_n 20)) (fun z_26 => ix_lt (ix_dn d_21 z_24.2.2) (fun d_28 => ix_ck (ix_ok z_26 [2] a0) (ix_lt (ix_zr z_26 a0 3 (some z_24.2.2)) (fun z_31 => ix_lt (ix_zn z_31 20 (ix_n 12)) (fun z_33 => ix_lt (ix_dn d_28 z_31.2.2) (fun d_35 => ix_ck (ix_ok z_33 [2] a0) (ix_lt (ix_zr z_33 a0 4 (some z_31.2.2)) (fun z_38 => some (z_38, d_35))))))))))))))))))))))
set_option maxRecDepth 20000 in
theorem c_X2_init {l : Launch} {K : ix_Cx} (hKp : ix_Kp K) {n : Nat} {z : ix_Z} {a0 : Nat} {d : ix_D2} {z1 : ix_Z} {d1 : ix_D2} (h : f_X2_init n z a0 d = some (z1, d1)) : ix_M l K yX2_init cX2_init 1 (none : Option Jvm.ClassFile.FieldType) 2 45 7 14037 [.ref (K.2.2.1 + a0)] (ix_w z d) none (ix_w z1 d1) := by
  refine ix_met mf_X2_init hKp (Nat.le_of_ble_eq_true rfl) ?_
  intro p e s m args below meth c hr hlk hnm X
  have X : ix_X p s m args c K cX2_init RX2 1 := X
  have hnm : meth.name = "<init>" := hnm
  show ix_G p l e (ix_rm 2 45 7 14037) s m args below meth c (MQ below (ix_Post K none (ix_w z1 d1)) args s 7 14037 (ix_A K)) K 1 0 0 0 [(0, .ref (K.2.2.1 + a0))] [] (ix_w z d)
  unfold f_X2_init at h
  refine ix_aload_n (i := 0) (j := 0) X (ix_tb_at tb_X2_init 0 rfl) rfl rfl (pc1 := 1) rfl ?_
  refine ix_objI (pl := 105) X (by decide +kernel) (Nat.le_of_ble_eq_true rfl) (Nat.le_of_ble_eq_true rfl) (ix_tb_at tb_X2_init 1 rfl) (pc1 := 4) rfl ?_
  refine ix_aload_n (i := 0) (j := 0) X (ix_tb_at tb_X2_init 2 rfl) rfl rfl (pc1 := 5) rfl ?_
  obtain ⟨z_1, e_2, h⟩ := ix_lt_ex h
  obtain ⟨d_3, e_4, h⟩ := ix_lt_ex h
  refine iz_new (ci := 7) (pl := 106) (pi := 107) (pj := 4) (N := 3) (C := RX7) (T := TX7) X rfl (by decide) (by decide +kernel) (by decide +kernel) (by decide +kernel) (Nat.le_of_ble_eq_true rfl) (Nat.le_of_ble_eq_true rfl) (ix_tb_at tb_X2_init 3 rfl) e_2 e_4 (pc1 := 8) rfl ?_
  refine ix_dup X (ix_tb_at tb_X2_init 4 rfl) rfl (pc1 := 9) rfl ?_
  refine ix_sipush (v := 500) X (ix_tb_at tb_X2_init 5 rfl) (by decide) (pc1 := 12) rfl ?_
  refine ix_sipush (v := 2500) X (ix_tb_at tb_X2_init 6 rfl) (by decide) (pc1 := 15) rfl ?_
  obtain ⟨z_7, d_5, h_6, h⟩ := ix_bd2_ex h
  refine ix_callI (As := [.int 500, .int 2500]) (rest := [.ref (K.2.2.1 + z_1.2.2), .ref (K.2.2.1 + a0)]) X mf_X7_init mi_X7_init rfl ml_RX2_11 ⟨Nat.le_of_ble_eq_true rfl, Nat.le_of_ble_eq_true rfl⟩ ⟨Nat.le_of_ble_eq_true rfl, Nat.le_of_ble_eq_true rfl⟩ rfl (Nat.le_of_ble_eq_true rfl) (ix_tb_at tb_X2_init 7 rfl) (c_X7_init hKp h_6) rfl (pc1 := 18) rfl ?_
  obtain ⟨k_9, h⟩ := ix_ck_some h
  obtain ⟨z_10, e_11, h⟩ := ix_lt_ex h
  refine iz_putR (ty := .object "ClauseCourt$Rows") X fp_RX2_14 (fun _ => ⟨rfl, hnm⟩) k_9 (by decide +kernel) (by decide +kernel) (Or.inl ⟨_, rfl⟩) (ix_tb_at tb_X2_init 8 rfl) e_11 (pc1 := 21) rfl ?_
  refine ix_aload_n (i := 0) (j := 0) X (ix_tb_at tb_X2_init 9 rfl) rfl rfl (pc1 := 22) rfl ?_
  refine ix_sipush (v := 301) X (ix_tb_at tb_X2_init 10 rfl) (by decide) (pc1 := 25) rfl ?_
  obtain ⟨z_12, e_13, h⟩ := ix_lt_ex h
  obtain ⟨d_14, e_15, h⟩ := ix_lt_ex h
  refine iz_newa_int (pl := 98) X (by decide +kernel) (by decide) (by decide) (Nat.le_of_ble_eq_true rfl) (Nat.le_of_ble_eq_true rfl) (ix_tb_at tb_X2_init 11 rfl) e_13 e_15 (pc1 := 27) rfl ?_
  refine ix_widen (k1 := 4) (n1 := 13704) (Nat.le_of_ble_eq_true rfl) (Nat.le_of_ble_eq_true rfl) ?_
  obtain ⟨k_16, h⟩ := ix_ck_some h
  obtain ⟨z_17, e_18, h⟩ := ix_lt_ex h
  refine iz_putR (ty := .array .int) X fp_RX2_20 (fun _ => ⟨rfl, hnm⟩) k_16 (by decide +kernel) (by decide +kernel) (Or.inr ⟨_, rfl⟩) (ix_tb_at tb_X2_init 12 rfl) e_18 (pc1 := 30) rfl ?_
  refine ix_aload_n (i := 0) (j := 0) X (ix_tb_at tb_X2_init 13 rfl) rfl rfl (pc1 := 31) rfl ?_
  refine ix_sipush (v := 301) X (ix_tb_at tb_X2_init 14 rfl) (by decide) (pc1 := 34) rfl ?_
  obtain ⟨z_19, e_20, h⟩ := ix_lt_ex h
  obtain ⟨d_21, e_22, h⟩ := ix_lt_ex h
  refine iz_newa_boolean (pl := 183) X (by decide +kernel) (by decide) (by decide) (Nat.le_of_ble_eq_true rfl) (Nat.le_of_ble_eq_true rfl) (ix_tb_at tb_X2_init 15 rfl) e_20 e_22 (pc1 := 36) rfl ?_
  refine ix_widen (k1 := 5) (n1 := 14005) (Nat.le_of_ble_eq_true rfl) (Nat.le_of_ble_eq_true rfl) ?_
  obtain ⟨k_23, h⟩ := ix_ck_some h
  obtain ⟨z_24, e_25, h⟩ := ix_lt_ex h
  refine iz_putR (ty := .array .boolean) X fp_RX2_24 (fun _ => ⟨rfl, hnm⟩) k_23 (by decide +kernel) (by decide +kernel) (Or.inr ⟨_, rfl⟩) (ix_tb_at tb_X2_init 16 rfl) e_25 (pc1 := 39) rfl ?_
  refine ix_aload_n (i := 0) (j := 0) X (ix_tb_at tb_X2_init 17 rfl) rfl rfl (pc1 := 40) rfl ?_
  refine ix_bipush (v := 20) X (ix_tb_at tb_X2_init 18 rfl) (by decide) (pc1 := 42) rfl ?_
  obtain ⟨z_26, e_27, h⟩ := ix_lt_ex h
  obtain ⟨d_28, e_29, h⟩ := ix_lt_ex h
  refine iz_newa_int (pl := 98) X (by decide +kernel) (by decide) (by decide) (Nat.le_of_ble_eq_true rfl) (Nat.le_of_ble_eq_true rfl) (ix_tb_at tb_X2_init 19 rfl) e_27 e_29 (pc1 := 44) rfl ?_
  refine ix_widen (k1 := 6) (n1 := 14025) (Nat.le_of_ble_eq_true rfl) (Nat.le_of_ble_eq_true rfl) ?_
  obtain ⟨k_30, h⟩ := ix_ck_some h
  obtain ⟨z_31, e_32, h⟩ := ix_lt_ex h
  refine iz_putR (ty := .array .int) X fp_RX2_28 (fun _ => ⟨rfl, hnm⟩) k_30 (by decide +kernel) (by decide +kernel) (Or.inr ⟨_, rfl⟩) (ix_tb_at tb_X2_init 20 rfl) e_32 (pc1 := 47) rfl ?_
  refine ix_aload_n (i := 0) (j := 0) X (ix_tb_at tb_X2_init 21 rfl) rfl rfl (pc1 := 48) rfl ?_
  refine ix_bipush (v := 12) X (ix_tb_at tb_X2_init 22 rfl) (by decide) (pc1 := 50) rfl ?_
  obtain ⟨z_33, e_34, h⟩ := ix_lt_ex h
  obtain ⟨d_35, e_36, h⟩ := ix_lt_ex h
  refine iz_newa_int (pl := 98) X (by decide +kernel) (by decide) (by decide) (Nat.le_of_ble_eq_true rfl) (Nat.le_of_ble_eq_true rfl) (ix_tb_at tb_X2_init 23 rfl) e_34 e_36 (pc1 := 52) rfl ?_
  refine ix_widen (k1 := 7) (n1 := 14037) (Nat.le_of_ble_eq_true rfl) (Nat.le_of_ble_eq_true rfl) ?_
  obtain ⟨k_37, h⟩ := ix_ck_some h
  obtain ⟨z_38, e_39, h⟩ := ix_lt_ex h
  refine iz_putR (ty := .array .int) X fp_RX2_31 (fun _ => ⟨rfl, hnm⟩) k_37 (by decide +kernel) (by decide +kernel) (Or.inr ⟨_, rfl⟩) (ix_tb_at tb_X2_init 24 rfl) e_39 (pc1 := 55) rfl ?_
  exact ix_vret X hr hlk (ix_r2v (g := ix_w) h) (ix_tb_at tb_X2_init 25 rfl)
def tab_X4_init : List (Nat × Instr × Nat) := [(0, .aload_n 0, 1), (1, .invokespecial 3, 3), (4, .aload_n 0, 1), (5, .bipush 60, 2), (7, .newarray .byte, 2), (9, .putfield 11, 3), (12, .aload_n 0, 1), (13, .sipush 13500, 3), (16, .newarray .byte, 2), (18, .putfield 15, 3), (21, .aload_n 0, 1), (22, .bipush 100, 2), (24, .newarray .int, 2), (26, .putfield 18, 3), (29, .aload_n 0, 1), (30, .bipush 60, 2), (32, .newarray .int, 2), (34, .putfield 22, 3), (37, .aload_n 0, 1), (38, .bipush 8, 2), (40, .newarray .int, 2), (42, .putfield 25, 3), (45, .aload_n 0, 1), (46, .bipush 8, 2), (48, .newarray .int, 2), (50, .putfield 28, 3), (53, .aload_n 0, 1), (54, .bipush 8, 2), (56, .newarray .int, 2), (58, .putfield 31, 3), (61, .return_, 1)]
theorem tb_X4_init : ix_tab cX4_init tab_X4_init := by
  unfold ix_tab
  decide +kernel
noncomputable def f_X4_init (n : Nat) (z : ix_Z) (a0 : Nat) (d : ix_D2) : Option (ix_Z × ix_D2) :=
  ix_lt (ix_zn z 21 (ix_n 60)) (fun z_1 => ix_lt (ix_dn d z.2.2) (fun d_3 => ix_ck (ix_ok z_1 [4] a0) (ix_lt (ix_zr z_1 a0 0 (some z_1.2.2)) (fun z_6 => ix_lt (ix_zn z_6 21 (ix_n 13500)) (fun z_8 => ix_lt (ix_dn d_3 z_6.2.2) (fun d_10 => ix_ck (ix_ok z_8 [4] a0) (ix_lt (ix_zr z_8 a0 2 (some z_6.2.2)) (fun z_13 => ix_lt (ix_zn z_13 20 (ix_n 100)) (fun z_15 => ix_lt (ix_dn d_10 z_13.2.2) (fun d_17 => ix_ck (ix_ok z_15 [4] a0) (ix_lt (ix_zr z_15 a0 4 (some z_13.2.2)) (fun z_20 => ix_lt (ix_zn z_20 20 (ix_n 60)) (fun z_22 => ix_lt (ix_dn d_17 z_20.2.2) (fun d_24 => ix_ck (ix_ok z_22 [4] a0) (ix_lt (ix_zr z_22 a0 6 (some z_20.2.2)) (fun z_27 => ix_lt (ix_zn z_27 20 (ix_n 8)) (fun z_29 => ix_lt (ix_dn d_24 z_27.2.2) (fun d_31 => ix_ck (ix_ok z_29 [4] a0) (ix_lt (ix_zr z_29 a0 8 (some z_27.2.2)) (fun z_34 => ix_lt (ix_zn z_34 20 (ix_n 8)) (fun z_36 => ix_lt (ix_dn d_31 z_34.2.2) (fun d_38 => ix_ck (ix_ok z_36 [4] a0) (ix_lt (ix_zr z_36 a0 9 (some z_34.2.2)) (fun z_41 => ix_lt (ix_zn z_41 20 (ix_n 8)) (fun z_43 => ix_lt (ix_dn d_38 z_41.2.2) (fun d_45 => ix_ck (ix_ok z_43 [4] a0) (ix_lt (ix_zr z_43 a0 10 (some z_41.2.2)) (fun z_48 => some (z_48, d_45)))))))))))))))))))))))))))))
set_option maxRecDepth 20000 in
theorem c_X4_init {l : Launch} {K : ix_Cx} (hKp : ix_Kp K) {n : Nat} {z : ix_Z} {a0 : Nat} {d : ix_D2} {z1 : ix_Z} {d1 : ix_D2} (h : f_X4_init n z a0 d = some (z1, d1)) : ix_M l K yX4_init cX4_init 1 (none : Option Jvm.ClassFile.FieldType) 1 23 7 13744 [.ref (K.2.2.1 + a0)] (ix_w z d) none (ix_w z1 d1) := by
  refine ix_met mf_X4_init hKp (Nat.le_of_ble_eq_true rfl) ?_
  intro p e s m args below meth c hr hlk hnm X
  have X : ix_X p s m args c K cX4_init RX4 1 := X
  have hnm : meth.name = "<init>" := hnm
  show ix_G p l e (ix_rm 1 23 7 13744) s m args below meth c (MQ below (ix_Post K none (ix_w z1 d1)) args s 7 13744 (ix_A K)) K 1 0 0 0 [(0, .ref (K.2.2.1 + a0))] [] (ix_w z d)
  unfold f_X4_init at h
  refine ix_aload_n (i := 0) (j := 0) X (ix_tb_at tb_X4_init 0 rfl) rfl rfl (pc1 := 1) rfl ?_
  refine ix_objI (pl := 39) X (by decide +kernel) (Nat.le_of_ble_eq_true rfl) (Nat.le_of_ble_eq_true rfl) (ix_tb_at tb_X4_init 1 rfl) (pc1 := 4) rfl ?_
  refine ix_aload_n (i := 0) (j := 0) X (ix_tb_at tb_X4_init 2 rfl) rfl rfl (pc1 := 5) rfl ?_
  refine ix_bipush (v := 60) X (ix_tb_at tb_X4_init 3 rfl) (by decide) (pc1 := 7) rfl ?_
  obtain ⟨z_1, e_2, h⟩ := ix_lt_ex h
  obtain ⟨d_3, e_4, h⟩ := ix_lt_ex h
  refine iz_newa_byte (pl := 99) X (by decide +kernel) (by decide) (by decide) (Nat.le_of_ble_eq_true rfl) (Nat.le_of_ble_eq_true rfl) (ix_tb_at tb_X4_init 4 rfl) e_2 e_4 (pc1 := 9) rfl ?_
  refine ix_widen (k1 := 1) (n1 := 60) (Nat.le_of_ble_eq_true rfl) (Nat.le_of_ble_eq_true rfl) ?_
  obtain ⟨k_5, h⟩ := ix_ck_some h
  obtain ⟨z_6, e_7, h⟩ := ix_lt_ex h
  refine iz_putR (ty := .array .byte) X fp_RX4_11 (fun _ => ⟨rfl, hnm⟩) k_5 (by decide +kernel) (by decide +kernel) (Or.inr ⟨_, rfl⟩) (ix_tb_at tb_X4_init 5 rfl) e_7 (pc1 := 12) rfl ?_
  refine ix_aload_n (i := 0) (j := 0) X (ix_tb_at tb_X4_init 6 rfl) rfl rfl (pc1 := 13) rfl ?_
  refine ix_sipush (v := 13500) X (ix_tb_at tb_X4_init 7 rfl) (by decide) (pc1 := 16) rfl ?_
  obtain ⟨z_8, e_9, h⟩ := ix_lt_ex h
  obtain ⟨d_10, e_11, h⟩ := ix_lt_ex h
  refine iz_newa_byte (pl := 99) X (by decide +kernel) (by decide) (by decide) (Nat.le_of_ble_eq_true rfl) (Nat.le_of_ble_eq_true rfl) (ix_tb_at tb_X4_init 8 rfl) e_9 e_11 (pc1 := 18) rfl ?_
  refine ix_widen (k1 := 2) (n1 := 13560) (Nat.le_of_ble_eq_true rfl) (Nat.le_of_ble_eq_true rfl) ?_
  obtain ⟨k_12, h⟩ := ix_ck_some h
  obtain ⟨z_13, e_14, h⟩ := ix_lt_ex h
  refine iz_putR (ty := .array .byte) X fp_RX4_15 (fun _ => ⟨rfl, hnm⟩) k_12 (by decide +kernel) (by decide +kernel) (Or.inr ⟨_, rfl⟩) (ix_tb_at tb_X4_init 9 rfl) e_14 (pc1 := 21) rfl ?_
  refine ix_aload_n (i := 0) (j := 0) X (ix_tb_at tb_X4_init 10 rfl) rfl rfl (pc1 := 22) rfl ?_
  refine ix_bipush (v := 100) X (ix_tb_at tb_X4_init 11 rfl) (by decide) (pc1 := 24) rfl ?_
  obtain ⟨z_15, e_16, h⟩ := ix_lt_ex h
  obtain ⟨d_17, e_18, h⟩ := ix_lt_ex h
  refine iz_newa_int (pl := 98) X (by decide +kernel) (by decide) (by decide) (Nat.le_of_ble_eq_true rfl) (Nat.le_of_ble_eq_true rfl) (ix_tb_at tb_X4_init 12 rfl) e_16 e_18 (pc1 := 26) rfl ?_
  refine ix_widen (k1 := 3) (n1 := 13660) (Nat.le_of_ble_eq_true rfl) (Nat.le_of_ble_eq_true rfl) ?_
  obtain ⟨k_19, h⟩ := ix_ck_some h
  obtain ⟨z_20, e_21, h⟩ := ix_lt_ex h
  refine iz_putR (ty := .array .int) X fp_RX4_18 (fun _ => ⟨rfl, hnm⟩) k_19 (by decide +kernel) (by decide +kernel) (Or.inr ⟨_, rfl⟩) (ix_tb_at tb_X4_init 13 rfl) e_21 (pc1 := 29) rfl ?_
  refine ix_aload_n (i := 0) (j := 0) X (ix_tb_at tb_X4_init 14 rfl) rfl rfl (pc1 := 30) rfl ?_
  refine ix_bipush (v := 60) X (ix_tb_at tb_X4_init 15 rfl) (by decide) (pc1 := 32) rfl ?_
  obtain ⟨z_22, e_23, h⟩ := ix_lt_ex h
  obtain ⟨d_24, e_25, h⟩ := ix_lt_ex h
  refine iz_newa_int (pl := 98) X (by decide +kernel) (by decide) (by decide) (Nat.le_of_ble_eq_true rfl) (Nat.le_of_ble_eq_true rfl) (ix_tb_at tb_X4_init 16 rfl) e_23 e_25 (pc1 := 34) rfl ?_
  refine ix_widen (k1 := 4) (n1 := 13720) (Nat.le_of_ble_eq_true rfl) (Nat.le_of_ble_eq_true rfl) ?_
  obtain ⟨k_26, h⟩ := ix_ck_some h
  obtain ⟨z_27, e_28, h⟩ := ix_lt_ex h
  refine iz_putR (ty := .array .int) X fp_RX4_22 (fun _ => ⟨rfl, hnm⟩) k_26 (by decide +kernel) (by decide +kernel) (Or.inr ⟨_, rfl⟩) (ix_tb_at tb_X4_init 17 rfl) e_28 (pc1 := 37) rfl ?_
  refine ix_aload_n (i := 0) (j := 0) X (ix_tb_at tb_X4_init 18 rfl) rfl rfl (pc1 := 38) rfl ?_
  refine ix_bipush (v := 8) X (ix_tb_at tb_X4_init 19 rfl) (by decide) (pc1 := 40) rfl ?_
  obtain ⟨z_29, e_30, h⟩ := ix_lt_ex h
  obtain ⟨d_31, e_32, h⟩ := ix_lt_ex h
  refine iz_newa_int (pl := 98) X (by decide +kernel) (by decide) (by decide) (Nat.le_of_ble_eq_true rfl) (Nat.le_of_ble_eq_true rfl) (ix_tb_at tb_X4_init 20 rfl) e_30 e_32 (pc1 := 42) rfl ?_
  refine ix_widen (k1 := 5) (n1 := 13728) (Nat.le_of_ble_eq_true rfl) (Nat.le_of_ble_eq_true rfl) ?_
  obtain ⟨k_33, h⟩ := ix_ck_some h
  obtain ⟨z_34, e_35, h⟩ := ix_lt_ex h
  refine iz_putR (ty := .array .int) X fp_RX4_25 (fun _ => ⟨rfl, hnm⟩) k_33 (by decide +kernel) (by decide +kernel) (Or.inr ⟨_, rfl⟩) (ix_tb_at tb_X4_init 21 rfl) e_35 (pc1 := 45) rfl ?_
  refine ix_aload_n (i := 0) (j := 0) X (ix_tb_at tb_X4_init 22 rfl) rfl rfl (pc1 := 46) rfl ?_
  refine ix_bipush (v := 8) X (ix_tb_at tb_X4_init 23 rfl) (by decide) (pc1 := 48) rfl ?_
  obtain ⟨z_36, e_37, h⟩ := ix_lt_ex h
  obtain ⟨d_38, e_39, h⟩ := ix_lt_ex h
  refine iz_newa_int (pl := 98) X (by decide +kernel) (by decide) (by decide) (Nat.le_of_ble_eq_true rfl) (Nat.le_of_ble_eq_true rfl) (ix_tb_at tb_X4_init 24 rfl) e_37 e_39 (pc1 := 50) rfl ?_
  refine ix_widen (k1 := 6) (n1 := 13736) (Nat.le_of_ble_eq_true rfl) (Nat.le_of_ble_eq_true rfl) ?_
  obtain ⟨k_40, h⟩ := ix_ck_some h
  obtain ⟨z_41, e_42, h⟩ := ix_lt_ex h
  refine iz_putR (ty := .array .int) X fp_RX4_28 (fun _ => ⟨rfl, hnm⟩) k_40 (by decide +kernel) (by decide +kernel) (Or.inr ⟨_, rfl⟩) (ix_tb_at tb_X4_init 25 rfl) e_42 (pc1 := 53) rfl ?_
  refine ix_aload_n (i := 0) (j := 0) X (ix_tb_at tb_X4_init 26 rfl) rfl rfl (pc1 := 54) rfl ?_
  refine ix_bipush (v := 8) X (ix_tb_at tb_X4_init 27 rfl) (by decide) (pc1 := 56) rfl ?_
  obtain ⟨z_43, e_44, h⟩ := ix_lt_ex h
  obtain ⟨d_45, e_46, h⟩ := ix_lt_ex h
  refine iz_newa_int (pl := 98) X (by decide +kernel) (by decide) (by decide) (Nat.le_of_ble_eq_true rfl) (Nat.le_of_ble_eq_true rfl) (ix_tb_at tb_X4_init 28 rfl) e_44 e_46 (pc1 := 58) rfl ?_
  refine ix_widen (k1 := 7) (n1 := 13744) (Nat.le_of_ble_eq_true rfl) (Nat.le_of_ble_eq_true rfl) ?_
  obtain ⟨k_47, h⟩ := ix_ck_some h
  obtain ⟨z_48, e_49, h⟩ := ix_lt_ex h
  refine iz_putR (ty := .array .int) X fp_RX4_31 (fun _ => ⟨rfl, hnm⟩) k_47 (by decide +kernel) (by decide +kernel) (Or.inr ⟨_, rfl⟩) (ix_tb_at tb_X4_init 29 rfl) e_49 (pc1 := 61) rfl ?_
  exact ix_vret X hr hlk (ix_r2v (g := ix_w) h) (ix_tb_at tb_X4_init 30 rfl)
def tab_X4_namesRead : List (Nat × Instr × Nat) := [(0, .iconst 0, 1), (1, .istore_n 1, 1), (2, .iconst 0, 1), (3, .istore_n 2, 1), (4, .iload_n 2, 1), (5, .aload_n 0, 1), (6, .getfield 38, 3), (9, .if_icmp .ge 29, 3), (12, .iload_n 1, 1), (13, .aload_n 0, 1), (14, .getfield 22, 3), (17, .iload_n 2, 1), (18, .iaload, 1), (19, .sipush 10000, 3), (22, .if_icmp .ge 7, 3), (25, .iconst 1, 1), (26, .goto 4, 3), (29, .iconst 0, 1), (30, .iadd, 1), (31, .istore_n 1, 1), (32, .iinc 2 1, 3), (35, .goto (-31), 3), (38, .iload_n 1, 1), (39, .newarray .int, 2), (41, .astore_n 2, 1), (42, .iconst 0, 1), (43, .istore_n 3, 1), (44, .iconst 0, 1), (45, .istore 4, 2), (47, .iload 4, 2), (49, .aload_n 0, 1), (50, .getfield 38, 3), (53, .if_icmp .ge 43, 3), (56, .iload_n 3, 1), (57, .iload_n 1, 1), (58, .if_icmp .ge 38, 3), (61, .aload_n 0, 1), (62, .getfield 22, 3), (65, .iload 4, 2), (67, .iaload, 1), (68, .sipush 10000, 3), (71, .if_icmp .ge 19, 3), (74, .aload_n 2, 1), (75, .iload_n 3, 1), (76, .aload_n 0, 1), (77, .getfield 22, 3), (80, .iload 4, 2), (82, .iaload, 1), (83, .invokestatic 98, 3), (86, .iastore, 1), (87, .iinc 3 1, 3), (90, .iinc 4 1, 3), (93, .goto (-46), 3), (96, .aload_n 2, 1), (97, .areturn, 1)]
theorem tb_X4_namesRead : ix_tab cX4_namesRead tab_X4_namesRead := by
  unfold ix_tab
  decide +kernel
noncomputable def f_X4_namesRead_96 (n : Nat) (z : ix_Z)  (a2 : Nat) (d : ix_D2) : Option (Option Nat × ix_Z × ix_D2) :=
  some ((some a2), z, d)
noncomputable def f_X4_namesRead_90 (n : Nat) (z : ix_Z) (rec47 : Int32 → Int32 → ix_D2 → Option (Option Nat × ix_Z × ix_D2)) (a0 : Nat) (x1 : Int32) (a2 : Nat) (x3 : Int32) (x4 : Int32) (d : ix_D2) : Option (Option Nat × ix_Z × ix_D2) :=
  ix_lt (x4 + 1) (fun x4_15 => rec47 x3 x4_15 d)
noncomputable def b_X4_namesRead_47 (n : Nat) (z : ix_Z)  (a0 : Nat) (x1 : Int32) (a2 : Nat) (rec47 : Int32 → Int32 → ix_D2 → Option (Option Nat × ix_Z × ix_D2)) (x3 : Int32) (x4 : Int32) (d : ix_D2) : Option (Option Nat × ix_Z × ix_D2) :=
  ix_ck (ix_ok z [4] a0) (ix_if (d.1 a0 7 ≤ x4) (f_X4_namesRead_96 n z  a2 d) (ix_if (x1 ≤ x3) (f_X4_namesRead_96 n z  a2 d) (ix_bd1 (z.1 a0 6) (fun b_11 => ix_ck (ix_ix z 20 b_11 x4) (ix_if (10000 ≤ d.1 b_11 (ix_n x4)) (f_X4_namesRead_90 n z rec47 a0 x1 a2 x3 x4 d) (ix_ck (ix_ix z 20 a2 x3) (ix_lt (ix_di d a2 (ix_n x3) (ix_abs (d.1 b_11 (ix_n x4)))) (fun d_18 => ix_lt (x3 + 1) (fun x3_20 => f_X4_namesRead_90 n z rec47 a0 x1 a2 x3_20 x4 d_18)))))))))
noncomputable def f_X4_namesRead_47 (n : Nat) (z : ix_Z)  (a0 : Nat) (x1 : Int32) (a2 : Nat) (x3 : Int32) (x4 : Int32) (d : ix_D2) : Option (Option Nat × ix_Z × ix_D2) := ix_fix (b_X4_namesRead_47 n z  a0 x1 a2) (fun _ _ _ => none) n x3 x4 d
noncomputable def f_X4_namesRead_30 (n : Nat) (z : ix_Z) (rec4 : Int32 → Int32 → ix_D2 → Option (Option Nat × ix_Z × ix_D2)) (a0 : Nat) (x2 : Int32) (s0 : Int32) (s1 : Int32) (d : ix_D2) : Option (Option Nat × ix_Z × ix_D2) :=
  ix_lt (s1 + s0) (fun x1_26 => ix_lt (x2 + 1) (fun x2_28 => rec4 x1_26 x2_28 d))
noncomputable def b_X4_namesRead_4 (n : Nat) (z : ix_Z)  (a0 : Nat) (rec4 : Int32 → Int32 → ix_D2 → Option (Option Nat × ix_Z × ix_D2)) (x1 : Int32) (x2 : Int32) (d : ix_D2) : Option (Option Nat × ix_Z × ix_D2) :=
  ix_ck (ix_ok z [4] a0) (ix_if (d.1 a0 7 ≤ x2) (ix_ck (¬ x1 < 0 ∧ ix_n x1 ≤ 64) (ix_lt (ix_zn z 20 (ix_n x1)) (fun z_4 => ix_lt (ix_dn d z.2.2) (fun d_6 => f_X4_namesRead_47 n z_4  a0 x1 z.2.2 0 0 d_6)))) (ix_bd1 (z.1 a0 6) (fun b_22 => ix_ck (ix_ix z 20 b_22 x2) (ix_if (10000 ≤ d.1 b_22 (ix_n x2)) (f_X4_namesRead_30 n z rec4 a0 x2 0 x1 d) (f_X4_namesRead_30 n z rec4 a0 x2 1 x1 d)))))
noncomputable def f_X4_namesRead_4 (n : Nat) (z : ix_Z)  (a0 : Nat) (x1 : Int32) (x2 : Int32) (d : ix_D2) : Option (Option Nat × ix_Z × ix_D2) := ix_fix (b_X4_namesRead_4 n z  a0) (fun _ _ _ => none) n x1 x2 d
noncomputable def f_X4_namesRead (n : Nat) (z : ix_Z) (a0 : Nat) (d : ix_D2) : Option (Option Nat × ix_Z × ix_D2) :=
  f_X4_namesRead_4 n z  a0 0 0 d
set_option maxRecDepth 20000 in
theorem t_X4_namesRead_96 {l : Launch} {p : Program} {e : Env} {s : State} {m : MethodId} {args : Array Value} {below : List Frame} {meth : Method} {c : Code} {K : ix_Cx} (hKp : ix_Kp K) {n : Nat} {z : ix_Z} (X : ix_X p s m args c K cX4_namesRead RX4 5) (hr : meth.sig.returnType = (some (.array .int))) (hlk : meth.locks = false)  {a2 : Nat} {r : Option Nat} {z1 : ix_Z} {d1 : ix_D2}  {d : ix_D2} (h : f_X4_namesRead_96 n z  a2 d = some (r, z1, d1)) : ix_G p l e (ix_rm 1 23 1 64) s m args below meth c (MQ below (ix_Post K (some (ix_rv K r)) (ix_w z1 d1)) args s 1 64 (ix_A K)) K 5 1 64 96 [(2, .ref (K.2.2.1 + a2))] [] (ix_w z d) := by
  unfold f_X4_namesRead_96 at h
  refine ix_aload_n (i := 2) (j := 0) X (ix_tb_at tb_X4_namesRead 53 rfl) rfl rfl (pc1 := 97) rfl ?_
  exact ix_aret (v := (some a2)) X hr (Or.inr ⟨_, rfl⟩) hlk (ix_r3 (f := fun r => some (ix_rv K r)) (g := ix_w) h) (ix_tb_at tb_X4_namesRead 54 rfl)
set_option maxRecDepth 20000 in
theorem t_X4_namesRead_90 {l : Launch} {p : Program} {e : Env} {s : State} {m : MethodId} {args : Array Value} {below : List Frame} {meth : Method} {c : Code} {K : ix_Cx} (hKp : ix_Kp K) {n : Nat} {z : ix_Z} (X : ix_X p s m args c K cX4_namesRead RX4 5) (hr : meth.sig.returnType = (some (.array .int))) (hlk : meth.locks = false) {rec47 : Int32 → Int32 → ix_D2 → Option (Option Nat × ix_Z × ix_D2)} {a0 : Nat} {x1 : Int32} {a2 : Nat} {x3 : Int32} {x4 : Int32} {r : Option Nat} {z1 : ix_Z} {d1 : ix_D2} (hrec47 : ∀ (x3 : Int32) (x4 : Int32) (d : ix_D2), rec47 x3 x4 d = some (r, z1, d1) → ix_G p l e (ix_rm 1 23 1 64) s m args below meth c (MQ below (ix_Post K (some (ix_rv K r)) (ix_w z1 d1)) args s 1 64 (ix_A K)) K 5 1 64 47 [(0, .ref (K.2.2.1 + a0)), (1, .int x1), (2, .ref (K.2.2.1 + a2)), (3, .int x3), (4, .int x4)] [] (ix_w z d)) {d : ix_D2} (h : f_X4_namesRead_90 n z rec47 a0 x1 a2 x3 x4 d = some (r, z1, d1)) : ix_G p l e (ix_rm 1 23 1 64) s m args below meth c (MQ below (ix_Post K (some (ix_rv K r)) (ix_w z1 d1)) args s 1 64 (ix_A K)) K 5 1 64 90 [(0, .ref (K.2.2.1 + a0)), (1, .int x1), (2, .ref (K.2.2.1 + a2)), (3, .int x3), (4, .int x4)] [] (ix_w z d) := by
  unfold f_X4_namesRead_90 at h
  obtain ⟨x4_15, e_16, h⟩ := ix_lt_ex h
  refine ix_iinc (i := 4) (j := 4) (v := x4_15) (L1 := [(4, .int x4_15), (0, .ref (K.2.2.1 + a0)), (1, .int x1), (2, .ref (K.2.2.1 + a2)), (3, .int x3)]) X (ix_tb_at tb_X4_namesRead 51 rfl) rfl (by rw [oi_1]; exact e_16.symm) (Nat.le_of_ble_eq_true rfl) rfl (pc1 := 93) rfl ?_
  refine ix_goto (tgt := 47) X (ix_tb_at tb_X4_namesRead 52 rfl) (by decide) ?_
  refine ix_sub (L1 := [(0, .ref (K.2.2.1 + a0)), (1, .int x1), (2, .ref (K.2.2.1 + a2)), (3, .int x3), (4, .int x4_15)]) [1, 2, 3, 4, 0] rfl ?_
  exact hrec47 x3 x4_15 d h
set_option maxRecDepth 20000 in
theorem tb_X4_namesRead_47 {l : Launch} {p : Program} {e : Env} {s : State} {m : MethodId} {args : Array Value} {below : List Frame} {meth : Method} {c : Code} {K : ix_Cx} (hKp : ix_Kp K) {n : Nat} {z : ix_Z} (X : ix_X p s m args c K cX4_namesRead RX4 5) (hr : meth.sig.returnType = (some (.array .int))) (hlk : meth.locks = false)  {a0 : Nat} {x1 : Int32} {a2 : Nat} {rec47 : Int32 → Int32 → ix_D2 → Option (Option Nat × ix_Z × ix_D2)} {r : Option Nat} {z1 : ix_Z} {d1 : ix_D2} (hrec47 : ∀ (x3 : Int32) (x4 : Int32) (d : ix_D2), rec47 x3 x4 d = some (r, z1, d1) → ix_G p l e (ix_rm 1 23 1 64) s m args below meth c (MQ below (ix_Post K (some (ix_rv K r)) (ix_w z1 d1)) args s 1 64 (ix_A K)) K 5 1 64 47 [(0, .ref (K.2.2.1 + a0)), (1, .int x1), (2, .ref (K.2.2.1 + a2)), (3, .int x3), (4, .int x4)] [] (ix_w z d)) {x3 : Int32} {x4 : Int32} {d : ix_D2} (h : b_X4_namesRead_47 n z  a0 x1 a2 rec47 x3 x4 d = some (r, z1, d1)) : ix_G p l e (ix_rm 1 23 1 64) s m args below meth c (MQ below (ix_Post K (some (ix_rv K r)) (ix_w z1 d1)) args s 1 64 (ix_A K)) K 5 1 64 47 [(0, .ref (K.2.2.1 + a0)), (1, .int x1), (2, .ref (K.2.2.1 + a2)), (3, .int x3), (4, .int x4)] [] (ix_w z d) := by
  unfold b_X4_namesRead_47 at h
  refine ix_iload (i := 4) (j := 4) X (ix_tb_at tb_X4_namesRead 29 rfl) rfl (pc1 := 49) rfl ?_
  refine ix_aload_n (i := 0) (j := 0) X (ix_tb_at tb_X4_namesRead 30 rfl) rfl rfl (pc1 := 50) rfl ?_
  obtain ⟨k_8, h⟩ := ix_ck_some h
  refine iz_getI X fl_RX4_38 k_8 (ix_tb_at tb_X4_namesRead 31 rfl) (pc1 := 53) rfl ?_
  refine ix_icmp_ge (tgt := 96) X (ix_tb_at tb_X4_namesRead 32 rfl) (by decide) (pc1 := 56) rfl (fun q_9 => ?_) (fun q_9 => ?_)
  · have h := ix_ift q_9 h
    refine ix_sub (L1 := [(2, .ref (K.2.2.1 + a2))]) [2] rfl ?_
    exact t_X4_namesRead_96 hKp X hr hlk  h
  · have h := ix_iff q_9 h
    refine ix_iload_n (i := 3) (j := 3) X (ix_tb_at tb_X4_namesRead 33 rfl) rfl rfl (pc1 := 57) rfl ?_
    refine ix_iload_n (i := 1) (j := 1) X (ix_tb_at tb_X4_namesRead 34 rfl) rfl rfl (pc1 := 58) rfl ?_
    refine ix_icmp_ge (tgt := 96) X (ix_tb_at tb_X4_namesRead 35 rfl) (by decide) (pc1 := 61) rfl (fun q_10 => ?_) (fun q_10 => ?_)
    · have h := ix_ift q_10 h
      refine ix_sub (L1 := [(2, .ref (K.2.2.1 + a2))]) [2] rfl ?_
      exact t_X4_namesRead_96 hKp X hr hlk  h
    · have h := ix_iff q_10 h
      refine ix_aload_n (i := 0) (j := 0) X (ix_tb_at tb_X4_namesRead 36 rfl) rfl rfl (pc1 := 62) rfl ?_
      obtain ⟨b_11, q_12, h⟩ := ix_bd1_ex h
      refine iz_getR X fl_RX4_22 k_8 q_12 (ix_tb_at tb_X4_namesRead 37 rfl) (pc1 := 65) rfl ?_
      refine ix_iload (i := 4) (j := 4) X (ix_tb_at tb_X4_namesRead 38 rfl) rfl (pc1 := 67) rfl ?_
      obtain ⟨k_13, h⟩ := ix_ck_some h
      refine iz_iald X k_13 (ix_tb_at tb_X4_namesRead 39 rfl) (pc1 := 68) rfl ?_
      refine ix_sipush (v := 10000) X (ix_tb_at tb_X4_namesRead 40 rfl) (by decide) (pc1 := 71) rfl ?_
      refine ix_icmp_ge (tgt := 90) X (ix_tb_at tb_X4_namesRead 41 rfl) (by decide) (pc1 := 74) rfl (fun q_14 => ?_) (fun q_14 => ?_)
      · have h := ix_ift q_14 h
        refine ix_sub (L1 := [(0, .ref (K.2.2.1 + a0)), (1, .int x1), (2, .ref (K.2.2.1 + a2)), (3, .int x3), (4, .int x4)]) [0, 1, 2, 3, 4] rfl ?_
        exact t_X4_namesRead_90 hKp X hr hlk hrec47 h
      · have h := ix_iff q_14 h
        refine ix_aload_n (i := 2) (j := 2) X (ix_tb_at tb_X4_namesRead 42 rfl) rfl rfl (pc1 := 75) rfl ?_
        refine ix_iload_n (i := 3) (j := 3) X (ix_tb_at tb_X4_namesRead 43 rfl) rfl rfl (pc1 := 76) rfl ?_
        refine ix_aload_n (i := 0) (j := 0) X (ix_tb_at tb_X4_namesRead 44 rfl) rfl rfl (pc1 := 77) rfl ?_
        refine iz_getR X fl_RX4_22 k_8 q_12 (ix_tb_at tb_X4_namesRead 45 rfl) (pc1 := 80) rfl ?_
        refine ix_iload (i := 4) (j := 4) X (ix_tb_at tb_X4_namesRead 46 rfl) rfl (pc1 := 82) rfl ?_
        refine iz_iald X k_13 (ix_tb_at tb_X4_namesRead 47 rfl) (pc1 := 83) rfl ?_
        refine ix_mabs X ml_RX4_98 (Nat.le_of_ble_eq_true rfl) (Nat.le_of_ble_eq_true rfl) ⟨Nat.le_of_ble_eq_true rfl, Nat.le_of_ble_eq_true rfl⟩ (ix_tb_at tb_X4_namesRead 48 rfl) (pc1 := 86) rfl ?_
        obtain ⟨k_17, h⟩ := ix_ck_some h
        obtain ⟨d_18, e_19, h⟩ := ix_lt_ex h
        refine iz_iast X k_17 (ix_tb_at tb_X4_namesRead 49 rfl) e_19 (pc1 := 87) rfl ?_
        obtain ⟨x3_20, e_21, h⟩ := ix_lt_ex h
        refine ix_iinc (i := 3) (j := 3) (v := x3_20) (L1 := [(3, .int x3_20), (0, .ref (K.2.2.1 + a0)), (1, .int x1), (2, .ref (K.2.2.1 + a2)), (4, .int x4)]) X (ix_tb_at tb_X4_namesRead 50 rfl) rfl (by rw [oi_1]; exact e_21.symm) (Nat.le_of_ble_eq_true rfl) rfl (pc1 := 90) rfl ?_
        refine ix_sub (L1 := [(0, .ref (K.2.2.1 + a0)), (1, .int x1), (2, .ref (K.2.2.1 + a2)), (3, .int x3_20), (4, .int x4)]) [1, 2, 3, 0, 4] rfl ?_
        exact t_X4_namesRead_90 hKp X hr hlk hrec47 h
theorem t_X4_namesRead_47 {l : Launch} {p : Program} {e : Env} {s : State} {m : MethodId} {args : Array Value} {below : List Frame} {meth : Method} {c : Code} {K : ix_Cx} (hKp : ix_Kp K) {n : Nat} {z : ix_Z} (X : ix_X p s m args c K cX4_namesRead RX4 5) (hr : meth.sig.returnType = (some (.array .int))) (hlk : meth.locks = false)  {a0 : Nat} {x1 : Int32} {a2 : Nat} {r : Option Nat} {z1 : ix_Z} {d1 : ix_D2}  {x3 : Int32} {x4 : Int32} {d : ix_D2} (h : f_X4_namesRead_47 n z  a0 x1 a2 x3 x4 d = some (r, z1, d1)) : ix_G p l e (ix_rm 1 23 1 64) s m args below meth c (MQ below (ix_Post K (some (ix_rv K r)) (ix_w z1 d1)) args s 1 64 (ix_A K)) K 5 1 64 47 [(0, .ref (K.2.2.1 + a0)), (1, .int x1), (2, .ref (K.2.2.1 + a2)), (3, .int x3), (4, .int x4)] [] (ix_w z d) := by
  have key : ∀ (f : Nat) (x3 : Int32) (x4 : Int32) (d : ix_D2), ix_fix (b_X4_namesRead_47 n z  a0 x1 a2) (fun _ _ _ => none) f x3 x4 d = some (r, z1, d1) → ix_G p l e (ix_rm 1 23 1 64) s m args below meth c (MQ below (ix_Post K (some (ix_rv K r)) (ix_w z1 d1)) args s 1 64 (ix_A K)) K 5 1 64 47 [(0, .ref (K.2.2.1 + a0)), (1, .int x1), (2, .ref (K.2.2.1 + a2)), (3, .int x3), (4, .int x4)] [] (ix_w z d) := by
    intro f
    induction f with
    | zero =>
      intro x3 x4 d h
      have h : (none : Option (Option Nat × ix_Z × ix_D2)) = some (r, z1, d1) := h
      cases h
    | succ f ih =>
      intro x3 x4 d h
      exact tb_X4_namesRead_47 hKp X hr hlk (rec47 := ix_fix (b_X4_namesRead_47 n z  a0 x1 a2) (fun _ _ _ => none) f)  ih h
  exact key n x3 x4 d h
set_option maxRecDepth 20000 in
theorem t_X4_namesRead_30 {l : Launch} {p : Program} {e : Env} {s : State} {m : MethodId} {args : Array Value} {below : List Frame} {meth : Method} {c : Code} {K : ix_Cx} (hKp : ix_Kp K) {n : Nat} {z : ix_Z} (X : ix_X p s m args c K cX4_namesRead RX4 5) (hr : meth.sig.returnType = (some (.array .int))) (hlk : meth.locks = false) {rec4 : Int32 → Int32 → ix_D2 → Option (Option Nat × ix_Z × ix_D2)} {a0 : Nat} {x2 : Int32} {s0 : Int32} {s1 : Int32} {r : Option Nat} {z1 : ix_Z} {d1 : ix_D2} (hrec4 : ∀ (x1 : Int32) (x2 : Int32) (d : ix_D2), rec4 x1 x2 d = some (r, z1, d1) → ix_G p l e (ix_rm 1 23 1 64) s m args below meth c (MQ below (ix_Post K (some (ix_rv K r)) (ix_w z1 d1)) args s 1 64 (ix_A K)) K 5 0 0 4 [(0, .ref (K.2.2.1 + a0)), (1, .int x1), (2, .int x2)] [] (ix_w z d)) {d : ix_D2} (h : f_X4_namesRead_30 n z rec4 a0 x2 s0 s1 d = some (r, z1, d1)) : ix_G p l e (ix_rm 1 23 1 64) s m args below meth c (MQ below (ix_Post K (some (ix_rv K r)) (ix_w z1 d1)) args s 1 64 (ix_A K)) K 5 0 0 30 [(0, .ref (K.2.2.1 + a0)), (2, .int x2)] [.int s0, .int s1] (ix_w z d) := by
  unfold f_X4_namesRead_30 at h
  refine ix_iadd X (ix_tb_at tb_X4_namesRead 18 rfl) (pc1 := 31) rfl ?_
  obtain ⟨x1_26, e_27, h⟩ := ix_lt_ex h
  refine ix_nmi e_27 ?_
  refine ix_istore_n (i := 1) (L1 := [(1, .int x1_26), (0, .ref (K.2.2.1 + a0)), (2, .int x2)]) X (ix_tb_at tb_X4_namesRead 19 rfl) rfl (Nat.le_of_ble_eq_true rfl) rfl (pc1 := 32) rfl ?_
  obtain ⟨x2_28, e_29, h⟩ := ix_lt_ex h
  refine ix_iinc (i := 2) (j := 2) (v := x2_28) (L1 := [(2, .int x2_28), (1, .int x1_26), (0, .ref (K.2.2.1 + a0))]) X (ix_tb_at tb_X4_namesRead 20 rfl) rfl (by rw [oi_1]; exact e_29.symm) (Nat.le_of_ble_eq_true rfl) rfl (pc1 := 35) rfl ?_
  refine ix_goto (tgt := 4) X (ix_tb_at tb_X4_namesRead 21 rfl) (by decide) ?_
  refine ix_sub (L1 := [(0, .ref (K.2.2.1 + a0)), (1, .int x1_26), (2, .int x2_28)]) [2, 1, 0] rfl ?_
  exact hrec4 x1_26 x2_28 d h
set_option maxRecDepth 20000 in
theorem tb_X4_namesRead_4 {l : Launch} {p : Program} {e : Env} {s : State} {m : MethodId} {args : Array Value} {below : List Frame} {meth : Method} {c : Code} {K : ix_Cx} (hKp : ix_Kp K) {n : Nat} {z : ix_Z} (X : ix_X p s m args c K cX4_namesRead RX4 5) (hr : meth.sig.returnType = (some (.array .int))) (hlk : meth.locks = false)  {a0 : Nat} {rec4 : Int32 → Int32 → ix_D2 → Option (Option Nat × ix_Z × ix_D2)} {r : Option Nat} {z1 : ix_Z} {d1 : ix_D2} (hrec4 : ∀ (x1 : Int32) (x2 : Int32) (d : ix_D2), rec4 x1 x2 d = some (r, z1, d1) → ix_G p l e (ix_rm 1 23 1 64) s m args below meth c (MQ below (ix_Post K (some (ix_rv K r)) (ix_w z1 d1)) args s 1 64 (ix_A K)) K 5 0 0 4 [(0, .ref (K.2.2.1 + a0)), (1, .int x1), (2, .int x2)] [] (ix_w z d)) {x1 : Int32} {x2 : Int32} {d : ix_D2} (h : b_X4_namesRead_4 n z  a0 rec4 x1 x2 d = some (r, z1, d1)) : ix_G p l e (ix_rm 1 23 1 64) s m args below meth c (MQ below (ix_Post K (some (ix_rv K r)) (ix_w z1 d1)) args s 1 64 (ix_A K)) K 5 0 0 4 [(0, .ref (K.2.2.1 + a0)), (1, .int x1), (2, .int x2)] [] (ix_w z d) := by
  unfold b_X4_namesRead_4 at h
  refine ix_iload_n (i := 2) (j := 2) X (ix_tb_at tb_X4_namesRead 4 rfl) rfl rfl (pc1 := 5) rfl ?_
  refine ix_aload_n (i := 0) (j := 0) X (ix_tb_at tb_X4_namesRead 5 rfl) rfl rfl (pc1 := 6) rfl ?_
  obtain ⟨k_1, h⟩ := ix_ck_some h
  refine iz_getI X fl_RX4_38 k_1 (ix_tb_at tb_X4_namesRead 6 rfl) (pc1 := 9) rfl ?_
  refine ix_icmp_ge (tgt := 38) X (ix_tb_at tb_X4_namesRead 7 rfl) (by decide) (pc1 := 12) rfl (fun q_2 => ?_) (fun q_2 => ?_)
  · have h := ix_ift q_2 h
    refine ix_iload_n (i := 1) (j := 1) X (ix_tb_at tb_X4_namesRead 22 rfl) rfl rfl (pc1 := 39) rfl ?_
    obtain ⟨k_3, h⟩ := ix_ck_some h
    obtain ⟨z_4, e_5, h⟩ := ix_lt_ex h
    obtain ⟨d_6, e_7, h⟩ := ix_lt_ex h
    refine iz_newa_int (pl := 98) X (by decide +kernel) k_3.1 (Nat.le_trans k_3.2 (by decide)) (Nat.le_of_ble_eq_true rfl) (Nat.le_trans (Nat.add_le_add_left k_3.2 _) (Nat.le_of_ble_eq_true rfl)) (ix_tb_at tb_X4_namesRead 23 rfl) e_5 e_7 (pc1 := 41) rfl ?_
    refine ix_widen (k1 := 1) (n1 := 64) (Nat.le_of_ble_eq_true rfl) (Nat.le_trans (Nat.add_le_add_left k_3.2 _) (Nat.le_of_ble_eq_true rfl)) ?_
    refine ix_astore_n (i := 2) (L1 := [(2, .ref (K.2.2.1 + z_4.2.2)), (0, .ref (K.2.2.1 + a0)), (1, .int x1)]) X (ix_tb_at tb_X4_namesRead 24 rfl) rfl (Nat.le_of_ble_eq_true rfl) rfl (pc1 := 42) rfl ?_
    refine ix_iconst (v := 0) X (ix_tb_at tb_X4_namesRead 25 rfl) (by decide) (pc1 := 43) rfl ?_
    refine ix_istore_n (i := 3) (L1 := [(3, .int 0), (2, .ref (K.2.2.1 + z_4.2.2)), (0, .ref (K.2.2.1 + a0)), (1, .int x1)]) X (ix_tb_at tb_X4_namesRead 26 rfl) rfl (Nat.le_of_ble_eq_true rfl) rfl (pc1 := 44) rfl ?_
    refine ix_iconst (v := 0) X (ix_tb_at tb_X4_namesRead 27 rfl) (by decide) (pc1 := 45) rfl ?_
    refine ix_istore (i := 4) (L1 := [(4, .int 0), (3, .int 0), (2, .ref (K.2.2.1 + z_4.2.2)), (0, .ref (K.2.2.1 + a0)), (1, .int x1)]) X (ix_tb_at tb_X4_namesRead 28 rfl) (Nat.le_of_ble_eq_true rfl) rfl (pc1 := 47) rfl ?_
    refine ix_sub (L1 := [(0, .ref (K.2.2.1 + a0)), (1, .int x1), (2, .ref (K.2.2.1 + z.2.2)), (3, .int 0), (4, .int 0)]) [3, 4, 2, 1, 0] rfl ?_
    exact t_X4_namesRead_47 hKp X hr hlk  h
  · have h := ix_iff q_2 h
    refine ix_iload_n (i := 1) (j := 1) X (ix_tb_at tb_X4_namesRead 8 rfl) rfl rfl (pc1 := 13) rfl ?_
    refine ix_aload_n (i := 0) (j := 0) X (ix_tb_at tb_X4_namesRead 9 rfl) rfl rfl (pc1 := 14) rfl ?_
    obtain ⟨b_22, q_23, h⟩ := ix_bd1_ex h
    refine iz_getR X fl_RX4_22 k_1 q_23 (ix_tb_at tb_X4_namesRead 10 rfl) (pc1 := 17) rfl ?_
    refine ix_iload_n (i := 2) (j := 2) X (ix_tb_at tb_X4_namesRead 11 rfl) rfl rfl (pc1 := 18) rfl ?_
    obtain ⟨k_24, h⟩ := ix_ck_some h
    refine iz_iald X k_24 (ix_tb_at tb_X4_namesRead 12 rfl) (pc1 := 19) rfl ?_
    refine ix_sipush (v := 10000) X (ix_tb_at tb_X4_namesRead 13 rfl) (by decide) (pc1 := 22) rfl ?_
    refine ix_icmp_ge (tgt := 29) X (ix_tb_at tb_X4_namesRead 14 rfl) (by decide) (pc1 := 25) rfl (fun q_25 => ?_) (fun q_25 => ?_)
    · have h := ix_ift q_25 h
      refine ix_iconst (v := 0) X (ix_tb_at tb_X4_namesRead 17 rfl) (by decide) (pc1 := 30) rfl ?_
      refine ix_sub (L1 := [(0, .ref (K.2.2.1 + a0)), (2, .int x2)]) [0, 2] rfl ?_
      exact t_X4_namesRead_30 hKp X hr hlk hrec4 h
    · have h := ix_iff q_25 h
      refine ix_iconst (v := 1) X (ix_tb_at tb_X4_namesRead 15 rfl) (by decide) (pc1 := 26) rfl ?_
      refine ix_goto (tgt := 30) X (ix_tb_at tb_X4_namesRead 16 rfl) (by decide) ?_
      refine ix_sub (L1 := [(0, .ref (K.2.2.1 + a0)), (2, .int x2)]) [0, 2] rfl ?_
      exact t_X4_namesRead_30 hKp X hr hlk hrec4 h
theorem t_X4_namesRead_4 {l : Launch} {p : Program} {e : Env} {s : State} {m : MethodId} {args : Array Value} {below : List Frame} {meth : Method} {c : Code} {K : ix_Cx} (hKp : ix_Kp K) {n : Nat} {z : ix_Z} (X : ix_X p s m args c K cX4_namesRead RX4 5) (hr : meth.sig.returnType = (some (.array .int))) (hlk : meth.locks = false)  {a0 : Nat} {r : Option Nat} {z1 : ix_Z} {d1 : ix_D2}  {x1 : Int32} {x2 : Int32} {d : ix_D2} (h : f_X4_namesRead_4 n z  a0 x1 x2 d = some (r, z1, d1)) : ix_G p l e (ix_rm 1 23 1 64) s m args below meth c (MQ below (ix_Post K (some (ix_rv K r)) (ix_w z1 d1)) args s 1 64 (ix_A K)) K 5 0 0 4 [(0, .ref (K.2.2.1 + a0)), (1, .int x1), (2, .int x2)] [] (ix_w z d) := by
  have key : ∀ (f : Nat) (x1 : Int32) (x2 : Int32) (d : ix_D2), ix_fix (b_X4_namesRead_4 n z  a0) (fun _ _ _ => none) f x1 x2 d = some (r, z1, d1) → ix_G p l e (ix_rm 1 23 1 64) s m args below meth c (MQ below (ix_Post K (some (ix_rv K r)) (ix_w z1 d1)) args s 1 64 (ix_A K)) K 5 0 0 4 [(0, .ref (K.2.2.1 + a0)), (1, .int x1), (2, .int x2)] [] (ix_w z d) := by
    intro f
    induction f with
    | zero =>
      intro x1 x2 d h
      have h : (none : Option (Option Nat × ix_Z × ix_D2)) = some (r, z1, d1) := h
      cases h
    | succ f ih =>
      intro x1 x2 d h
      exact tb_X4_namesRead_4 hKp X hr hlk (rec4 := ix_fix (b_X4_namesRead_4 n z  a0) (fun _ _ _ => none) f)  ih h
  exact key n x1 x2 d h
set_option maxRecDepth 20000 in
theorem c_X4_namesRead {l : Launch} {K : ix_Cx} (hKp : ix_Kp K) {n : Nat} {z : ix_Z} {a0 : Nat} {d : ix_D2} {r : Option Nat} {z1 : ix_Z} {d1 : ix_D2} (h : f_X4_namesRead n z a0 d = some (r, z1, d1)) : ix_M l K yX4_namesRead cX4_namesRead 5 (some (.array .int)) 1 23 1 64 [.ref (K.2.2.1 + a0)] (ix_w z d) (some (ix_rv K r)) (ix_w z1 d1) := by
  refine ix_met mf_X4_namesRead hKp (Nat.le_of_ble_eq_true rfl) ?_
  intro p e s m args below meth c hr hlk hnm X
  have X : ix_X p s m args c K cX4_namesRead RX4 5 := X
  show ix_G p l e (ix_rm 1 23 1 64) s m args below meth c (MQ below (ix_Post K (some (ix_rv K r)) (ix_w z1 d1)) args s 1 64 (ix_A K)) K 5 0 0 0 [(0, .ref (K.2.2.1 + a0))] [] (ix_w z d)
  unfold f_X4_namesRead at h
  refine ix_iconst (v := 0) X (ix_tb_at tb_X4_namesRead 0 rfl) (by decide) (pc1 := 1) rfl ?_
  refine ix_istore_n (i := 1) (L1 := [(1, .int 0), (0, .ref (K.2.2.1 + a0))]) X (ix_tb_at tb_X4_namesRead 1 rfl) rfl (Nat.le_of_ble_eq_true rfl) rfl (pc1 := 2) rfl ?_
  refine ix_iconst (v := 0) X (ix_tb_at tb_X4_namesRead 2 rfl) (by decide) (pc1 := 3) rfl ?_
  refine ix_istore_n (i := 2) (L1 := [(2, .int 0), (1, .int 0), (0, .ref (K.2.2.1 + a0))]) X (ix_tb_at tb_X4_namesRead 3 rfl) rfl (Nat.le_of_ble_eq_true rfl) rfl (pc1 := 4) rfl ?_
  refine ix_sub (L1 := [(0, .ref (K.2.2.1 + a0)), (1, .int 0), (2, .int 0)]) [2, 1, 0] rfl ?_
  exact t_X4_namesRead_4 hKp X hr hlk  h
def tab_X5_init : List (Nat × Instr × Nat) := [(0, .aload_n 0, 1), (1, .aload_n 1, 1), (2, .iload_n 2, 1), (3, .invokespecial 1, 3), (6, .return_, 1)]
theorem tb_X5_init : ix_tab cX5_init tab_X5_init := by
  unfold ix_tab
  decide +kernel
noncomputable def f_X5_init (n : Nat) (z : ix_Z) (a0 : Nat) (a1 : Nat) (x2 : Int32) (d : ix_D2) : Option (ix_Z × ix_D2) :=
  ix_bd2 (f_X0_init n z a0 a1 x2 d) (fun z_3 d_1 => some (z_3, d_1))
set_option maxRecDepth 20000 in
theorem c_X5_init {l : Launch} {K : ix_Cx} (hKp : ix_Kp K) {n : Nat} {z : ix_Z} {a0 : Nat} {a1 : Nat} {x2 : Int32} {d : ix_D2} {z1 : ix_Z} {d1 : ix_D2} (h : f_X5_init n z a0 a1 x2 d = some (z1, d1)) : ix_M l K yX5_init cX5_init 3 (none : Option Jvm.ClassFile.FieldType) 4 87 0 0 [.ref (K.2.2.1 + a0), .ref (K.2.2.1 + a1), .int x2] (ix_w z d) none (ix_w z1 d1) := by
  refine ix_met mf_X5_init hKp (Nat.le_of_ble_eq_true rfl) ?_
  intro p e s m args below meth c hr hlk hnm X
  have X : ix_X p s m args c K cX5_init RX5 3 := X
  have hnm : meth.name = "<init>" := hnm
  show ix_G p l e (ix_rm 4 87 0 0) s m args below meth c (MQ below (ix_Post K none (ix_w z1 d1)) args s 0 0 (ix_A K)) K 3 0 0 0 [(0, .ref (K.2.2.1 + a0)), (1, .ref (K.2.2.1 + a1)), (2, .int x2)] [] (ix_w z d)
  unfold f_X5_init at h
  refine ix_aload_n (i := 0) (j := 0) X (ix_tb_at tb_X5_init 0 rfl) rfl rfl (pc1 := 1) rfl ?_
  refine ix_aload_n (i := 1) (j := 1) X (ix_tb_at tb_X5_init 1 rfl) rfl rfl (pc1 := 2) rfl ?_
  refine ix_iload_n (i := 2) (j := 2) X (ix_tb_at tb_X5_init 2 rfl) rfl rfl (pc1 := 3) rfl ?_
  obtain ⟨z_3, d_1, h_2, h⟩ := ix_bd2_ex h
  refine ix_callI (As := [.ref (K.2.2.1 + a1), .int x2]) (rest := []) X mf_X0_init mi_X0_init rfl ml_RX5_1 ⟨Nat.le_of_ble_eq_true rfl, Nat.le_of_ble_eq_true rfl⟩ ⟨Nat.le_of_ble_eq_true rfl, Nat.le_of_ble_eq_true rfl⟩ rfl (Nat.le_of_ble_eq_true rfl) (ix_tb_at tb_X5_init 3 rfl) (c_X0_init hKp h_2) rfl (pc1 := 6) rfl ?_
  exact ix_vret X hr hlk (ix_r2v (g := ix_w) h) (ix_tb_at tb_X5_init 4 rfl)
def tab_X5_layInto : List (Nat × Instr × Nat) := [(0, .aload_n 0, 1), (1, .aload_n 1, 1), (2, .invokevirtual 7, 3), (5, .astore_n 2, 1), (6, .aload_n 0, 1), (7, .getfield 13, 3), (10, .arraylength, 1), (11, .aload_n 0, 1), (12, .getfield 17, 3), (15, .if_icmp .le 18, 3), (18, .aload_n 1, 1), (19, .aload_n 2, 1), (20, .aload_n 0, 1), (21, .getfield 17, 3), (24, .iconst 1, 1), (25, .iadd, 1), (26, .iaload, 1), (27, .ineg, 1), (28, .iconst 0, 1), (29, .iconst 0, 1), (30, .invokevirtual 21, 3), (33, .aload_n 0, 1), (34, .getfield 17, 3), (37, .aload_n 0, 1), (38, .getfield 13, 3), (41, .arraylength, 1), (42, .if_icmp .le 10, 3), (45, .aload_n 1, 1), (46, .invokevirtual 27, 3), (49, .goto 22, 3), (52, .aload_n 0, 1), (53, .getfield 17, 3), (56, .ifCond .le 15, 3), (59, .aload_n 1, 1), (60, .aload_n 2, 1), (61, .aload_n 0, 1), (62, .getfield 17, 3), (65, .iaload, 1), (66, .iconst 0, 1), (67, .iconst 0, 1), (68, .invokevirtual 21, 3), (71, .return_, 1)]
theorem tb_X5_layInto : ix_tab cX5_layInto tab_X5_layInto := by
  unfold ix_tab
  decide +kernel
noncomputable def v_RX5_7 (n : Nat) (z : ix_Z) (b : Nat) (p0 : Nat) (d : ix_D2) : Option (Option Nat × ix_Z × ix_D2) := f_X0_laySums n z b p0 d
theorem tv_RX5_7 {l : Launch} {p : Program} {e : Env} {s : State} {m : MethodId} {args : Array Value} {below : List Frame} {meth : Method} {c : Code} {K : ix_Cx} {R : Room} {Q : State → Prop} {nL k n pc : Nat} {cc : ByteArray} {L : List (Nat × Value)} {rest : List Value} (hKp : ix_Kp K) (X : ix_X p s m args c K cc RX5 nL) {N : Nat} {z : ix_Z} {b : Nat} {p0 : Nat} {d : ix_D2} {r : Option Nat} {z1 : ix_Z} {d1 : ix_D2} (hk : ix_ok z [5] b) (hcall : v_RX5_7 N z b p0 d = some (r, z1, d1)) (hfr : 5 ≤ R.frames) (hlo : 122 ≤ R.locals) (hcs : k + 1 ≤ R.cells ∧ n + 14 ≤ R.slots) (hrm : (rest.map fun v => v.category).sum ≤ 8) (hd : decode cc pc = .ok (.invokevirtual 7, 3)) {pc1 : Nat} (hp : pc + 3 = pc1) (kk : ix_G p l e R s m args below meth c Q K nL (k + 1) (n + 14) pc1 L (ix_rv K r :: rest) (ix_w z1 d1)) : ix_G p l e R s m args below meth c Q K nL k n pc L (.ref (K.2.2.1 + p0) :: .ref (K.2.2.1 + b) :: rest) (ix_w z d) := by
  unfold v_RX5_7 at hcall
  have h2 := hk.2
  simp only [List.mem_cons, List.not_mem_nil, or_false] at h2
  rcases h2 with h2
  · exact ix_callU (As := [.ref (K.2.2.1 + p0)]) (rest := rest) (x := (⟨"ClauseCourt$Group", "laySums", "(LClauseCourt$Case;)[I"⟩ : MethodName)) (owner := "ClauseCourt$AtMost") (C := RX5) (T := TX5) (nf := 4) (ci := 5) X mf_X0_laySums mi_X0_laySums (ix_wm (i := 577) (by decide +kernel)) (ix_wm (i := 575) (by decide +kernel)) (Or.inl (ix_wm (i := 576) (by decide +kernel))) ⟨by decide, by decide⟩ (by decide +kernel) rfl (by decide) ml_RX5_7 ⟨Nat.le_trans (Nat.le_of_ble_eq_true rfl) hfr, Nat.le_trans (Nat.le_of_ble_eq_true rfl) hlo⟩ ⟨Nat.le_trans (Nat.add_le_add_left (by decide) _) hcs.1, Nat.le_trans (Nat.add_le_add_left (by decide) _) hcs.2⟩ rfl hrm hd ⟨hk.1, h2⟩ (c_X0_laySums hKp hcall) rfl hp (ix_widen (Nat.add_le_add_left (by decide) _) (Nat.add_le_add_left (by decide) _) kk)
noncomputable def f_X5_layInto_33 (n : Nat) (z : ix_Z)  (a0 : Nat) (a1 : Nat) (a2 : Nat) (d : ix_D2) : Option (ix_Z × ix_D2) :=
  ix_ck (ix_ok z [5] a0) (ix_bd1 (z.1 a0 0) (fun b_14 => ix_ck (b_14 < z.2.2 ∧ 20 ≤ (z.2.1 b_14).1 ∧ (z.2.1 b_14).1 < 26) (ix_if (d.1 a0 3 ≤ nI (z.2.1 b_14).2) (ix_if (d.1 a0 3 ≤ 0) (some (z, d)) (ix_ck (ix_ix z 20 a2 (d.1 a0 3)) (ix_ck (ix_ok z [2] a1) (ix_bd1 (f_X2_lay n z a1 (d.1 a2 (ix_n (d.1 a0 3))) 0 0 d) (fun d_20 => some (z, d_20)))))) (ix_ck (ix_ok z [2] a1) (ix_bd1 (f_X2_layDraft n z a1 d) (fun d_23 => some (z, d_23)))))))
noncomputable def f_X5_layInto (n : Nat) (z : ix_Z) (a0 : Nat) (a1 : Nat) (d : ix_D2) : Option (ix_Z × ix_D2) :=
  ix_ck (ix_ok z [5] a0) (ix_bd3 (v_RX5_7 n z a0 a1 d) (fun r_5 z_3 d_2 => ix_bd1 r_5 (fun b_6 => ix_ck (ix_ok z_3 [5] a0) (ix_bd1 (z_3.1 a0 0) (fun b_9 => ix_ck (b_9 < z_3.2.2 ∧ 20 ≤ (z_3.2.1 b_9).1 ∧ (z_3.2.1 b_9).1 < 26) (ix_if (nI (z_3.2.1 b_9).2 ≤ d_2.1 a0 3) (f_X5_layInto_33 n z_3  a0 a1 b_6 d_2) (ix_ck (ix_ix z_3 20 b_6 ((d_2.1 a0 3) + 1)) (ix_ck (ix_ok z_3 [2] a1) (ix_bd1 (f_X2_lay n z_3 a1 (-(d_2.1 b_6 (ix_n ((d_2.1 a0 3) + 1)))) 0 0 d_2) (fun d_27 => f_X5_layInto_33 n z_3  a0 a1 b_6 d_27))))))))))
set_option maxRecDepth 20000 in
theorem t_X5_layInto_33 {l : Launch} {p : Program} {e : Env} {s : State} {m : MethodId} {args : Array Value} {below : List Frame} {meth : Method} {c : Code} {K : ix_Cx} (hKp : ix_Kp K) {n : Nat} {z : ix_Z} (X : ix_X p s m args c K cX5_layInto RX5 3) (hr : meth.sig.returnType = (none : Option Jvm.ClassFile.FieldType)) (hlk : meth.locks = false)  {a0 : Nat} {a1 : Nat} {a2 : Nat} {z1 : ix_Z} {d1 : ix_D2}  {d : ix_D2} (h : f_X5_layInto_33 n z  a0 a1 a2 d = some (z1, d1)) : ix_G p l e (ix_rm 5 122 1 14) s m args below meth c (MQ below (ix_Post K none (ix_w z1 d1)) args s 1 14 (ix_A K)) K 3 1 14 33 [(0, .ref (K.2.2.1 + a0)), (1, .ref (K.2.2.1 + a1)), (2, .ref (K.2.2.1 + a2))] [] (ix_w z d) := by
  unfold f_X5_layInto_33 at h
  refine ix_aload_n (i := 0) (j := 0) X (ix_tb_at tb_X5_layInto 21 rfl) rfl rfl (pc1 := 34) rfl ?_
  obtain ⟨k_13, h⟩ := ix_ck_some h
  refine iz_getI X fl_RX5_17 k_13 (ix_tb_at tb_X5_layInto 22 rfl) (pc1 := 37) rfl ?_
  refine ix_aload_n (i := 0) (j := 0) X (ix_tb_at tb_X5_layInto 23 rfl) rfl rfl (pc1 := 38) rfl ?_
  obtain ⟨b_14, q_15, h⟩ := ix_bd1_ex h
  refine iz_getR X fl_RX5_13 k_13 q_15 (ix_tb_at tb_X5_layInto 24 rfl) (pc1 := 41) rfl ?_
  obtain ⟨k_16, h⟩ := ix_ck_some h
  refine iz_alen X k_16 (ix_tb_at tb_X5_layInto 25 rfl) (pc1 := 42) rfl ?_
  refine ix_icmp_le (tgt := 52) X (ix_tb_at tb_X5_layInto 26 rfl) (by decide) (pc1 := 45) rfl (fun q_17 => ?_) (fun q_17 => ?_)
  · have h := ix_ift q_17 h
    refine ix_aload_n (i := 0) (j := 0) X (ix_tb_at tb_X5_layInto 30 rfl) rfl rfl (pc1 := 53) rfl ?_
    refine iz_getI X fl_RX5_17 k_13 (ix_tb_at tb_X5_layInto 31 rfl) (pc1 := 56) rfl ?_
    refine ix_if_le (tgt := 71) X (ix_tb_at tb_X5_layInto 32 rfl) (by decide) (pc1 := 59) rfl (fun q_18 => ?_) (fun q_18 => ?_)
    · have h := ix_ift q_18 h
      exact ix_vret X hr hlk (ix_r2v (g := ix_w) h) (ix_tb_at tb_X5_layInto 41 rfl)
    · have h := ix_iff q_18 h
      refine ix_aload_n (i := 1) (j := 1) X (ix_tb_at tb_X5_layInto 33 rfl) rfl rfl (pc1 := 60) rfl ?_
      refine ix_aload_n (i := 2) (j := 2) X (ix_tb_at tb_X5_layInto 34 rfl) rfl rfl (pc1 := 61) rfl ?_
      refine ix_aload_n (i := 0) (j := 0) X (ix_tb_at tb_X5_layInto 35 rfl) rfl rfl (pc1 := 62) rfl ?_
      refine iz_getI X fl_RX5_17 k_13 (ix_tb_at tb_X5_layInto 36 rfl) (pc1 := 65) rfl ?_
      obtain ⟨k_19, h⟩ := ix_ck_some h
      refine iz_iald X k_19 (ix_tb_at tb_X5_layInto 37 rfl) (pc1 := 66) rfl ?_
      refine ix_iconst (v := 0) X (ix_tb_at tb_X5_layInto 38 rfl) (by decide) (pc1 := 67) rfl ?_
      refine ix_iconst (v := 0) X (ix_tb_at tb_X5_layInto 39 rfl) (by decide) (pc1 := 68) rfl ?_
      obtain ⟨k_22, h⟩ := ix_ck_some h
      obtain ⟨d_20, h_21, h⟩ := ix_bd1_ex h
      refine ix_callV (As := [.int (d.1 a2 (ix_n (d.1 a0 3))), .int 0, .int 0]) (rest := []) (ci := 2) (T := TX2) (nf := 12) X mf_X2_lay mi_X2_lay ms_X2_lay rfl (Nat.le_of_ble_eq_true rfl) ml_RX5_21 ⟨Nat.le_of_ble_eq_true rfl, Nat.le_of_ble_eq_true rfl⟩ ⟨Nat.le_of_ble_eq_true rfl, Nat.le_of_ble_eq_true rfl⟩ rfl (Nat.le_of_ble_eq_true rfl) (ix_tb_at tb_X5_layInto 40 rfl) ⟨k_22.1, List.mem_singleton.mp k_22.2⟩ (c_X2_lay hKp h_21) rfl (pc1 := 71) rfl ?_
      exact ix_vret X hr hlk (ix_r2v (g := ix_w) h) (ix_tb_at tb_X5_layInto 41 rfl)
  · have h := ix_iff q_17 h
    refine ix_aload_n (i := 1) (j := 1) X (ix_tb_at tb_X5_layInto 27 rfl) rfl rfl (pc1 := 46) rfl ?_
    obtain ⟨k_25, h⟩ := ix_ck_some h
    obtain ⟨d_23, h_24, h⟩ := ix_bd1_ex h
    refine ix_callV (As := []) (rest := []) (ci := 2) (T := TX2) (nf := 12) X mf_X2_layDraft mi_X2_layDraft ms_X2_layDraft rfl (Nat.le_of_ble_eq_true rfl) ml_RX5_27 ⟨Nat.le_of_ble_eq_true rfl, Nat.le_of_ble_eq_true rfl⟩ ⟨Nat.le_of_ble_eq_true rfl, Nat.le_of_ble_eq_true rfl⟩ rfl (Nat.le_of_ble_eq_true rfl) (ix_tb_at tb_X5_layInto 28 rfl) ⟨k_25.1, List.mem_singleton.mp k_25.2⟩ (c_X2_layDraft hKp h_24) rfl (pc1 := 49) rfl ?_
    refine ix_goto (tgt := 71) X (ix_tb_at tb_X5_layInto 29 rfl) (by decide) ?_
    exact ix_vret X hr hlk (ix_r2v (g := ix_w) h) (ix_tb_at tb_X5_layInto 41 rfl)
set_option maxRecDepth 20000 in
theorem c_X5_layInto {l : Launch} {K : ix_Cx} (hKp : ix_Kp K) {n : Nat} {z : ix_Z} {a0 : Nat} {a1 : Nat} {d : ix_D2} {z1 : ix_Z} {d1 : ix_D2} (h : f_X5_layInto n z a0 a1 d = some (z1, d1)) : ix_M l K yX5_layInto cX5_layInto 3 (none : Option Jvm.ClassFile.FieldType) 5 122 1 14 [.ref (K.2.2.1 + a0), .ref (K.2.2.1 + a1)] (ix_w z d) none (ix_w z1 d1) := by
  refine ix_met mf_X5_layInto hKp (Nat.le_of_ble_eq_true rfl) ?_
  intro p e s m args below meth c hr hlk hnm X
  have X : ix_X p s m args c K cX5_layInto RX5 3 := X
  show ix_G p l e (ix_rm 5 122 1 14) s m args below meth c (MQ below (ix_Post K none (ix_w z1 d1)) args s 1 14 (ix_A K)) K 3 0 0 0 [(0, .ref (K.2.2.1 + a0)), (1, .ref (K.2.2.1 + a1))] [] (ix_w z d)
  unfold f_X5_layInto at h
  refine ix_aload_n (i := 0) (j := 0) X (ix_tb_at tb_X5_layInto 0 rfl) rfl rfl (pc1 := 1) rfl ?_
  refine ix_aload_n (i := 1) (j := 1) X (ix_tb_at tb_X5_layInto 1 rfl) rfl rfl (pc1 := 2) rfl ?_
  obtain ⟨k_1, h⟩ := ix_ck_some h
  obtain ⟨r_5, z_3, d_2, h_4, h⟩ := ix_bd3_ex h
  refine tv_RX5_7 (rest := []) hKp X k_1 h_4 (Nat.le_of_ble_eq_true rfl) (Nat.le_of_ble_eq_true rfl) ⟨Nat.le_of_ble_eq_true rfl, Nat.le_of_ble_eq_true rfl⟩ (Nat.le_of_ble_eq_true rfl) (ix_tb_at tb_X5_layInto 2 rfl) (pc1 := 5) rfl ?_
  obtain ⟨b_6, q_7, h⟩ := ix_bd1_ex h
  refine ix_rvs q_7 ?_
  refine ix_astore_n (i := 2) (L1 := [(2, .ref (K.2.2.1 + b_6)), (0, .ref (K.2.2.1 + a0)), (1, .ref (K.2.2.1 + a1))]) X (ix_tb_at tb_X5_layInto 3 rfl) rfl (Nat.le_of_ble_eq_true rfl) rfl (pc1 := 6) rfl ?_
  refine ix_aload_n (i := 0) (j := 1) X (ix_tb_at tb_X5_layInto 4 rfl) rfl rfl (pc1 := 7) rfl ?_
  obtain ⟨k_8, h⟩ := ix_ck_some h
  obtain ⟨b_9, q_10, h⟩ := ix_bd1_ex h
  refine iz_getR X fl_RX5_13 k_8 q_10 (ix_tb_at tb_X5_layInto 5 rfl) (pc1 := 10) rfl ?_
  obtain ⟨k_11, h⟩ := ix_ck_some h
  refine iz_alen X k_11 (ix_tb_at tb_X5_layInto 6 rfl) (pc1 := 11) rfl ?_
  refine ix_aload_n (i := 0) (j := 1) X (ix_tb_at tb_X5_layInto 7 rfl) rfl rfl (pc1 := 12) rfl ?_
  refine iz_getI X fl_RX5_17 k_8 (ix_tb_at tb_X5_layInto 8 rfl) (pc1 := 15) rfl ?_
  refine ix_icmp_le (tgt := 33) X (ix_tb_at tb_X5_layInto 9 rfl) (by decide) (pc1 := 18) rfl (fun q_12 => ?_) (fun q_12 => ?_)
  · have h := ix_ift q_12 h
    refine ix_sub (L1 := [(0, .ref (K.2.2.1 + a0)), (1, .ref (K.2.2.1 + a1)), (2, .ref (K.2.2.1 + b_6))]) [1, 2, 0] rfl ?_
    exact t_X5_layInto_33 hKp X hr hlk  h
  · have h := ix_iff q_12 h
    refine ix_aload_n (i := 1) (j := 2) X (ix_tb_at tb_X5_layInto 10 rfl) rfl rfl (pc1 := 19) rfl ?_
    refine ix_aload_n (i := 2) (j := 0) X (ix_tb_at tb_X5_layInto 11 rfl) rfl rfl (pc1 := 20) rfl ?_
    refine ix_aload_n (i := 0) (j := 1) X (ix_tb_at tb_X5_layInto 12 rfl) rfl rfl (pc1 := 21) rfl ?_
    refine iz_getI X fl_RX5_17 k_8 (ix_tb_at tb_X5_layInto 13 rfl) (pc1 := 24) rfl ?_
    refine ix_iconst (v := 1) X (ix_tb_at tb_X5_layInto 14 rfl) (by decide) (pc1 := 25) rfl ?_
    refine ix_iadd X (ix_tb_at tb_X5_layInto 15 rfl) (pc1 := 26) rfl ?_
    obtain ⟨k_26, h⟩ := ix_ck_some h
    refine iz_iald X k_26 (ix_tb_at tb_X5_layInto 16 rfl) (pc1 := 27) rfl ?_
    refine ix_ineg X (ix_tb_at tb_X5_layInto 17 rfl) (pc1 := 28) rfl ?_
    refine ix_iconst (v := 0) X (ix_tb_at tb_X5_layInto 18 rfl) (by decide) (pc1 := 29) rfl ?_
    refine ix_iconst (v := 0) X (ix_tb_at tb_X5_layInto 19 rfl) (by decide) (pc1 := 30) rfl ?_
    obtain ⟨k_29, h⟩ := ix_ck_some h
    obtain ⟨d_27, h_28, h⟩ := ix_bd1_ex h
    refine ix_callV (As := [.int (-(d_2.1 b_6 (ix_n ((d_2.1 a0 3) + 1)))), .int 0, .int 0]) (rest := []) (ci := 2) (T := TX2) (nf := 12) X mf_X2_lay mi_X2_lay ms_X2_lay rfl (Nat.le_of_ble_eq_true rfl) ml_RX5_21 ⟨Nat.le_of_ble_eq_true rfl, Nat.le_of_ble_eq_true rfl⟩ ⟨Nat.le_of_ble_eq_true rfl, Nat.le_of_ble_eq_true rfl⟩ rfl (Nat.le_of_ble_eq_true rfl) (ix_tb_at tb_X5_layInto 20 rfl) ⟨k_29.1, List.mem_singleton.mp k_29.2⟩ (c_X2_lay hKp h_28) rfl (pc1 := 33) rfl ?_
    refine ix_sub (L1 := [(0, .ref (K.2.2.1 + a0)), (1, .ref (K.2.2.1 + a1)), (2, .ref (K.2.2.1 + b_6))]) [1, 2, 0] rfl ?_
    exact t_X5_layInto_33 hKp X hr hlk  h
def tab_X6_init : List (Nat × Instr × Nat) := [(0, .aload_n 0, 1), (1, .aload_n 1, 1), (2, .invokespecial 1, 3), (5, .aload_n 0, 1), (6, .iload_n 2, 1), (7, .putfield 7, 3), (10, .return_, 1)]
theorem tb_X6_init : ix_tab cX6_init tab_X6_init := by
  unfold ix_tab
  decide +kernel
noncomputable def f_X6_init (n : Nat) (z : ix_Z) (a0 : Nat) (a1 : Nat) (x2 : Int32) (d : ix_D2) : Option (ix_Z × ix_D2) :=
  ix_bd2 (f_X8_init n z a0 a1 d) (fun z_3 d_1 => ix_ck (ix_ok z_3 [6] a0) (ix_ck (x2 = 0 ∨ x2 = 1) (ix_lt (ix_di d_1 a0 3 x2) (fun d_7 => some (z_3, d_7)))))
set_option maxRecDepth 20000 in
theorem c_X6_init {l : Launch} {K : ix_Cx} (hKp : ix_Kp K) {n : Nat} {z : ix_Z} {a0 : Nat} {a1 : Nat} {x2 : Int32} {d : ix_D2} {z1 : ix_Z} {d1 : ix_D2} (h : f_X6_init n z a0 a1 x2 d = some (z1, d1)) : ix_M l K yX6_init cX6_init 3 (none : Option Jvm.ClassFile.FieldType) 2 44 0 0 [.ref (K.2.2.1 + a0), .ref (K.2.2.1 + a1), .int x2] (ix_w z d) none (ix_w z1 d1) := by
  refine ix_met mf_X6_init hKp (Nat.le_of_ble_eq_true rfl) ?_
  intro p e s m args below meth c hr hlk hnm X
  have X : ix_X p s m args c K cX6_init RX6 3 := X
  have hnm : meth.name = "<init>" := hnm
  show ix_G p l e (ix_rm 2 44 0 0) s m args below meth c (MQ below (ix_Post K none (ix_w z1 d1)) args s 0 0 (ix_A K)) K 3 0 0 0 [(0, .ref (K.2.2.1 + a0)), (1, .ref (K.2.2.1 + a1)), (2, .int x2)] [] (ix_w z d)
  unfold f_X6_init at h
  refine ix_aload_n (i := 0) (j := 0) X (ix_tb_at tb_X6_init 0 rfl) rfl rfl (pc1 := 1) rfl ?_
  refine ix_aload_n (i := 1) (j := 1) X (ix_tb_at tb_X6_init 1 rfl) rfl rfl (pc1 := 2) rfl ?_
  obtain ⟨z_3, d_1, h_2, h⟩ := ix_bd2_ex h
  refine ix_callI (As := [.ref (K.2.2.1 + a1)]) (rest := []) X mf_X8_init mi_X8_init rfl ml_RX6_1 ⟨Nat.le_of_ble_eq_true rfl, Nat.le_of_ble_eq_true rfl⟩ ⟨Nat.le_of_ble_eq_true rfl, Nat.le_of_ble_eq_true rfl⟩ rfl (Nat.le_of_ble_eq_true rfl) (ix_tb_at tb_X6_init 2 rfl) (c_X8_init hKp h_2) rfl (pc1 := 5) rfl ?_
  refine ix_aload_n (i := 0) (j := 0) X (ix_tb_at tb_X6_init 3 rfl) rfl rfl (pc1 := 6) rfl ?_
  refine ix_iload_n (i := 2) (j := 2) X (ix_tb_at tb_X6_init 4 rfl) rfl rfl (pc1 := 7) rfl ?_
  obtain ⟨k_5, h⟩ := ix_ck_some h
  obtain ⟨k_6, h⟩ := ix_ck_some h
  obtain ⟨d_7, e_8, h⟩ := ix_lt_ex h
  refine iz_putZF X fp_RX6_7 hnm k_5 (ix_tb_at tb_X6_init 5 rfl) k_6 e_8 (pc1 := 10) rfl ?_
  exact ix_vret X hr hlk (ix_r2v (g := ix_w) h) (ix_tb_at tb_X6_init 6 rfl)
def tab_X9_init : List (Nat × Instr × Nat) := [(0, .aload_n 0, 1), (1, .invokespecial 3, 3), (4, .aload_n 0, 1), (5, .new 9, 3), (8, .dup, 1), (9, .invokespecial 11, 3), (12, .putfield 12, 3), (15, .aload_n 0, 1), (16, .new 18, 3), (19, .dup, 1), (20, .bipush 64, 2), (22, .sipush 1280, 3), (25, .invokespecial 20, 3), (28, .putfield 23, 3), (31, .aload_n 0, 1), (32, .sipush 301, 3), (35, .newarray .long, 2), (37, .putfield 27, 3), (40, .aload_n 0, 1), (41, .bipush 20, 2), (43, .newarray .int, 2), (45, .putfield 31, 3), (48, .aload_n 0, 1), (49, .sipush 800, 3), (52, .newarray .int, 2), (54, .putfield 35, 3), (57, .aload_n 0, 1), (58, .sipush 6400, 3), (61, .newarray .long, 2), (63, .putfield 38, 3), (66, .aload_n 0, 1), (67, .sipush 2408, 3), (70, .newarray .long, 2), (72, .putfield 41, 3), (75, .aload_n 0, 1), (76, .bipush 8, 2), (78, .newarray .long, 2), (80, .putfield 44, 3), (83, .aload_n 0, 1), (84, .bipush 10, 2), (86, .newarray .int, 2), (88, .putfield 47, 3), (91, .aload_n 0, 1), (92, .iconst 5, 1), (93, .newarray .int, 2), (95, .putfield 50, 3), (98, .aload_n 0, 1), (99, .sipush 301, 3), (102, .newarray .int, 2), (104, .putfield 53, 3), (107, .aload_n 0, 1), (108, .sipush 301, 3), (111, .newarray .int, 2), (113, .putfield 56, 3), (116, .aload_n 0, 1), (117, .sipush 800, 3), (120, .newarray .int, 2), (122, .putfield 59, 3), (125, .aload_n 0, 1), (126, .getfield 47, 3), (129, .iconst 0, 1), (130, .sipush (-1005), 3), (133, .iastore, 1), (134, .aload_n 0, 1), (135, .getfield 50, 3), (138, .sipush (-1005), 3), (141, .invokestatic 62, 3), (144, .return_, 1)]
theorem tb_X9_init : ix_tab cX9_init tab_X9_init := by
  unfold ix_tab
  decide +kernel
noncomputable def f_X9_init (n : Nat) (z : ix_Z) (a0 : Nat) (d : ix_D2) : Option (ix_Z × ix_D2) :=
  ix_lt (ix_zn z 1 17) (fun z_1 => ix_lt (ix_dn d z.2.2) (fun d_3 => ix_bd2 (f_X1_init n z_1 z_1.2.2 d_3) (fun z_7 d_5 => ix_ck (ix_ok z_7 [8] a0) (ix_lt (ix_zr z_7 a0 0 (some z_7.2.2)) (fun z_10 => ix_lt (ix_zn z_10 7 3) (fun z_12 => ix_lt (ix_dn d_5 z_10.2.2) (fun d_14 => ix_bd2 (f_X7_init n z_12 z_10.2.2 64 1280 d_14) (fun z_18 d_16 => ix_ck (ix_ok z_18 [8] a0) (ix_lt (ix_zr z_18 a0 1 (some z_10.2.2)) (fun z_21 => ix_lt (ix_zn z_21 23 (ix_n 301)) (fun z_23 => ix_lt (ix_dn d_16 z_21.2.2) (fun d_25 => ix_ck (ix_ok z_23 [8] a0) (ix_lt (ix_zr z_23 a0 2 (some z_21.2.2)) (fun z_28 => ix_lt (ix_zn z_28 20 (ix_n 20)) (fun z_30 => ix_lt (ix_dn d_25 z_28.2.2) (fun d_32 => ix_ck (ix_ok z_30 [8] a0) (ix_lt (ix_zr z_30 a0 4 (some z_28.2.2)) (fun z_35 => ix_lt (ix_zn z_35 20 (ix_n 800)) (fun z_37 => ix_lt (ix_dn d_32 z_35.2.2) (fun d_39 => ix_ck (ix_ok z_37 [8] a0) (ix_lt (ix_zr z_37 a0 6 (some z_35.2.2)) (fun z_42 => ix_lt (ix_zn z_42 23 (ix_n 6400)) (fun z_44 => ix_lt (ix_dn d_39 z_42.2.2) (fun d_46 => ix_ck (ix_ok z_44 [8] a0) (ix_lt (ix_zr z_44 a0 7 (some z_42.2.2)) (fun z_49 => ix_lt (ix_zn z_49 23 (ix_n 2408)) (fun z_51 => ix_lt (ix_dn d_46 z_49.2.2) (fun d_53 => ix_ck (ix_ok z_51 [8] a0) (ix_lt (ix_zr z_51 a0 8 (some z_49.2.2)) (fun z_56 => ix_lt (ix_zn z_56 23 (ix_n 8)) (fun z_58 => ix_lt (ix_dn d_53 z_56.2.2) (fun d_60 => ix_ck (ix_ok z_58 [8] a0) (ix_lt (ix_zr z_58 a0 9 (some z_56.2.2)) (fun z_63 => ix_lt (ix_zn z_63 20 (ix_n 10)) (fun z_65 => ix_lt (ix_dn d_60 z_63.2.2) (fun d_67 => ix_ck (ix_ok z_65 [8] a0) (ix_lt (ix_zr z_65 a0 10 (some z_63.2.2)) (fun z_70 => ix_lt (ix_zn z_70 20 (ix_n 5)) (fun z_72 => ix_lt (ix_dn d_67 z_70.2.2) (fun d_74 => ix_ck (ix_ok z_72 [8] a0) (ix_lt (ix_zr z_72 a0 11 (some z_70.2.2)) (fun z_77 => ix_lt (ix_zn z_77 20 (ix_n 301)) (fun z_79 => ix_lt (ix_dn d_74 z_77.2.2) (fun d_81 => ix_ck (ix_ok z_79 [8] a0) (ix_lt (ix_zr z_79 a0 12 (some z_77.2.2)) (fun z_84 => ix_lt (ix_zn z_84 20 (ix_n 301)) (fun z_86 => ix_lt (ix_dn d_81 z_84.2.2) (fun d_88 => ix_ck (ix_ok z_86 [8] a0) (ix_lt (ix_zr z_86 a0 13 (some z_84.2.2)) (fun z_91 => ix_lt (ix_zn z_91 20 (ix_n 800)) (fun z_93 => ix_lt (ix_dn d_88 z_91.2.2) (fun d_95 => ix_ck (ix_ok z_93 [8] a0) (ix_lt (ix_zr z_93 a0 15 (some z_91.2.2)) (fun z_98 => ix_ck (ix_ok z_98 [8] a0) (ix_bd1 (z_98.1 a0 10) (fun b_101 => ix_ck (ix_ix z_98 20 b_101 0) (ix_lt (ix_di d_95 b_101 (ix_n 0) ((-1005))) (fun d_104 => ix_bd1 (z_98.1 a0 11) (fun b_106 => ix_bd1 (f_J7_fill_53178 n z_98 b_106 ((-1005)) d_104) (fun d_108 => some (z_98, d_108)))))))))))))))))))))))))))))))))))))))))))))))))))))))))))))
set_option maxRecDepth 20000 in
theorem c_X9_init {l : Launch} {K : ix_Cx} (hKp : ix_Kp K) {n : Nat} {z : ix_Z} {a0 : Nat} {d : ix_D2} {z1 : ix_Z} {d1 : ix_D2} (h : f_X9_init n z a0 d = some (z1, d1)) : ix_M l K yX9_init cX9_init 1 (none : Option Jvm.ClassFile.FieldType) 3 65 29 65251 [.ref (K.2.2.1 + a0)] (ix_w z d) none (ix_w z1 d1) := by
  refine ix_met mf_X9_init hKp (Nat.le_of_ble_eq_true rfl) ?_
  intro p e s m args below meth c hr hlk hnm X
  have X : ix_X p s m args c K cX9_init RX9 1 := X
  have hnm : meth.name = "<init>" := hnm
  show ix_G p l e (ix_rm 3 65 29 65251) s m args below meth c (MQ below (ix_Post K none (ix_w z1 d1)) args s 29 65251 (ix_A K)) K 1 0 0 0 [(0, .ref (K.2.2.1 + a0))] [] (ix_w z d)
  unfold f_X9_init at h
  refine ix_aload_n (i := 0) (j := 0) X (ix_tb_at tb_X9_init 0 rfl) rfl rfl (pc1 := 1) rfl ?_
  refine ix_objI (pl := 191) X (by decide +kernel) (Nat.le_of_ble_eq_true rfl) (Nat.le_of_ble_eq_true rfl) (ix_tb_at tb_X9_init 1 rfl) (pc1 := 4) rfl ?_
  refine ix_aload_n (i := 0) (j := 0) X (ix_tb_at tb_X9_init 2 rfl) rfl rfl (pc1 := 5) rfl ?_
  obtain ⟨z_1, e_2, h⟩ := ix_lt_ex h
  obtain ⟨d_3, e_4, h⟩ := ix_lt_ex h
  refine iz_new (ci := 1) (pl := 192) (pi := 193) (pj := 6) (N := 17) (C := RX1) (T := TX1) X rfl (by decide) (by decide +kernel) (by decide +kernel) (by decide +kernel) (Nat.le_of_ble_eq_true rfl) (Nat.le_of_ble_eq_true rfl) (ix_tb_at tb_X9_init 3 rfl) e_2 e_4 (pc1 := 8) rfl ?_
  refine ix_dup X (ix_tb_at tb_X9_init 4 rfl) rfl (pc1 := 9) rfl ?_
  obtain ⟨z_7, d_5, h_6, h⟩ := ix_bd2_ex h
  refine ix_callIN (As := []) (rest := [.ref (K.2.2.1 + z_1.2.2), .ref (K.2.2.1 + a0)]) X mf_X1_init mi_X1_init rfl ml_RX9_11 ⟨Nat.le_of_ble_eq_true rfl, Nat.le_of_ble_eq_true rfl⟩ ⟨Nat.le_of_ble_eq_true rfl, Nat.le_of_ble_eq_true rfl⟩ rfl (Nat.le_of_ble_eq_true rfl) (ix_tb_at tb_X9_init 5 rfl) (c_X1_init hKp h_6) rfl (pc1 := 12) rfl ?_
  obtain ⟨k_9, h⟩ := ix_ck_some h
  obtain ⟨z_10, e_11, h⟩ := ix_lt_ex h
  refine iz_putR (ty := .object "ClauseCourt$Board") X fp_RX9_12 (fun _ => ⟨rfl, hnm⟩) k_9 (by decide +kernel) (by decide +kernel) (Or.inl ⟨_, rfl⟩) (ix_tb_at tb_X9_init 6 rfl) e_11 (pc1 := 15) rfl ?_
  refine ix_aload_n (i := 0) (j := 0) X (ix_tb_at tb_X9_init 7 rfl) rfl rfl (pc1 := 16) rfl ?_
  obtain ⟨z_12, e_13, h⟩ := ix_lt_ex h
  obtain ⟨d_14, e_15, h⟩ := ix_lt_ex h
  refine iz_new (ci := 7) (pl := 271) (pi := 107) (pj := 4) (N := 3) (C := RX7) (T := TX7) X rfl (by decide) (by decide +kernel) (by decide +kernel) (by decide +kernel) (Nat.le_of_ble_eq_true rfl) (Nat.le_of_ble_eq_true rfl) (ix_tb_at tb_X9_init 8 rfl) e_13 e_15 (pc1 := 19) rfl ?_
  refine ix_dup X (ix_tb_at tb_X9_init 9 rfl) rfl (pc1 := 20) rfl ?_
  refine ix_bipush (v := 64) X (ix_tb_at tb_X9_init 10 rfl) (by decide) (pc1 := 22) rfl ?_
  refine ix_sipush (v := 1280) X (ix_tb_at tb_X9_init 11 rfl) (by decide) (pc1 := 25) rfl ?_
  obtain ⟨z_18, d_16, h_17, h⟩ := ix_bd2_ex h
  refine ix_callI (As := [.int 64, .int 1280]) (rest := [.ref (K.2.2.1 + z_10.2.2), .ref (K.2.2.1 + a0)]) X mf_X7_init mi_X7_init rfl ml_RX9_20 ⟨Nat.le_of_ble_eq_true rfl, Nat.le_of_ble_eq_true rfl⟩ ⟨Nat.le_of_ble_eq_true rfl, Nat.le_of_ble_eq_true rfl⟩ rfl (Nat.le_of_ble_eq_true rfl) (ix_tb_at tb_X9_init 12 rfl) (c_X7_init hKp h_17) rfl (pc1 := 28) rfl ?_
  obtain ⟨k_20, h⟩ := ix_ck_some h
  obtain ⟨z_21, e_22, h⟩ := ix_lt_ex h
  refine iz_putR (ty := .object "ClauseCourt$Rows") X fp_RX9_23 (fun _ => ⟨rfl, hnm⟩) k_20 (by decide +kernel) (by decide +kernel) (Or.inl ⟨_, rfl⟩) (ix_tb_at tb_X9_init 13 rfl) e_22 (pc1 := 31) rfl ?_
  refine ix_aload_n (i := 0) (j := 0) X (ix_tb_at tb_X9_init 14 rfl) rfl rfl (pc1 := 32) rfl ?_
  refine ix_sipush (v := 301) X (ix_tb_at tb_X9_init 15 rfl) (by decide) (pc1 := 35) rfl ?_
  obtain ⟨z_23, e_24, h⟩ := ix_lt_ex h
  obtain ⟨d_25, e_26, h⟩ := ix_lt_ex h
  refine iz_newa_long (pl := 270) X (by decide +kernel) (by decide) (by decide) (Nat.le_of_ble_eq_true rfl) (Nat.le_of_ble_eq_true rfl) (ix_tb_at tb_X9_init 16 rfl) e_24 e_26 (pc1 := 37) rfl ?_
  refine ix_widen (k1 := 19) (n1 := 54198) (Nat.le_of_ble_eq_true rfl) (Nat.le_of_ble_eq_true rfl) ?_
  obtain ⟨k_27, h⟩ := ix_ck_some h
  obtain ⟨z_28, e_29, h⟩ := ix_lt_ex h
  refine iz_putR (ty := .array .long) X fp_RX9_27 (fun _ => ⟨rfl, hnm⟩) k_27 (by decide +kernel) (by decide +kernel) (Or.inr ⟨_, rfl⟩) (ix_tb_at tb_X9_init 17 rfl) e_29 (pc1 := 40) rfl ?_
  refine ix_aload_n (i := 0) (j := 0) X (ix_tb_at tb_X9_init 18 rfl) rfl rfl (pc1 := 41) rfl ?_
  refine ix_bipush (v := 20) X (ix_tb_at tb_X9_init 19 rfl) (by decide) (pc1 := 43) rfl ?_
  obtain ⟨z_30, e_31, h⟩ := ix_lt_ex h
  obtain ⟨d_32, e_33, h⟩ := ix_lt_ex h
  refine iz_newa_int (pl := 98) X (by decide +kernel) (by decide) (by decide) (Nat.le_of_ble_eq_true rfl) (Nat.le_of_ble_eq_true rfl) (ix_tb_at tb_X9_init 20 rfl) e_31 e_33 (pc1 := 45) rfl ?_
  refine ix_widen (k1 := 20) (n1 := 54218) (Nat.le_of_ble_eq_true rfl) (Nat.le_of_ble_eq_true rfl) ?_
  obtain ⟨k_34, h⟩ := ix_ck_some h
  obtain ⟨z_35, e_36, h⟩ := ix_lt_ex h
  refine iz_putR (ty := .array .int) X fp_RX9_31 (fun _ => ⟨rfl, hnm⟩) k_34 (by decide +kernel) (by decide +kernel) (Or.inr ⟨_, rfl⟩) (ix_tb_at tb_X9_init 21 rfl) e_36 (pc1 := 48) rfl ?_
  refine ix_aload_n (i := 0) (j := 0) X (ix_tb_at tb_X9_init 22 rfl) rfl rfl (pc1 := 49) rfl ?_
  refine ix_sipush (v := 800) X (ix_tb_at tb_X9_init 23 rfl) (by decide) (pc1 := 52) rfl ?_
  obtain ⟨z_37, e_38, h⟩ := ix_lt_ex h
  obtain ⟨d_39, e_40, h⟩ := ix_lt_ex h
  refine iz_newa_int (pl := 98) X (by decide +kernel) (by decide) (by decide) (Nat.le_of_ble_eq_true rfl) (Nat.le_of_ble_eq_true rfl) (ix_tb_at tb_X9_init 24 rfl) e_38 e_40 (pc1 := 54) rfl ?_
  refine ix_widen (k1 := 21) (n1 := 55018) (Nat.le_of_ble_eq_true rfl) (Nat.le_of_ble_eq_true rfl) ?_
  obtain ⟨k_41, h⟩ := ix_ck_some h
  obtain ⟨z_42, e_43, h⟩ := ix_lt_ex h
  refine iz_putR (ty := .array .int) X fp_RX9_35 (fun _ => ⟨rfl, hnm⟩) k_41 (by decide +kernel) (by decide +kernel) (Or.inr ⟨_, rfl⟩) (ix_tb_at tb_X9_init 25 rfl) e_43 (pc1 := 57) rfl ?_
  refine ix_aload_n (i := 0) (j := 0) X (ix_tb_at tb_X9_init 26 rfl) rfl rfl (pc1 := 58) rfl ?_
  refine ix_sipush (v := 6400) X (ix_tb_at tb_X9_init 27 rfl) (by decide) (pc1 := 61) rfl ?_
  obtain ⟨z_44, e_45, h⟩ := ix_lt_ex h
  obtain ⟨d_46, e_47, h⟩ := ix_lt_ex h
  refine iz_newa_long (pl := 270) X (by decide +kernel) (by decide) (by decide) (Nat.le_of_ble_eq_true rfl) (Nat.le_of_ble_eq_true rfl) (ix_tb_at tb_X9_init 28 rfl) e_45 e_47 (pc1 := 63) rfl ?_
  refine ix_widen (k1 := 22) (n1 := 61418) (Nat.le_of_ble_eq_true rfl) (Nat.le_of_ble_eq_true rfl) ?_
  obtain ⟨k_48, h⟩ := ix_ck_some h
  obtain ⟨z_49, e_50, h⟩ := ix_lt_ex h
  refine iz_putR (ty := .array .long) X fp_RX9_38 (fun _ => ⟨rfl, hnm⟩) k_48 (by decide +kernel) (by decide +kernel) (Or.inr ⟨_, rfl⟩) (ix_tb_at tb_X9_init 29 rfl) e_50 (pc1 := 66) rfl ?_
  refine ix_aload_n (i := 0) (j := 0) X (ix_tb_at tb_X9_init 30 rfl) rfl rfl (pc1 := 67) rfl ?_
  refine ix_sipush (v := 2408) X (ix_tb_at tb_X9_init 31 rfl) (by decide) (pc1 := 70) rfl ?_
  obtain ⟨z_51, e_52, h⟩ := ix_lt_ex h
  obtain ⟨d_53, e_54, h⟩ := ix_lt_ex h
  refine iz_newa_long (pl := 270) X (by decide +kernel) (by decide) (by decide) (Nat.le_of_ble_eq_true rfl) (Nat.le_of_ble_eq_true rfl) (ix_tb_at tb_X9_init 32 rfl) e_52 e_54 (pc1 := 72) rfl ?_
  refine ix_widen (k1 := 23) (n1 := 63826) (Nat.le_of_ble_eq_true rfl) (Nat.le_of_ble_eq_true rfl) ?_
  obtain ⟨k_55, h⟩ := ix_ck_some h
  obtain ⟨z_56, e_57, h⟩ := ix_lt_ex h
  refine iz_putR (ty := .array .long) X fp_RX9_41 (fun _ => ⟨rfl, hnm⟩) k_55 (by decide +kernel) (by decide +kernel) (Or.inr ⟨_, rfl⟩) (ix_tb_at tb_X9_init 33 rfl) e_57 (pc1 := 75) rfl ?_
  refine ix_aload_n (i := 0) (j := 0) X (ix_tb_at tb_X9_init 34 rfl) rfl rfl (pc1 := 76) rfl ?_
  refine ix_bipush (v := 8) X (ix_tb_at tb_X9_init 35 rfl) (by decide) (pc1 := 78) rfl ?_
  obtain ⟨z_58, e_59, h⟩ := ix_lt_ex h
  obtain ⟨d_60, e_61, h⟩ := ix_lt_ex h
  refine iz_newa_long (pl := 270) X (by decide +kernel) (by decide) (by decide) (Nat.le_of_ble_eq_true rfl) (Nat.le_of_ble_eq_true rfl) (ix_tb_at tb_X9_init 36 rfl) e_59 e_61 (pc1 := 80) rfl ?_
  refine ix_widen (k1 := 24) (n1 := 63834) (Nat.le_of_ble_eq_true rfl) (Nat.le_of_ble_eq_true rfl) ?_
  obtain ⟨k_62, h⟩ := ix_ck_some h
  obtain ⟨z_63, e_64, h⟩ := ix_lt_ex h
  refine iz_putR (ty := .array .long) X fp_RX9_44 (fun _ => ⟨rfl, hnm⟩) k_62 (by decide +kernel) (by decide +kernel) (Or.inr ⟨_, rfl⟩) (ix_tb_at tb_X9_init 37 rfl) e_64 (pc1 := 83) rfl ?_
  refine ix_aload_n (i := 0) (j := 0) X (ix_tb_at tb_X9_init 38 rfl) rfl rfl (pc1 := 84) rfl ?_
  refine ix_bipush (v := 10) X (ix_tb_at tb_X9_init 39 rfl) (by decide) (pc1 := 86) rfl ?_
  obtain ⟨z_65, e_66, h⟩ := ix_lt_ex h
  obtain ⟨d_67, e_68, h⟩ := ix_lt_ex h
  refine iz_newa_int (pl := 98) X (by decide +kernel) (by decide) (by decide) (Nat.le_of_ble_eq_true rfl) (Nat.le_of_ble_eq_true rfl) (ix_tb_at tb_X9_init 40 rfl) e_66 e_68 (pc1 := 88) rfl ?_
  refine ix_widen (k1 := 25) (n1 := 63844) (Nat.le_of_ble_eq_true rfl) (Nat.le_of_ble_eq_true rfl) ?_
  obtain ⟨k_69, h⟩ := ix_ck_some h
  obtain ⟨z_70, e_71, h⟩ := ix_lt_ex h
  refine iz_putR (ty := .array .int) X fp_RX9_47 (fun _ => ⟨rfl, hnm⟩) k_69 (by decide +kernel) (by decide +kernel) (Or.inr ⟨_, rfl⟩) (ix_tb_at tb_X9_init 41 rfl) e_71 (pc1 := 91) rfl ?_
  refine ix_aload_n (i := 0) (j := 0) X (ix_tb_at tb_X9_init 42 rfl) rfl rfl (pc1 := 92) rfl ?_
  refine ix_iconst (v := 5) X (ix_tb_at tb_X9_init 43 rfl) (by decide) (pc1 := 93) rfl ?_
  obtain ⟨z_72, e_73, h⟩ := ix_lt_ex h
  obtain ⟨d_74, e_75, h⟩ := ix_lt_ex h
  refine iz_newa_int (pl := 98) X (by decide +kernel) (by decide) (by decide) (Nat.le_of_ble_eq_true rfl) (Nat.le_of_ble_eq_true rfl) (ix_tb_at tb_X9_init 44 rfl) e_73 e_75 (pc1 := 95) rfl ?_
  refine ix_widen (k1 := 26) (n1 := 63849) (Nat.le_of_ble_eq_true rfl) (Nat.le_of_ble_eq_true rfl) ?_
  obtain ⟨k_76, h⟩ := ix_ck_some h
  obtain ⟨z_77, e_78, h⟩ := ix_lt_ex h
  refine iz_putR (ty := .array .int) X fp_RX9_50 (fun _ => ⟨rfl, hnm⟩) k_76 (by decide +kernel) (by decide +kernel) (Or.inr ⟨_, rfl⟩) (ix_tb_at tb_X9_init 45 rfl) e_78 (pc1 := 98) rfl ?_
  refine ix_aload_n (i := 0) (j := 0) X (ix_tb_at tb_X9_init 46 rfl) rfl rfl (pc1 := 99) rfl ?_
  refine ix_sipush (v := 301) X (ix_tb_at tb_X9_init 47 rfl) (by decide) (pc1 := 102) rfl ?_
  obtain ⟨z_79, e_80, h⟩ := ix_lt_ex h
  obtain ⟨d_81, e_82, h⟩ := ix_lt_ex h
  refine iz_newa_int (pl := 98) X (by decide +kernel) (by decide) (by decide) (Nat.le_of_ble_eq_true rfl) (Nat.le_of_ble_eq_true rfl) (ix_tb_at tb_X9_init 48 rfl) e_80 e_82 (pc1 := 104) rfl ?_
  refine ix_widen (k1 := 27) (n1 := 64150) (Nat.le_of_ble_eq_true rfl) (Nat.le_of_ble_eq_true rfl) ?_
  obtain ⟨k_83, h⟩ := ix_ck_some h
  obtain ⟨z_84, e_85, h⟩ := ix_lt_ex h
  refine iz_putR (ty := .array .int) X fp_RX9_53 (fun _ => ⟨rfl, hnm⟩) k_83 (by decide +kernel) (by decide +kernel) (Or.inr ⟨_, rfl⟩) (ix_tb_at tb_X9_init 49 rfl) e_85 (pc1 := 107) rfl ?_
  refine ix_aload_n (i := 0) (j := 0) X (ix_tb_at tb_X9_init 50 rfl) rfl rfl (pc1 := 108) rfl ?_
  refine ix_sipush (v := 301) X (ix_tb_at tb_X9_init 51 rfl) (by decide) (pc1 := 111) rfl ?_
  obtain ⟨z_86, e_87, h⟩ := ix_lt_ex h
  obtain ⟨d_88, e_89, h⟩ := ix_lt_ex h
  refine iz_newa_int (pl := 98) X (by decide +kernel) (by decide) (by decide) (Nat.le_of_ble_eq_true rfl) (Nat.le_of_ble_eq_true rfl) (ix_tb_at tb_X9_init 52 rfl) e_87 e_89 (pc1 := 113) rfl ?_
  refine ix_widen (k1 := 28) (n1 := 64451) (Nat.le_of_ble_eq_true rfl) (Nat.le_of_ble_eq_true rfl) ?_
  obtain ⟨k_90, h⟩ := ix_ck_some h
  obtain ⟨z_91, e_92, h⟩ := ix_lt_ex h
  refine iz_putR (ty := .array .int) X fp_RX9_56 (fun _ => ⟨rfl, hnm⟩) k_90 (by decide +kernel) (by decide +kernel) (Or.inr ⟨_, rfl⟩) (ix_tb_at tb_X9_init 53 rfl) e_92 (pc1 := 116) rfl ?_
  refine ix_aload_n (i := 0) (j := 0) X (ix_tb_at tb_X9_init 54 rfl) rfl rfl (pc1 := 117) rfl ?_
  refine ix_sipush (v := 800) X (ix_tb_at tb_X9_init 55 rfl) (by decide) (pc1 := 120) rfl ?_
  obtain ⟨z_93, e_94, h⟩ := ix_lt_ex h
  obtain ⟨d_95, e_96, h⟩ := ix_lt_ex h
  refine iz_newa_int (pl := 98) X (by decide +kernel) (by decide) (by decide) (Nat.le_of_ble_eq_true rfl) (Nat.le_of_ble_eq_true rfl) (ix_tb_at tb_X9_init 56 rfl) e_94 e_96 (pc1 := 122) rfl ?_
  refine ix_widen (k1 := 29) (n1 := 65251) (Nat.le_of_ble_eq_true rfl) (Nat.le_of_ble_eq_true rfl) ?_
  obtain ⟨k_97, h⟩ := ix_ck_some h
  obtain ⟨z_98, e_99, h⟩ := ix_lt_ex h
  refine iz_putR (ty := .array .int) X fp_RX9_59 (fun _ => ⟨rfl, hnm⟩) k_97 (by decide +kernel) (by decide +kernel) (Or.inr ⟨_, rfl⟩) (ix_tb_at tb_X9_init 57 rfl) e_99 (pc1 := 125) rfl ?_
  refine ix_aload_n (i := 0) (j := 0) X (ix_tb_at tb_X9_init 58 rfl) rfl rfl (pc1 := 126) rfl ?_
  obtain ⟨k_100, h⟩ := ix_ck_some h
  obtain ⟨b_101, q_102, h⟩ := ix_bd1_ex h
  refine iz_getR X fl_RX9_47 k_100 q_102 (ix_tb_at tb_X9_init 59 rfl) (pc1 := 129) rfl ?_
  refine ix_iconst (v := 0) X (ix_tb_at tb_X9_init 60 rfl) (by decide) (pc1 := 130) rfl ?_
  refine ix_sipush (v := (-1005)) X (ix_tb_at tb_X9_init 61 rfl) (by decide) (pc1 := 133) rfl ?_
  obtain ⟨k_103, h⟩ := ix_ck_some h
  obtain ⟨d_104, e_105, h⟩ := ix_lt_ex h
  refine iz_iast X k_103 (ix_tb_at tb_X9_init 62 rfl) e_105 (pc1 := 134) rfl ?_
  refine ix_aload_n (i := 0) (j := 0) X (ix_tb_at tb_X9_init 63 rfl) rfl rfl (pc1 := 135) rfl ?_
  obtain ⟨b_106, q_107, h⟩ := ix_bd1_ex h
  refine iz_getR X fl_RX9_50 k_100 q_107 (ix_tb_at tb_X9_init 64 rfl) (pc1 := 138) rfl ?_
  refine ix_sipush (v := (-1005)) X (ix_tb_at tb_X9_init 65 rfl) (by decide) (pc1 := 141) rfl ?_
  obtain ⟨d_108, h_109, h⟩ := ix_bd1_ex h
  refine ix_callS (As := [.ref (K.2.2.1 + b_106), .int ((-1005))]) (rest := []) X mf_J7_fill_53178 st_J7_fill_53178 ml_RX9_62 ⟨Nat.le_of_ble_eq_true rfl, Nat.le_of_ble_eq_true rfl⟩ ⟨Nat.le_of_ble_eq_true rfl, Nat.le_of_ble_eq_true rfl⟩ rfl (Nat.le_of_ble_eq_true rfl) (ix_tb_at tb_X9_init 66 rfl) (c_J7_fill_53178 hKp h_109) rfl (pc1 := 144) rfl ?_
  exact ix_vret X hr hlk (ix_r2v (g := ix_w) h) (ix_tb_at tb_X9_init 67 rfl)
def tab_J7_copyOf_9075b : List (Nat × Instr × Nat) := [(0, .iload_n 1, 1), (1, .aload_n 0, 1), (2, .arraylength, 1), (3, .if_icmp .ne 11, 3), (6, .aload_n 0, 1), (7, .invokevirtual 310, 3), (10, .checkcast 311, 3), (13, .areturn, 1), (14, .iload_n 1, 1), (15, .newarray .byte, 2), (17, .astore_n 2, 1), (18, .aload_n 0, 1), (19, .iconst 0, 1), (20, .aload_n 2, 1), (21, .iconst 0, 1), (22, .aload_n 0, 1), (23, .arraylength, 1), (24, .iload_n 1, 1), (25, .invokestatic 304, 3), (28, .invokestatic 150, 3), (31, .aload_n 2, 1), (32, .areturn, 1)]
theorem tb_J7_copyOf_9075b : ix_tab cJ7_copyOf_9075b tab_J7_copyOf_9075b := by
  unfold ix_tab
  decide +kernel
noncomputable def f_J7_copyOf_9075b (n : Nat) (z : ix_Z) (a0 : Nat) (x1 : Int32) (d : ix_D2) : Option (Option Nat × ix_Z × ix_D2) :=
  ix_ck (a0 < z.2.2 ∧ 20 ≤ (z.2.1 a0).1 ∧ (z.2.1 a0).1 < 26) (ix_if (x1 = nI (z.2.1 a0).2) (ix_ck (a0 < z.2.2 ∧ (z.2.1 a0).1 = 21 ∧ (z.2.1 a0).2 ≤ 64) (ix_ck (∀ i, i < (z.2.1 a0).2 → fits .byte (.int (d.1 a0 i)) = true) (ix_lt (ix_zn z 21 (z.2.1 a0).2) (fun z_15 => ix_lt (ix_dc d a0 z.2.2) (fun d_17 => some ((some z.2.2), z_15, d_17)))))) (ix_ck (¬ x1 < 0 ∧ ix_n x1 ≤ 64) (ix_lt (ix_zn z 21 (ix_n x1)) (fun z_4 => ix_lt (ix_dn d z.2.2) (fun d_6 => ix_ck (a0 < z_4.2.2 ∧ 20 ≤ (z_4.2.1 a0).1 ∧ (z_4.2.1 a0).1 < 26) (ix_ck (ix_cpk z_4 21 a0 0 z_4.2.2 0 (ix_min (nI (z_4.2.1 a0).2) x1)) (ix_ck (∀ i, i < ix_n (ix_min (nI (z_4.2.1 a0).2) x1) → fits .byte (.int (d_6.1 a0 (ix_n 0 + i))) = true) (ix_lt (ix_cpI d_6 a0 z_4.2.2 (ix_n 0) (ix_n 0) (ix_n (ix_min (nI (z_4.2.1 a0).2) x1))) (fun d_11 => some ((some z.2.2), z_4, d_11))))))))))
set_option maxRecDepth 20000 in
theorem c_J7_copyOf_9075b {l : Launch} {K : ix_Cx} (hKp : ix_Kp K) {n : Nat} {z : ix_Z} {a0 : Nat} {x1 : Int32} {d : ix_D2} {r : Option Nat} {z1 : ix_Z} {d1 : ix_D2} (h : f_J7_copyOf_9075b n z a0 x1 d = some (r, z1, d1)) : ix_M l K yJ7_copyOf_9075b cJ7_copyOf_9075b 3 (some (.array .byte)) 1 26 1 64 [.ref (K.2.2.1 + a0), .int x1] (ix_w z d) (some (ix_rv K r)) (ix_w z1 d1) := by
  refine ix_met2 mf_J7_copyOf_9075b hKp (Nat.le_of_ble_eq_true rfl) ?_
  intro p e s m args below meth c hr hlk hnm hsz X
  have X : ix_X p s m args c K cJ7_copyOf_9075b RJ7 3 := X
  show ix_G p l e (ix_rm 1 26 1 64) s m args below meth c (MQ below (ix_Post K (some (ix_rv K r)) (ix_w z1 d1)) args s 1 64 (ix_A K)) K 3 0 0 0 [(0, .ref (K.2.2.1 + a0)), (1, .int x1)] [] (ix_w z d)
  unfold f_J7_copyOf_9075b at h
  refine ix_iload_n (i := 1) (j := 1) X (ix_tb_at tb_J7_copyOf_9075b 0 rfl) rfl rfl (pc1 := 1) rfl ?_
  refine ix_aload_n (i := 0) (j := 0) X (ix_tb_at tb_J7_copyOf_9075b 1 rfl) rfl rfl (pc1 := 2) rfl ?_
  obtain ⟨k_1, h⟩ := ix_ck_some h
  refine iz_alen X k_1 (ix_tb_at tb_J7_copyOf_9075b 2 rfl) (pc1 := 3) rfl ?_
  refine ix_icmp_ne (tgt := 14) X (ix_tb_at tb_J7_copyOf_9075b 3 rfl) (by decide) (pc1 := 6) rfl (fun q_2 => ?_) (fun q_2 => ?_)
  · have h := ix_iff q_2 h
    refine ix_iload_n (i := 1) (j := 1) X (ix_tb_at tb_J7_copyOf_9075b 8 rfl) rfl rfl (pc1 := 15) rfl ?_
    obtain ⟨k_3, h⟩ := ix_ck_some h
    obtain ⟨z_4, e_5, h⟩ := ix_lt_ex h
    obtain ⟨d_6, e_7, h⟩ := ix_lt_ex h
    refine iz_newa_byte (pl := 99) X (by decide +kernel) k_3.1 (Nat.le_trans k_3.2 (by decide)) (Nat.le_of_ble_eq_true rfl) (Nat.le_trans (Nat.add_le_add_left k_3.2 _) (Nat.le_of_ble_eq_true rfl)) (ix_tb_at tb_J7_copyOf_9075b 9 rfl) e_5 e_7 (pc1 := 17) rfl ?_
    refine ix_widen (k1 := 1) (n1 := 64) (Nat.le_of_ble_eq_true rfl) (Nat.le_trans (Nat.add_le_add_left k_3.2 _) (Nat.le_of_ble_eq_true rfl)) ?_
    refine ix_astore_n (i := 2) (L1 := [(2, .ref (K.2.2.1 + z_4.2.2)), (0, .ref (K.2.2.1 + a0)), (1, .int x1)]) X (ix_tb_at tb_J7_copyOf_9075b 10 rfl) rfl (Nat.le_of_ble_eq_true rfl) rfl (pc1 := 18) rfl ?_
    refine ix_aload_n (i := 0) (j := 1) X (ix_tb_at tb_J7_copyOf_9075b 11 rfl) rfl rfl (pc1 := 19) rfl ?_
    refine ix_iconst (v := 0) X (ix_tb_at tb_J7_copyOf_9075b 12 rfl) (by decide) (pc1 := 20) rfl ?_
    refine ix_aload_n (i := 2) (j := 0) X (ix_tb_at tb_J7_copyOf_9075b 13 rfl) rfl rfl (pc1 := 21) rfl ?_
    refine ix_iconst (v := 0) X (ix_tb_at tb_J7_copyOf_9075b 14 rfl) (by decide) (pc1 := 22) rfl ?_
    refine ix_aload_n (i := 0) (j := 1) X (ix_tb_at tb_J7_copyOf_9075b 15 rfl) rfl rfl (pc1 := 23) rfl ?_
    obtain ⟨k_8, h⟩ := ix_ck_some h
    refine iz_alen X k_8 (ix_tb_at tb_J7_copyOf_9075b 16 rfl) (pc1 := 24) rfl ?_
    refine ix_iload_n (i := 1) (j := 2) X (ix_tb_at tb_J7_copyOf_9075b 17 rfl) rfl rfl (pc1 := 25) rfl ?_
    refine ix_mmin X ml_RJ7_304 (Nat.le_of_ble_eq_true rfl) (Nat.le_of_ble_eq_true rfl) ⟨Nat.le_of_ble_eq_true rfl, Nat.le_of_ble_eq_true rfl⟩ (ix_tb_at tb_J7_copyOf_9075b 18 rfl) (pc1 := 28) rfl ?_
    obtain ⟨k_9, h⟩ := ix_ck_some h
    obtain ⟨k_10, h⟩ := ix_ck_some h
    obtain ⟨d_11, e_12, h⟩ := ix_lt_ex h
    refine iz_copyI X (by rw [e_5]; show s.heap.size + 1 = K.2.2.1 + (@z_4@.2.2 + 1); have := hsz; omega) (Or.inr ⟨rfl, k_10⟩) ml_RJ7_150 k_9 (Nat.le_of_ble_eq_true rfl) (Nat.le_of_ble_eq_true rfl) (ix_tb_at tb_J7_copyOf_9075b 19 rfl) e_12 (pc1 := 31) rfl ?_
    refine ix_aload_n (i := 2) (j := 0) X (ix_tb_at tb_J7_copyOf_9075b 20 rfl) rfl rfl (pc1 := 32) rfl ?_
    exact ix_aret (v := (some z_4.2.2)) X hr (Or.inr ⟨_, rfl⟩) hlk (ix_r3 (f := fun r => some (ix_rv K r)) (g := ix_w) h) (ix_tb_at tb_J7_copyOf_9075b 21 rfl)
  · have h := ix_ift q_2 h
    refine ix_aload_n (i := 0) (j := 0) X (ix_tb_at tb_J7_copyOf_9075b 4 rfl) rfl rfl (pc1 := 7) rfl ?_
    obtain ⟨k_13, h⟩ := ix_ck_some h
    obtain ⟨k_14, h⟩ := ix_ck_some h
    obtain ⟨z_15, e_16, h⟩ := ix_lt_ex h
    obtain ⟨d_17, e_18, h⟩ := ix_lt_ex h
    refine iz_clone_byte X hsz k_13 k_14 (Nat.le_of_ble_eq_true rfl) (Nat.le_of_ble_eq_true rfl) (Nat.le_of_ble_eq_true rfl) (Nat.le_trans (Nat.add_le_add_left k_13.2.2 _) (Nat.le_of_ble_eq_true rfl)) (ix_tb_at tb_J7_copyOf_9075b 5 rfl) e_16 e_18 (pc1 := 10) rfl ?_
    refine ix_widen (k1 := 1) (n1 := 64) (Nat.le_of_ble_eq_true rfl) (Nat.le_trans (Nat.add_le_add_left k_13.2.2 _) (Nat.le_of_ble_eq_true rfl)) ?_
    refine iz_castA_byte (pl := 823) X (by decide +kernel) (by rw [e_16]; simp [ix_zn]) (ix_tb_at tb_J7_copyOf_9075b 6 rfl) (pc1 := 13) rfl ?_
    exact ix_aret (v := (some z_15.2.2)) X hr (Or.inr ⟨_, rfl⟩) hlk (ix_r3 (f := fun r => some (ix_rv K r)) (g := ix_w) h) (ix_tb_at tb_J7_copyOf_9075b 7 rfl)
def tab_J7_copyOf_59c91 : List (Nat × Instr × Nat) := [(0, .iload_n 1, 1), (1, .aload_n 0, 1), (2, .arraylength, 1), (3, .if_icmp .ne 11, 3), (6, .aload_n 0, 1), (7, .invokevirtual 316, 3), (10, .checkcast 317, 3), (13, .areturn, 1), (14, .iload_n 1, 1), (15, .newarray .int, 2), (17, .astore_n 2, 1), (18, .aload_n 0, 1), (19, .iconst 0, 1), (20, .aload_n 2, 1), (21, .iconst 0, 1), (22, .aload_n 0, 1), (23, .arraylength, 1), (24, .iload_n 1, 1), (25, .invokestatic 304, 3), (28, .invokestatic 150, 3), (31, .aload_n 2, 1), (32, .areturn, 1)]
theorem tb_J7_copyOf_59c91 : ix_tab cJ7_copyOf_59c91 tab_J7_copyOf_59c91 := by
  unfold ix_tab
  decide +kernel
noncomputable def f_J7_copyOf_59c91 (n : Nat) (z : ix_Z) (a0 : Nat) (x1 : Int32) (d : ix_D2) : Option (Option Nat × ix_Z × ix_D2) :=
  ix_ck (a0 < z.2.2 ∧ 20 ≤ (z.2.1 a0).1 ∧ (z.2.1 a0).1 < 26) (ix_if (x1 = nI (z.2.1 a0).2) (ix_ck (a0 < z.2.2 ∧ (z.2.1 a0).1 = 20 ∧ (z.2.1 a0).2 ≤ 64) (ix_lt (ix_zn z 20 (z.2.1 a0).2) (fun z_13 => ix_lt (ix_dc d a0 z.2.2) (fun d_15 => some ((some z.2.2), z_13, d_15))))) (ix_ck (¬ x1 < 0 ∧ ix_n x1 ≤ 64) (ix_lt (ix_zn z 20 (ix_n x1)) (fun z_4 => ix_lt (ix_dn d z.2.2) (fun d_6 => ix_ck (a0 < z_4.2.2 ∧ 20 ≤ (z_4.2.1 a0).1 ∧ (z_4.2.1 a0).1 < 26) (ix_ck (ix_cpk z_4 20 a0 0 z_4.2.2 0 (ix_min (nI (z_4.2.1 a0).2) x1)) (ix_lt (ix_cpI d_6 a0 z_4.2.2 (ix_n 0) (ix_n 0) (ix_n (ix_min (nI (z_4.2.1 a0).2) x1))) (fun d_10 => some ((some z.2.2), z_4, d_10)))))))))
set_option maxRecDepth 20000 in
theorem c_J7_copyOf_59c91 {l : Launch} {K : ix_Cx} (hKp : ix_Kp K) {n : Nat} {z : ix_Z} {a0 : Nat} {x1 : Int32} {d : ix_D2} {r : Option Nat} {z1 : ix_Z} {d1 : ix_D2} (h : f_J7_copyOf_59c91 n z a0 x1 d = some (r, z1, d1)) : ix_M l K yJ7_copyOf_59c91 cJ7_copyOf_59c91 3 (some (.array .int)) 1 26 1 64 [.ref (K.2.2.1 + a0), .int x1] (ix_w z d) (some (ix_rv K r)) (ix_w z1 d1) := by
  refine ix_met2 mf_J7_copyOf_59c91 hKp (Nat.le_of_ble_eq_true rfl) ?_
  intro p e s m args below meth c hr hlk hnm hsz X
  have X : ix_X p s m args c K cJ7_copyOf_59c91 RJ7 3 := X
  show ix_G p l e (ix_rm 1 26 1 64) s m args below meth c (MQ below (ix_Post K (some (ix_rv K r)) (ix_w z1 d1)) args s 1 64 (ix_A K)) K 3 0 0 0 [(0, .ref (K.2.2.1 + a0)), (1, .int x1)] [] (ix_w z d)
  unfold f_J7_copyOf_59c91 at h
  refine ix_iload_n (i := 1) (j := 1) X (ix_tb_at tb_J7_copyOf_59c91 0 rfl) rfl rfl (pc1 := 1) rfl ?_
  refine ix_aload_n (i := 0) (j := 0) X (ix_tb_at tb_J7_copyOf_59c91 1 rfl) rfl rfl (pc1 := 2) rfl ?_
  obtain ⟨k_1, h⟩ := ix_ck_some h
  refine iz_alen X k_1 (ix_tb_at tb_J7_copyOf_59c91 2 rfl) (pc1 := 3) rfl ?_
  refine ix_icmp_ne (tgt := 14) X (ix_tb_at tb_J7_copyOf_59c91 3 rfl) (by decide) (pc1 := 6) rfl (fun q_2 => ?_) (fun q_2 => ?_)
  · have h := ix_iff q_2 h
    refine ix_iload_n (i := 1) (j := 1) X (ix_tb_at tb_J7_copyOf_59c91 8 rfl) rfl rfl (pc1 := 15) rfl ?_
    obtain ⟨k_3, h⟩ := ix_ck_some h
    obtain ⟨z_4, e_5, h⟩ := ix_lt_ex h
    obtain ⟨d_6, e_7, h⟩ := ix_lt_ex h
    refine iz_newa_int (pl := 98) X (by decide +kernel) k_3.1 (Nat.le_trans k_3.2 (by decide)) (Nat.le_of_ble_eq_true rfl) (Nat.le_trans (Nat.add_le_add_left k_3.2 _) (Nat.le_of_ble_eq_true rfl)) (ix_tb_at tb_J7_copyOf_59c91 9 rfl) e_5 e_7 (pc1 := 17) rfl ?_
    refine ix_widen (k1 := 1) (n1 := 64) (Nat.le_of_ble_eq_true rfl) (Nat.le_trans (Nat.add_le_add_left k_3.2 _) (Nat.le_of_ble_eq_true rfl)) ?_
    refine ix_astore_n (i := 2) (L1 := [(2, .ref (K.2.2.1 + z_4.2.2)), (0, .ref (K.2.2.1 + a0)), (1, .int x1)]) X (ix_tb_at tb_J7_copyOf_59c91 10 rfl) rfl (Nat.le_of_ble_eq_true rfl) rfl (pc1 := 18) rfl ?_
    refine ix_aload_n (i := 0) (j := 1) X (ix_tb_at tb_J7_copyOf_59c91 11 rfl) rfl rfl (pc1 := 19) rfl ?_
    refine ix_iconst (v := 0) X (ix_tb_at tb_J7_copyOf_59c91 12 rfl) (by decide) (pc1 := 20) rfl ?_
    refine ix_aload_n (i := 2) (j := 0) X (ix_tb_at tb_J7_copyOf_59c91 13 rfl) rfl rfl (pc1 := 21) rfl ?_
    refine ix_iconst (v := 0) X (ix_tb_at tb_J7_copyOf_59c91 14 rfl) (by decide) (pc1 := 22) rfl ?_
    refine ix_aload_n (i := 0) (j := 1) X (ix_tb_at tb_J7_copyOf_59c91 15 rfl) rfl rfl (pc1 := 23) rfl ?_
    obtain ⟨k_8, h⟩ := ix_ck_some h
    refine iz_alen X k_8 (ix_tb_at tb_J7_copyOf_59c91 16 rfl) (pc1 := 24) rfl ?_
    refine ix_iload_n (i := 1) (j := 2) X (ix_tb_at tb_J7_copyOf_59c91 17 rfl) rfl rfl (pc1 := 25) rfl ?_
    refine ix_mmin X ml_RJ7_304 (Nat.le_of_ble_eq_true rfl) (Nat.le_of_ble_eq_true rfl) ⟨Nat.le_of_ble_eq_true rfl, Nat.le_of_ble_eq_true rfl⟩ (ix_tb_at tb_J7_copyOf_59c91 18 rfl) (pc1 := 28) rfl ?_
    obtain ⟨k_9, h⟩ := ix_ck_some h
    obtain ⟨d_10, e_11, h⟩ := ix_lt_ex h
    refine iz_copyI X (by rw [e_5]; show s.heap.size + 1 = K.2.2.1 + (@z_4@.2.2 + 1); have := hsz; omega) (Or.inl rfl) ml_RJ7_150 k_9 (Nat.le_of_ble_eq_true rfl) (Nat.le_of_ble_eq_true rfl) (ix_tb_at tb_J7_copyOf_59c91 19 rfl) e_11 (pc1 := 31) rfl ?_
    refine ix_aload_n (i := 2) (j := 0) X (ix_tb_at tb_J7_copyOf_59c91 20 rfl) rfl rfl (pc1 := 32) rfl ?_
    exact ix_aret (v := (some z_4.2.2)) X hr (Or.inr ⟨_, rfl⟩) hlk (ix_r3 (f := fun r => some (ix_rv K r)) (g := ix_w) h) (ix_tb_at tb_J7_copyOf_59c91 21 rfl)
  · have h := ix_ift q_2 h
    refine ix_aload_n (i := 0) (j := 0) X (ix_tb_at tb_J7_copyOf_59c91 4 rfl) rfl rfl (pc1 := 7) rfl ?_
    obtain ⟨k_12, h⟩ := ix_ck_some h
    obtain ⟨z_13, e_14, h⟩ := ix_lt_ex h
    obtain ⟨d_15, e_16, h⟩ := ix_lt_ex h
    refine iz_clone_int X hsz k_12 (Nat.le_of_ble_eq_true rfl) (Nat.le_of_ble_eq_true rfl) (Nat.le_of_ble_eq_true rfl) (Nat.le_trans (Nat.add_le_add_left k_12.2.2 _) (Nat.le_of_ble_eq_true rfl)) (ix_tb_at tb_J7_copyOf_59c91 5 rfl) e_14 e_16 (pc1 := 10) rfl ?_
    refine ix_widen (k1 := 1) (n1 := 64) (Nat.le_of_ble_eq_true rfl) (Nat.le_trans (Nat.add_le_add_left k_12.2.2 _) (Nat.le_of_ble_eq_true rfl)) ?_
    refine iz_castA_int (pl := 497) X (by decide +kernel) (by rw [e_14]; simp [ix_zn]) (ix_tb_at tb_J7_copyOf_59c91 6 rfl) (pc1 := 13) rfl ?_
    exact ix_aret (v := (some z_13.2.2)) X hr (Or.inr ⟨_, rfl⟩) hlk (ix_r3 (f := fun r => some (ix_rv K r)) (g := ix_w) h) (ix_tb_at tb_J7_copyOf_59c91 7 rfl)
def tab_X10_init : List (Nat × Instr × Nat) := [(0, .aload_n 0, 1), (1, .aload_n 1, 1), (2, .invokevirtual 1, 3), (5, .invokespecial 7, 3), (8, .aload_n 0, 1), (9, .aload_n 1, 1), (10, .getfield 13, 3), (13, .iload_n 2, 1), (14, .invokestatic 17, 3), (17, .putfield 23, 3), (20, .aload_n 0, 1), (21, .aload_n 1, 1), (22, .getfield 28, 3), (25, .aload_n 1, 1), (26, .getfield 32, 3), (29, .invokestatic 36, 3), (32, .putfield 39, 3), (35, .aload_n 0, 1), (36, .aload_n 1, 1), (37, .getfield 32, 3), (40, .iconst 1, 1), (41, .iadd, 1), (42, .newarray .int, 2), (44, .putfield 40, 3), (47, .return_, 1)]
theorem tb_X10_init : ix_tab cX10_init tab_X10_init := by
  unfold ix_tab
  decide +kernel
noncomputable def f_X10_init (n : Nat) (z : ix_Z) (a0 : Nat) (a1 : Nat) (x2 : Int32) (d : ix_D2) : Option (ix_Z × ix_D2) :=
  ix_ck (ix_ok z [4] a1) (ix_bd3 (f_X4_namesRead n z a1 d) (fun r_5 z_4 d_1 => ix_bd1 r_5 (fun b_6 => ix_bd2 (f_X3_init n z_4 a0 b_6 d_1) (fun z_10 d_8 => ix_ck (ix_ok z_10 [4] a1) (ix_bd1 (z_10.1 a1 0) (fun b_13 => ix_bd3 (f_J7_copyOf_9075b n z_10 b_13 x2 d_8) (fun r_18 z_17 d_15 => ix_bd1 r_18 (fun b_19 => ix_ck (ix_ok z_17 [9] a0) (ix_lt (ix_zr z_17 a0 3 (some b_19)) (fun z_22 => ix_ck (ix_ok z_22 [4] a1) (ix_bd1 (z_22.1 a1 6) (fun b_25 => ix_bd3 (f_J7_copyOf_59c91 n z_22 b_25 (d_15.1 a1 7) d_15) (fun r_30 z_29 d_27 => ix_bd1 r_30 (fun b_31 => ix_ck (ix_ok z_29 [9] a0) (ix_lt (ix_zr z_29 a0 4 (some b_31)) (fun z_34 => ix_ck (ix_ok z_34 [4] a1) (ix_ck (¬ ((d_27.1 a1 7) + 1) < 0 ∧ ix_n ((d_27.1 a1 7) + 1) ≤ 64) (ix_lt (ix_zn z_34 20 (ix_n ((d_27.1 a1 7) + 1))) (fun z_38 => ix_lt (ix_dn d_27 z_34.2.2) (fun d_40 => ix_ck (ix_ok z_38 [9] a0) (ix_lt (ix_zr z_38 a0 5 (some z_34.2.2)) (fun z_43 => some (z_43, d_40)))))))))))))))))))))))
set_option maxRecDepth 20000 in
theorem c_X10_init {l : Launch} {K : ix_Cx} (hKp : ix_Kp K) {n : Nat} {z : ix_Z} {a0 : Nat} {a1 : Nat} {x2 : Int32} {d : ix_D2} {z1 : ix_Z} {d1 : ix_D2} (h : f_X10_init n z a0 a1 x2 d = some (z1, d1)) : ix_M l K yX10_init cX10_init 3 (none : Option Jvm.ClassFile.FieldType) 3 65 4 256 [.ref (K.2.2.1 + a0), .ref (K.2.2.1 + a1), .int x2] (ix_w z d) none (ix_w z1 d1) := by
  refine ix_met mf_X10_init hKp (Nat.le_of_ble_eq_true rfl) ?_
  intro p e s m args below meth c hr hlk hnm X
  have X : ix_X p s m args c K cX10_init RX10 3 := X
  have hnm : meth.name = "<init>" := hnm
  show ix_G p l e (ix_rm 3 65 4 256) s m args below meth c (MQ below (ix_Post K none (ix_w z1 d1)) args s 4 256 (ix_A K)) K 3 0 0 0 [(0, .ref (K.2.2.1 + a0)), (1, .ref (K.2.2.1 + a1)), (2, .int x2)] [] (ix_w z d)
  unfold f_X10_init at h
  refine ix_aload_n (i := 0) (j := 0) X (ix_tb_at tb_X10_init 0 rfl) rfl rfl (pc1 := 1) rfl ?_
  refine ix_aload_n (i := 1) (j := 1) X (ix_tb_at tb_X10_init 1 rfl) rfl rfl (pc1 := 2) rfl ?_
  obtain ⟨k_3, h⟩ := ix_ck_some h
  obtain ⟨r_5, z_4, d_1, h_2, h⟩ := ix_bd3_ex h
  refine ix_callV (As := []) (rest := [.ref (K.2.2.1 + a0)]) (ci := 4) (T := TX4) (nf := 17) X mf_X4_namesRead mi_X4_namesRead ms_X4_namesRead rfl (Nat.le_of_ble_eq_true rfl) ml_RX10_1 ⟨Nat.le_of_ble_eq_true rfl, Nat.le_of_ble_eq_true rfl⟩ ⟨Nat.le_of_ble_eq_true rfl, Nat.le_of_ble_eq_true rfl⟩ rfl (Nat.le_of_ble_eq_true rfl) (ix_tb_at tb_X10_init 2 rfl) ⟨k_3.1, List.mem_singleton.mp k_3.2⟩ (c_X4_namesRead hKp h_2) rfl (pc1 := 5) rfl ?_
  obtain ⟨b_6, q_7, h⟩ := ix_bd1_ex h
  refine ix_rvs q_7 ?_
  obtain ⟨z_10, d_8, h_9, h⟩ := ix_bd2_ex h
  refine ix_callI (As := [.ref (K.2.2.1 + b_6)]) (rest := []) X mf_X3_init mi_X3_init rfl ml_RX10_7 ⟨Nat.le_of_ble_eq_true rfl, Nat.le_of_ble_eq_true rfl⟩ ⟨Nat.le_of_ble_eq_true rfl, Nat.le_of_ble_eq_true rfl⟩ rfl (Nat.le_of_ble_eq_true rfl) (ix_tb_at tb_X10_init 3 rfl) (c_X3_init hKp h_9) rfl (pc1 := 8) rfl ?_
  refine ix_aload_n (i := 0) (j := 0) X (ix_tb_at tb_X10_init 4 rfl) rfl rfl (pc1 := 9) rfl ?_
  refine ix_aload_n (i := 1) (j := 1) X (ix_tb_at tb_X10_init 5 rfl) rfl rfl (pc1 := 10) rfl ?_
  obtain ⟨k_12, h⟩ := ix_ck_some h
  obtain ⟨b_13, q_14, h⟩ := ix_bd1_ex h
  refine iz_getR X fl_RX10_13 k_12 q_14 (ix_tb_at tb_X10_init 6 rfl) (pc1 := 13) rfl ?_
  refine ix_iload_n (i := 2) (j := 2) X (ix_tb_at tb_X10_init 7 rfl) rfl rfl (pc1 := 14) rfl ?_
  obtain ⟨r_18, z_17, d_15, h_16, h⟩ := ix_bd3_ex h
  refine ix_callS (As := [.ref (K.2.2.1 + b_13), .int x2]) (rest := [.ref (K.2.2.1 + a0)]) X mf_J7_copyOf_9075b st_J7_copyOf_9075b ml_RX10_17 ⟨Nat.le_of_ble_eq_true rfl, Nat.le_of_ble_eq_true rfl⟩ ⟨Nat.le_of_ble_eq_true rfl, Nat.le_of_ble_eq_true rfl⟩ rfl (Nat.le_of_ble_eq_true rfl) (ix_tb_at tb_X10_init 8 rfl) (c_J7_copyOf_9075b hKp h_16) rfl (pc1 := 17) rfl ?_
  obtain ⟨b_19, q_20, h⟩ := ix_bd1_ex h
  refine ix_rvs q_20 ?_
  obtain ⟨k_21, h⟩ := ix_ck_some h
  obtain ⟨z_22, e_23, h⟩ := ix_lt_ex h
  refine iz_putR (ty := .array .byte) X fp_RX10_23 (fun _ => ⟨rfl, hnm⟩) k_21 (by decide +kernel) (by decide +kernel) (Or.inr ⟨_, rfl⟩) (ix_tb_at tb_X10_init 9 rfl) e_23 (pc1 := 20) rfl ?_
  refine ix_aload_n (i := 0) (j := 0) X (ix_tb_at tb_X10_init 10 rfl) rfl rfl (pc1 := 21) rfl ?_
  refine ix_aload_n (i := 1) (j := 1) X (ix_tb_at tb_X10_init 11 rfl) rfl rfl (pc1 := 22) rfl ?_
  obtain ⟨k_24, h⟩ := ix_ck_some h
  obtain ⟨b_25, q_26, h⟩ := ix_bd1_ex h
  refine iz_getR X fl_RX10_28 k_24 q_26 (ix_tb_at tb_X10_init 12 rfl) (pc1 := 25) rfl ?_
  refine ix_aload_n (i := 1) (j := 1) X (ix_tb_at tb_X10_init 13 rfl) rfl rfl (pc1 := 26) rfl ?_
  refine iz_getI X fl_RX10_32 k_24 (ix_tb_at tb_X10_init 14 rfl) (pc1 := 29) rfl ?_
  obtain ⟨r_30, z_29, d_27, h_28, h⟩ := ix_bd3_ex h
  refine ix_callS (As := [.ref (K.2.2.1 + b_25), .int (d_15.1 a1 7)]) (rest := [.ref (K.2.2.1 + a0)]) X mf_J7_copyOf_59c91 st_J7_copyOf_59c91 ml_RX10_36 ⟨Nat.le_of_ble_eq_true rfl, Nat.le_of_ble_eq_true rfl⟩ ⟨Nat.le_of_ble_eq_true rfl, Nat.le_of_ble_eq_true rfl⟩ rfl (Nat.le_of_ble_eq_true rfl) (ix_tb_at tb_X10_init 15 rfl) (c_J7_copyOf_59c91 hKp h_28) rfl (pc1 := 32) rfl ?_
  obtain ⟨b_31, q_32, h⟩ := ix_bd1_ex h
  refine ix_rvs q_32 ?_
  obtain ⟨k_33, h⟩ := ix_ck_some h
  obtain ⟨z_34, e_35, h⟩ := ix_lt_ex h
  refine iz_putR (ty := .array .int) X fp_RX10_39 (fun _ => ⟨rfl, hnm⟩) k_33 (by decide +kernel) (by decide +kernel) (Or.inr ⟨_, rfl⟩) (ix_tb_at tb_X10_init 16 rfl) e_35 (pc1 := 35) rfl ?_
  refine ix_aload_n (i := 0) (j := 0) X (ix_tb_at tb_X10_init 17 rfl) rfl rfl (pc1 := 36) rfl ?_
  refine ix_aload_n (i := 1) (j := 1) X (ix_tb_at tb_X10_init 18 rfl) rfl rfl (pc1 := 37) rfl ?_
  obtain ⟨k_36, h⟩ := ix_ck_some h
  refine iz_getI X fl_RX10_32 k_36 (ix_tb_at tb_X10_init 19 rfl) (pc1 := 40) rfl ?_
  refine ix_iconst (v := 1) X (ix_tb_at tb_X10_init 20 rfl) (by decide) (pc1 := 41) rfl ?_
  refine ix_iadd X (ix_tb_at tb_X10_init 21 rfl) (pc1 := 42) rfl ?_
  obtain ⟨k_37, h⟩ := ix_ck_some h
  obtain ⟨z_38, e_39, h⟩ := ix_lt_ex h
  obtain ⟨d_40, e_41, h⟩ := ix_lt_ex h
  refine iz_newa_int (pl := 98) X (by decide +kernel) k_37.1 (Nat.le_trans k_37.2 (by decide)) (Nat.le_of_ble_eq_true rfl) (Nat.le_trans (Nat.add_le_add_left k_37.2 _) (Nat.le_of_ble_eq_true rfl)) (ix_tb_at tb_X10_init 22 rfl) e_39 e_41 (pc1 := 44) rfl ?_
  refine ix_widen (k1 := 4) (n1 := 256) (Nat.le_of_ble_eq_true rfl) (Nat.le_trans (Nat.add_le_add_left k_37.2 _) (Nat.le_of_ble_eq_true rfl)) ?_
  obtain ⟨k_42, h⟩ := ix_ck_some h
  obtain ⟨z_43, e_44, h⟩ := ix_lt_ex h
  refine iz_putR (ty := .array .int) X fp_RX10_40 (fun _ => ⟨rfl, hnm⟩) k_42 (by decide +kernel) (by decide +kernel) (Or.inr ⟨_, rfl⟩) (ix_tb_at tb_X10_init 23 rfl) e_44 (pc1 := 47) rfl ?_
  exact ix_vret X hr hlk (ix_r2v (g := ix_w) h) (ix_tb_at tb_X10_init 24 rfl)
def tab_X11_init : List (Nat × Instr × Nat) := [(0, .aload_n 0, 1), (1, .invokespecial 1, 3), (4, .aload_n 0, 1), (5, .bipush 40, 2), (7, .bipush 12, 2), (9, .multianewarray 9 2, 4), (13, .putfield 11, 3), (16, .aload_n 0, 1), (17, .bipush 40, 2), (19, .newarray .int, 2), (21, .putfield 14, 3), (24, .aload_n 0, 1), (25, .new 18, 3), (28, .dup, 1), (29, .invokespecial 20, 3), (32, .putfield 21, 3), (35, .aload_n 0, 1), (36, .new 25, 3), (39, .dup, 1), (40, .invokespecial 27, 3), (43, .putfield 28, 3), (46, .aload_n 0, 1), (47, .bipush 60, 2), (49, .anewarray 32, 3), (52, .putfield 34, 3), (55, .aload_n 0, 1), (56, .new 38, 3), (59, .dup, 1), (60, .invokespecial 40, 3), (63, .putfield 41, 3), (66, .aload_n 0, 1), (67, .new 38, 3), (70, .dup, 1), (71, .invokespecial 40, 3), (74, .putfield 45, 3), (77, .aload_n 0, 1), (78, .new 48, 3), (81, .dup, 1), (82, .sipush 800, 3), (85, .sipush 8000, 3), (88, .invokespecial 50, 3), (91, .putfield 53, 3), (94, .aload_n 0, 1), (95, .sipush 500, 3), (98, .newarray .int, 2), (100, .putfield 57, 3), (103, .aload_n 0, 1), (104, .bipush 20, 2), (106, .newarray .int, 2), (108, .putfield 60, 3), (111, .aload_n 0, 1), (112, .sipush (-1005), 3), (115, .putfield 63, 3), (118, .aload_n 0, 1), (119, .getfield 14, 3), (122, .iconst (-1), 1), (123, .invokestatic 67, 3), (126, .return_, 1)]
theorem tb_X11_init : ix_tab cX11_init tab_X11_init := by
  unfold ix_tab
  decide +kernel
noncomputable def f_X11_init (n : Nat) (z : ix_Z) (a0 : Nat) (d : ix_D2) : Option (ix_Z × ix_D2) :=
  ix_lt (ix_zm z) (fun z_1 => ix_lt (ix_dm d z.2.2) (fun d_3 => ix_ck (ix_ok z_1 [10] a0) (ix_lt (ix_zr z_1 a0 0 (some z_1.2.2)) (fun z_6 => ix_lt (ix_zn z_6 20 (ix_n 40)) (fun z_8 => ix_lt (ix_dn d_3 z_6.2.2) (fun d_10 => ix_ck (ix_ok z_8 [10] a0) (ix_lt (ix_zr z_8 a0 1 (some z_6.2.2)) (fun z_13 => ix_lt (ix_zn z_13 4 17) (fun z_15 => ix_lt (ix_dn d_10 z_13.2.2) (fun d_17 => ix_bd2 (f_X4_init n z_15 z_13.2.2 d_17) (fun z_21 d_19 => ix_ck (ix_ok z_21 [10] a0) (ix_lt (ix_zr z_21 a0 2 (some z_13.2.2)) (fun z_24 => ix_lt (ix_zn z_24 2 12) (fun z_26 => ix_lt (ix_dn d_19 z_24.2.2) (fun d_28 => ix_bd2 (f_X2_init n z_26 z_24.2.2 d_28) (fun z_32 d_30 => ix_ck (ix_ok z_32 [10] a0) (ix_lt (ix_zr z_32 a0 3 (some z_24.2.2)) (fun z_35 => ix_lt (ix_zn z_35 24 (ix_n 60)) (fun z_37 => ix_lt (ix_dn d_30 z_35.2.2) (fun d_39 => ix_ck (ix_ok z_37 [10] a0) (ix_lt (ix_zr z_37 a0 4 (some z_35.2.2)) (fun z_42 => ix_lt (ix_zn z_42 8 20) (fun z_44 => ix_lt (ix_dn d_39 z_42.2.2) (fun d_46 => ix_bd2 (f_X9_init n z_44 z_42.2.2 d_46) (fun z_50 d_48 => ix_ck (ix_ok z_50 [10] a0) (ix_lt (ix_zr z_50 a0 6 (some z_42.2.2)) (fun z_53 => ix_lt (ix_zn z_53 8 20) (fun z_55 => ix_lt (ix_dn d_48 z_53.2.2) (fun d_57 => ix_bd2 (f_X9_init n z_55 z_53.2.2 d_57) (fun z_61 d_59 => ix_ck (ix_ok z_61 [10] a0) (ix_lt (ix_zr z_61 a0 7 (some z_53.2.2)) (fun z_64 => ix_lt (ix_zn z_64 7 3) (fun z_66 => ix_lt (ix_dn d_59 z_64.2.2) (fun d_68 => ix_bd2 (f_X7_init n z_66 z_64.2.2 800 8000 d_68) (fun z_72 d_70 => ix_ck (ix_ok z_72 [10] a0) (ix_lt (ix_zr z_72 a0 8 (some z_64.2.2)) (fun z_75 => ix_lt (ix_zn z_75 20 (ix_n 500)) (fun z_77 => ix_lt (ix_dn d_70 z_75.2.2) (fun d_79 => ix_ck (ix_ok z_77 [10] a0) (ix_lt (ix_zr z_77 a0 9 (some z_75.2.2)) (fun z_82 => ix_lt (ix_zn z_82 20 (ix_n 20)) (fun z_84 => ix_lt (ix_dn d_79 z_82.2.2) (fun d_86 => ix_ck (ix_ok z_84 [10] a0) (ix_lt (ix_zr z_84 a0 11 (some z_82.2.2)) (fun z_89 => ix_ck (ix_ok z_89 [10] a0) (ix_lt (ix_di d_86 a0 16 ((-1005))) (fun d_92 => ix_bd1 (z_89.1 a0 1) (fun b_94 => ix_bd1 (f_J7_fill_53178 n z_89 b_94 ((-1)) d_92) (fun d_96 => some (z_89, d_96))))))))))))))))))))))))))))))))))))))))))))))))))
set_option maxRecDepth 20000 in
theorem c_X11_init {l : Launch} {K : ix_Cx} (hKp : ix_Kp K) (hF : ix_Fc K) {n : Nat} {z : ix_Z} {a0 : Nat} {d : ix_D2} {z1 : ix_Z} {d1 : ix_D2} (h : f_X11_init n z a0 d = some (z1, d1)) : ix_M l K yX11_init cX11_init 1 (none : Option Jvm.ClassFile.FieldType) 4 85 124 172895 [.ref (K.2.2.1 + a0)] (ix_w z d) none (ix_w z1 d1) := by
  refine ix_met mf_X11_init hKp (Nat.le_of_ble_eq_true rfl) ?_
  intro p e s m args below meth c hr hlk hnm X
  have X : ix_X p s m args c K cX11_init RX11 1 := X
  have hnm : meth.name = "<init>" := hnm
  show ix_G p l e (ix_rm 4 85 124 172895) s m args below meth c (MQ below (ix_Post K none (ix_w z1 d1)) args s 124 172895 (ix_A K)) K 1 0 0 0 [(0, .ref (K.2.2.1 + a0))] [] (ix_w z d)
  unfold f_X11_init at h
  refine ix_aload_n (i := 0) (j := 0) X (ix_tb_at tb_X11_init 0 rfl) rfl rfl (pc1 := 1) rfl ?_
  refine ix_objI (pl := 29) X (by decide +kernel) (Nat.le_of_ble_eq_true rfl) (Nat.le_of_ble_eq_true rfl) (ix_tb_at tb_X11_init 1 rfl) (pc1 := 4) rfl ?_
  refine ix_aload_n (i := 0) (j := 0) X (ix_tb_at tb_X11_init 2 rfl) rfl rfl (pc1 := 5) rfl ?_
  refine ix_bipush (v := 40) X (ix_tb_at tb_X11_init 3 rfl) (by decide) (pc1 := 7) rfl ?_
  refine ix_bipush (v := 12) X (ix_tb_at tb_X11_init 4 rfl) (by decide) (pc1 := 9) rfl ?_
  obtain ⟨z_1, e_2, h⟩ := ix_lt_ex h
  obtain ⟨d_3, e_4, h⟩ := ix_lt_ex h
  refine iz_mna (pl := 32) (pq := 98) X hF (by decide +kernel) (by decide +kernel) (Nat.le_of_ble_eq_true rfl) (Nat.le_of_ble_eq_true rfl) (ix_tb_at tb_X11_init 5 rfl) e_2 e_4 (pc1 := 13) rfl ?_
  obtain ⟨k_5, h⟩ := ix_ck_some h
  obtain ⟨z_6, e_7, h⟩ := ix_lt_ex h
  refine iz_putR (ty := .array (.array .int)) X fp_RX11_11 (fun _ => ⟨rfl, hnm⟩) k_5 (by decide +kernel) (by decide +kernel) (Or.inr ⟨_, rfl⟩) (ix_tb_at tb_X11_init 6 rfl) e_7 (pc1 := 16) rfl ?_
  refine ix_aload_n (i := 0) (j := 0) X (ix_tb_at tb_X11_init 7 rfl) rfl rfl (pc1 := 17) rfl ?_
  refine ix_bipush (v := 40) X (ix_tb_at tb_X11_init 8 rfl) (by decide) (pc1 := 19) rfl ?_
  obtain ⟨z_8, e_9, h⟩ := ix_lt_ex h
  obtain ⟨d_10, e_11, h⟩ := ix_lt_ex h
  refine iz_newa_int (pl := 98) X (by decide +kernel) (by decide) (by decide) (Nat.le_of_ble_eq_true rfl) (Nat.le_of_ble_eq_true rfl) (ix_tb_at tb_X11_init 9 rfl) e_9 e_11 (pc1 := 21) rfl ?_
  refine ix_widen (k1 := 42) (n1 := 560) (Nat.le_of_ble_eq_true rfl) (Nat.le_of_ble_eq_true rfl) ?_
  obtain ⟨k_12, h⟩ := ix_ck_some h
  obtain ⟨z_13, e_14, h⟩ := ix_lt_ex h
  refine iz_putR (ty := .array .int) X fp_RX11_14 (fun _ => ⟨rfl, hnm⟩) k_12 (by decide +kernel) (by decide +kernel) (Or.inr ⟨_, rfl⟩) (ix_tb_at tb_X11_init 10 rfl) e_14 (pc1 := 24) rfl ?_
  refine ix_aload_n (i := 0) (j := 0) X (ix_tb_at tb_X11_init 11 rfl) rfl rfl (pc1 := 25) rfl ?_
  obtain ⟨z_15, e_16, h⟩ := ix_lt_ex h
  obtain ⟨d_17, e_18, h⟩ := ix_lt_ex h
  refine iz_new (ci := 4) (pl := 34) (pi := 35) (pj := 2) (N := 17) (C := RX4) (T := TX4) X rfl (by decide) (by decide +kernel) (by decide +kernel) (by decide +kernel) (Nat.le_of_ble_eq_true rfl) (Nat.le_of_ble_eq_true rfl) (ix_tb_at tb_X11_init 12 rfl) e_16 e_18 (pc1 := 28) rfl ?_
  refine ix_dup X (ix_tb_at tb_X11_init 13 rfl) rfl (pc1 := 29) rfl ?_
  obtain ⟨z_21, d_19, h_20, h⟩ := ix_bd2_ex h
  refine ix_callIN (As := []) (rest := [.ref (K.2.2.1 + z_13.2.2), .ref (K.2.2.1 + a0)]) X mf_X4_init mi_X4_init rfl ml_RX11_20 ⟨Nat.le_of_ble_eq_true rfl, Nat.le_of_ble_eq_true rfl⟩ ⟨Nat.le_of_ble_eq_true rfl, Nat.le_of_ble_eq_true rfl⟩ rfl (Nat.le_of_ble_eq_true rfl) (ix_tb_at tb_X11_init 14 rfl) (c_X4_init hKp h_20) rfl (pc1 := 32) rfl ?_
  obtain ⟨k_23, h⟩ := ix_ck_some h
  obtain ⟨z_24, e_25, h⟩ := ix_lt_ex h
  refine iz_putR (ty := .object "ClauseCourt$Desk") X fp_RX11_21 (fun _ => ⟨rfl, hnm⟩) k_23 (by decide +kernel) (by decide +kernel) (Or.inl ⟨_, rfl⟩) (ix_tb_at tb_X11_init 15 rfl) e_25 (pc1 := 35) rfl ?_
  refine ix_aload_n (i := 0) (j := 0) X (ix_tb_at tb_X11_init 16 rfl) rfl rfl (pc1 := 36) rfl ?_
  obtain ⟨z_26, e_27, h⟩ := ix_lt_ex h
  obtain ⟨d_28, e_29, h⟩ := ix_lt_ex h
  refine iz_new (ci := 2) (pl := 100) (pi := 101) (pj := 3) (N := 12) (C := RX2) (T := TX2) X rfl (by decide) (by decide +kernel) (by decide +kernel) (by decide +kernel) (Nat.le_of_ble_eq_true rfl) (Nat.le_of_ble_eq_true rfl) (ix_tb_at tb_X11_init 17 rfl) e_27 e_29 (pc1 := 39) rfl ?_
  refine ix_dup X (ix_tb_at tb_X11_init 18 rfl) rfl (pc1 := 40) rfl ?_
  obtain ⟨z_32, d_30, h_31, h⟩ := ix_bd2_ex h
  refine ix_callIN (As := []) (rest := [.ref (K.2.2.1 + z_24.2.2), .ref (K.2.2.1 + a0)]) X mf_X2_init mi_X2_init rfl ml_RX11_27 ⟨Nat.le_of_ble_eq_true rfl, Nat.le_of_ble_eq_true rfl⟩ ⟨Nat.le_of_ble_eq_true rfl, Nat.le_of_ble_eq_true rfl⟩ rfl (Nat.le_of_ble_eq_true rfl) (ix_tb_at tb_X11_init 19 rfl) (c_X2_init hKp h_31) rfl (pc1 := 43) rfl ?_
  obtain ⟨k_34, h⟩ := ix_ck_some h
  obtain ⟨z_35, e_36, h⟩ := ix_lt_ex h
  refine iz_putR (ty := .object "ClauseCourt$Case") X fp_RX11_28 (fun _ => ⟨rfl, hnm⟩) k_34 (by decide +kernel) (by decide +kernel) (Or.inl ⟨_, rfl⟩) (ix_tb_at tb_X11_init 20 rfl) e_36 (pc1 := 46) rfl ?_
  refine ix_aload_n (i := 0) (j := 0) X (ix_tb_at tb_X11_init 21 rfl) rfl rfl (pc1 := 47) rfl ?_
  refine ix_bipush (v := 60) X (ix_tb_at tb_X11_init 22 rfl) (by decide) (pc1 := 49) rfl ?_
  obtain ⟨z_37, e_38, h⟩ := ix_lt_ex h
  obtain ⟨d_39, e_40, h⟩ := ix_lt_ex h
  refine iz_anew (pl := 184) (pq := 0) X (by decide +kernel) (hF s X.2.2.2.2.2.1.2.2).1 (by decide) (by decide) (Nat.le_of_ble_eq_true rfl) (Nat.le_of_ble_eq_true rfl) (ix_tb_at tb_X11_init 23 rfl) e_38 e_40 (pc1 := 52) rfl ?_
  refine ix_widen (k1 := 59) (n1 := 28430) (Nat.le_of_ble_eq_true rfl) (Nat.le_of_ble_eq_true rfl) ?_
  obtain ⟨k_41, h⟩ := ix_ck_some h
  obtain ⟨z_42, e_43, h⟩ := ix_lt_ex h
  refine iz_putR (ty := .array (.object "ClauseCourt$Rule")) X fp_RX11_34 (fun _ => ⟨rfl, hnm⟩) k_41 (by decide +kernel) (by decide +kernel) (Or.inr ⟨_, rfl⟩) (ix_tb_at tb_X11_init 24 rfl) e_43 (pc1 := 55) rfl ?_
  refine ix_aload_n (i := 0) (j := 0) X (ix_tb_at tb_X11_init 25 rfl) rfl rfl (pc1 := 56) rfl ?_
  obtain ⟨z_44, e_45, h⟩ := ix_lt_ex h
  obtain ⟨d_46, e_47, h⟩ := ix_lt_ex h
  refine iz_new (ci := 8) (pl := 186) (pi := 187) (pj := 5) (N := 20) (C := RX9) (T := TX9) X rfl (by decide) (by decide +kernel) (by decide +kernel) (by decide +kernel) (Nat.le_of_ble_eq_true rfl) (Nat.le_of_ble_eq_true rfl) (ix_tb_at tb_X11_init 26 rfl) e_45 e_47 (pc1 := 59) rfl ?_
  refine ix_dup X (ix_tb_at tb_X11_init 27 rfl) rfl (pc1 := 60) rfl ?_
  obtain ⟨z_50, d_48, h_49, h⟩ := ix_bd2_ex h
  refine ix_callI (As := []) (rest := [.ref (K.2.2.1 + z_42.2.2), .ref (K.2.2.1 + a0)]) X mf_X9_init mi_X9_init rfl ml_RX11_40 ⟨Nat.le_of_ble_eq_true rfl, Nat.le_of_ble_eq_true rfl⟩ ⟨Nat.le_of_ble_eq_true rfl, Nat.le_of_ble_eq_true rfl⟩ rfl (Nat.le_of_ble_eq_true rfl) (ix_tb_at tb_X11_init 28 rfl) (c_X9_init hKp h_49) rfl (pc1 := 63) rfl ?_
  obtain ⟨k_52, h⟩ := ix_ck_some h
  obtain ⟨z_53, e_54, h⟩ := ix_lt_ex h
  refine iz_putR (ty := .object "ClauseCourt$Solver") X fp_RX11_41 (fun _ => ⟨rfl, hnm⟩) k_52 (by decide +kernel) (by decide +kernel) (Or.inl ⟨_, rfl⟩) (ix_tb_at tb_X11_init 29 rfl) e_54 (pc1 := 66) rfl ?_
  refine ix_aload_n (i := 0) (j := 0) X (ix_tb_at tb_X11_init 30 rfl) rfl rfl (pc1 := 67) rfl ?_
  obtain ⟨z_55, e_56, h⟩ := ix_lt_ex h
  obtain ⟨d_57, e_58, h⟩ := ix_lt_ex h
  refine iz_new (ci := 8) (pl := 186) (pi := 187) (pj := 5) (N := 20) (C := RX9) (T := TX9) X rfl (by decide) (by decide +kernel) (by decide +kernel) (by decide +kernel) (Nat.le_of_ble_eq_true rfl) (Nat.le_of_ble_eq_true rfl) (ix_tb_at tb_X11_init 31 rfl) e_56 e_58 (pc1 := 70) rfl ?_
  refine ix_dup X (ix_tb_at tb_X11_init 32 rfl) rfl (pc1 := 71) rfl ?_
  obtain ⟨z_61, d_59, h_60, h⟩ := ix_bd2_ex h
  refine ix_callI (As := []) (rest := [.ref (K.2.2.1 + z_53.2.2), .ref (K.2.2.1 + a0)]) X mf_X9_init mi_X9_init rfl ml_RX11_40 ⟨Nat.le_of_ble_eq_true rfl, Nat.le_of_ble_eq_true rfl⟩ ⟨Nat.le_of_ble_eq_true rfl, Nat.le_of_ble_eq_true rfl⟩ rfl (Nat.le_of_ble_eq_true rfl) (ix_tb_at tb_X11_init 33 rfl) (c_X9_init hKp h_60) rfl (pc1 := 74) rfl ?_
  obtain ⟨k_63, h⟩ := ix_ck_some h
  obtain ⟨z_64, e_65, h⟩ := ix_lt_ex h
  refine iz_putR (ty := .object "ClauseCourt$Solver") X fp_RX11_45 (fun _ => ⟨rfl, hnm⟩) k_63 (by decide +kernel) (by decide +kernel) (Or.inl ⟨_, rfl⟩) (ix_tb_at tb_X11_init 34 rfl) e_65 (pc1 := 77) rfl ?_
  refine ix_aload_n (i := 0) (j := 0) X (ix_tb_at tb_X11_init 35 rfl) rfl rfl (pc1 := 78) rfl ?_
  obtain ⟨z_66, e_67, h⟩ := ix_lt_ex h
  obtain ⟨d_68, e_69, h⟩ := ix_lt_ex h
  refine iz_new (ci := 7) (pl := 342) (pi := 107) (pj := 4) (N := 3) (C := RX7) (T := TX7) X rfl (by decide) (by decide +kernel) (by decide +kernel) (by decide +kernel) (Nat.le_of_ble_eq_true rfl) (Nat.le_of_ble_eq_true rfl) (ix_tb_at tb_X11_init 36 rfl) e_67 e_69 (pc1 := 81) rfl ?_
  refine ix_dup X (ix_tb_at tb_X11_init 37 rfl) rfl (pc1 := 82) rfl ?_
  refine ix_sipush (v := 800) X (ix_tb_at tb_X11_init 38 rfl) (by decide) (pc1 := 85) rfl ?_
  refine ix_sipush (v := 8000) X (ix_tb_at tb_X11_init 39 rfl) (by decide) (pc1 := 88) rfl ?_
  obtain ⟨z_72, d_70, h_71, h⟩ := ix_bd2_ex h
  refine ix_callI (As := [.int 800, .int 8000]) (rest := [.ref (K.2.2.1 + z_64.2.2), .ref (K.2.2.1 + a0)]) X mf_X7_init mi_X7_init rfl ml_RX11_50 ⟨Nat.le_of_ble_eq_true rfl, Nat.le_of_ble_eq_true rfl⟩ ⟨Nat.le_of_ble_eq_true rfl, Nat.le_of_ble_eq_true rfl⟩ rfl (Nat.le_of_ble_eq_true rfl) (ix_tb_at tb_X11_init 40 rfl) (c_X7_init hKp h_71) rfl (pc1 := 91) rfl ?_
  obtain ⟨k_74, h⟩ := ix_ck_some h
  obtain ⟨z_75, e_76, h⟩ := ix_lt_ex h
  refine iz_putR (ty := .object "ClauseCourt$Rows") X fp_RX11_53 (fun _ => ⟨rfl, hnm⟩) k_74 (by decide +kernel) (by decide +kernel) (Or.inl ⟨_, rfl⟩) (ix_tb_at tb_X11_init 41 rfl) e_76 (pc1 := 94) rfl ?_
  refine ix_aload_n (i := 0) (j := 0) X (ix_tb_at tb_X11_init 42 rfl) rfl rfl (pc1 := 95) rfl ?_
  refine ix_sipush (v := 500) X (ix_tb_at tb_X11_init 43 rfl) (by decide) (pc1 := 98) rfl ?_
  obtain ⟨z_77, e_78, h⟩ := ix_lt_ex h
  obtain ⟨d_79, e_80, h⟩ := ix_lt_ex h
  refine iz_newa_int (pl := 98) X (by decide +kernel) (by decide) (by decide) (Nat.le_of_ble_eq_true rfl) (Nat.le_of_ble_eq_true rfl) (ix_tb_at tb_X11_init 44 rfl) e_78 e_80 (pc1 := 100) rfl ?_
  refine ix_widen (k1 := 123) (n1 := 172875) (Nat.le_of_ble_eq_true rfl) (Nat.le_of_ble_eq_true rfl) ?_
  obtain ⟨k_81, h⟩ := ix_ck_some h
  obtain ⟨z_82, e_83, h⟩ := ix_lt_ex h
  refine iz_putR (ty := .array .int) X fp_RX11_57 (fun _ => ⟨rfl, hnm⟩) k_81 (by decide +kernel) (by decide +kernel) (Or.inr ⟨_, rfl⟩) (ix_tb_at tb_X11_init 45 rfl) e_83 (pc1 := 103) rfl ?_
  refine ix_aload_n (i := 0) (j := 0) X (ix_tb_at tb_X11_init 46 rfl) rfl rfl (pc1 := 104) rfl ?_
  refine ix_bipush (v := 20) X (ix_tb_at tb_X11_init 47 rfl) (by decide) (pc1 := 106) rfl ?_
  obtain ⟨z_84, e_85, h⟩ := ix_lt_ex h
  obtain ⟨d_86, e_87, h⟩ := ix_lt_ex h
  refine iz_newa_int (pl := 98) X (by decide +kernel) (by decide) (by decide) (Nat.le_of_ble_eq_true rfl) (Nat.le_of_ble_eq_true rfl) (ix_tb_at tb_X11_init 48 rfl) e_85 e_87 (pc1 := 108) rfl ?_
  refine ix_widen (k1 := 124) (n1 := 172895) (Nat.le_of_ble_eq_true rfl) (Nat.le_of_ble_eq_true rfl) ?_
  obtain ⟨k_88, h⟩ := ix_ck_some h
  obtain ⟨z_89, e_90, h⟩ := ix_lt_ex h
  refine iz_putR (ty := .array .int) X fp_RX11_60 (fun _ => ⟨rfl, hnm⟩) k_88 (by decide +kernel) (by decide +kernel) (Or.inr ⟨_, rfl⟩) (ix_tb_at tb_X11_init 49 rfl) e_90 (pc1 := 111) rfl ?_
  refine ix_aload_n (i := 0) (j := 0) X (ix_tb_at tb_X11_init 50 rfl) rfl rfl (pc1 := 112) rfl ?_
  refine ix_sipush (v := (-1005)) X (ix_tb_at tb_X11_init 51 rfl) (by decide) (pc1 := 115) rfl ?_
  obtain ⟨k_91, h⟩ := ix_ck_some h
  obtain ⟨d_92, e_93, h⟩ := ix_lt_ex h
  refine iz_putI X fp_RX11_63 k_91 (ix_tb_at tb_X11_init 52 rfl) e_93 (pc1 := 118) rfl ?_
  refine ix_aload_n (i := 0) (j := 0) X (ix_tb_at tb_X11_init 53 rfl) rfl rfl (pc1 := 119) rfl ?_
  obtain ⟨b_94, q_95, h⟩ := ix_bd1_ex h
  refine iz_getR X fl_RX11_14 k_91 q_95 (ix_tb_at tb_X11_init 54 rfl) (pc1 := 122) rfl ?_
  refine ix_iconst (v := (-1)) X (ix_tb_at tb_X11_init 55 rfl) (by decide) (pc1 := 123) rfl ?_
  obtain ⟨d_96, h_97, h⟩ := ix_bd1_ex h
  refine ix_callS (As := [.ref (K.2.2.1 + b_94), .int ((-1))]) (rest := []) X mf_J7_fill_53178 st_J7_fill_53178 ml_RX11_67 ⟨Nat.le_of_ble_eq_true rfl, Nat.le_of_ble_eq_true rfl⟩ ⟨Nat.le_of_ble_eq_true rfl, Nat.le_of_ble_eq_true rfl⟩ rfl (Nat.le_of_ble_eq_true rfl) (ix_tb_at tb_X11_init 56 rfl) (c_J7_fill_53178 hKp h_97) rfl (pc1 := 126) rfl ?_
  exact ix_vret X hr hlk (ix_r2v (g := ix_w) h) (ix_tb_at tb_X11_init 57 rfl)
def tab_X11_itemsOf : List (Nat × Instr × Nat) := [(0, .aload_n 0, 1), (1, .getfield 11, 3), (4, .iload_n 1, 1), (5, .aaload, 1), (6, .aload_n 0, 1), (7, .getfield 14, 3), (10, .iload_n 1, 1), (11, .iaload, 1), (12, .invokestatic 411, 3), (15, .areturn, 1)]
theorem tb_X11_itemsOf : ix_tab cX11_itemsOf tab_X11_itemsOf := by
  unfold ix_tab
  decide +kernel
noncomputable def f_X11_itemsOf (n : Nat) (z : ix_Z) (a0 : Nat) (x1 : Int32) (d : ix_D2) : Option (Option Nat × ix_Z × ix_D2) :=
  ix_ck (ix_ok z [10] a0) (ix_bd1 (z.1 a0 0) (fun b_2 => ix_ck (ix_ix z 25 b_2 x1) (ix_bd1 (z.1 b_2 (ix_n x1)) (fun b_5 => ix_bd1 (z.1 a0 1) (fun b_7 => ix_ck (ix_ix z 20 b_7 x1) (ix_bd3 (f_J7_copyOf_59c91 n z b_5 (d.1 b_7 (ix_n x1)) d) (fun r_13 z_12 d_10 => ix_bd1 r_13 (fun b_14 => some ((some b_14), z_12, d_10)))))))))
set_option maxRecDepth 20000 in
theorem c_X11_itemsOf {l : Launch} {K : ix_Cx} (hKp : ix_Kp K) {n : Nat} {z : ix_Z} {a0 : Nat} {x1 : Int32} {d : ix_D2} {r : Option Nat} {z1 : ix_Z} {d1 : ix_D2} (h : f_X11_itemsOf n z a0 x1 d = some (r, z1, d1)) : ix_M l K yX11_itemsOf cX11_itemsOf 2 (some (.array .int)) 2 48 1 64 [.ref (K.2.2.1 + a0), .int x1] (ix_w z d) (some (ix_rv K r)) (ix_w z1 d1) := by
  refine ix_met mf_X11_itemsOf hKp (Nat.le_of_ble_eq_true rfl) ?_
  intro p e s m args below meth c hr hlk hnm X
  have X : ix_X p s m args c K cX11_itemsOf RX11 2 := X
  show ix_G p l e (ix_rm 2 48 1 64) s m args below meth c (MQ below (ix_Post K (some (ix_rv K r)) (ix_w z1 d1)) args s 1 64 (ix_A K)) K 2 0 0 0 [(0, .ref (K.2.2.1 + a0)), (1, .int x1)] [] (ix_w z d)
  unfold f_X11_itemsOf at h
  refine ix_aload_n (i := 0) (j := 0) X (ix_tb_at tb_X11_itemsOf 0 rfl) rfl rfl (pc1 := 1) rfl ?_
  obtain ⟨k_1, h⟩ := ix_ck_some h
  obtain ⟨b_2, q_3, h⟩ := ix_bd1_ex h
  refine iz_getR X fl_RX11_11 k_1 q_3 (ix_tb_at tb_X11_itemsOf 1 rfl) (pc1 := 4) rfl ?_
  refine ix_iload_n (i := 1) (j := 1) X (ix_tb_at tb_X11_itemsOf 2 rfl) rfl rfl (pc1 := 5) rfl ?_
  obtain ⟨k_4, h⟩ := ix_ck_some h
  refine iz_aald X (Or.inr rfl) k_4 (ix_tb_at tb_X11_itemsOf 3 rfl) (pc1 := 6) rfl ?_
  obtain ⟨b_5, q_6, h⟩ := ix_bd1_ex h
  refine ix_rvs q_6 ?_
  refine ix_aload_n (i := 0) (j := 0) X (ix_tb_at tb_X11_itemsOf 4 rfl) rfl rfl (pc1 := 7) rfl ?_
  obtain ⟨b_7, q_8, h⟩ := ix_bd1_ex h
  refine iz_getR X fl_RX11_14 k_1 q_8 (ix_tb_at tb_X11_itemsOf 5 rfl) (pc1 := 10) rfl ?_
  refine ix_iload_n (i := 1) (j := 1) X (ix_tb_at tb_X11_itemsOf 6 rfl) rfl rfl (pc1 := 11) rfl ?_
  obtain ⟨k_9, h⟩ := ix_ck_some h
  refine iz_iald X k_9 (ix_tb_at tb_X11_itemsOf 7 rfl) (pc1 := 12) rfl ?_
  obtain ⟨r_13, z_12, d_10, h_11, h⟩ := ix_bd3_ex h
  refine ix_callS (As := [.ref (K.2.2.1 + b_5), .int (d.1 b_7 (ix_n x1))]) (rest := []) X mf_J7_copyOf_59c91 st_J7_copyOf_59c91 ml_RX11_411 ⟨Nat.le_of_ble_eq_true rfl, Nat.le_of_ble_eq_true rfl⟩ ⟨Nat.le_of_ble_eq_true rfl, Nat.le_of_ble_eq_true rfl⟩ rfl (Nat.le_of_ble_eq_true rfl) (ix_tb_at tb_X11_itemsOf 8 rfl) (c_J7_copyOf_59c91 hKp h_11) rfl (pc1 := 15) rfl ?_
  obtain ⟨b_14, q_15, h⟩ := ix_bd1_ex h
  refine ix_rvs q_15 ?_
  exact ix_aret (v := (some b_14)) X hr (Or.inr ⟨_, rfl⟩) hlk (ix_r3 (f := fun r => some (ix_rv K r)) (g := ix_w) h) (ix_tb_at tb_X11_itemsOf 9 rfl)
def tab_X11_admit : List (Nat × Instr × Nat) := [(0, .aload_n 0, 1), (1, .getfield 28, 3), (4, .getfield 195, 3), (7, .getfield 224, 3), (10, .istore_n 2, 1), (11, .aload_n 0, 1), (12, .getfield 28, 3), (15, .getfield 77, 3), (18, .istore_n 3, 1), (19, .aload_n 0, 1), (20, .getfield 28, 3), (23, .aload_n 0, 1), (24, .getfield 281, 3), (27, .bipush 60, 2), (29, .if_icmp .lt 7, 3), (32, .iconst 1, 1), (33, .goto 4, 3), (36, .iconst 0, 1), (37, .putfield 415, 3), (40, .aload_n 1, 1), (41, .aload_n 0, 1), (42, .getfield 28, 3), (45, .invokevirtual 418, 3), (48, .aload_n 0, 1), (49, .getfield 28, 3), (52, .getfield 415, 3), (55, .ifCond .eq 30, 3), (58, .aload_n 0, 1), (59, .getfield 28, 3), (62, .getfield 195, 3), (65, .iload_n 2, 1), (66, .invokevirtual 328, 3), (69, .aload_n 0, 1), (70, .getfield 28, 3), (73, .iload_n 3, 1), (74, .putfield 77, 3), (77, .aload_n 0, 1), (78, .sipush (-1003), 3), (81, .invokevirtual 73, 3), (84, .ireturn, 1), (85, .aload_n 1, 1), (86, .iload_n 2, 1), (87, .putfield 171, 3), (90, .aload_n 1, 1), (91, .aload_n 0, 1), (92, .getfield 28, 3), (95, .getfield 195, 3), (98, .getfield 224, 3), (101, .iload_n 2, 1), (102, .isub, 1), (103, .putfield 168, 3), (106, .aload_n 0, 1), (107, .getfield 34, 3), (110, .aload_n 0, 1), (111, .getfield 281, 3), (114, .aload_n 1, 1), (115, .aastore, 1), (116, .aload_n 0, 1), (117, .dup, 1), (118, .getfield 281, 3), (121, .iconst 1, 1), (122, .iadd, 1), (123, .putfield 281, 3), (126, .aload_n 0, 1), (127, .iconst 0, 1), (128, .putfield 80, 3), (131, .aload_n 0, 1), (132, .getfield 281, 3), (135, .iconst 1, 1), (136, .isub, 1), (137, .ireturn, 1)]
theorem tb_X11_admit : ix_tab cX11_admit tab_X11_admit := by
  unfold ix_tab
  decide +kernel
noncomputable def v_RX11_418 (n : Nat) (z : ix_Z) (b : Nat) (p0 : Nat) (d : ix_D2) : Option (ix_Z × ix_D2) := ix_if ((z.2.1 b).1 = 0) (f_X0_layInto n z b p0 d) (ix_if ((z.2.1 b).1 = 3) (ix_lf z (f_X3_layInto n z b p0 d)) (ix_if ((z.2.1 b).1 = 5) (f_X5_layInto n z b p0 d) (ix_if ((z.2.1 b).1 = 6) (ix_lf z (f_X6_layInto n z b p0 d)) (ix_lf z (f_X10_layInto n z b p0 d)))))
theorem tv_RX11_418 {l : Launch} {p : Program} {e : Env} {s : State} {m : MethodId} {args : Array Value} {below : List Frame} {meth : Method} {c : Code} {K : ix_Cx} {R : Room} {Q : State → Prop} {nL k n pc : Nat} {cc : ByteArray} {L : List (Nat × Value)} {rest : List Value} (hKp : ix_Kp K) (X : ix_X p s m args c K cc RX11 nL) {N : Nat} {z : ix_Z} {b : Nat} {p0 : Nat} {d : ix_D2} {z1 : ix_Z} {d1 : ix_D2} (hk : ix_ok z [0, 3, 5, 6, 9] b) (hcall : v_RX11_418 N z b p0 d = some (z1, d1)) (hfr : 6 ≤ R.frames) (hlo : 146 ≤ R.locals) (hcs : k + 1 ≤ R.cells ∧ n + 14 ≤ R.slots) (hrm : (rest.map fun v => v.category).sum ≤ 8) (hd : decode cc pc = .ok (.invokevirtual 418, 3)) {pc1 : Nat} (hp : pc + 3 = pc1) (kk : ix_G p l e R s m args below meth c Q K nL (k + 1) (n + 14) pc1 L (rest) (ix_w z1 d1)) : ix_G p l e R s m args below meth c Q K nL k n pc L (.ref (K.2.2.1 + p0) :: .ref (K.2.2.1 + b) :: rest) (ix_w z d) := by
  unfold v_RX11_418 at hcall
  have h2 := hk.2
  simp only [List.mem_cons, List.not_mem_nil, or_false] at h2
  rcases h2 with h2 | h2 | h2 | h2 | h2
  · have hcall := ix_ift h2 hcall
    exact ix_callU (As := [.ref (K.2.2.1 + p0)]) (rest := rest) (x := (⟨"ClauseCourt$Rule", "layInto", "(LClauseCourt$Case;)V"⟩ : MethodName)) (owner := "ClauseCourt$Rule") (C := RX0) (T := TX0) (nf := 4) (ci := 0) X mf_X0_layInto mi_X0_layInto (ix_wm (i := 536) (by decide +kernel)) (ix_wm (i := 535) (by decide +kernel)) (Or.inl (ix_wm (i := 534) (by decide +kernel))) ⟨by decide, by decide⟩ (by decide +kernel) rfl (by decide) ml_RX11_418 ⟨Nat.le_trans (Nat.le_of_ble_eq_true rfl) hfr, Nat.le_trans (Nat.le_of_ble_eq_true rfl) hlo⟩ ⟨Nat.le_trans (Nat.add_le_add_left (by decide) _) hcs.1, Nat.le_trans (Nat.add_le_add_left (by decide) _) hcs.2⟩ rfl hrm hd ⟨hk.1, h2⟩ (c_X0_layInto hKp hcall) rfl hp (ix_widen (Nat.add_le_add_left (by decide) _) (Nat.add_le_add_left (by decide) _) kk)
  · have hcall := ix_iff (by rw [h2]; decide) hcall
    have hcall := ix_ift h2 hcall
    obtain ⟨hcall, rfl⟩ := ix_lf_ex hcall
    exact ix_callU (As := [.ref (K.2.2.1 + p0)]) (rest := rest) (x := (⟨"ClauseCourt$Rule", "layInto", "(LClauseCourt$Case;)V"⟩ : MethodName)) (owner := "ClauseCourt$Rule") (C := RX3) (T := TX3) (nf := 3) (ci := 3) X mf_X3_layInto mi_X3_layInto (ix_wm (i := 566) (by decide +kernel)) (ix_wm (i := 535) (by decide +kernel)) (Or.inl (ix_wm (i := 534) (by decide +kernel))) ⟨by decide, by decide⟩ (by decide +kernel) rfl (by decide) ml_RX11_418 ⟨Nat.le_trans (Nat.le_of_ble_eq_true rfl) hfr, Nat.le_trans (Nat.le_of_ble_eq_true rfl) hlo⟩ ⟨Nat.le_trans (Nat.add_le_add_left (by decide) _) hcs.1, Nat.le_trans (Nat.add_le_add_left (by decide) _) hcs.2⟩ rfl hrm hd ⟨hk.1, h2⟩ (c_X3_layInto hKp hcall) rfl hp (ix_widen (Nat.add_le_add_left (by decide) _) (Nat.add_le_add_left (by decide) _) kk)
  · have hcall := ix_iff (by rw [h2]; decide) hcall
    have hcall := ix_iff (by rw [h2]; decide) hcall
    have hcall := ix_ift h2 hcall
    exact ix_callU (As := [.ref (K.2.2.1 + p0)]) (rest := rest) (x := (⟨"ClauseCourt$Rule", "layInto", "(LClauseCourt$Case;)V"⟩ : MethodName)) (owner := "ClauseCourt$Rule") (C := RX5) (T := TX5) (nf := 4) (ci := 5) X mf_X5_layInto mi_X5_layInto (ix_wm (i := 571) (by decide +kernel)) (ix_wm (i := 535) (by decide +kernel)) (Or.inl (ix_wm (i := 534) (by decide +kernel))) ⟨by decide, by decide⟩ (by decide +kernel) rfl (by decide) ml_RX11_418 ⟨Nat.le_trans (Nat.le_of_ble_eq_true rfl) hfr, Nat.le_trans (Nat.le_of_ble_eq_true rfl) hlo⟩ ⟨Nat.le_trans (Nat.add_le_add_left (by decide) _) hcs.1, Nat.le_trans (Nat.add_le_add_left (by decide) _) hcs.2⟩ rfl hrm hd ⟨hk.1, h2⟩ (c_X5_layInto hKp hcall) rfl hp (ix_widen (Nat.add_le_add_left (by decide) _) (Nat.add_le_add_left (by decide) _) kk)
  · have hcall := ix_iff (by rw [h2]; decide) hcall
    have hcall := ix_iff (by rw [h2]; decide) hcall
    have hcall := ix_iff (by rw [h2]; decide) hcall
    have hcall := ix_ift h2 hcall
    obtain ⟨hcall, rfl⟩ := ix_lf_ex hcall
    exact ix_callU (As := [.ref (K.2.2.1 + p0)]) (rest := rest) (x := (⟨"ClauseCourt$Rule", "layInto", "(LClauseCourt$Case;)V"⟩ : MethodName)) (owner := "ClauseCourt$Rule") (C := RX6) (T := TX6) (nf := 4) (ci := 6) X mf_X6_layInto mi_X6_layInto (ix_wm (i := 580) (by decide +kernel)) (ix_wm (i := 535) (by decide +kernel)) (Or.inl (ix_wm (i := 534) (by decide +kernel))) ⟨by decide, by decide⟩ (by decide +kernel) rfl (by decide) ml_RX11_418 ⟨Nat.le_trans (Nat.le_of_ble_eq_true rfl) hfr, Nat.le_trans (Nat.le_of_ble_eq_true rfl) hlo⟩ ⟨Nat.le_trans (Nat.add_le_add_left (by decide) _) hcs.1, Nat.le_trans (Nat.add_le_add_left (by decide) _) hcs.2⟩ rfl hrm hd ⟨hk.1, h2⟩ (c_X6_layInto hKp hcall) rfl hp (ix_widen (Nat.add_le_add_left (by decide) _) (Nat.add_le_add_left (by decide) _) kk)
  · have hcall := ix_iff (by rw [h2]; decide) hcall
    have hcall := ix_iff (by rw [h2]; decide) hcall
    have hcall := ix_iff (by rw [h2]; decide) hcall
    have hcall := ix_iff (by rw [h2]; decide) hcall
    obtain ⟨hcall, rfl⟩ := ix_lf_ex hcall
    exact ix_callU (As := [.ref (K.2.2.1 + p0)]) (rest := rest) (x := (⟨"ClauseCourt$Rule", "layInto", "(LClauseCourt$Case;)V"⟩ : MethodName)) (owner := "ClauseCourt$Rule") (C := RX10) (T := TX10) (nf := 6) (ci := 9) X mf_X10_layInto mi_X10_layInto (ix_wm (i := 588) (by decide +kernel)) (ix_wm (i := 535) (by decide +kernel)) (Or.inl (ix_wm (i := 534) (by decide +kernel))) ⟨by decide, by decide⟩ (by decide +kernel) rfl (by decide) ml_RX11_418 ⟨Nat.le_trans (Nat.le_of_ble_eq_true rfl) hfr, Nat.le_trans (Nat.le_of_ble_eq_true rfl) hlo⟩ ⟨Nat.le_trans (Nat.add_le_add_left (by decide) _) hcs.1, Nat.le_trans (Nat.add_le_add_left (by decide) _) hcs.2⟩ rfl hrm hd ⟨hk.1, h2⟩ (c_X10_layInto hKp hcall) rfl hp (ix_widen (Nat.add_le_add_left (by decide) _) (Nat.add_le_add_left (by decide) _) kk)
noncomputable def f_X11_admit_37 (n : Nat) (z : ix_Z)  (a0 : Nat) (a1 : Nat) (x2 : Int32) (x3 : Int32) (s0 : Int32) (s1 : Nat) (d : ix_D2) : Option (Int32 × ix_Z × ix_D2) :=
  ix_ck (ix_ok z [2] s1) (ix_ck (s0 = 0 ∨ s0 = 1) (ix_lt (ix_di d s1 11 s0) (fun d_15 => ix_ck (ix_ok z [10] a0) (ix_bd1 (z.1 a0 3) (fun b_18 => ix_ck (ix_ok z [0, 3, 5, 6, 9] a1) (ix_bd2 (v_RX11_418 n z a1 b_18 d_15) (fun z_22 d_21 => ix_ck (ix_ok z_22 [10] a0) (ix_bd1 (z_22.1 a0 3) (fun b_26 => ix_ck (ix_ok z_22 [2] b_26) (ix_if (d_21.1 b_26 11 = 0) (ix_ck (ix_ok z_22 [0, 3, 5, 6, 9] a1) (ix_lt (ix_di d_21 a1 1 x2) (fun d_31 => ix_bd1 (z_22.1 b_26 0) (fun b_33 => ix_ck (ix_ok z_22 [7] b_33) (ix_lt (ix_di d_31 a1 2 ((d_31.1 b_33 2) - x2)) (fun d_36 => ix_bd1 (z_22.1 a0 4) (fun b_38 => ix_ck (ix_ix z_22 24 b_38 (d_36.1 a0 5)) (ix_lt (ix_zr z_22 b_38 (ix_n (d_36.1 a0 5)) (some a1)) (fun z_41 => ix_ck (ix_ok z_41 [10] a0) (ix_lt (ix_di d_36 a0 5 ((d_36.1 a0 5) + 1)) (fun d_44 => ix_lt (ix_di d_44 a0 14 0) (fun d_46 => some ((d_46.1 a0 5) - 1, z_41, d_46))))))))))))) (ix_bd1 (z_22.1 b_26 0) (fun b_48 => ix_ck (ix_ok z_22 [7] b_48) (ix_bd1 (f_X7_shortenTo n z_22 b_48 x2 d_21) (fun d_50 => ix_lt (ix_di d_50 b_26 5 x3) (fun d_53 => ix_bd2 (f_X11_refuse n z_22 a0 ((-1003)) d_53) (fun r_57 d_55 => some (r_57, z_22, d_55)))))))))))))))))
noncomputable def f_X11_admit (n : Nat) (z : ix_Z) (a0 : Nat) (a1 : Nat) (d : ix_D2) : Option (Int32 × ix_Z × ix_D2) :=
  ix_ck (ix_ok z [10] a0) (ix_bd1 (z.1 a0 3) (fun b_2 => ix_ck (ix_ok z [2] b_2) (ix_bd1 (z.1 b_2 0) (fun b_5 => ix_ck (ix_ok z [7] b_5) (ix_lt (d.1 b_5 2) (fun x2_8 => ix_lt (d.1 b_2 5) (fun x3_10 => ix_if (d.1 a0 5 < 60) (f_X11_admit_37 n z  a0 a1 x2_8 x3_10 0 b_2 d) (f_X11_admit_37 n z  a0 a1 x2_8 x3_10 1 b_2 d))))))))
set_option maxRecDepth 20000 in
theorem t_X11_admit_37 {l : Launch} {p : Program} {e : Env} {s : State} {m : MethodId} {args : Array Value} {below : List Frame} {meth : Method} {c : Code} {K : ix_Cx} (hKp : ix_Kp K) {n : Nat} {z : ix_Z} (X : ix_X p s m args c K cX11_admit RX11 4) (hr : meth.sig.returnType = (some .int)) (hlk : meth.locks = false)  {a0 : Nat} {a1 : Nat} {x2 : Int32} {x3 : Int32} {s0 : Int32} {s1 : Nat} {r : Int32} {z1 : ix_Z} {d1 : ix_D2}  {d : ix_D2} (h : f_X11_admit_37 n z  a0 a1 x2 x3 s0 s1 d = some (r, z1, d1)) : ix_G p l e (ix_rm 6 146 1 14) s m args below meth c (MQ below (ix_Post K (some (.int r)) (ix_w z1 d1)) args s 1 14 (ix_A K)) K 4 0 0 37 [(0, .ref (K.2.2.1 + a0)), (1, .ref (K.2.2.1 + a1)), (2, .int x2), (3, .int x3)] [.int s0, .ref (K.2.2.1 + s1)] (ix_w z d) := by
  unfold f_X11_admit_37 at h
  obtain ⟨k_13, h⟩ := ix_ck_some h
  obtain ⟨k_14, h⟩ := ix_ck_some h
  obtain ⟨d_15, e_16, h⟩ := ix_lt_ex h
  refine iz_putZ X fp_RX11_415 k_13 (ix_tb_at tb_X11_admit 18 rfl) k_14 e_16 (pc1 := 40) rfl ?_
  refine ix_aload_n (i := 1) (j := 1) X (ix_tb_at tb_X11_admit 19 rfl) rfl rfl (pc1 := 41) rfl ?_
  refine ix_aload_n (i := 0) (j := 0) X (ix_tb_at tb_X11_admit 20 rfl) rfl rfl (pc1 := 42) rfl ?_
  obtain ⟨k_17, h⟩ := ix_ck_some h
  obtain ⟨b_18, q_19, h⟩ := ix_bd1_ex h
  refine iz_getR X fl_RX11_28 k_17 q_19 (ix_tb_at tb_X11_admit 21 rfl) (pc1 := 45) rfl ?_
  obtain ⟨k_20, h⟩ := ix_ck_some h
  obtain ⟨z_22, d_21, h_23, h⟩ := ix_bd2_ex h
  refine tv_RX11_418 (rest := []) hKp X k_20 h_23 (Nat.le_of_ble_eq_true rfl) (Nat.le_of_ble_eq_true rfl) ⟨Nat.le_of_ble_eq_true rfl, Nat.le_of_ble_eq_true rfl⟩ (Nat.le_of_ble_eq_true rfl) (ix_tb_at tb_X11_admit 22 rfl) (pc1 := 48) rfl ?_
  refine ix_aload_n (i := 0) (j := 0) X (ix_tb_at tb_X11_admit 23 rfl) rfl rfl (pc1 := 49) rfl ?_
  obtain ⟨k_25, h⟩ := ix_ck_some h
  obtain ⟨b_26, q_27, h⟩ := ix_bd1_ex h
  refine iz_getR X fl_RX11_28 k_25 q_27 (ix_tb_at tb_X11_admit 24 rfl) (pc1 := 52) rfl ?_
  obtain ⟨k_28, h⟩ := ix_ck_some h
  refine iz_getI X fl_RX11_415 k_28 (ix_tb_at tb_X11_admit 25 rfl) (pc1 := 55) rfl ?_
  refine ix_if_eq (tgt := 85) X (ix_tb_at tb_X11_admit 26 rfl) (by decide) (pc1 := 58) rfl (fun q_29 => ?_) (fun q_29 => ?_)
  · have h := ix_ift q_29 h
    refine ix_aload_n (i := 1) (j := 1) X (ix_tb_at tb_X11_admit 40 rfl) rfl rfl (pc1 := 86) rfl ?_
    refine ix_iload_n (i := 2) (j := 2) X (ix_tb_at tb_X11_admit 41 rfl) rfl rfl (pc1 := 87) rfl ?_
    obtain ⟨k_30, h⟩ := ix_ck_some h
    obtain ⟨d_31, e_32, h⟩ := ix_lt_ex h
    refine iz_putI X fp_RX11_171 k_30 (ix_tb_at tb_X11_admit 42 rfl) e_32 (pc1 := 90) rfl ?_
    refine ix_aload_n (i := 1) (j := 1) X (ix_tb_at tb_X11_admit 43 rfl) rfl rfl (pc1 := 91) rfl ?_
    refine ix_aload_n (i := 0) (j := 0) X (ix_tb_at tb_X11_admit 44 rfl) rfl rfl (pc1 := 92) rfl ?_
    refine iz_getR X fl_RX11_28 k_25 q_27 (ix_tb_at tb_X11_admit 45 rfl) (pc1 := 95) rfl ?_
    obtain ⟨b_33, q_34, h⟩ := ix_bd1_ex h
    refine iz_getR X fl_RX11_195 k_28 q_34 (ix_tb_at tb_X11_admit 46 rfl) (pc1 := 98) rfl ?_
    obtain ⟨k_35, h⟩ := ix_ck_some h
    refine iz_getI X fl_RX11_224 k_35 (ix_tb_at tb_X11_admit 47 rfl) (pc1 := 101) rfl ?_
    refine ix_iload_n (i := 2) (j := 2) X (ix_tb_at tb_X11_admit 48 rfl) rfl rfl (pc1 := 102) rfl ?_
    refine ix_isub X (ix_tb_at tb_X11_admit 49 rfl) (pc1 := 103) rfl ?_
    obtain ⟨d_36, e_37, h⟩ := ix_lt_ex h
    refine iz_putI X fp_RX11_168 k_30 (ix_tb_at tb_X11_admit 50 rfl) e_37 (pc1 := 106) rfl ?_
    refine ix_aload_n (i := 0) (j := 0) X (ix_tb_at tb_X11_admit 51 rfl) rfl rfl (pc1 := 107) rfl ?_
    obtain ⟨b_38, q_39, h⟩ := ix_bd1_ex h
    refine iz_getR X fl_RX11_34 k_25 q_39 (ix_tb_at tb_X11_admit 52 rfl) (pc1 := 110) rfl ?_
    refine ix_aload_n (i := 0) (j := 0) X (ix_tb_at tb_X11_admit 53 rfl) rfl rfl (pc1 := 111) rfl ?_
    refine iz_getI X fl_RX11_281 k_25 (ix_tb_at tb_X11_admit 54 rfl) (pc1 := 114) rfl ?_
    refine ix_aload_n (i := 1) (j := 1) X (ix_tb_at tb_X11_admit 55 rfl) rfl rfl (pc1 := 115) rfl ?_
    obtain ⟨k_40, h⟩ := ix_ck_some h
    obtain ⟨z_41, e_42, h⟩ := ix_lt_ex h
    refine iz_aast X k_40 k_30 (ix_tb_at tb_X11_admit 56 rfl) e_42 (pc1 := 116) rfl ?_
    refine ix_aload_n (i := 0) (j := 0) X (ix_tb_at tb_X11_admit 57 rfl) rfl rfl (pc1 := 117) rfl ?_
    refine ix_dup X (ix_tb_at tb_X11_admit 58 rfl) rfl (pc1 := 118) rfl ?_
    obtain ⟨k_43, h⟩ := ix_ck_some h
    refine iz_getI X fl_RX11_281 k_43 (ix_tb_at tb_X11_admit 59 rfl) (pc1 := 121) rfl ?_
    refine ix_iconst (v := 1) X (ix_tb_at tb_X11_admit 60 rfl) (by decide) (pc1 := 122) rfl ?_
    refine ix_iadd X (ix_tb_at tb_X11_admit 61 rfl) (pc1 := 123) rfl ?_
    obtain ⟨d_44, e_45, h⟩ := ix_lt_ex h
    refine iz_putI X fp_RX11_281 k_43 (ix_tb_at tb_X11_admit 62 rfl) e_45 (pc1 := 126) rfl ?_
    refine ix_aload_n (i := 0) (j := 0) X (ix_tb_at tb_X11_admit 63 rfl) rfl rfl (pc1 := 127) rfl ?_
    refine ix_iconst (v := 0) X (ix_tb_at tb_X11_admit 64 rfl) (by decide) (pc1 := 128) rfl ?_
    obtain ⟨d_46, e_47, h⟩ := ix_lt_ex h
    refine iz_putZ X fp_RX11_80 k_43 (ix_tb_at tb_X11_admit 65 rfl) (by decide) e_47 (pc1 := 131) rfl ?_
    refine ix_aload_n (i := 0) (j := 0) X (ix_tb_at tb_X11_admit 66 rfl) rfl rfl (pc1 := 132) rfl ?_
    refine iz_getI X fl_RX11_281 k_43 (ix_tb_at tb_X11_admit 67 rfl) (pc1 := 135) rfl ?_
    refine ix_iconst (v := 1) X (ix_tb_at tb_X11_admit 68 rfl) (by decide) (pc1 := 136) rfl ?_
    refine ix_isub X (ix_tb_at tb_X11_admit 69 rfl) (pc1 := 137) rfl ?_
    exact ix_iret X hr hlk (ix_r3 (f := fun r => some (.int r)) (g := ix_w) h) (ix_tb_at tb_X11_admit 70 rfl)
  · have h := ix_iff q_29 h
    refine ix_aload_n (i := 0) (j := 0) X (ix_tb_at tb_X11_admit 27 rfl) rfl rfl (pc1 := 59) rfl ?_
    refine iz_getR X fl_RX11_28 k_25 q_27 (ix_tb_at tb_X11_admit 28 rfl) (pc1 := 62) rfl ?_
    obtain ⟨b_48, q_49, h⟩ := ix_bd1_ex h
    refine iz_getR X fl_RX11_195 k_28 q_49 (ix_tb_at tb_X11_admit 29 rfl) (pc1 := 65) rfl ?_
    refine ix_iload_n (i := 2) (j := 2) X (ix_tb_at tb_X11_admit 30 rfl) rfl rfl (pc1 := 66) rfl ?_
    obtain ⟨k_52, h⟩ := ix_ck_some h
    obtain ⟨d_50, h_51, h⟩ := ix_bd1_ex h
    refine ix_callV (As := [.int x2]) (rest := []) (ci := 7) (T := TX7) (nf := 3) X mf_X7_shortenTo mi_X7_shortenTo ms_X7_shortenTo rfl (Nat.le_of_ble_eq_true rfl) ml_RX11_328 ⟨Nat.le_of_ble_eq_true rfl, Nat.le_of_ble_eq_true rfl⟩ ⟨Nat.le_of_ble_eq_true rfl, Nat.le_of_ble_eq_true rfl⟩ rfl (Nat.le_of_ble_eq_true rfl) (ix_tb_at tb_X11_admit 31 rfl) ⟨k_52.1, List.mem_singleton.mp k_52.2⟩ (c_X7_shortenTo hKp h_51) rfl (pc1 := 69) rfl ?_
    refine ix_aload_n (i := 0) (j := 0) X (ix_tb_at tb_X11_admit 32 rfl) rfl rfl (pc1 := 70) rfl ?_
    refine iz_getR X fl_RX11_28 k_25 q_27 (ix_tb_at tb_X11_admit 33 rfl) (pc1 := 73) rfl ?_
    refine ix_iload_n (i := 3) (j := 3) X (ix_tb_at tb_X11_admit 34 rfl) rfl rfl (pc1 := 74) rfl ?_
    obtain ⟨d_53, e_54, h⟩ := ix_lt_ex h
    refine iz_putI X fp_RX11_77 k_28 (ix_tb_at tb_X11_admit 35 rfl) e_54 (pc1 := 77) rfl ?_
    refine ix_aload_n (i := 0) (j := 0) X (ix_tb_at tb_X11_admit 36 rfl) rfl rfl (pc1 := 78) rfl ?_
    refine ix_sipush (v := (-1003)) X (ix_tb_at tb_X11_admit 37 rfl) (by decide) (pc1 := 81) rfl ?_
    obtain ⟨r_57, d_55, h_56, h⟩ := ix_bd2_ex h
    refine ix_callV (As := [.int ((-1003))]) (rest := []) (ci := 10) (T := TX11) (nf := 18) X mf_X11_refuse mi_X11_refuse ms_X11_refuse rfl (Nat.le_of_ble_eq_true rfl) ml_RX11_73 ⟨Nat.le_of_ble_eq_true rfl, Nat.le_of_ble_eq_true rfl⟩ ⟨Nat.le_of_ble_eq_true rfl, Nat.le_of_ble_eq_true rfl⟩ rfl (Nat.le_of_ble_eq_true rfl) (ix_tb_at tb_X11_admit 38 rfl) ⟨k_25.1, List.mem_singleton.mp k_25.2⟩ (c_X11_refuse hKp h_56) rfl (pc1 := 84) rfl ?_
    exact ix_iret X hr hlk (ix_r3 (f := fun r => some (.int r)) (g := ix_w) h) (ix_tb_at tb_X11_admit 39 rfl)
set_option maxRecDepth 20000 in
theorem c_X11_admit {l : Launch} {K : ix_Cx} (hKp : ix_Kp K) {n : Nat} {z : ix_Z} {a0 : Nat} {a1 : Nat} {d : ix_D2} {r : Int32} {z1 : ix_Z} {d1 : ix_D2} (h : f_X11_admit n z a0 a1 d = some (r, z1, d1)) : ix_M l K yX11_admit cX11_admit 4 (some .int) 6 146 1 14 [.ref (K.2.2.1 + a0), .ref (K.2.2.1 + a1)] (ix_w z d) (some (.int r)) (ix_w z1 d1) := by
  refine ix_met mf_X11_admit hKp (Nat.le_of_ble_eq_true rfl) ?_
  intro p e s m args below meth c hr hlk hnm X
  have X : ix_X p s m args c K cX11_admit RX11 4 := X
  show ix_G p l e (ix_rm 6 146 1 14) s m args below meth c (MQ below (ix_Post K (some (.int r)) (ix_w z1 d1)) args s 1 14 (ix_A K)) K 4 0 0 0 [(0, .ref (K.2.2.1 + a0)), (1, .ref (K.2.2.1 + a1))] [] (ix_w z d)
  unfold f_X11_admit at h
  refine ix_aload_n (i := 0) (j := 0) X (ix_tb_at tb_X11_admit 0 rfl) rfl rfl (pc1 := 1) rfl ?_
  obtain ⟨k_1, h⟩ := ix_ck_some h
  obtain ⟨b_2, q_3, h⟩ := ix_bd1_ex h
  refine iz_getR X fl_RX11_28 k_1 q_3 (ix_tb_at tb_X11_admit 1 rfl) (pc1 := 4) rfl ?_
  obtain ⟨k_4, h⟩ := ix_ck_some h
  obtain ⟨b_5, q_6, h⟩ := ix_bd1_ex h
  refine iz_getR X fl_RX11_195 k_4 q_6 (ix_tb_at tb_X11_admit 2 rfl) (pc1 := 7) rfl ?_
  obtain ⟨k_7, h⟩ := ix_ck_some h
  refine iz_getI X fl_RX11_224 k_7 (ix_tb_at tb_X11_admit 3 rfl) (pc1 := 10) rfl ?_
  obtain ⟨x2_8, e_9, h⟩ := ix_lt_ex h
  refine ix_nmi e_9 ?_
  refine ix_istore_n (i := 2) (L1 := [(2, .int x2_8), (0, .ref (K.2.2.1 + a0)), (1, .ref (K.2.2.1 + a1))]) X (ix_tb_at tb_X11_admit 4 rfl) rfl (Nat.le_of_ble_eq_true rfl) rfl (pc1 := 11) rfl ?_
  refine ix_aload_n (i := 0) (j := 1) X (ix_tb_at tb_X11_admit 5 rfl) rfl rfl (pc1 := 12) rfl ?_
  refine iz_getR X fl_RX11_28 k_1 q_3 (ix_tb_at tb_X11_admit 6 rfl) (pc1 := 15) rfl ?_
  refine iz_getI X fl_RX11_77 k_4 (ix_tb_at tb_X11_admit 7 rfl) (pc1 := 18) rfl ?_
  obtain ⟨x3_10, e_11, h⟩ := ix_lt_ex h
  refine ix_nmi e_11 ?_
  refine ix_istore_n (i := 3) (L1 := [(3, .int x3_10), (2, .int x2_8), (0, .ref (K.2.2.1 + a0)), (1, .ref (K.2.2.1 + a1))]) X (ix_tb_at tb_X11_admit 8 rfl) rfl (Nat.le_of_ble_eq_true rfl) rfl (pc1 := 19) rfl ?_
  refine ix_aload_n (i := 0) (j := 2) X (ix_tb_at tb_X11_admit 9 rfl) rfl rfl (pc1 := 20) rfl ?_
  refine iz_getR X fl_RX11_28 k_1 q_3 (ix_tb_at tb_X11_admit 10 rfl) (pc1 := 23) rfl ?_
  refine ix_aload_n (i := 0) (j := 2) X (ix_tb_at tb_X11_admit 11 rfl) rfl rfl (pc1 := 24) rfl ?_
  refine iz_getI X fl_RX11_281 k_1 (ix_tb_at tb_X11_admit 12 rfl) (pc1 := 27) rfl ?_
  refine ix_bipush (v := 60) X (ix_tb_at tb_X11_admit 13 rfl) (by decide) (pc1 := 29) rfl ?_
  refine ix_icmp_lt (tgt := 36) X (ix_tb_at tb_X11_admit 14 rfl) (by decide) (pc1 := 32) rfl (fun q_12 => ?_) (fun q_12 => ?_)
  · have h := ix_ift q_12 h
    refine ix_iconst (v := 0) X (ix_tb_at tb_X11_admit 17 rfl) (by decide) (pc1 := 37) rfl ?_
    refine ix_sub (L1 := [(0, .ref (K.2.2.1 + a0)), (1, .ref (K.2.2.1 + a1)), (2, .int x2_8), (3, .int x3_10)]) [2, 3, 1, 0] rfl ?_
    exact t_X11_admit_37 hKp X hr hlk  h
  · have h := ix_iff q_12 h
    refine ix_iconst (v := 1) X (ix_tb_at tb_X11_admit 15 rfl) (by decide) (pc1 := 33) rfl ?_
    refine ix_goto (tgt := 37) X (ix_tb_at tb_X11_admit 16 rfl) (by decide) ?_
    refine ix_sub (L1 := [(0, .ref (K.2.2.1 + a0)), (1, .ref (K.2.2.1 + a1)), (2, .int x2_8), (3, .int x3_10)]) [2, 3, 1, 0] rfl ?_
    exact t_X11_admit_37 hKp X hr hlk  h
def tab_X11_clause : List (Nat × Instr × Nat) := [(0, .aload_n 0, 1), (1, .iload_n 1, 1), (2, .invokevirtual 114, 3), (5, .istore_n 2, 1), (6, .iload_n 2, 1), (7, .ifCond .eq 11, 3), (10, .aload_n 0, 1), (11, .iload_n 2, 1), (12, .invokevirtual 73, 3), (15, .goto 19, 3), (18, .aload_n 0, 1), (19, .new 117, 3), (22, .dup, 1), (23, .aload_n 0, 1), (24, .iload_n 1, 1), (25, .invokevirtual 119, 3), (28, .invokespecial 123, 3), (31, .invokevirtual 126, 3), (34, .ireturn, 1)]
theorem tb_X11_clause : ix_tab cX11_clause tab_X11_clause := by
  unfold ix_tab
  decide +kernel
noncomputable def f_X11_clause (n : Nat) (z : ix_Z) (a0 : Nat) (x1 : Int32) (d : ix_D2) : Option (Int32 × ix_Z × ix_D2) :=
  ix_ck (ix_ok z [10] a0) (ix_bd2 (f_X11_lookForItems n z a0 x1 d) (fun r_4 d_1 => ix_if (r_4 = 0) (ix_lt (ix_zn z 3 3) (fun z_6 => ix_lt (ix_dn d_1 z.2.2) (fun d_8 => ix_ck (ix_ok z_6 [10] a0) (ix_bd3 (f_X11_itemsOf n z_6 a0 x1 d_8) (fun r_14 z_13 d_10 => ix_bd1 r_14 (fun b_15 => ix_bd2 (f_X3_init n z_13 z_13.2.2 b_15 d_10) (fun z_19 d_17 => ix_ck (ix_ok z_19 [10] a0) (ix_bd3 (f_X11_admit n z_19 a0 z_19.2.2 d_17) (fun r_25 z_24 d_21 => some (r_25, z_24, d_21)))))))))) (ix_bd2 (f_X11_refuse n z a0 r_4 d_1) (fun r_28 d_26 => some (r_28, z, d_26)))))
set_option maxRecDepth 20000 in
theorem c_X11_clause {l : Launch} {K : ix_Cx} (hKp : ix_Kp K) {n : Nat} {z : ix_Z} {a0 : Nat} {x1 : Int32} {d : ix_D2} {r : Int32} {z1 : ix_Z} {d1 : ix_D2} (h : f_X11_clause n z a0 x1 d = some (r, z1, d1)) : ix_M l K yX11_clause cX11_clause 3 (some .int) 7 169 3 81 [.ref (K.2.2.1 + a0), .int x1] (ix_w z d) (some (.int r)) (ix_w z1 d1) := by
  refine ix_met mf_X11_clause hKp (Nat.le_of_ble_eq_true rfl) ?_
  intro p e s m args below meth c hr hlk hnm X
  have X : ix_X p s m args c K cX11_clause RX11 3 := X
  show ix_G p l e (ix_rm 7 169 3 81) s m args below meth c (MQ below (ix_Post K (some (.int r)) (ix_w z1 d1)) args s 3 81 (ix_A K)) K 3 0 0 0 [(0, .ref (K.2.2.1 + a0)), (1, .int x1)] [] (ix_w z d)
  unfold f_X11_clause at h
  refine ix_aload_n (i := 0) (j := 0) X (ix_tb_at tb_X11_clause 0 rfl) rfl rfl (pc1 := 1) rfl ?_
  refine ix_iload_n (i := 1) (j := 1) X (ix_tb_at tb_X11_clause 1 rfl) rfl rfl (pc1 := 2) rfl ?_
  obtain ⟨k_3, h⟩ := ix_ck_some h
  obtain ⟨r_4, d_1, h_2, h⟩ := ix_bd2_ex h
  refine ix_callV (As := [.int x1]) (rest := []) (ci := 10) (T := TX11) (nf := 18) X mf_X11_lookForItems mi_X11_lookForItems ms_X11_lookForItems rfl (Nat.le_of_ble_eq_true rfl) ml_RX11_114 ⟨Nat.le_of_ble_eq_true rfl, Nat.le_of_ble_eq_true rfl⟩ ⟨Nat.le_of_ble_eq_true rfl, Nat.le_of_ble_eq_true rfl⟩ rfl (Nat.le_of_ble_eq_true rfl) (ix_tb_at tb_X11_clause 2 rfl) ⟨k_3.1, List.mem_singleton.mp k_3.2⟩ (c_X11_lookForItems hKp h_2) rfl (pc1 := 5) rfl ?_
  refine ix_istore_n (i := 2) (L1 := [(2, .int r_4), (0, .ref (K.2.2.1 + a0)), (1, .int x1)]) X (ix_tb_at tb_X11_clause 3 rfl) rfl (Nat.le_of_ble_eq_true rfl) rfl (pc1 := 6) rfl ?_
  refine ix_iload_n (i := 2) (j := 0) X (ix_tb_at tb_X11_clause 4 rfl) rfl rfl (pc1 := 7) rfl ?_
  refine ix_if_eq (tgt := 18) X (ix_tb_at tb_X11_clause 5 rfl) (by decide) (pc1 := 10) rfl (fun q_5 => ?_) (fun q_5 => ?_)
  · have h := ix_ift q_5 h
    refine ix_aload_n (i := 0) (j := 1) X (ix_tb_at tb_X11_clause 10 rfl) rfl rfl (pc1 := 19) rfl ?_
    obtain ⟨z_6, e_7, h⟩ := ix_lt_ex h
    obtain ⟨d_8, e_9, h⟩ := ix_lt_ex h
    refine iz_new (ci := 3) (pl := 482) (pi := 483) (pj := 12) (N := 3) (C := RX3) (T := TX3) X rfl (by decide) (by decide +kernel) (by decide +kernel) (by decide +kernel) (Nat.le_of_ble_eq_true rfl) (Nat.le_of_ble_eq_true rfl) (ix_tb_at tb_X11_clause 11 rfl) e_7 e_9 (pc1 := 22) rfl ?_
    refine ix_dup X (ix_tb_at tb_X11_clause 12 rfl) rfl (pc1 := 23) rfl ?_
    refine ix_aload_n (i := 0) (j := 1) X (ix_tb_at tb_X11_clause 13 rfl) rfl rfl (pc1 := 24) rfl ?_
    refine ix_iload_n (i := 1) (j := 2) X (ix_tb_at tb_X11_clause 14 rfl) rfl rfl (pc1 := 25) rfl ?_
    obtain ⟨k_12, h⟩ := ix_ck_some h
    obtain ⟨r_14, z_13, d_10, h_11, h⟩ := ix_bd3_ex h
    refine ix_callV (As := [.int x1]) (rest := [.ref (K.2.2.1 + z_6.2.2), .ref (K.2.2.1 + z_6.2.2), .ref (K.2.2.1 + a0)]) (ci := 10) (T := TX11) (nf := 18) X mf_X11_itemsOf mi_X11_itemsOf ms_X11_itemsOf rfl (Nat.le_of_ble_eq_true rfl) ml_RX11_119 ⟨Nat.le_of_ble_eq_true rfl, Nat.le_of_ble_eq_true rfl⟩ ⟨Nat.le_of_ble_eq_true rfl, Nat.le_of_ble_eq_true rfl⟩ rfl (Nat.le_of_ble_eq_true rfl) (ix_tb_at tb_X11_clause 15 rfl) ⟨k_12.1, List.mem_singleton.mp k_12.2⟩ (c_X11_itemsOf hKp h_11) rfl (pc1 := 28) rfl ?_
    obtain ⟨b_15, q_16, h⟩ := ix_bd1_ex h
    refine ix_rvs q_16 ?_
    obtain ⟨z_19, d_17, h_18, h⟩ := ix_bd2_ex h
    refine ix_callI (As := [.ref (K.2.2.1 + b_15)]) (rest := [.ref (K.2.2.1 + z_13.2.2), .ref (K.2.2.1 + a0)]) X mf_X3_init mi_X3_init rfl ml_RX11_123 ⟨Nat.le_of_ble_eq_true rfl, Nat.le_of_ble_eq_true rfl⟩ ⟨Nat.le_of_ble_eq_true rfl, Nat.le_of_ble_eq_true rfl⟩ rfl (Nat.le_of_ble_eq_true rfl) (ix_tb_at tb_X11_clause 16 rfl) (c_X3_init hKp h_18) rfl (pc1 := 31) rfl ?_
    obtain ⟨k_23, h⟩ := ix_ck_some h
    obtain ⟨r_25, z_24, d_21, h_22, h⟩ := ix_bd3_ex h
    refine ix_callV (As := [.ref (K.2.2.1 + z_19.2.2)]) (rest := []) (ci := 10) (T := TX11) (nf := 18) X mf_X11_admit mi_X11_admit ms_X11_admit rfl (Nat.le_of_ble_eq_true rfl) ml_RX11_126 ⟨Nat.le_of_ble_eq_true rfl, Nat.le_of_ble_eq_true rfl⟩ ⟨Nat.le_of_ble_eq_true rfl, Nat.le_of_ble_eq_true rfl⟩ rfl (Nat.le_of_ble_eq_true rfl) (ix_tb_at tb_X11_clause 17 rfl) ⟨k_23.1, List.mem_singleton.mp k_23.2⟩ (c_X11_admit hKp h_22) rfl (pc1 := 34) rfl ?_
    exact ix_iret X hr hlk (ix_r3 (f := fun r => some (.int r)) (g := ix_w) h) (ix_tb_at tb_X11_clause 18 rfl)
  · have h := ix_iff q_5 h
    refine ix_aload_n (i := 0) (j := 1) X (ix_tb_at tb_X11_clause 6 rfl) rfl rfl (pc1 := 11) rfl ?_
    refine ix_iload_n (i := 2) (j := 0) X (ix_tb_at tb_X11_clause 7 rfl) rfl rfl (pc1 := 12) rfl ?_
    obtain ⟨r_28, d_26, h_27, h⟩ := ix_bd2_ex h
    refine ix_callV (As := [.int r_4]) (rest := []) (ci := 10) (T := TX11) (nf := 18) X mf_X11_refuse mi_X11_refuse ms_X11_refuse rfl (Nat.le_of_ble_eq_true rfl) ml_RX11_73 ⟨Nat.le_of_ble_eq_true rfl, Nat.le_of_ble_eq_true rfl⟩ ⟨Nat.le_of_ble_eq_true rfl, Nat.le_of_ble_eq_true rfl⟩ rfl (Nat.le_of_ble_eq_true rfl) (ix_tb_at tb_X11_clause 8 rfl) ⟨k_3.1, List.mem_singleton.mp k_3.2⟩ (c_X11_refuse hKp h_27) rfl (pc1 := 15) rfl ?_
    refine ix_goto (tgt := 34) X (ix_tb_at tb_X11_clause 9 rfl) (by decide) ?_
    refine ix_widen (k1 := 3) (n1 := 81) (Nat.le_of_ble_eq_true rfl) (Nat.le_of_ble_eq_true rfl) ?_
    exact ix_iret X hr hlk (ix_r3 (f := fun r => some (.int r)) (g := ix_w) h) (ix_tb_at tb_X11_clause 18 rfl)
def tab_X11_atMost : List (Nat × Instr × Nat) := [(0, .iload_n 2, 1), (1, .ifCond .lt 9, 3), (4, .iload_n 2, 1), (5, .bipush 12, 2), (7, .if_icmp .le 11, 3), (10, .aload_n 0, 1), (11, .sipush (-1001), 3), (14, .invokevirtual 73, 3), (17, .ireturn, 1), (18, .aload_n 0, 1), (19, .iload_n 1, 1), (20, .invokevirtual 114, 3), (23, .istore_n 3, 1), (24, .iload_n 3, 1), (25, .ifCond .eq 11, 3), (28, .aload_n 0, 1), (29, .iload_n 3, 1), (30, .invokevirtual 73, 3), (33, .goto 20, 3), (36, .aload_n 0, 1), (37, .new 130, 3), (40, .dup, 1), (41, .aload_n 0, 1), (42, .iload_n 1, 1), (43, .invokevirtual 119, 3), (46, .iload_n 2, 1), (47, .invokespecial 132, 3), (50, .invokevirtual 126, 3), (53, .ireturn, 1)]
theorem tb_X11_atMost : ix_tab cX11_atMost tab_X11_atMost := by
  unfold ix_tab
  decide +kernel
noncomputable def f_X11_atMost_10 (n : Nat) (z : ix_Z)  (a0 : Nat) (d : ix_D2) : Option (Int32 × ix_Z × ix_D2) :=
  ix_ck (ix_ok z [10] a0) (ix_bd2 (f_X11_refuse n z a0 ((-1001)) d) (fun r_5 d_2 => some (r_5, z, d_2)))
noncomputable def f_X11_atMost (n : Nat) (z : ix_Z) (a0 : Nat) (x1 : Int32) (x2 : Int32) (d : ix_D2) : Option (Int32 × ix_Z × ix_D2) :=
  ix_if (x2 < 0) (f_X11_atMost_10 n z  a0 d) (ix_if (x2 ≤ 12) (ix_ck (ix_ok z [10] a0) (ix_bd2 (f_X11_lookForItems n z a0 x1 d) (fun r_10 d_7 => ix_if (r_10 = 0) (ix_lt (ix_zn z 0 4) (fun z_12 => ix_lt (ix_dn d_7 z.2.2) (fun d_14 => ix_ck (ix_ok z_12 [10] a0) (ix_bd3 (f_X11_itemsOf n z_12 a0 x1 d_14) (fun r_20 z_19 d_16 => ix_bd1 r_20 (fun b_21 => ix_bd2 (f_X0_init n z_19 z_19.2.2 b_21 x2 d_16) (fun z_25 d_23 => ix_ck (ix_ok z_25 [10] a0) (ix_bd3 (f_X11_admit n z_25 a0 z_25.2.2 d_23) (fun r_31 z_30 d_27 => some (r_31, z_30, d_27)))))))))) (ix_bd2 (f_X11_refuse n z a0 r_10 d_7) (fun r_34 d_32 => some (r_34, z, d_32)))))) (f_X11_atMost_10 n z  a0 d))
set_option maxRecDepth 20000 in
theorem t_X11_atMost_10 {l : Launch} {p : Program} {e : Env} {s : State} {m : MethodId} {args : Array Value} {below : List Frame} {meth : Method} {c : Code} {K : ix_Cx} (hKp : ix_Kp K) {n : Nat} {z : ix_Z} (X : ix_X p s m args c K cX11_atMost RX11 4) (hr : meth.sig.returnType = (some .int)) (hlk : meth.locks = false)  {a0 : Nat} {r : Int32} {z1 : ix_Z} {d1 : ix_D2}  {d : ix_D2} (h : f_X11_atMost_10 n z  a0 d = some (r, z1, d1)) : ix_G p l e (ix_rm 7 169 3 82) s m args below meth c (MQ below (ix_Post K (some (.int r)) (ix_w z1 d1)) args s 3 82 (ix_A K)) K 4 0 0 10 [(0, .ref (K.2.2.1 + a0))] [] (ix_w z d) := by
  unfold f_X11_atMost_10 at h
  refine ix_aload_n (i := 0) (j := 0) X (ix_tb_at tb_X11_atMost 5 rfl) rfl rfl (pc1 := 11) rfl ?_
  refine ix_sipush (v := (-1001)) X (ix_tb_at tb_X11_atMost 6 rfl) (by decide) (pc1 := 14) rfl ?_
  obtain ⟨k_4, h⟩ := ix_ck_some h
  obtain ⟨r_5, d_2, h_3, h⟩ := ix_bd2_ex h
  refine ix_callV (As := [.int ((-1001))]) (rest := []) (ci := 10) (T := TX11) (nf := 18) X mf_X11_refuse mi_X11_refuse ms_X11_refuse rfl (Nat.le_of_ble_eq_true rfl) ml_RX11_73 ⟨Nat.le_of_ble_eq_true rfl, Nat.le_of_ble_eq_true rfl⟩ ⟨Nat.le_of_ble_eq_true rfl, Nat.le_of_ble_eq_true rfl⟩ rfl (Nat.le_of_ble_eq_true rfl) (ix_tb_at tb_X11_atMost 7 rfl) ⟨k_4.1, List.mem_singleton.mp k_4.2⟩ (c_X11_refuse hKp h_3) rfl (pc1 := 17) rfl ?_
  refine ix_widen (k1 := 3) (n1 := 82) (Nat.le_of_ble_eq_true rfl) (Nat.le_of_ble_eq_true rfl) ?_
  exact ix_iret X hr hlk (ix_r3 (f := fun r => some (.int r)) (g := ix_w) h) (ix_tb_at tb_X11_atMost 8 rfl)
set_option maxRecDepth 20000 in
theorem c_X11_atMost {l : Launch} {K : ix_Cx} (hKp : ix_Kp K) {n : Nat} {z : ix_Z} {a0 : Nat} {x1 : Int32} {x2 : Int32} {d : ix_D2} {r : Int32} {z1 : ix_Z} {d1 : ix_D2} (h : f_X11_atMost n z a0 x1 x2 d = some (r, z1, d1)) : ix_M l K yX11_atMost cX11_atMost 4 (some .int) 7 169 3 82 [.ref (K.2.2.1 + a0), .int x1, .int x2] (ix_w z d) (some (.int r)) (ix_w z1 d1) := by
  refine ix_met mf_X11_atMost hKp (Nat.le_of_ble_eq_true rfl) ?_
  intro p e s m args below meth c hr hlk hnm X
  have X : ix_X p s m args c K cX11_atMost RX11 4 := X
  show ix_G p l e (ix_rm 7 169 3 82) s m args below meth c (MQ below (ix_Post K (some (.int r)) (ix_w z1 d1)) args s 3 82 (ix_A K)) K 4 0 0 0 [(0, .ref (K.2.2.1 + a0)), (1, .int x1), (2, .int x2)] [] (ix_w z d)
  unfold f_X11_atMost at h
  refine ix_iload_n (i := 2) (j := 2) X (ix_tb_at tb_X11_atMost 0 rfl) rfl rfl (pc1 := 1) rfl ?_
  refine ix_if_lt (tgt := 10) X (ix_tb_at tb_X11_atMost 1 rfl) (by decide) (pc1 := 4) rfl (fun q_1 => ?_) (fun q_1 => ?_)
  · have h := ix_ift q_1 h
    refine ix_sub (L1 := [(0, .ref (K.2.2.1 + a0))]) [0] rfl ?_
    exact t_X11_atMost_10 hKp X hr hlk  h
  · have h := ix_iff q_1 h
    refine ix_iload_n (i := 2) (j := 2) X (ix_tb_at tb_X11_atMost 2 rfl) rfl rfl (pc1 := 5) rfl ?_
    refine ix_bipush (v := 12) X (ix_tb_at tb_X11_atMost 3 rfl) (by decide) (pc1 := 7) rfl ?_
    refine ix_icmp_le (tgt := 18) X (ix_tb_at tb_X11_atMost 4 rfl) (by decide) (pc1 := 10) rfl (fun q_6 => ?_) (fun q_6 => ?_)
    · have h := ix_ift q_6 h
      refine ix_aload_n (i := 0) (j := 0) X (ix_tb_at tb_X11_atMost 9 rfl) rfl rfl (pc1 := 19) rfl ?_
      refine ix_iload_n (i := 1) (j := 1) X (ix_tb_at tb_X11_atMost 10 rfl) rfl rfl (pc1 := 20) rfl ?_
      obtain ⟨k_9, h⟩ := ix_ck_some h
      obtain ⟨r_10, d_7, h_8, h⟩ := ix_bd2_ex h
      refine ix_callV (As := [.int x1]) (rest := []) (ci := 10) (T := TX11) (nf := 18) X mf_X11_lookForItems mi_X11_lookForItems ms_X11_lookForItems rfl (Nat.le_of_ble_eq_true rfl) ml_RX11_114 ⟨Nat.le_of_ble_eq_true rfl, Nat.le_of_ble_eq_true rfl⟩ ⟨Nat.le_of_ble_eq_true rfl, Nat.le_of_ble_eq_true rfl⟩ rfl (Nat.le_of_ble_eq_true rfl) (ix_tb_at tb_X11_atMost 11 rfl) ⟨k_9.1, List.mem_singleton.mp k_9.2⟩ (c_X11_lookForItems hKp h_8) rfl (pc1 := 23) rfl ?_
      refine ix_istore_n (i := 3) (L1 := [(3, .int r_10), (0, .ref (K.2.2.1 + a0)), (1, .int x1), (2, .int x2)]) X (ix_tb_at tb_X11_atMost 12 rfl) rfl (Nat.le_of_ble_eq_true rfl) rfl (pc1 := 24) rfl ?_
      refine ix_iload_n (i := 3) (j := 0) X (ix_tb_at tb_X11_atMost 13 rfl) rfl rfl (pc1 := 25) rfl ?_
      refine ix_if_eq (tgt := 36) X (ix_tb_at tb_X11_atMost 14 rfl) (by decide) (pc1 := 28) rfl (fun q_11 => ?_) (fun q_11 => ?_)
      · have h := ix_ift q_11 h
        refine ix_aload_n (i := 0) (j := 1) X (ix_tb_at tb_X11_atMost 19 rfl) rfl rfl (pc1 := 37) rfl ?_
        obtain ⟨z_12, e_13, h⟩ := ix_lt_ex h
        obtain ⟨d_14, e_15, h⟩ := ix_lt_ex h
        refine iz_new (ci := 0) (pl := 632) (pi := 633) (pj := 15) (N := 4) (C := RX0) (T := TX0) X rfl (by decide) (by decide +kernel) (by decide +kernel) (by decide +kernel) (Nat.le_of_ble_eq_true rfl) (Nat.le_of_ble_eq_true rfl) (ix_tb_at tb_X11_atMost 20 rfl) e_13 e_15 (pc1 := 40) rfl ?_
        refine ix_dup X (ix_tb_at tb_X11_atMost 21 rfl) rfl (pc1 := 41) rfl ?_
        refine ix_aload_n (i := 0) (j := 1) X (ix_tb_at tb_X11_atMost 22 rfl) rfl rfl (pc1 := 42) rfl ?_
        refine ix_iload_n (i := 1) (j := 2) X (ix_tb_at tb_X11_atMost 23 rfl) rfl rfl (pc1 := 43) rfl ?_
        obtain ⟨k_18, h⟩ := ix_ck_some h
        obtain ⟨r_20, z_19, d_16, h_17, h⟩ := ix_bd3_ex h
        refine ix_callV (As := [.int x1]) (rest := [.ref (K.2.2.1 + z_12.2.2), .ref (K.2.2.1 + z_12.2.2), .ref (K.2.2.1 + a0)]) (ci := 10) (T := TX11) (nf := 18) X mf_X11_itemsOf mi_X11_itemsOf ms_X11_itemsOf rfl (Nat.le_of_ble_eq_true rfl) ml_RX11_119 ⟨Nat.le_of_ble_eq_true rfl, Nat.le_of_ble_eq_true rfl⟩ ⟨Nat.le_of_ble_eq_true rfl, Nat.le_of_ble_eq_true rfl⟩ rfl (Nat.le_of_ble_eq_true rfl) (ix_tb_at tb_X11_atMost 24 rfl) ⟨k_18.1, List.mem_singleton.mp k_18.2⟩ (c_X11_itemsOf hKp h_17) rfl (pc1 := 46) rfl ?_
        obtain ⟨b_21, q_22, h⟩ := ix_bd1_ex h
        refine ix_rvs q_22 ?_
        refine ix_iload_n (i := 2) (j := 3) X (ix_tb_at tb_X11_atMost 25 rfl) rfl rfl (pc1 := 47) rfl ?_
        obtain ⟨z_25, d_23, h_24, h⟩ := ix_bd2_ex h
        refine ix_callI (As := [.ref (K.2.2.1 + b_21), .int x2]) (rest := [.ref (K.2.2.1 + z_19.2.2), .ref (K.2.2.1 + a0)]) X mf_X0_init mi_X0_init rfl ml_RX11_132 ⟨Nat.le_of_ble_eq_true rfl, Nat.le_of_ble_eq_true rfl⟩ ⟨Nat.le_of_ble_eq_true rfl, Nat.le_of_ble_eq_true rfl⟩ rfl (Nat.le_of_ble_eq_true rfl) (ix_tb_at tb_X11_atMost 26 rfl) (c_X0_init hKp h_24) rfl (pc1 := 50) rfl ?_
        obtain ⟨k_29, h⟩ := ix_ck_some h
        obtain ⟨r_31, z_30, d_27, h_28, h⟩ := ix_bd3_ex h
        refine ix_callV (As := [.ref (K.2.2.1 + z_25.2.2)]) (rest := []) (ci := 10) (T := TX11) (nf := 18) X mf_X11_admit mi_X11_admit ms_X11_admit rfl (Nat.le_of_ble_eq_true rfl) ml_RX11_126 ⟨Nat.le_of_ble_eq_true rfl, Nat.le_of_ble_eq_true rfl⟩ ⟨Nat.le_of_ble_eq_true rfl, Nat.le_of_ble_eq_true rfl⟩ rfl (Nat.le_of_ble_eq_true rfl) (ix_tb_at tb_X11_atMost 27 rfl) ⟨k_29.1, List.mem_singleton.mp k_29.2⟩ (c_X11_admit hKp h_28) rfl (pc1 := 53) rfl ?_
        exact ix_iret X hr hlk (ix_r3 (f := fun r => some (.int r)) (g := ix_w) h) (ix_tb_at tb_X11_atMost 28 rfl)
      · have h := ix_iff q_11 h
        refine ix_aload_n (i := 0) (j := 1) X (ix_tb_at tb_X11_atMost 15 rfl) rfl rfl (pc1 := 29) rfl ?_
        refine ix_iload_n (i := 3) (j := 0) X (ix_tb_at tb_X11_atMost 16 rfl) rfl rfl (pc1 := 30) rfl ?_
        obtain ⟨r_34, d_32, h_33, h⟩ := ix_bd2_ex h
        refine ix_callV (As := [.int r_10]) (rest := []) (ci := 10) (T := TX11) (nf := 18) X mf_X11_refuse mi_X11_refuse ms_X11_refuse rfl (Nat.le_of_ble_eq_true rfl) ml_RX11_73 ⟨Nat.le_of_ble_eq_true rfl, Nat.le_of_ble_eq_true rfl⟩ ⟨Nat.le_of_ble_eq_true rfl, Nat.le_of_ble_eq_true rfl⟩ rfl (Nat.le_of_ble_eq_true rfl) (ix_tb_at tb_X11_atMost 17 rfl) ⟨k_9.1, List.mem_singleton.mp k_9.2⟩ (c_X11_refuse hKp h_33) rfl (pc1 := 33) rfl ?_
        refine ix_goto (tgt := 53) X (ix_tb_at tb_X11_atMost 18 rfl) (by decide) ?_
        refine ix_widen (k1 := 3) (n1 := 82) (Nat.le_of_ble_eq_true rfl) (Nat.le_of_ble_eq_true rfl) ?_
        exact ix_iret X hr hlk (ix_r3 (f := fun r => some (.int r)) (g := ix_w) h) (ix_tb_at tb_X11_atMost 28 rfl)
    · have h := ix_iff q_6 h
      refine ix_sub (L1 := [(0, .ref (K.2.2.1 + a0))]) [0] rfl ?_
      exact t_X11_atMost_10 hKp X hr hlk  h
def tab_X11_group : List (Nat × Instr × Nat) := [(0, .iload_n 2, 1), (1, .ifCond .lt 9, 3), (4, .iload_n 2, 1), (5, .bipush 12, 2), (7, .if_icmp .le 11, 3), (10, .aload_n 0, 1), (11, .sipush (-1001), 3), (14, .invokevirtual 73, 3), (17, .ireturn, 1), (18, .aload_n 0, 1), (19, .iload_n 1, 1), (20, .invokevirtual 114, 3), (23, .istore_n 3, 1), (24, .iload_n 3, 1), (25, .ifCond .eq 11, 3), (28, .aload_n 0, 1), (29, .iload_n 3, 1), (30, .invokevirtual 73, 3), (33, .goto 20, 3), (36, .aload_n 0, 1), (37, .new 134, 3), (40, .dup, 1), (41, .aload_n 0, 1), (42, .iload_n 1, 1), (43, .invokevirtual 119, 3), (46, .iload_n 2, 1), (47, .invokespecial 136, 3), (50, .invokevirtual 126, 3), (53, .ireturn, 1)]
theorem tb_X11_group : ix_tab cX11_group tab_X11_group := by
  unfold ix_tab
  decide +kernel
noncomputable def f_X11_group_10 (n : Nat) (z : ix_Z)  (a0 : Nat) (d : ix_D2) : Option (Int32 × ix_Z × ix_D2) :=
  ix_ck (ix_ok z [10] a0) (ix_bd2 (f_X11_refuse n z a0 ((-1001)) d) (fun r_5 d_2 => some (r_5, z, d_2)))
noncomputable def f_X11_group (n : Nat) (z : ix_Z) (a0 : Nat) (x1 : Int32) (x2 : Int32) (d : ix_D2) : Option (Int32 × ix_Z × ix_D2) :=
  ix_if (x2 < 0) (f_X11_group_10 n z  a0 d) (ix_if (x2 ≤ 12) (ix_ck (ix_ok z [10] a0) (ix_bd2 (f_X11_lookForItems n z a0 x1 d) (fun r_10 d_7 => ix_if (r_10 = 0) (ix_lt (ix_zn z 5 4) (fun z_12 => ix_lt (ix_dn d_7 z.2.2) (fun d_14 => ix_ck (ix_ok z_12 [10] a0) (ix_bd3 (f_X11_itemsOf n z_12 a0 x1 d_14) (fun r_20 z_19 d_16 => ix_bd1 r_20 (fun b_21 => ix_bd2 (f_X5_init n z_19 z_19.2.2 b_21 x2 d_16) (fun z_25 d_23 => ix_ck (ix_ok z_25 [10] a0) (ix_bd3 (f_X11_admit n z_25 a0 z_25.2.2 d_23) (fun r_31 z_30 d_27 => some (r_31, z_30, d_27)))))))))) (ix_bd2 (f_X11_refuse n z a0 r_10 d_7) (fun r_34 d_32 => some (r_34, z, d_32)))))) (f_X11_group_10 n z  a0 d))
set_option maxRecDepth 20000 in
theorem t_X11_group_10 {l : Launch} {p : Program} {e : Env} {s : State} {m : MethodId} {args : Array Value} {below : List Frame} {meth : Method} {c : Code} {K : ix_Cx} (hKp : ix_Kp K) {n : Nat} {z : ix_Z} (X : ix_X p s m args c K cX11_group RX11 4) (hr : meth.sig.returnType = (some .int)) (hlk : meth.locks = false)  {a0 : Nat} {r : Int32} {z1 : ix_Z} {d1 : ix_D2}  {d : ix_D2} (h : f_X11_group_10 n z  a0 d = some (r, z1, d1)) : ix_G p l e (ix_rm 7 169 3 82) s m args below meth c (MQ below (ix_Post K (some (.int r)) (ix_w z1 d1)) args s 3 82 (ix_A K)) K 4 0 0 10 [(0, .ref (K.2.2.1 + a0))] [] (ix_w z d) := by
  unfold f_X11_group_10 at h
  refine ix_aload_n (i := 0) (j := 0) X (ix_tb_at tb_X11_group 5 rfl) rfl rfl (pc1 := 11) rfl ?_
  refine ix_sipush (v := (-1001)) X (ix_tb_at tb_X11_group 6 rfl) (by decide) (pc1 := 14) rfl ?_
  obtain ⟨k_4, h⟩ := ix_ck_some h
  obtain ⟨r_5, d_2, h_3, h⟩ := ix_bd2_ex h
  refine ix_callV (As := [.int ((-1001))]) (rest := []) (ci := 10) (T := TX11) (nf := 18) X mf_X11_refuse mi_X11_refuse ms_X11_refuse rfl (Nat.le_of_ble_eq_true rfl) ml_RX11_73 ⟨Nat.le_of_ble_eq_true rfl, Nat.le_of_ble_eq_true rfl⟩ ⟨Nat.le_of_ble_eq_true rfl, Nat.le_of_ble_eq_true rfl⟩ rfl (Nat.le_of_ble_eq_true rfl) (ix_tb_at tb_X11_group 7 rfl) ⟨k_4.1, List.mem_singleton.mp k_4.2⟩ (c_X11_refuse hKp h_3) rfl (pc1 := 17) rfl ?_
  refine ix_widen (k1 := 3) (n1 := 82) (Nat.le_of_ble_eq_true rfl) (Nat.le_of_ble_eq_true rfl) ?_
  exact ix_iret X hr hlk (ix_r3 (f := fun r => some (.int r)) (g := ix_w) h) (ix_tb_at tb_X11_group 8 rfl)
set_option maxRecDepth 20000 in
theorem c_X11_group {l : Launch} {K : ix_Cx} (hKp : ix_Kp K) {n : Nat} {z : ix_Z} {a0 : Nat} {x1 : Int32} {x2 : Int32} {d : ix_D2} {r : Int32} {z1 : ix_Z} {d1 : ix_D2} (h : f_X11_group n z a0 x1 x2 d = some (r, z1, d1)) : ix_M l K yX11_group cX11_group 4 (some .int) 7 169 3 82 [.ref (K.2.2.1 + a0), .int x1, .int x2] (ix_w z d) (some (.int r)) (ix_w z1 d1) := by
  refine ix_met mf_X11_group hKp (Nat.le_of_ble_eq_true rfl) ?_
  intro p e s m args below meth c hr hlk hnm X
  have X : ix_X p s m args c K cX11_group RX11 4 := X
  show ix_G p l e (ix_rm 7 169 3 82) s m args below meth c (MQ below (ix_Post K (some (.int r)) (ix_w z1 d1)) args s 3 82 (ix_A K)) K 4 0 0 0 [(0, .ref (K.2.2.1 + a0)), (1, .int x1), (2, .int x2)] [] (ix_w z d)
  unfold f_X11_group at h
  refine ix_iload_n (i := 2) (j := 2) X (ix_tb_at tb_X11_group 0 rfl) rfl rfl (pc1 := 1) rfl ?_
  refine ix_if_lt (tgt := 10) X (ix_tb_at tb_X11_group 1 rfl) (by decide) (pc1 := 4) rfl (fun q_1 => ?_) (fun q_1 => ?_)
  · have h := ix_ift q_1 h
    refine ix_sub (L1 := [(0, .ref (K.2.2.1 + a0))]) [0] rfl ?_
    exact t_X11_group_10 hKp X hr hlk  h
  · have h := ix_iff q_1 h
    refine ix_iload_n (i := 2) (j := 2) X (ix_tb_at tb_X11_group 2 rfl) rfl rfl (pc1 := 5) rfl ?_
    refine ix_bipush (v := 12) X (ix_tb_at tb_X11_group 3 rfl) (by decide) (pc1 := 7) rfl ?_
    refine ix_icmp_le (tgt := 18) X (ix_tb_at tb_X11_group 4 rfl) (by decide) (pc1 := 10) rfl (fun q_6 => ?_) (fun q_6 => ?_)
    · have h := ix_ift q_6 h
      refine ix_aload_n (i := 0) (j := 0) X (ix_tb_at tb_X11_group 9 rfl) rfl rfl (pc1 := 19) rfl ?_
      refine ix_iload_n (i := 1) (j := 1) X (ix_tb_at tb_X11_group 10 rfl) rfl rfl (pc1 := 20) rfl ?_
      obtain ⟨k_9, h⟩ := ix_ck_some h
      obtain ⟨r_10, d_7, h_8, h⟩ := ix_bd2_ex h
      refine ix_callV (As := [.int x1]) (rest := []) (ci := 10) (T := TX11) (nf := 18) X mf_X11_lookForItems mi_X11_lookForItems ms_X11_lookForItems rfl (Nat.le_of_ble_eq_true rfl) ml_RX11_114 ⟨Nat.le_of_ble_eq_true rfl, Nat.le_of_ble_eq_true rfl⟩ ⟨Nat.le_of_ble_eq_true rfl, Nat.le_of_ble_eq_true rfl⟩ rfl (Nat.le_of_ble_eq_true rfl) (ix_tb_at tb_X11_group 11 rfl) ⟨k_9.1, List.mem_singleton.mp k_9.2⟩ (c_X11_lookForItems hKp h_8) rfl (pc1 := 23) rfl ?_
      refine ix_istore_n (i := 3) (L1 := [(3, .int r_10), (0, .ref (K.2.2.1 + a0)), (1, .int x1), (2, .int x2)]) X (ix_tb_at tb_X11_group 12 rfl) rfl (Nat.le_of_ble_eq_true rfl) rfl (pc1 := 24) rfl ?_
      refine ix_iload_n (i := 3) (j := 0) X (ix_tb_at tb_X11_group 13 rfl) rfl rfl (pc1 := 25) rfl ?_
      refine ix_if_eq (tgt := 36) X (ix_tb_at tb_X11_group 14 rfl) (by decide) (pc1 := 28) rfl (fun q_11 => ?_) (fun q_11 => ?_)
      · have h := ix_ift q_11 h
        refine ix_aload_n (i := 0) (j := 1) X (ix_tb_at tb_X11_group 19 rfl) rfl rfl (pc1 := 37) rfl ?_
        obtain ⟨z_12, e_13, h⟩ := ix_lt_ex h
        obtain ⟨d_14, e_15, h⟩ := ix_lt_ex h
        refine iz_new (ci := 5) (pl := 651) (pi := 652) (pj := 16) (N := 4) (C := RX5) (T := TX5) X rfl (by decide) (by decide +kernel) (by decide +kernel) (by decide +kernel) (Nat.le_of_ble_eq_true rfl) (Nat.le_of_ble_eq_true rfl) (ix_tb_at tb_X11_group 20 rfl) e_13 e_15 (pc1 := 40) rfl ?_
        refine ix_dup X (ix_tb_at tb_X11_group 21 rfl) rfl (pc1 := 41) rfl ?_
        refine ix_aload_n (i := 0) (j := 1) X (ix_tb_at tb_X11_group 22 rfl) rfl rfl (pc1 := 42) rfl ?_
        refine ix_iload_n (i := 1) (j := 2) X (ix_tb_at tb_X11_group 23 rfl) rfl rfl (pc1 := 43) rfl ?_
        obtain ⟨k_18, h⟩ := ix_ck_some h
        obtain ⟨r_20, z_19, d_16, h_17, h⟩ := ix_bd3_ex h
        refine ix_callV (As := [.int x1]) (rest := [.ref (K.2.2.1 + z_12.2.2), .ref (K.2.2.1 + z_12.2.2), .ref (K.2.2.1 + a0)]) (ci := 10) (T := TX11) (nf := 18) X mf_X11_itemsOf mi_X11_itemsOf ms_X11_itemsOf rfl (Nat.le_of_ble_eq_true rfl) ml_RX11_119 ⟨Nat.le_of_ble_eq_true rfl, Nat.le_of_ble_eq_true rfl⟩ ⟨Nat.le_of_ble_eq_true rfl, Nat.le_of_ble_eq_true rfl⟩ rfl (Nat.le_of_ble_eq_true rfl) (ix_tb_at tb_X11_group 24 rfl) ⟨k_18.1, List.mem_singleton.mp k_18.2⟩ (c_X11_itemsOf hKp h_17) rfl (pc1 := 46) rfl ?_
        obtain ⟨b_21, q_22, h⟩ := ix_bd1_ex h
        refine ix_rvs q_22 ?_
        refine ix_iload_n (i := 2) (j := 3) X (ix_tb_at tb_X11_group 25 rfl) rfl rfl (pc1 := 47) rfl ?_
        obtain ⟨z_25, d_23, h_24, h⟩ := ix_bd2_ex h
        refine ix_callI (As := [.ref (K.2.2.1 + b_21), .int x2]) (rest := [.ref (K.2.2.1 + z_19.2.2), .ref (K.2.2.1 + a0)]) X mf_X5_init mi_X5_init rfl ml_RX11_136 ⟨Nat.le_of_ble_eq_true rfl, Nat.le_of_ble_eq_true rfl⟩ ⟨Nat.le_of_ble_eq_true rfl, Nat.le_of_ble_eq_true rfl⟩ rfl (Nat.le_of_ble_eq_true rfl) (ix_tb_at tb_X11_group 26 rfl) (c_X5_init hKp h_24) rfl (pc1 := 50) rfl ?_
        obtain ⟨k_29, h⟩ := ix_ck_some h
        obtain ⟨r_31, z_30, d_27, h_28, h⟩ := ix_bd3_ex h
        refine ix_callV (As := [.ref (K.2.2.1 + z_25.2.2)]) (rest := []) (ci := 10) (T := TX11) (nf := 18) X mf_X11_admit mi_X11_admit ms_X11_admit rfl (Nat.le_of_ble_eq_true rfl) ml_RX11_126 ⟨Nat.le_of_ble_eq_true rfl, Nat.le_of_ble_eq_true rfl⟩ ⟨Nat.le_of_ble_eq_true rfl, Nat.le_of_ble_eq_true rfl⟩ rfl (Nat.le_of_ble_eq_true rfl) (ix_tb_at tb_X11_group 27 rfl) ⟨k_29.1, List.mem_singleton.mp k_29.2⟩ (c_X11_admit hKp h_28) rfl (pc1 := 53) rfl ?_
        exact ix_iret X hr hlk (ix_r3 (f := fun r => some (.int r)) (g := ix_w) h) (ix_tb_at tb_X11_group 28 rfl)
      · have h := ix_iff q_11 h
        refine ix_aload_n (i := 0) (j := 1) X (ix_tb_at tb_X11_group 15 rfl) rfl rfl (pc1 := 29) rfl ?_
        refine ix_iload_n (i := 3) (j := 0) X (ix_tb_at tb_X11_group 16 rfl) rfl rfl (pc1 := 30) rfl ?_
        obtain ⟨r_34, d_32, h_33, h⟩ := ix_bd2_ex h
        refine ix_callV (As := [.int r_10]) (rest := []) (ci := 10) (T := TX11) (nf := 18) X mf_X11_refuse mi_X11_refuse ms_X11_refuse rfl (Nat.le_of_ble_eq_true rfl) ml_RX11_73 ⟨Nat.le_of_ble_eq_true rfl, Nat.le_of_ble_eq_true rfl⟩ ⟨Nat.le_of_ble_eq_true rfl, Nat.le_of_ble_eq_true rfl⟩ rfl (Nat.le_of_ble_eq_true rfl) (ix_tb_at tb_X11_group 17 rfl) ⟨k_9.1, List.mem_singleton.mp k_9.2⟩ (c_X11_refuse hKp h_33) rfl (pc1 := 33) rfl ?_
        refine ix_goto (tgt := 53) X (ix_tb_at tb_X11_group 18 rfl) (by decide) ?_
        refine ix_widen (k1 := 3) (n1 := 82) (Nat.le_of_ble_eq_true rfl) (Nat.le_of_ble_eq_true rfl) ?_
        exact ix_iret X hr hlk (ix_r3 (f := fun r => some (.int r)) (g := ix_w) h) (ix_tb_at tb_X11_group 28 rfl)
    · have h := ix_iff q_6 h
      refine ix_sub (L1 := [(0, .ref (K.2.2.1 + a0))]) [0] rfl ?_
      exact t_X11_group_10 hKp X hr hlk  h
def tab_X11_parity : List (Nat × Instr × Nat) := [(0, .aload_n 0, 1), (1, .iload_n 1, 1), (2, .invokevirtual 114, 3), (5, .istore_n 3, 1), (6, .iload_n 3, 1), (7, .ifCond .eq 11, 3), (10, .aload_n 0, 1), (11, .iload_n 3, 1), (12, .invokevirtual 73, 3), (15, .goto 20, 3), (18, .aload_n 0, 1), (19, .new 137, 3), (22, .dup, 1), (23, .aload_n 0, 1), (24, .iload_n 1, 1), (25, .invokevirtual 119, 3), (28, .iload_n 2, 1), (29, .invokespecial 139, 3), (32, .invokevirtual 126, 3), (35, .ireturn, 1)]
theorem tb_X11_parity : ix_tab cX11_parity tab_X11_parity := by
  unfold ix_tab
  decide +kernel
noncomputable def f_X11_parity (n : Nat) (z : ix_Z) (a0 : Nat) (x1 : Int32) (x2 : Int32) (d : ix_D2) : Option (Int32 × ix_Z × ix_D2) :=
  ix_ck (ix_ok z [10] a0) (ix_bd2 (f_X11_lookForItems n z a0 x1 d) (fun r_4 d_1 => ix_if (r_4 = 0) (ix_lt (ix_zn z 6 4) (fun z_6 => ix_lt (ix_dn d_1 z.2.2) (fun d_8 => ix_ck (ix_ok z_6 [10] a0) (ix_bd3 (f_X11_itemsOf n z_6 a0 x1 d_8) (fun r_14 z_13 d_10 => ix_bd1 r_14 (fun b_15 => ix_bd2 (f_X6_init n z_13 z_13.2.2 b_15 x2 d_10) (fun z_19 d_17 => ix_ck (ix_ok z_19 [10] a0) (ix_bd3 (f_X11_admit n z_19 a0 z_19.2.2 d_17) (fun r_25 z_24 d_21 => some (r_25, z_24, d_21)))))))))) (ix_bd2 (f_X11_refuse n z a0 r_4 d_1) (fun r_28 d_26 => some (r_28, z, d_26)))))
set_option maxRecDepth 20000 in
theorem c_X11_parity {l : Launch} {K : ix_Cx} (hKp : ix_Kp K) {n : Nat} {z : ix_Z} {a0 : Nat} {x1 : Int32} {x2 : Int32} {d : ix_D2} {r : Int32} {z1 : ix_Z} {d1 : ix_D2} (h : f_X11_parity n z a0 x1 x2 d = some (r, z1, d1)) : ix_M l K yX11_parity cX11_parity 4 (some .int) 7 169 3 82 [.ref (K.2.2.1 + a0), .int x1, .int x2] (ix_w z d) (some (.int r)) (ix_w z1 d1) := by
  refine ix_met mf_X11_parity hKp (Nat.le_of_ble_eq_true rfl) ?_
  intro p e s m args below meth c hr hlk hnm X
  have X : ix_X p s m args c K cX11_parity RX11 4 := X
  show ix_G p l e (ix_rm 7 169 3 82) s m args below meth c (MQ below (ix_Post K (some (.int r)) (ix_w z1 d1)) args s 3 82 (ix_A K)) K 4 0 0 0 [(0, .ref (K.2.2.1 + a0)), (1, .int x1), (2, .int x2)] [] (ix_w z d)
  unfold f_X11_parity at h
  refine ix_aload_n (i := 0) (j := 0) X (ix_tb_at tb_X11_parity 0 rfl) rfl rfl (pc1 := 1) rfl ?_
  refine ix_iload_n (i := 1) (j := 1) X (ix_tb_at tb_X11_parity 1 rfl) rfl rfl (pc1 := 2) rfl ?_
  obtain ⟨k_3, h⟩ := ix_ck_some h
  obtain ⟨r_4, d_1, h_2, h⟩ := ix_bd2_ex h
  refine ix_callV (As := [.int x1]) (rest := []) (ci := 10) (T := TX11) (nf := 18) X mf_X11_lookForItems mi_X11_lookForItems ms_X11_lookForItems rfl (Nat.le_of_ble_eq_true rfl) ml_RX11_114 ⟨Nat.le_of_ble_eq_true rfl, Nat.le_of_ble_eq_true rfl⟩ ⟨Nat.le_of_ble_eq_true rfl, Nat.le_of_ble_eq_true rfl⟩ rfl (Nat.le_of_ble_eq_true rfl) (ix_tb_at tb_X11_parity 2 rfl) ⟨k_3.1, List.mem_singleton.mp k_3.2⟩ (c_X11_lookForItems hKp h_2) rfl (pc1 := 5) rfl ?_
  refine ix_istore_n (i := 3) (L1 := [(3, .int r_4), (0, .ref (K.2.2.1 + a0)), (1, .int x1), (2, .int x2)]) X (ix_tb_at tb_X11_parity 3 rfl) rfl (Nat.le_of_ble_eq_true rfl) rfl (pc1 := 6) rfl ?_
  refine ix_iload_n (i := 3) (j := 0) X (ix_tb_at tb_X11_parity 4 rfl) rfl rfl (pc1 := 7) rfl ?_
  refine ix_if_eq (tgt := 18) X (ix_tb_at tb_X11_parity 5 rfl) (by decide) (pc1 := 10) rfl (fun q_5 => ?_) (fun q_5 => ?_)
  · have h := ix_ift q_5 h
    refine ix_aload_n (i := 0) (j := 1) X (ix_tb_at tb_X11_parity 10 rfl) rfl rfl (pc1 := 19) rfl ?_
    obtain ⟨z_6, e_7, h⟩ := ix_lt_ex h
    obtain ⟨d_8, e_9, h⟩ := ix_lt_ex h
    refine iz_new (ci := 6) (pl := 666) (pi := 667) (pj := 13) (N := 4) (C := RX6) (T := TX6) X rfl (by decide) (by decide +kernel) (by decide +kernel) (by decide +kernel) (Nat.le_of_ble_eq_true rfl) (Nat.le_of_ble_eq_true rfl) (ix_tb_at tb_X11_parity 11 rfl) e_7 e_9 (pc1 := 22) rfl ?_
    refine ix_dup X (ix_tb_at tb_X11_parity 12 rfl) rfl (pc1 := 23) rfl ?_
    refine ix_aload_n (i := 0) (j := 1) X (ix_tb_at tb_X11_parity 13 rfl) rfl rfl (pc1 := 24) rfl ?_
    refine ix_iload_n (i := 1) (j := 2) X (ix_tb_at tb_X11_parity 14 rfl) rfl rfl (pc1 := 25) rfl ?_
    obtain ⟨k_12, h⟩ := ix_ck_some h
    obtain ⟨r_14, z_13, d_10, h_11, h⟩ := ix_bd3_ex h
    refine ix_callV (As := [.int x1]) (rest := [.ref (K.2.2.1 + z_6.2.2), .ref (K.2.2.1 + z_6.2.2), .ref (K.2.2.1 + a0)]) (ci := 10) (T := TX11) (nf := 18) X mf_X11_itemsOf mi_X11_itemsOf ms_X11_itemsOf rfl (Nat.le_of_ble_eq_true rfl) ml_RX11_119 ⟨Nat.le_of_ble_eq_true rfl, Nat.le_of_ble_eq_true rfl⟩ ⟨Nat.le_of_ble_eq_true rfl, Nat.le_of_ble_eq_true rfl⟩ rfl (Nat.le_of_ble_eq_true rfl) (ix_tb_at tb_X11_parity 15 rfl) ⟨k_12.1, List.mem_singleton.mp k_12.2⟩ (c_X11_itemsOf hKp h_11) rfl (pc1 := 28) rfl ?_
    obtain ⟨b_15, q_16, h⟩ := ix_bd1_ex h
    refine ix_rvs q_16 ?_
    refine ix_iload_n (i := 2) (j := 3) X (ix_tb_at tb_X11_parity 16 rfl) rfl rfl (pc1 := 29) rfl ?_
    obtain ⟨z_19, d_17, h_18, h⟩ := ix_bd2_ex h
    refine ix_callI (As := [.ref (K.2.2.1 + b_15), .int x2]) (rest := [.ref (K.2.2.1 + z_13.2.2), .ref (K.2.2.1 + a0)]) X mf_X6_init mi_X6_init rfl ml_RX11_139 ⟨Nat.le_of_ble_eq_true rfl, Nat.le_of_ble_eq_true rfl⟩ ⟨Nat.le_of_ble_eq_true rfl, Nat.le_of_ble_eq_true rfl⟩ rfl (Nat.le_of_ble_eq_true rfl) (ix_tb_at tb_X11_parity 17 rfl) (c_X6_init hKp h_18) rfl (pc1 := 32) rfl ?_
    obtain ⟨k_23, h⟩ := ix_ck_some h
    obtain ⟨r_25, z_24, d_21, h_22, h⟩ := ix_bd3_ex h
    refine ix_callV (As := [.ref (K.2.2.1 + z_19.2.2)]) (rest := []) (ci := 10) (T := TX11) (nf := 18) X mf_X11_admit mi_X11_admit ms_X11_admit rfl (Nat.le_of_ble_eq_true rfl) ml_RX11_126 ⟨Nat.le_of_ble_eq_true rfl, Nat.le_of_ble_eq_true rfl⟩ ⟨Nat.le_of_ble_eq_true rfl, Nat.le_of_ble_eq_true rfl⟩ rfl (Nat.le_of_ble_eq_true rfl) (ix_tb_at tb_X11_parity 18 rfl) ⟨k_23.1, List.mem_singleton.mp k_23.2⟩ (c_X11_admit hKp h_22) rfl (pc1 := 35) rfl ?_
    exact ix_iret X hr hlk (ix_r3 (f := fun r => some (.int r)) (g := ix_w) h) (ix_tb_at tb_X11_parity 19 rfl)
  · have h := ix_iff q_5 h
    refine ix_aload_n (i := 0) (j := 1) X (ix_tb_at tb_X11_parity 6 rfl) rfl rfl (pc1 := 11) rfl ?_
    refine ix_iload_n (i := 3) (j := 0) X (ix_tb_at tb_X11_parity 7 rfl) rfl rfl (pc1 := 12) rfl ?_
    obtain ⟨r_28, d_26, h_27, h⟩ := ix_bd2_ex h
    refine ix_callV (As := [.int r_4]) (rest := []) (ci := 10) (T := TX11) (nf := 18) X mf_X11_refuse mi_X11_refuse ms_X11_refuse rfl (Nat.le_of_ble_eq_true rfl) ml_RX11_73 ⟨Nat.le_of_ble_eq_true rfl, Nat.le_of_ble_eq_true rfl⟩ ⟨Nat.le_of_ble_eq_true rfl, Nat.le_of_ble_eq_true rfl⟩ rfl (Nat.le_of_ble_eq_true rfl) (ix_tb_at tb_X11_parity 8 rfl) ⟨k_3.1, List.mem_singleton.mp k_3.2⟩ (c_X11_refuse hKp h_27) rfl (pc1 := 15) rfl ?_
    refine ix_goto (tgt := 35) X (ix_tb_at tb_X11_parity 9 rfl) (by decide) ?_
    refine ix_widen (k1 := 3) (n1 := 82) (Nat.le_of_ble_eq_true rfl) (Nat.le_of_ble_eq_true rfl) ?_
    exact ix_iret X hr hlk (ix_r3 (f := fun r => some (.int r)) (g := ix_w) h) (ix_tb_at tb_X11_parity 19 rfl)
def tab_X11_told : List (Nat × Instr × Nat) := [(0, .aload_n 0, 1), (1, .getfield 21, 3), (4, .invokevirtual 142, 3), (7, .istore_n 1, 1), (8, .aload_n 0, 1), (9, .getfield 21, 3), (12, .invokevirtual 110, 3), (15, .istore_n 2, 1), (16, .iload_n 1, 1), (17, .ifCond .lt 13, 3), (20, .aload_n 0, 1), (21, .sipush (-2000), 3), (24, .iload_n 1, 1), (25, .isub, 1), (26, .invokevirtual 73, 3), (29, .ireturn, 1), (30, .aload_n 0, 1), (31, .getfield 21, 3), (34, .aload_n 0, 1), (35, .getfield 28, 3), (38, .invokevirtual 145, 3), (41, .istore_n 3, 1), (42, .iload_n 3, 1), (43, .ifCond .eq 11, 3), (46, .aload_n 0, 1), (47, .iload_n 3, 1), (48, .invokevirtual 73, 3), (51, .goto 19, 3), (54, .aload_n 0, 1), (55, .new 149, 3), (58, .dup, 1), (59, .aload_n 0, 1), (60, .getfield 21, 3), (63, .iload_n 2, 1), (64, .invokespecial 151, 3), (67, .invokevirtual 126, 3), (70, .ireturn, 1)]
theorem tb_X11_told : ix_tab cX11_told tab_X11_told := by
  unfold ix_tab
  decide +kernel
noncomputable def f_X11_told (n : Nat) (z : ix_Z) (a0 : Nat) (d : ix_D2) : Option (Int32 × ix_Z × ix_D2) :=
  ix_ck (ix_ok z [10] a0) (ix_bd1 (z.1 a0 2) (fun b_2 => ix_ck (ix_ok z [4] b_2) (ix_bd2 (f_X4_readTape n z b_2 d) (fun r_7 d_4 => ix_bd2 (f_X4_emptyTape n z b_2 d_4) (fun r_10 d_8 => ix_if (r_7 < 0) (ix_bd1 (z.1 a0 3) (fun b_12 => ix_bd2 (f_X4_lookForNames n z b_2 b_12 d_8) (fun r_16 d_14 => ix_if (r_16 = 0) (ix_lt (ix_zn z 9 6) (fun z_18 => ix_lt (ix_dn d_14 z.2.2) (fun d_20 => ix_ck (ix_ok z_18 [10] a0) (ix_bd1 (z_18.1 a0 2) (fun b_23 => ix_bd2 (f_X10_init n z_18 z_18.2.2 b_23 r_10 d_20) (fun z_27 d_25 => ix_ck (ix_ok z_27 [10] a0) (ix_bd3 (f_X11_admit n z_27 a0 z_27.2.2 d_25) (fun r_33 z_32 d_29 => some (r_33, z_32, d_29))))))))) (ix_bd2 (f_X11_refuse n z a0 r_16 d_14) (fun r_36 d_34 => some (r_36, z, d_34)))))) (ix_bd2 (f_X11_refuse n z a0 (((-2000)) - r_7) d_8) (fun r_39 d_37 => some (r_39, z, d_37))))))))
set_option maxRecDepth 20000 in
theorem c_X11_told {l : Launch} {K : ix_Cx} (hKp : ix_Kp K) (hT : ix_Tc K) {n : Nat} {z : ix_Z} {a0 : Nat} {d : ix_D2} {r : Int32} {z1 : ix_Z} {d1 : ix_D2} (h : f_X11_told n z a0 d = some (r, z1, d1)) : ix_M l K yX11_told cX11_told 4 (some .int) 7 169 6 276 [.ref (K.2.2.1 + a0)] (ix_w z d) (some (.int r)) (ix_w z1 d1) := by
  refine ix_met mf_X11_told hKp (Nat.le_of_ble_eq_true rfl) ?_
  intro p e s m args below meth c hr hlk hnm X
  have X : ix_X p s m args c K cX11_told RX11 4 := X
  show ix_G p l e (ix_rm 7 169 6 276) s m args below meth c (MQ below (ix_Post K (some (.int r)) (ix_w z1 d1)) args s 6 276 (ix_A K)) K 4 0 0 0 [(0, .ref (K.2.2.1 + a0))] [] (ix_w z d)
  unfold f_X11_told at h
  refine ix_aload_n (i := 0) (j := 0) X (ix_tb_at tb_X11_told 0 rfl) rfl rfl (pc1 := 1) rfl ?_
  obtain ⟨k_1, h⟩ := ix_ck_some h
  obtain ⟨b_2, q_3, h⟩ := ix_bd1_ex h
  refine iz_getR X fl_RX11_21 k_1 q_3 (ix_tb_at tb_X11_told 1 rfl) (pc1 := 4) rfl ?_
  obtain ⟨k_6, h⟩ := ix_ck_some h
  obtain ⟨r_7, d_4, h_5, h⟩ := ix_bd2_ex h
  refine ix_callV (As := []) (rest := []) (ci := 4) (T := TX4) (nf := 17) X mf_X4_readTape mi_X4_readTape ms_X4_readTape rfl (Nat.le_of_ble_eq_true rfl) ml_RX11_142 ⟨Nat.le_of_ble_eq_true rfl, Nat.le_of_ble_eq_true rfl⟩ ⟨Nat.le_of_ble_eq_true rfl, Nat.le_of_ble_eq_true rfl⟩ rfl (Nat.le_of_ble_eq_true rfl) (ix_tb_at tb_X11_told 2 rfl) ⟨k_6.1, List.mem_singleton.mp k_6.2⟩ (c_X4_readTape hKp hT h_5) rfl (pc1 := 7) rfl ?_
  refine ix_istore_n (i := 1) (L1 := [(1, .int r_7), (0, .ref (K.2.2.1 + a0))]) X (ix_tb_at tb_X11_told 3 rfl) rfl (Nat.le_of_ble_eq_true rfl) rfl (pc1 := 8) rfl ?_
  refine ix_aload_n (i := 0) (j := 1) X (ix_tb_at tb_X11_told 4 rfl) rfl rfl (pc1 := 9) rfl ?_
  refine iz_getR X fl_RX11_21 k_1 q_3 (ix_tb_at tb_X11_told 5 rfl) (pc1 := 12) rfl ?_
  obtain ⟨r_10, d_8, h_9, h⟩ := ix_bd2_ex h
  refine ix_callV (As := []) (rest := []) (ci := 4) (T := TX4) (nf := 17) X mf_X4_emptyTape mi_X4_emptyTape ms_X4_emptyTape rfl (Nat.le_of_ble_eq_true rfl) ml_RX11_110 ⟨Nat.le_of_ble_eq_true rfl, Nat.le_of_ble_eq_true rfl⟩ ⟨Nat.le_of_ble_eq_true rfl, Nat.le_of_ble_eq_true rfl⟩ rfl (Nat.le_of_ble_eq_true rfl) (ix_tb_at tb_X11_told 6 rfl) ⟨k_6.1, List.mem_singleton.mp k_6.2⟩ (c_X4_emptyTape hKp h_9) rfl (pc1 := 15) rfl ?_
  refine ix_istore_n (i := 2) (L1 := [(2, .int r_10), (1, .int r_7), (0, .ref (K.2.2.1 + a0))]) X (ix_tb_at tb_X11_told 7 rfl) rfl (Nat.le_of_ble_eq_true rfl) rfl (pc1 := 16) rfl ?_
  refine ix_iload_n (i := 1) (j := 1) X (ix_tb_at tb_X11_told 8 rfl) rfl rfl (pc1 := 17) rfl ?_
  refine ix_if_lt (tgt := 30) X (ix_tb_at tb_X11_told 9 rfl) (by decide) (pc1 := 20) rfl (fun q_11 => ?_) (fun q_11 => ?_)
  · have h := ix_ift q_11 h
    refine ix_aload_n (i := 0) (j := 2) X (ix_tb_at tb_X11_told 16 rfl) rfl rfl (pc1 := 31) rfl ?_
    refine iz_getR X fl_RX11_21 k_1 q_3 (ix_tb_at tb_X11_told 17 rfl) (pc1 := 34) rfl ?_
    refine ix_aload_n (i := 0) (j := 2) X (ix_tb_at tb_X11_told 18 rfl) rfl rfl (pc1 := 35) rfl ?_
    obtain ⟨b_12, q_13, h⟩ := ix_bd1_ex h
    refine iz_getR X fl_RX11_28 k_1 q_13 (ix_tb_at tb_X11_told 19 rfl) (pc1 := 38) rfl ?_
    obtain ⟨r_16, d_14, h_15, h⟩ := ix_bd2_ex h
    refine ix_callV (As := [.ref (K.2.2.1 + b_12)]) (rest := []) (ci := 4) (T := TX4) (nf := 17) X mf_X4_lookForNames mi_X4_lookForNames ms_X4_lookForNames rfl (Nat.le_of_ble_eq_true rfl) ml_RX11_145 ⟨Nat.le_of_ble_eq_true rfl, Nat.le_of_ble_eq_true rfl⟩ ⟨Nat.le_of_ble_eq_true rfl, Nat.le_of_ble_eq_true rfl⟩ rfl (Nat.le_of_ble_eq_true rfl) (ix_tb_at tb_X11_told 20 rfl) ⟨k_6.1, List.mem_singleton.mp k_6.2⟩ (c_X4_lookForNames hKp h_15) rfl (pc1 := 41) rfl ?_
    refine ix_istore_n (i := 3) (L1 := [(3, .int r_16), (2, .int r_10), (1, .int r_7), (0, .ref (K.2.2.1 + a0))]) X (ix_tb_at tb_X11_told 21 rfl) rfl (Nat.le_of_ble_eq_true rfl) rfl (pc1 := 42) rfl ?_
    refine ix_iload_n (i := 3) (j := 0) X (ix_tb_at tb_X11_told 22 rfl) rfl rfl (pc1 := 43) rfl ?_
    refine ix_if_eq (tgt := 54) X (ix_tb_at tb_X11_told 23 rfl) (by decide) (pc1 := 46) rfl (fun q_17 => ?_) (fun q_17 => ?_)
    · have h := ix_ift q_17 h
      refine ix_aload_n (i := 0) (j := 3) X (ix_tb_at tb_X11_told 28 rfl) rfl rfl (pc1 := 55) rfl ?_
      obtain ⟨z_18, e_19, h⟩ := ix_lt_ex h
      obtain ⟨d_20, e_21, h⟩ := ix_lt_ex h
      refine iz_new (ci := 9) (pl := 806) (pi := 604) (pj := 14) (N := 6) (C := RX10) (T := TX10) X rfl (by decide) (by decide +kernel) (by decide +kernel) (by decide +kernel) (Nat.le_of_ble_eq_true rfl) (Nat.le_of_ble_eq_true rfl) (ix_tb_at tb_X11_told 29 rfl) e_19 e_21 (pc1 := 58) rfl ?_
      refine ix_dup X (ix_tb_at tb_X11_told 30 rfl) rfl (pc1 := 59) rfl ?_
      refine ix_aload_n (i := 0) (j := 3) X (ix_tb_at tb_X11_told 31 rfl) rfl rfl (pc1 := 60) rfl ?_
      obtain ⟨k_22, h⟩ := ix_ck_some h
      obtain ⟨b_23, q_24, h⟩ := ix_bd1_ex h
      refine iz_getR X fl_RX11_21 k_22 q_24 (ix_tb_at tb_X11_told 32 rfl) (pc1 := 63) rfl ?_
      refine ix_iload_n (i := 2) (j := 1) X (ix_tb_at tb_X11_told 33 rfl) rfl rfl (pc1 := 64) rfl ?_
      obtain ⟨z_27, d_25, h_26, h⟩ := ix_bd2_ex h
      refine ix_callI (As := [.ref (K.2.2.1 + b_23), .int r_10]) (rest := [.ref (K.2.2.1 + z_18.2.2), .ref (K.2.2.1 + a0)]) X mf_X10_init mi_X10_init rfl ml_RX11_151 ⟨Nat.le_of_ble_eq_true rfl, Nat.le_of_ble_eq_true rfl⟩ ⟨Nat.le_of_ble_eq_true rfl, Nat.le_of_ble_eq_true rfl⟩ rfl (Nat.le_of_ble_eq_true rfl) (ix_tb_at tb_X11_told 34 rfl) (c_X10_init hKp h_26) rfl (pc1 := 67) rfl ?_
      obtain ⟨k_31, h⟩ := ix_ck_some h
      obtain ⟨r_33, z_32, d_29, h_30, h⟩ := ix_bd3_ex h
      refine ix_callV (As := [.ref (K.2.2.1 + z_27.2.2)]) (rest := []) (ci := 10) (T := TX11) (nf := 18) X mf_X11_admit mi_X11_admit ms_X11_admit rfl (Nat.le_of_ble_eq_true rfl) ml_RX11_126 ⟨Nat.le_of_ble_eq_true rfl, Nat.le_of_ble_eq_true rfl⟩ ⟨Nat.le_of_ble_eq_true rfl, Nat.le_of_ble_eq_true rfl⟩ rfl (Nat.le_of_ble_eq_true rfl) (ix_tb_at tb_X11_told 35 rfl) ⟨k_31.1, List.mem_singleton.mp k_31.2⟩ (c_X11_admit hKp h_30) rfl (pc1 := 70) rfl ?_
      exact ix_iret X hr hlk (ix_r3 (f := fun r => some (.int r)) (g := ix_w) h) (ix_tb_at tb_X11_told 36 rfl)
    · have h := ix_iff q_17 h
      refine ix_aload_n (i := 0) (j := 3) X (ix_tb_at tb_X11_told 24 rfl) rfl rfl (pc1 := 47) rfl ?_
      refine ix_iload_n (i := 3) (j := 0) X (ix_tb_at tb_X11_told 25 rfl) rfl rfl (pc1 := 48) rfl ?_
      obtain ⟨r_36, d_34, h_35, h⟩ := ix_bd2_ex h
      refine ix_callV (As := [.int r_16]) (rest := []) (ci := 10) (T := TX11) (nf := 18) X mf_X11_refuse mi_X11_refuse ms_X11_refuse rfl (Nat.le_of_ble_eq_true rfl) ml_RX11_73 ⟨Nat.le_of_ble_eq_true rfl, Nat.le_of_ble_eq_true rfl⟩ ⟨Nat.le_of_ble_eq_true rfl, Nat.le_of_ble_eq_true rfl⟩ rfl (Nat.le_of_ble_eq_true rfl) (ix_tb_at tb_X11_told 26 rfl) ⟨k_1.1, List.mem_singleton.mp k_1.2⟩ (c_X11_refuse hKp h_35) rfl (pc1 := 51) rfl ?_
      refine ix_goto (tgt := 70) X (ix_tb_at tb_X11_told 27 rfl) (by decide) ?_
      refine ix_widen (k1 := 6) (n1 := 276) (Nat.le_of_ble_eq_true rfl) (Nat.le_of_ble_eq_true rfl) ?_
      exact ix_iret X hr hlk (ix_r3 (f := fun r => some (.int r)) (g := ix_w) h) (ix_tb_at tb_X11_told 36 rfl)
  · have h := ix_iff q_11 h
    refine ix_aload_n (i := 0) (j := 2) X (ix_tb_at tb_X11_told 10 rfl) rfl rfl (pc1 := 21) rfl ?_
    refine ix_sipush (v := (-2000)) X (ix_tb_at tb_X11_told 11 rfl) (by decide) (pc1 := 24) rfl ?_
    refine ix_iload_n (i := 1) (j := 1) X (ix_tb_at tb_X11_told 12 rfl) rfl rfl (pc1 := 25) rfl ?_
    refine ix_isub X (ix_tb_at tb_X11_told 13 rfl) (pc1 := 26) rfl ?_
    obtain ⟨r_39, d_37, h_38, h⟩ := ix_bd2_ex h
    refine ix_callV (As := [.int (((-2000)) - r_7)]) (rest := []) (ci := 10) (T := TX11) (nf := 18) X mf_X11_refuse mi_X11_refuse ms_X11_refuse rfl (Nat.le_of_ble_eq_true rfl) ml_RX11_73 ⟨Nat.le_of_ble_eq_true rfl, Nat.le_of_ble_eq_true rfl⟩ ⟨Nat.le_of_ble_eq_true rfl, Nat.le_of_ble_eq_true rfl⟩ rfl (Nat.le_of_ble_eq_true rfl) (ix_tb_at tb_X11_told 14 rfl) ⟨k_1.1, List.mem_singleton.mp k_1.2⟩ (c_X11_refuse hKp h_38) rfl (pc1 := 29) rfl ?_
    refine ix_widen (k1 := 6) (n1 := 276) (Nat.le_of_ble_eq_true rfl) (Nat.le_of_ble_eq_true rfl) ?_
    exact ix_iret X hr hlk (ix_r3 (f := fun r => some (.int r)) (g := ix_w) h) (ix_tb_at tb_X11_told 15 rfl)
def tab_X12_init : List (Nat × Instr × Nat) := [(0, .aload_n 0, 1), (1, .invokespecial 1, 3), (4, .aload_n 0, 1), (5, .sipush 301, 3), (8, .newarray .int, 2), (10, .putfield 7, 3), (13, .aload_n 0, 1), (14, .sipush 301, 3), (17, .newarray .boolean, 2), (19, .putfield 13, 3), (22, .aload_n 0, 1), (23, .bipush 40, 2), (25, .newarray .int, 2), (27, .putfield 17, 3), (30, .aload_n 0, 1), (31, .sipush 480, 3), (34, .newarray .int, 2), (36, .putfield 20, 3), (39, .aload_n 0, 1), (40, .bipush 60, 2), (42, .newarray .int, 2), (44, .putfield 23, 3), (47, .aload_n 0, 1), (48, .sipush 16384, 3), (51, .newarray .int, 2), (53, .putfield 26, 3), (56, .aload_n 0, 1), (57, .bipush 60, 2), (59, .newarray .int, 2), (61, .putfield 29, 3), (64, .aload_n 0, 1), (65, .bipush 60, 2), (67, .newarray .int, 2), (69, .putfield 32, 3), (72, .aload_n 0, 1), (73, .bipush 60, 2), (75, .newarray .boolean, 2), (77, .putfield 35, 3), (80, .aload_n 0, 1), (81, .bipush 60, 2), (83, .newarray .int, 2), (85, .putfield 38, 3), (88, .aload_n 0, 1), (89, .sipush 1800, 3), (92, .newarray .int, 2), (94, .putfield 41, 3), (97, .aload_n 0, 1), (98, .bipush 60, 2), (100, .newarray .int, 2), (102, .putfield 44, 3), (105, .aload_n 0, 1), (106, .bipush 60, 2), (108, .newarray .int, 2), (110, .putfield 47, 3), (113, .aload_n 0, 1), (114, .sipush 3600, 3), (117, .newarray .int, 2), (119, .putfield 50, 3), (122, .aload_n 0, 1), (123, .bipush 60, 2), (125, .newarray .int, 2), (127, .putfield 53, 3), (130, .aload_n 0, 1), (131, .sipush 3600, 3), (134, .newarray .int, 2), (136, .putfield 56, 3), (139, .aload_n 0, 1), (140, .bipush 60, 2), (142, .newarray .int, 2), (144, .putfield 59, 3), (147, .aload_n 0, 1), (148, .sipush 501, 3), (151, .newarray .int, 2), (153, .putfield 62, 3), (156, .aload_n 0, 1), (157, .sipush 2600, 3), (160, .newarray .int, 2), (162, .putfield 65, 3), (165, .aload_n 0, 1), (166, .bipush 100, 2), (168, .newarray .int, 2), (170, .putfield 68, 3), (173, .aload_n 0, 1), (174, .bipush 20, 2), (176, .newarray .int, 2), (178, .putfield 71, 3), (181, .aload_n 0, 1), (182, .sipush 130, 3), (185, .newarray .int, 2), (187, .putfield 74, 3), (190, .aload_n 0, 1), (191, .sipush 2600, 3), (194, .newarray .int, 2), (196, .putfield 77, 3), (199, .aload_n 0, 1), (200, .bipush 12, 2), (202, .newarray .int, 2), (204, .putfield 80, 3), (207, .aload_n 0, 1), (208, .bipush 40, 2), (210, .newarray .int, 2), (212, .putfield 83, 3), (215, .aload_n 0, 1), (216, .bipush 40, 2), (218, .newarray .int, 2), (220, .putfield 86, 3), (223, .aload_n 0, 1), (224, .bipush 14, 2), (226, .newarray .int, 2), (228, .putfield 89, 3), (231, .aload_n 0, 1), (232, .bipush 14, 2), (234, .newarray .int, 2), (236, .putfield 92, 3), (239, .aload_n 0, 1), (240, .bipush 60, 2), (242, .newarray .int, 2), (244, .putfield 95, 3), (247, .aload_n 0, 1), (248, .bipush 60, 2), (250, .newarray .int, 2), (252, .putfield 98, 3), (255, .aload_n 0, 1), (256, .bipush 60, 2), (258, .newarray .int, 2), (260, .putfield 101, 3), (263, .aload_n 0, 1), (264, .bipush 60, 2), (266, .newarray .int, 2), (268, .putfield 104, 3), (271, .aload_n 0, 1), (272, .bipush 60, 2), (274, .newarray .boolean, 2), (276, .putfield 107, 3), (279, .aload_n 0, 1), (280, .bipush 26, 2), (282, .newarray .int, 2), (284, .dup, 1), (285, .iconst 0, 1), (286, .bipush 115, 2), (288, .iastore, 1), (289, .dup, 1), (290, .iconst 1, 1), (291, .bipush 111, 2), (293, .iastore, 1), (294, .dup, 1), (295, .iconst 2, 1), (296, .bipush 109, 2), (298, .iastore, 1), (299, .dup, 1), (300, .iconst 3, 1), (301, .bipush 101, 2), (303, .iastore, 1), (304, .dup, 1), (305, .iconst 4, 1), (306, .iconst 0, 1), (307, .iastore, 1), (308, .dup, 1), (309, .iconst 5, 1), (310, .bipush 109, 2), (312, .iastore, 1), (313, .dup, 1), (314, .bipush 6, 2), (316, .bipush 111, 2), (318, .iastore, 1), (319, .dup, 1), (320, .bipush 7, 2), (322, .bipush 115, 2), (324, .iastore, 1), (325, .dup, 1), (326, .bipush 8, 2), (328, .bipush 116, 2), (330, .iastore, 1), (331, .dup, 1), (332, .bipush 9, 2), (334, .bipush 32, 2), (336, .iastore, 1), (337, .dup, 1), (338, .bipush 10, 2), (340, .iconst 0, 1), (341, .iastore, 1), (342, .dup, 1), (343, .bipush 11, 2), (345, .bipush 106, 2), (347, .iastore, 1), (348, .dup, 1), (349, .bipush 12, 2), (351, .bipush 117, 2), (353, .iastore, 1), (354, .dup, 1), (355, .bipush 13, 2), (357, .bipush 115, 2), (359, .iastore, 1), (360, .dup, 1), (361, .bipush 14, 2), (363, .bipush 116, 2), (365, .iastore, 1), (366, .dup, 1), (367, .bipush 15, 2), (369, .bipush 32, 2), (371, .iastore, 1), (372, .dup, 1), (373, .bipush 16, 2), (375, .iconst 0, 1), (376, .iastore, 1), (377, .dup, 1), (378, .bipush 17, 2), (380, .bipush 111, 2), (382, .iastore, 1), (383, .dup, 1), (384, .bipush 18, 2), (386, .bipush 100, 2), (388, .iastore, 1), (389, .dup, 1), (390, .bipush 19, 2), (392, .bipush 100, 2), (394, .iastore, 1), (395, .dup, 1), (396, .bipush 20, 2), (398, .iconst 0, 1), (399, .iastore, 1), (400, .dup, 1), (401, .bipush 21, 2), (403, .bipush 101, 2), (405, .iastore, 1), (406, .dup, 1), (407, .bipush 22, 2), (409, .bipush 118, 2), (411, .iastore, 1), (412, .dup, 1), (413, .bipush 23, 2), (415, .bipush 101, 2), (417, .iastore, 1), (418, .dup, 1), (419, .bipush 24, 2), (421, .bipush 110, 2), (423, .iastore, 1), (424, .dup, 1), (425, .bipush 25, 2), (427, .iconst 0, 1), (428, .iastore, 1), (429, .putfield 110, 3), (432, .aload_n 0, 1), (433, .sipush 301, 3), (436, .newarray .int, 2), (438, .putfield 113, 3), (441, .aload_n 0, 1), (442, .iconst 2, 1), (443, .newarray .int, 2), (445, .putfield 116, 3), (448, .aload_n 0, 1), (449, .iconst 2, 1), (450, .newarray .int, 2), (452, .putfield 119, 3), (455, .aload_n 0, 1), (456, .sipush 1000, 3), (459, .newarray .boolean, 2), (461, .putfield 122, 3), (464, .aload_n 0, 1), (465, .bipush 40, 2), (467, .newarray .int, 2), (469, .putfield 125, 3), (472, .aload_n 0, 1), (473, .iconst 2, 1), (474, .newarray .int, 2), (476, .putfield 128, 3), (479, .aload_n 0, 1), (480, .iconst 2, 1), (481, .newarray .int, 2), (483, .putfield 131, 3), (486, .aload_n 0, 1), (487, .sipush 602, 3), (490, .newarray .int, 2), (492, .putfield 134, 3), (495, .aload_n 0, 1), (496, .sipush 602, 3), (499, .newarray .int, 2), (501, .putfield 137, 3), (504, .aload_n 0, 1), (505, .sipush 602, 3), (508, .newarray .int, 2), (510, .putfield 140, 3), (513, .aload_n 0, 1), (514, .sipush 602, 3), (517, .newarray .int, 2), (519, .putfield 143, 3), (522, .aload_n 0, 1), (523, .sipush 602, 3), (526, .newarray .long, 2), (528, .putfield 146, 3), (531, .aload_n 0, 1), (532, .iconst 2, 1), (533, .newarray .long, 2), (535, .putfield 150, 3), (538, .aload_n 0, 1), (539, .sipush 600, 3), (542, .newarray .int, 2), (544, .putfield 153, 3), (547, .aload_n 0, 1), (548, .iconst 2, 1), (549, .newarray .int, 2), (551, .putfield 156, 3), (554, .aload_n 0, 1), (555, .iconst 2, 1), (556, .newarray .int, 2), (558, .putfield 159, 3), (561, .aload_n 0, 1), (562, .sipush 1602, 3), (565, .newarray .int, 2), (567, .putfield 162, 3), (570, .aload_n 0, 1), (571, .sipush 16100, 3), (574, .newarray .int, 2), (576, .putfield 165, 3), (579, .aload_n 0, 1), (580, .iconst 2, 1), (581, .newarray .int, 2), (583, .putfield 168, 3), (586, .aload_n 0, 1), (587, .iconst 2, 1), (588, .newarray .int, 2), (590, .putfield 171, 3), (593, .aload_n 0, 1), (594, .sipush 1600, 3), (597, .newarray .boolean, 2), (599, .putfield 174, 3), (602, .aload_n 0, 1), (603, .sipush 1600, 3), (606, .newarray .int, 2), (608, .putfield 177, 3), (611, .aload_n 0, 1), (612, .sipush 12800, 3), (615, .newarray .long, 2), (617, .putfield 180, 3), (620, .aload_n 0, 1), (621, .sipush 4816, 3), (624, .newarray .long, 2), (626, .putfield 183, 3), (629, .aload_n 0, 1), (630, .bipush 8, 2), (632, .newarray .long, 2), (634, .putfield 186, 3), (637, .aload_n 0, 1), (638, .iconst 2, 1), (639, .newarray .int, 2), (641, .putfield 189, 3), (644, .aload_n 0, 1), (645, .iconst 2, 1), (646, .newarray .int, 2), (648, .putfield 192, 3), (651, .aload_n 0, 1), (652, .bipush 20, 2), (654, .newarray .int, 2), (656, .putfield 195, 3), (659, .aload_n 0, 1), (660, .iconst 5, 1), (661, .newarray .int, 2), (663, .putfield 198, 3), (666, .aload_n 0, 1), (667, .sipush 500, 3), (670, .newarray .int, 2), (672, .putfield 201, 3), (675, .aload_n 0, 1), (676, .bipush 20, 2), (678, .newarray .int, 2), (680, .putfield 204, 3), (683, .aload_n 0, 1), (684, .sipush 320, 3), (687, .newarray .int, 2), (689, .putfield 207, 3), (692, .aload_n 0, 1), (693, .sipush 301, 3), (696, .newarray .boolean, 2), (698, .putfield 210, 3), (701, .aload_n 0, 1), (702, .sipush 301, 3), (705, .newarray .boolean, 2), (707, .putfield 213, 3), (710, .aload_n 0, 1), (711, .sipush 320, 3), (714, .newarray .int, 2), (716, .putfield 216, 3), (719, .aload_n 0, 1), (720, .sipush 800, 3), (723, .newarray .boolean, 2), (725, .putfield 219, 3), (728, .aload_n 0, 1), (729, .sipush 801, 3), (732, .newarray .int, 2), (734, .putfield 222, 3), (737, .aload_n 0, 1), (738, .sipush 8100, 3), (741, .newarray .int, 2), (743, .putfield 225, 3), (746, .aload_n 0, 1), (747, .sipush 301, 3), (750, .newarray .int, 2), (752, .putfield 228, 3), (755, .iconst 0, 1), (756, .istore_n 1, 1), (757, .iload_n 1, 1), (758, .bipush 40, 2), (760, .if_icmp .ge 18, 3), (763, .aload_n 0, 1), (764, .getfield 17, 3), (767, .iload_n 1, 1), (768, .sipush (-1005), 3), (771, .iastore, 1), (772, .iinc 1 1, 3), (775, .goto (-18), 3), (778, .aload_n 0, 1), (779, .getfield 131, 3), (782, .iconst 0, 1), (783, .sipush (-1005), 3), (786, .iastore, 1), (787, .aload_n 0, 1), (788, .getfield 131, 3), (791, .iconst 1, 1), (792, .sipush (-1005), 3), (795, .iastore, 1), (796, .aload_n 0, 1), (797, .sipush (-1005), 3), (800, .putfield 231, 3), (803, .return_, 1)]
theorem tb_X12_init : ix_tab cX12_init tab_X12_init := by
  unfold ix_tab
  decide +kernel
noncomputable def b_X12_init_757 (n : Nat) (z : ix_Z)  (a0 : Nat) (rec757 : Int32 → ix_D2 → Option (ix_Z × ix_D2)) (x1 : Int32) (d : ix_D2) : Option (ix_Z × ix_D2) :=
  ix_if (40 ≤ x1) (ix_ck (ix_ok z [11] a0) (ix_bd1 (z.1 a0 68) (fun b_592 => ix_ck (ix_ix z 20 b_592 0) (ix_lt (ix_di d b_592 (ix_n 0) ((-1005))) (fun d_595 => ix_ck (ix_ix z 20 b_592 1) (ix_lt (ix_di d_595 b_592 (ix_n 1) ((-1005))) (fun d_598 => ix_lt (ix_di d_598 a0 111 ((-1005))) (fun d_600 => some (z, d_600))))))))) (ix_ck (ix_ok z [11] a0) (ix_bd1 (z.1 a0 5) (fun b_603 => ix_ck (ix_ix z 20 b_603 x1) (ix_lt (ix_di d b_603 (ix_n x1) ((-1005))) (fun d_606 => ix_lt (x1 + 1) (fun x1_608 => rec757 x1_608 d_606))))))
noncomputable def f_X12_init_757 (n : Nat) (z : ix_Z)  (a0 : Nat) (x1 : Int32) (d : ix_D2) : Option (ix_Z × ix_D2) := ix_fix (b_X12_init_757 n z  a0) (fun _ _ => none) n x1 d
noncomputable def f_X12_init (n : Nat) (z : ix_Z) (a0 : Nat) (d : ix_D2) : Option (ix_Z × ix_D2) :=
  ix_lt (ix_zn z 20 (ix_n 301)) (fun z_1 => ix_lt (ix_dn d z.2.2) (fun d_3 => ix_ck (ix_ok z_1 [11] a0) (ix_lt (ix_zr z_1 a0 2 (some z_1.2.2)) (fun z_6 => ix_lt (ix_zn z_6 22 (ix_n 301)) (fun z_8 => ix_lt (ix_dn d_3 z_6.2.2) (fun d_10 => ix_ck (ix_ok z_8 [11] a0) (ix_lt (ix_zr z_8 a0 3 (some z_6.2.2)) (fun z_13 => ix_lt (ix_zn z_13 20 (ix_n 40)) (fun z_15 => ix_lt (ix_dn d_10 z_13.2.2) (fun d_17 => ix_ck (ix_ok z_15 [11] a0) (ix_lt (ix_zr z_15 a0 5 (some z_13.2.2)) (fun z_20 => ix_lt (ix_zn z_20 20 (ix_n 480)) (fun z_22 => ix_lt (ix_dn d_17 z_20.2.2) (fun d_24 => ix_ck (ix_ok z_22 [11] a0) (ix_lt (ix_zr z_22 a0 6 (some z_20.2.2)) (fun z_27 => ix_lt (ix_zn z_27 20 (ix_n 60)) (fun z_29 => ix_lt (ix_dn d_24 z_27.2.2) (fun d_31 => ix_ck (ix_ok z_29 [11] a0) (ix_lt (ix_zr z_29 a0 7 (some z_27.2.2)) (fun z_34 => ix_lt (ix_zn z_34 20 (ix_n 16384)) (fun z_36 => ix_lt (ix_dn d_31 z_34.2.2) (fun d_38 => ix_ck (ix_ok z_36 [11] a0) (ix_lt (ix_zr z_36 a0 9 (some z_34.2.2)) (fun z_41 => ix_lt (ix_zn z_41 20 (ix_n 60)) (fun z_43 => ix_lt (ix_dn d_38 z_41.2.2) (fun d_45 => ix_ck (ix_ok z_43 [11] a0) (ix_lt (ix_zr z_43 a0 12 (some z_41.2.2)) (fun z_48 => ix_lt (ix_zn z_48 20 (ix_n 60)) (fun z_50 => ix_lt (ix_dn d_45 z_48.2.2) (fun d_52 => ix_ck (ix_ok z_50 [11] a0) (ix_lt (ix_zr z_50 a0 13 (some z_48.2.2)) (fun z_55 => ix_lt (ix_zn z_55 22 (ix_n 60)) (fun z_57 => ix_lt (ix_dn d_52 z_55.2.2) (fun d_59 => ix_ck (ix_ok z_57 [11] a0) (ix_lt (ix_zr z_57 a0 14 (some z_55.2.2)) (fun z_62 => ix_lt (ix_zn z_62 20 (ix_n 60)) (fun z_64 => ix_lt (ix_dn d_59 z_62.2.2) (fun d_66 => ix_ck (ix_ok z_64 [11] a0) (ix_lt (ix_zr z_64 a0 15 (some z_62.2.2)) (fun z_69 => ix_lt (ix_zn z_69 20 (ix_n 1800)) (fun z_71 => ix_lt (ix_dn d_66 z_69.2.2) (fun d_73 => ix_ck (ix_ok z_71 [11] a0) (ix_lt (ix_zr z_71 a0 16 (some z_69.2.2)) (fun z_76 => ix_lt (ix_zn z_76 20 (ix_n 60)) (fun z_78 => ix_lt (ix_dn d_73 z_76.2.2) (fun d_80 => ix_ck (ix_ok z_78 [11] a0) (ix_lt (ix_zr z_78 a0 17 (some z_76.2.2)) (fun z_83 => ix_lt (ix_zn z_83 20 (ix_n 60)) (fun z_85 => ix_lt (ix_dn d_80 z_83.2.2) (fun d_87 => ix_ck (ix_ok z_85 [11] a0) (ix_lt (ix_zr z_85 a0 18 (some z_83.2.2)) (fun z_90 => ix_lt (ix_zn z_90 20 (ix_n 3600)) (fun z_92 => ix_lt (ix_dn d_87 z_90.2.2) (fun d_94 => ix_ck (ix_ok z_92 [11] a0) (ix_lt (ix_zr z_92 a0 19 (some z_90.2.2)) (fun z_97 => ix_lt (ix_zn z_97 20 (ix_n 60)) (fun z_99 => ix_lt (ix_dn d_94 z_97.2.2) (fun d_101 => ix_ck (ix_ok z_99 [11] a0) (ix_lt (ix_zr z_99 a0 20 (some z_97.2.2)) (fun z_104 => ix_lt (ix_zn z_104 20 (ix_n 3600)) (fun z_106 => ix_lt (ix_dn d_101 z_104.2.2) (fun d_108 => ix_ck (ix_ok z_106 [11] a0) (ix_lt (ix_zr z_106 a0 21 (some z_104.2.2)) (fun z_111 => ix_lt (ix_zn z_111 20 (ix_n 60)) (fun z_113 => ix_lt (ix_dn d_108 z_111.2.2) (fun d_115 => ix_ck (ix_ok z_113 [11] a0) (ix_lt (ix_zr z_113 a0 22 (some z_111.2.2)) (fun z_118 => ix_lt (ix_zn z_118 20 (ix_n 501)) (fun z_120 => ix_lt (ix_dn d_115 z_118.2.2) (fun d_122 => ix_ck (ix_ok z_120 [11] a0) (ix_lt (ix_zr z_120 a0 24 (some z_118.2.2)) (fun z_125 => ix_lt (ix_zn z_125 20 (ix_n 2600)) (fun z_127 => ix_lt (ix_dn d_122 z_125.2.2) (fun d_129 => ix_ck (ix_ok z_127 [11] a0) (ix_lt (ix_zr z_127 a0 25 (some z_125.2.2)) (fun z_132 => ix_lt (ix_zn z_132 20 (ix_n 100)) (fun z_134 => ix_lt (ix_dn d_129 z_132.2.2) (fun d_136 => ix_ck (ix_ok z_134 [11] a0) (ix_lt (ix_zr z_134 a0 26 (some z_132.2.2)) (fun z_139 => ix_lt (ix_zn z_139 20 (ix_n 20)) (fun z_141 => ix_lt (ix_dn d_136 z_139.2.2) (fun d_143 => ix_ck (ix_ok z_141 [11] a0) (ix_lt (ix_zr z_141 a0 28 (some z_139.2.2)) (fun z_146 => ix_lt (ix_zn z_146 20 (ix_n 130)) (fun z_148 => ix_lt (ix_dn d_143 z_146.2.2) (fun d_150 => ix_ck (ix_ok z_148 [11] a0) (ix_lt (ix_zr z_148 a0 33 (some z_146.2.2)) (fun z_153 => ix_lt (ix_zn z_153 20 (ix_n 2600)) (fun z_155 => ix_lt (ix_dn d_150 z_153.2.2) (fun d_157 => ix_ck (ix_ok z_155 [11] a0) (ix_lt (ix_zr z_155 a0 34 (some z_153.2.2)) (fun z_160 => ix_lt (ix_zn z_160 20 (ix_n 12)) (fun z_162 => ix_lt (ix_dn d_157 z_160.2.2) (fun d_164 => ix_ck (ix_ok z_162 [11] a0) (ix_lt (ix_zr z_162 a0 35 (some z_160.2.2)) (fun z_167 => ix_lt (ix_zn z_167 20 (ix_n 40)) (fun z_169 => ix_lt (ix_dn d_164 z_167.2.2) (fun d_171 => ix_ck (ix_ok z_169 [11] a0) (ix_lt (ix_zr z_169 a0 39 (some z_167.2.2)) (fun z_174 => ix_lt (ix_zn z_174 20 (ix_n 40)) (fun z_176 => ix_lt (ix_dn d_171 z_174.2.2) (fun d_178 => ix_ck (ix_ok z_176 [11] a0) (ix_lt (ix_zr z_176 a0 41 (some z_174.2.2)) (fun z_181 => ix_lt (ix_zn z_181 20 (ix_n 14)) (fun z_183 => ix_lt (ix_dn d_178 z_181.2.2) (fun d_185 => ix_ck (ix_ok z_183 [11] a0) (ix_lt (ix_zr z_183 a0 43 (some z_181.2.2)) (fun z_188 => ix_lt (ix_zn z_188 20 (ix_n 14)) (fun z_190 => ix_lt (ix_dn d_185 z_188.2.2) (fun d_192 => ix_ck (ix_ok z_190 [11] a0) (ix_lt (ix_zr z_190 a0 44 (some z_188.2.2)) (fun z_195 => ix_lt (ix_zn z_195 20 (ix_n 60)) (fun z_197 => ix_lt (ix_dn d_192 z_195.2.2) (fun d_199 => ix_ck (ix_ok z_197 [11] a0) (ix_lt (ix_zr z_197 a0 45 (some z_195.2.2)) (fun z_202 => ix_lt (ix_zn z_202 20 (ix_n 60)) (fun z_204 => ix_lt (ix_dn d_199 z_202.2.2) (fun d_206 => ix_ck (ix_ok z_204 [11] a0) (ix_lt (ix_zr z_204 a0 47 (some z_202.2.2)) (fun z_209 => ix_lt (ix_zn z_209 20 (ix_n 60)) (fun z_211 => ix_lt (ix_dn d_206 z_209.2.2) (fun d_213 => ix_ck (ix_ok z_211 [11] a0) (ix_lt (ix_zr z_211 a0 48 (some z_209.2.2)) (fun z_216 => ix_lt (ix_zn z_216 20 (ix_n 60)) (fun z_218 => ix_lt (ix_dn d_213 z_216.2.2) (fun d_220 => ix_ck (ix_ok z_218 [11] a0) (ix_lt (ix_zr z_218 a0 53 (some z_216.2.2)) (fun z_223 => ix_lt (ix_zn z_223 22 (ix_n 60)) (fun z_225 => ix_lt (ix_dn d_220 z_223.2.2) (fun d_227 => ix_ck (ix_ok z_225 [11] a0) (ix_lt (ix_zr z_225 a0 55 (some z_223.2.2)) (fun z_230 => ix_lt (ix_zn z_230 20 (ix_n 26)) (fun z_232 => ix_lt (ix_dn d_227 z_230.2.2) (fun d_234 => ix_ck (ix_ix z_232 20 z_230.2.2 0) (ix_lt (ix_di d_234 z_230.2.2 (ix_n 0) 115) (fun d_237 => ix_ck (ix_ix z_232 20 z_230.2.2 1) (ix_lt (ix_di d_237 z_230.2.2 (ix_n 1) 111) (fun d_240 => ix_ck (ix_ix z_232 20 z_230.2.2 2) (ix_lt (ix_di d_240 z_230.2.2 (ix_n 2) 109) (fun d_243 => ix_ck (ix_ix z_232 20 z_230.2.2 3) (ix_lt (ix_di d_243 z_230.2.2 (ix_n 3) 101) (fun d_246 => ix_ck (ix_ix z_232 20 z_230.2.2 4) (ix_lt (ix_di d_246 z_230.2.2 (ix_n 4) 0) (fun d_249 => ix_ck (ix_ix z_232 20 z_230.2.2 5) (ix_lt (ix_di d_249 z_230.2.2 (ix_n 5) 109) (fun d_252 => ix_ck (ix_ix z_232 20 z_230.2.2 6) (ix_lt (ix_di d_252 z_230.2.2 (ix_n 6) 111) (fun d_255 => ix_ck (ix_ix z_232 20 z_230.2.2 7) (ix_lt (ix_di d_255 z_230.2.2 (ix_n 7) 115) (fun d_258 => ix_ck (ix_ix z_232 20 z_230.2.2 8) (ix_lt (ix_di d_258 z_230.2.2 (ix_n 8) 116) (fun d_261 => ix_ck (ix_ix z_232 20 z_230.2.2 9) (ix_lt (ix_di d_261 z_230.2.2 (ix_n 9) 32) (fun d_264 => ix_ck (ix_ix z_232 20 z_230.2.2 10) (ix_lt (ix_di d_264 z_230.2.2 (ix_n 10) 0) (fun d_267 => ix_ck (ix_ix z_232 20 z_230.2.2 11) (ix_lt (ix_di d_267 z_230.2.2 (ix_n 11) 106) (fun d_270 => ix_ck (ix_ix z_232 20 z_230.2.2 12) (ix_lt (ix_di d_270 z_230.2.2 (ix_n 12) 117) (fun d_273 => ix_ck (ix_ix z_232 20 z_230.2.2 13) (ix_lt (ix_di d_273 z_230.2.2 (ix_n 13) 115) (fun d_276 => ix_ck (ix_ix z_232 20 z_230.2.2 14) (ix_lt (ix_di d_276 z_230.2.2 (ix_n 14) 116) (fun d_279 => ix_ck (ix_ix z_232 20 z_230.2.2 15) (ix_lt (ix_di d_279 z_230.2.2 (ix_n 15) 32) (fun d_282 => ix_ck (ix_ix z_232 20 z_230.2.2 16) (ix_lt (ix_di d_282 z_230.2.2 (ix_n 16) 0) (fun d_285 => ix_ck (ix_ix z_232 20 z_230.2.2 17) (ix_lt (ix_di d_285 z_230.2.2 (ix_n 17) 111) (fun d_288 => ix_ck (ix_ix z_232 20 z_230.2.2 18) (ix_lt (ix_di d_288 z_230.2.2 (ix_n 18) 100) (fun d_291 => ix_ck (ix_ix z_232 20 z_230.2.2 19) (ix_lt (ix_di d_291 z_230.2.2 (ix_n 19) 100) (fun d_294 => ix_ck (ix_ix z_232 20 z_230.2.2 20) (ix_lt (ix_di d_294 z_230.2.2 (ix_n 20) 0) (fun d_297 => ix_ck (ix_ix z_232 20 z_230.2.2 21) (ix_lt (ix_di d_297 z_230.2.2 (ix_n 21) 101) (fun d_300 => ix_ck (ix_ix z_232 20 z_230.2.2 22) (ix_lt (ix_di d_300 z_230.2.2 (ix_n 22) 118) (fun d_303 => ix_ck (ix_ix z_232 20 z_230.2.2 23) (ix_lt (ix_di d_303 z_230.2.2 (ix_n 23) 101) (fun d_306 => ix_ck (ix_ix z_232 20 z_230.2.2 24) (ix_lt (ix_di d_306 z_230.2.2 (ix_n 24) 110) (fun d_309 => ix_ck (ix_ix z_232 20 z_230.2.2 25) (ix_lt (ix_di d_309 z_230.2.2 (ix_n 25) 0) (fun d_312 => ix_ck (ix_ok z_232 [11] a0) (ix_lt (ix_zr z_232 a0 56 (some z_230.2.2)) (fun z_315 => ix_lt (ix_zn z_315 20 (ix_n 301)) (fun z_317 => ix_lt (ix_dn d_312 z_315.2.2) (fun d_319 => ix_ck (ix_ok z_317 [11] a0) (ix_lt (ix_zr z_317 a0 60 (some z_315.2.2)) (fun z_322 => ix_lt (ix_zn z_322 20 (ix_n 2)) (fun z_324 => ix_lt (ix_dn d_319 z_322.2.2) (fun d_326 => ix_ck (ix_ok z_324 [11] a0) (ix_lt (ix_zr z_324 a0 61 (some z_322.2.2)) (fun z_329 => ix_lt (ix_zn z_329 20 (ix_n 2)) (fun z_331 => ix_lt (ix_dn d_326 z_329.2.2) (fun d_333 => ix_ck (ix_ok z_331 [11] a0) (ix_lt (ix_zr z_331 a0 62 (some z_329.2.2)) (fun z_336 => ix_lt (ix_zn z_336 22 (ix_n 1000)) (fun z_338 => ix_lt (ix_dn d_333 z_336.2.2) (fun d_340 => ix_ck (ix_ok z_338 [11] a0) (ix_lt (ix_zr z_338 a0 63 (some z_336.2.2)) (fun z_343 => ix_lt (ix_zn z_343 20 (ix_n 40)) (fun z_345 => ix_lt (ix_dn d_340 z_343.2.2) (fun d_347 => ix_ck (ix_ok z_345 [11] a0) (ix_lt (ix_zr z_345 a0 64 (some z_343.2.2)) (fun z_350 => ix_lt (ix_zn z_350 20 (ix_n 2)) (fun z_352 => ix_lt (ix_dn d_347 z_350.2.2) (fun d_354 => ix_ck (ix_ok z_352 [11] a0) (ix_lt (ix_zr z_352 a0 65 (some z_350.2.2)) (fun z_357 => ix_lt (ix_zn z_357 20 (ix_n 2)) (fun z_359 => ix_lt (ix_dn d_354 z_357.2.2) (fun d_361 => ix_ck (ix_ok z_359 [11] a0) (ix_lt (ix_zr z_359 a0 68 (some z_357.2.2)) (fun z_364 => ix_lt (ix_zn z_364 20 (ix_n 602)) (fun z_366 => ix_lt (ix_dn d_361 z_364.2.2) (fun d_368 => ix_ck (ix_ok z_366 [11] a0) (ix_lt (ix_zr z_366 a0 69 (some z_364.2.2)) (fun z_371 => ix_lt (ix_zn z_371 20 (ix_n 602)) (fun z_373 => ix_lt (ix_dn d_368 z_371.2.2) (fun d_375 => ix_ck (ix_ok z_373 [11] a0) (ix_lt (ix_zr z_373 a0 70 (some z_371.2.2)) (fun z_378 => ix_lt (ix_zn z_378 20 (ix_n 602)) (fun z_380 => ix_lt (ix_dn d_375 z_378.2.2) (fun d_382 => ix_ck (ix_ok z_380 [11] a0) (ix_lt (ix_zr z_380 a0 71 (some z_378.2.2)) (fun z_385 => ix_lt (ix_zn z_385 20 (ix_n 602)) (fun z_387 => ix_lt (ix_dn d_382 z_385.2.2) (fun d_389 => ix_ck (ix_ok z_387 [11] a0) (ix_lt (ix_zr z_387 a0 72 (some z_385.2.2)) (fun z_392 => ix_lt (ix_zn z_392 23 (ix_n 602)) (fun z_394 => ix_lt (ix_dn d_389 z_392.2.2) (fun d_396 => ix_ck (ix_ok z_394 [11] a0) (ix_lt (ix_zr z_394 a0 73 (some z_392.2.2)) (fun z_399 => ix_lt (ix_zn z_399 23 (ix_n 2)) (fun z_401 => ix_lt (ix_dn d_396 z_399.2.2) (fun d_403 => ix_ck (ix_ok z_401 [11] a0) (ix_lt (ix_zr z_401 a0 74 (some z_399.2.2)) (fun z_406 => ix_lt (ix_zn z_406 20 (ix_n 600)) (fun z_408 => ix_lt (ix_dn d_403 z_406.2.2) (fun d_410 => ix_ck (ix_ok z_408 [11] a0) (ix_lt (ix_zr z_408 a0 75 (some z_406.2.2)) (fun z_413 => ix_lt (ix_zn z_413 20 (ix_n 2)) (fun z_415 => ix_lt (ix_dn d_410 z_413.2.2) (fun d_417 => ix_ck (ix_ok z_415 [11] a0) (ix_lt (ix_zr z_415 a0 76 (some z_413.2.2)) (fun z_420 => ix_lt (ix_zn z_420 20 (ix_n 2)) (fun z_422 => ix_lt (ix_dn d_417 z_420.2.2) (fun d_424 => ix_ck (ix_ok z_422 [11] a0) (ix_lt (ix_zr z_422 a0 77 (some z_420.2.2)) (fun z_427 => ix_lt (ix_zn z_427 20 (ix_n 1602)) (fun z_429 => ix_lt (ix_dn d_424 z_427.2.2) (fun d_431 => ix_ck (ix_ok z_429 [11] a0) (ix_lt (ix_zr z_429 a0 78 (some z_427.2.2)) (fun z_434 => ix_lt (ix_zn z_434 20 (ix_n 16100)) (fun z_436 => ix_lt (ix_dn d_431 z_434.2.2) (fun d_438 => ix_ck (ix_ok z_436 [11] a0) (ix_lt (ix_zr z_436 a0 79 (some z_434.2.2)) (fun z_441 => ix_lt (ix_zn z_441 20 (ix_n 2)) (fun z_443 => ix_lt (ix_dn d_438 z_441.2.2) (fun d_445 => ix_ck (ix_ok z_443 [11] a0) (ix_lt (ix_zr z_443 a0 80 (some z_441.2.2)) (fun z_448 => ix_lt (ix_zn z_448 20 (ix_n 2)) (fun z_450 => ix_lt (ix_dn d_445 z_448.2.2) (fun d_452 => ix_ck (ix_ok z_450 [11] a0) (ix_lt (ix_zr z_450 a0 81 (some z_448.2.2)) (fun z_455 => ix_lt (ix_zn z_455 22 (ix_n 1600)) (fun z_457 => ix_lt (ix_dn d_452 z_455.2.2) (fun d_459 => ix_ck (ix_ok z_457 [11] a0) (ix_lt (ix_zr z_457 a0 82 (some z_455.2.2)) (fun z_462 => ix_lt (ix_zn z_462 20 (ix_n 1600)) (fun z_464 => ix_lt (ix_dn d_459 z_462.2.2) (fun d_466 => ix_ck (ix_ok z_464 [11] a0) (ix_lt (ix_zr z_464 a0 83 (some z_462.2.2)) (fun z_469 => ix_lt (ix_zn z_469 23 (ix_n 12800)) (fun z_471 => ix_lt (ix_dn d_466 z_469.2.2) (fun d_473 => ix_ck (ix_ok z_471 [11] a0) (ix_lt (ix_zr z_471 a0 84 (some z_469.2.2)) (fun z_476 => ix_lt (ix_zn z_476 23 (ix_n 4816)) (fun z_478 => ix_lt (ix_dn d_473 z_476.2.2) (fun d_480 => ix_ck (ix_ok z_478 [11] a0) (ix_lt (ix_zr z_478 a0 85 (some z_476.2.2)) (fun z_483 => ix_lt (ix_zn z_483 23 (ix_n 8)) (fun z_485 => ix_lt (ix_dn d_480 z_483.2.2) (fun d_487 => ix_ck (ix_ok z_485 [11] a0) (ix_lt (ix_zr z_485 a0 86 (some z_483.2.2)) (fun z_490 => ix_lt (ix_zn z_490 20 (ix_n 2)) (fun z_492 => ix_lt (ix_dn d_487 z_490.2.2) (fun d_494 => ix_ck (ix_ok z_492 [11] a0) (ix_lt (ix_zr z_492 a0 87 (some z_490.2.2)) (fun z_497 => ix_lt (ix_zn z_497 20 (ix_n 2)) (fun z_499 => ix_lt (ix_dn d_494 z_497.2.2) (fun d_501 => ix_ck (ix_ok z_499 [11] a0) (ix_lt (ix_zr z_499 a0 88 (some z_497.2.2)) (fun z_504 => ix_lt (ix_zn z_504 20 (ix_n 20)) (fun z_506 => ix_lt (ix_dn d_501 z_504.2.2) (fun d_508 => ix_ck (ix_ok z_506 [11] a0) (ix_lt (ix_zr z_506 a0 90 (some z_504.2.2)) (fun z_511 => ix_lt (ix_zn z_511 20 (ix_n 5)) (fun z_513 => ix_lt (ix_dn d_508 z_511.2.2) (fun d_515 => ix_ck (ix_ok z_513 [11] a0) (ix_lt (ix_zr z_513 a0 92 (some z_511.2.2)) (fun z_518 => ix_lt (ix_zn z_518 20 (ix_n 500)) (fun z_520 => ix_lt (ix_dn d_515 z_518.2.2) (fun d_522 => ix_ck (ix_ok z_520 [11] a0) (ix_lt (ix_zr z_520 a0 93 (some z_518.2.2)) (fun z_525 => ix_lt (ix_zn z_525 20 (ix_n 20)) (fun z_527 => ix_lt (ix_dn d_522 z_525.2.2) (fun d_529 => ix_ck (ix_ok z_527 [11] a0) (ix_lt (ix_zr z_527 a0 95 (some z_525.2.2)) (fun z_532 => ix_lt (ix_zn z_532 20 (ix_n 320)) (fun z_534 => ix_lt (ix_dn d_529 z_532.2.2) (fun d_536 => ix_ck (ix_ok z_534 [11] a0) (ix_lt (ix_zr z_534 a0 101 (some z_532.2.2)) (fun z_539 => ix_lt (ix_zn z_539 22 (ix_n 301)) (fun z_541 => ix_lt (ix_dn d_536 z_539.2.2) (fun d_543 => ix_ck (ix_ok z_541 [11] a0) (ix_lt (ix_zr z_541 a0 102 (some z_539.2.2)) (fun z_546 => ix_lt (ix_zn z_546 22 (ix_n 301)) (fun z_548 => ix_lt (ix_dn d_543 z_546.2.2) (fun d_550 => ix_ck (ix_ok z_548 [11] a0) (ix_lt (ix_zr z_548 a0 103 (some z_546.2.2)) (fun z_553 => ix_lt (ix_zn z_553 20 (ix_n 320)) (fun z_555 => ix_lt (ix_dn d_550 z_553.2.2) (fun d_557 => ix_ck (ix_ok z_555 [11] a0) (ix_lt (ix_zr z_555 a0 105 (some z_553.2.2)) (fun z_560 => ix_lt (ix_zn z_560 22 (ix_n 800)) (fun z_562 => ix_lt (ix_dn d_557 z_560.2.2) (fun d_564 => ix_ck (ix_ok z_562 [11] a0) (ix_lt (ix_zr z_562 a0 107 (some z_560.2.2)) (fun z_567 => ix_lt (ix_zn z_567 20 (ix_n 801)) (fun z_569 => ix_lt (ix_dn d_564 z_567.2.2) (fun d_571 => ix_ck (ix_ok z_569 [11] a0) (ix_lt (ix_zr z_569 a0 109 (some z_567.2.2)) (fun z_574 => ix_lt (ix_zn z_574 20 (ix_n 8100)) (fun z_576 => ix_lt (ix_dn d_571 z_574.2.2) (fun d_578 => ix_ck (ix_ok z_576 [11] a0) (ix_lt (ix_zr z_576 a0 110 (some z_574.2.2)) (fun z_581 => ix_lt (ix_zn z_581 20 (ix_n 301)) (fun z_583 => ix_lt (ix_dn d_578 z_581.2.2) (fun d_585 => ix_ck (ix_ok z_583 [11] a0) (ix_lt (ix_zr z_583 a0 112 (some z_581.2.2)) (fun z_588 => f_X12_init_757 n z_588  a0 0 d_585))))))))))))))))))))))))))))))))))))))))))))))))))))))))))))))))))))))))))))))))))))))))))))))))))))))))))))))))))))))))))))))))))))))))))))))))))))))))))))))))))))))))))))))))))))))))))))))))))))))))))))))))))))))))))))))))))))))))))))))))))))))))))))))))))))))))))))))))))))))))))))))))))))))))))))))))))))))))))))))))))))))))))))))))))))))))
set_option maxRecDepth 20000 in
theorem tb_X12_init_757 {l : Launch} {p : Program} {e : Env} {s : State} {m : MethodId} {args : Array Value} {below : List Frame} {meth : Method} {c : Code} {K : ix_Cx} (hKp : ix_Kp K) {n : Nat} {z : ix_Z} (hnm : meth.name = "<init>") (X : ix_X p s m args c K cX12_init RX12 2) (hr : meth.sig.returnType = (none : Option Jvm.ClassFile.FieldType)) (hlk : meth.locks = false)  {a0 : Nat} {rec757 : Int32 → ix_D2 → Option (ix_Z × ix_D2)} {z1 : ix_Z} {d1 : ix_D2} (hrec757 : ∀ (x1 : Int32) (d : ix_D2), rec757 x1 d = some (z1, d1) → ix_G p l e (ix_rm 1 23 73 88731) s m args below meth c (MQ below (ix_Post K none (ix_w z1 d1)) args s 73 88731 (ix_A K)) K 2 73 88731 757 [(0, .ref (K.2.2.1 + a0)), (1, .int x1)] [] (ix_w z d)) {x1 : Int32} {d : ix_D2} (h : b_X12_init_757 n z  a0 rec757 x1 d = some (z1, d1)) : ix_G p l e (ix_rm 1 23 73 88731) s m args below meth c (MQ below (ix_Post K none (ix_w z1 d1)) args s 73 88731 (ix_A K)) K 2 73 88731 757 [(0, .ref (K.2.2.1 + a0)), (1, .int x1)] [] (ix_w z d) := by
  unfold b_X12_init_757 at h
  refine ix_iload_n (i := 1) (j := 1) X (ix_tb_at tb_X12_init 400 rfl) rfl rfl (pc1 := 758) rfl ?_
  refine ix_bipush (v := 40) X (ix_tb_at tb_X12_init 401 rfl) (by decide) (pc1 := 760) rfl ?_
  refine ix_icmp_ge (tgt := 778) X (ix_tb_at tb_X12_init 402 rfl) (by decide) (pc1 := 763) rfl (fun q_590 => ?_) (fun q_590 => ?_)
  · have h := ix_ift q_590 h
    refine ix_aload_n (i := 0) (j := 0) X (ix_tb_at tb_X12_init 410 rfl) rfl rfl (pc1 := 779) rfl ?_
    obtain ⟨k_591, h⟩ := ix_ck_some h
    obtain ⟨b_592, q_593, h⟩ := ix_bd1_ex h
    refine iz_getR X fl_RX12_131 k_591 q_593 (ix_tb_at tb_X12_init 411 rfl) (pc1 := 782) rfl ?_
    refine ix_iconst (v := 0) X (ix_tb_at tb_X12_init 412 rfl) (by decide) (pc1 := 783) rfl ?_
    refine ix_sipush (v := (-1005)) X (ix_tb_at tb_X12_init 413 rfl) (by decide) (pc1 := 786) rfl ?_
    obtain ⟨k_594, h⟩ := ix_ck_some h
    obtain ⟨d_595, e_596, h⟩ := ix_lt_ex h
    refine iz_iast X k_594 (ix_tb_at tb_X12_init 414 rfl) e_596 (pc1 := 787) rfl ?_
    refine ix_aload_n (i := 0) (j := 0) X (ix_tb_at tb_X12_init 415 rfl) rfl rfl (pc1 := 788) rfl ?_
    refine iz_getR X fl_RX12_131 k_591 q_593 (ix_tb_at tb_X12_init 416 rfl) (pc1 := 791) rfl ?_
    refine ix_iconst (v := 1) X (ix_tb_at tb_X12_init 417 rfl) (by decide) (pc1 := 792) rfl ?_
    refine ix_sipush (v := (-1005)) X (ix_tb_at tb_X12_init 418 rfl) (by decide) (pc1 := 795) rfl ?_
    obtain ⟨k_597, h⟩ := ix_ck_some h
    obtain ⟨d_598, e_599, h⟩ := ix_lt_ex h
    refine iz_iast X k_597 (ix_tb_at tb_X12_init 419 rfl) e_599 (pc1 := 796) rfl ?_
    refine ix_aload_n (i := 0) (j := 0) X (ix_tb_at tb_X12_init 420 rfl) rfl rfl (pc1 := 797) rfl ?_
    refine ix_sipush (v := (-1005)) X (ix_tb_at tb_X12_init 421 rfl) (by decide) (pc1 := 800) rfl ?_
    obtain ⟨d_600, e_601, h⟩ := ix_lt_ex h
    refine iz_putI X fp_RX12_231 k_591 (ix_tb_at tb_X12_init 422 rfl) e_601 (pc1 := 803) rfl ?_
    exact ix_vret X hr hlk (ix_r2v (g := ix_w) h) (ix_tb_at tb_X12_init 423 rfl)
  · have h := ix_iff q_590 h
    refine ix_aload_n (i := 0) (j := 0) X (ix_tb_at tb_X12_init 403 rfl) rfl rfl (pc1 := 764) rfl ?_
    obtain ⟨k_602, h⟩ := ix_ck_some h
    obtain ⟨b_603, q_604, h⟩ := ix_bd1_ex h
    refine iz_getR X fl_RX12_17 k_602 q_604 (ix_tb_at tb_X12_init 404 rfl) (pc1 := 767) rfl ?_
    refine ix_iload_n (i := 1) (j := 1) X (ix_tb_at tb_X12_init 405 rfl) rfl rfl (pc1 := 768) rfl ?_
    refine ix_sipush (v := (-1005)) X (ix_tb_at tb_X12_init 406 rfl) (by decide) (pc1 := 771) rfl ?_
    obtain ⟨k_605, h⟩ := ix_ck_some h
    obtain ⟨d_606, e_607, h⟩ := ix_lt_ex h
    refine iz_iast X k_605 (ix_tb_at tb_X12_init 407 rfl) e_607 (pc1 := 772) rfl ?_
    obtain ⟨x1_608, e_609, h⟩ := ix_lt_ex h
    refine ix_iinc (i := 1) (j := 1) (v := x1_608) (L1 := [(1, .int x1_608), (0, .ref (K.2.2.1 + a0))]) X (ix_tb_at tb_X12_init 408 rfl) rfl (by rw [oi_1]; exact e_609.symm) (Nat.le_of_ble_eq_true rfl) rfl (pc1 := 775) rfl ?_
    refine ix_goto (tgt := 757) X (ix_tb_at tb_X12_init 409 rfl) (by decide) ?_
    refine ix_sub (L1 := [(0, .ref (K.2.2.1 + a0)), (1, .int x1_608)]) [1, 0] rfl ?_
    exact hrec757 x1_608 d_606 h
theorem t_X12_init_757 {l : Launch} {p : Program} {e : Env} {s : State} {m : MethodId} {args : Array Value} {below : List Frame} {meth : Method} {c : Code} {K : ix_Cx} (hKp : ix_Kp K) {n : Nat} {z : ix_Z} (hnm : meth.name = "<init>") (X : ix_X p s m args c K cX12_init RX12 2) (hr : meth.sig.returnType = (none : Option Jvm.ClassFile.FieldType)) (hlk : meth.locks = false)  {a0 : Nat} {z1 : ix_Z} {d1 : ix_D2}  {x1 : Int32} {d : ix_D2} (h : f_X12_init_757 n z  a0 x1 d = some (z1, d1)) : ix_G p l e (ix_rm 1 23 73 88731) s m args below meth c (MQ below (ix_Post K none (ix_w z1 d1)) args s 73 88731 (ix_A K)) K 2 73 88731 757 [(0, .ref (K.2.2.1 + a0)), (1, .int x1)] [] (ix_w z d) := by
  have key : ∀ (f : Nat) (x1 : Int32) (d : ix_D2), ix_fix (b_X12_init_757 n z  a0) (fun _ _ => none) f x1 d = some (z1, d1) → ix_G p l e (ix_rm 1 23 73 88731) s m args below meth c (MQ below (ix_Post K none (ix_w z1 d1)) args s 73 88731 (ix_A K)) K 2 73 88731 757 [(0, .ref (K.2.2.1 + a0)), (1, .int x1)] [] (ix_w z d) := by
    intro f
    induction f with
    | zero =>
      intro x1 d h
      have h : (none : Option (ix_Z × ix_D2)) = some (z1, d1) := h
      cases h
    | succ f ih =>
      intro x1 d h
      exact tb_X12_init_757 hKp hnm X hr hlk (rec757 := ix_fix (b_X12_init_757 n z  a0) (fun _ _ => none) f)  ih h
  exact key n x1 d h
set_option maxRecDepth 20000 in
theorem c_X12_init {l : Launch} {K : ix_Cx} (hKp : ix_Kp K) {n : Nat} {z : ix_Z} {a0 : Nat} {d : ix_D2} {z1 : ix_Z} {d1 : ix_D2} (h : f_X12_init n z a0 d = some (z1, d1)) : ix_M l K yX12_init cX12_init 2 (none : Option Jvm.ClassFile.FieldType) 1 23 73 88731 [.ref (K.2.2.1 + a0)] (ix_w z d) none (ix_w z1 d1) := by
  refine ix_met mf_X12_init hKp (Nat.le_of_ble_eq_true rfl) ?_
  intro p e s m args below meth c hr hlk hnm X
  have X : ix_X p s m args c K cX12_init RX12 2 := X
  have hnm : meth.name = "<init>" := hnm
  show ix_G p l e (ix_rm 1 23 73 88731) s m args below meth c (MQ below (ix_Post K none (ix_w z1 d1)) args s 73 88731 (ix_A K)) K 2 0 0 0 [(0, .ref (K.2.2.1 + a0))] [] (ix_w z d)
  unfold f_X12_init at h
  refine ix_aload_n (i := 0) (j := 0) X (ix_tb_at tb_X12_init 0 rfl) rfl rfl (pc1 := 1) rfl ?_
  refine ix_objI (pl := 1563) X (by decide +kernel) (Nat.le_of_ble_eq_true rfl) (Nat.le_of_ble_eq_true rfl) (ix_tb_at tb_X12_init 1 rfl) (pc1 := 4) rfl ?_
  refine ix_aload_n (i := 0) (j := 0) X (ix_tb_at tb_X12_init 2 rfl) rfl rfl (pc1 := 5) rfl ?_
  refine ix_sipush (v := 301) X (ix_tb_at tb_X12_init 3 rfl) (by decide) (pc1 := 8) rfl ?_
  obtain ⟨z_1, e_2, h⟩ := ix_lt_ex h
  obtain ⟨d_3, e_4, h⟩ := ix_lt_ex h
  refine iz_newa_int (pl := 98) X (by decide +kernel) (by decide) (by decide) (Nat.le_of_ble_eq_true rfl) (Nat.le_of_ble_eq_true rfl) (ix_tb_at tb_X12_init 4 rfl) e_2 e_4 (pc1 := 10) rfl ?_
  refine ix_widen (k1 := 1) (n1 := 301) (Nat.le_of_ble_eq_true rfl) (Nat.le_of_ble_eq_true rfl) ?_
  obtain ⟨k_5, h⟩ := ix_ck_some h
  obtain ⟨z_6, e_7, h⟩ := ix_lt_ex h
  refine iz_putR (ty := .array .int) X fp_RX12_7 (fun _ => ⟨rfl, hnm⟩) k_5 (by decide +kernel) (by decide +kernel) (Or.inr ⟨_, rfl⟩) (ix_tb_at tb_X12_init 5 rfl) e_7 (pc1 := 13) rfl ?_
  refine ix_aload_n (i := 0) (j := 0) X (ix_tb_at tb_X12_init 6 rfl) rfl rfl (pc1 := 14) rfl ?_
  refine ix_sipush (v := 301) X (ix_tb_at tb_X12_init 7 rfl) (by decide) (pc1 := 17) rfl ?_
  obtain ⟨z_8, e_9, h⟩ := ix_lt_ex h
  obtain ⟨d_10, e_11, h⟩ := ix_lt_ex h
  refine iz_newa_boolean (pl := 183) X (by decide +kernel) (by decide) (by decide) (Nat.le_of_ble_eq_true rfl) (Nat.le_of_ble_eq_true rfl) (ix_tb_at tb_X12_init 8 rfl) e_9 e_11 (pc1 := 19) rfl ?_
  refine ix_widen (k1 := 2) (n1 := 602) (Nat.le_of_ble_eq_true rfl) (Nat.le_of_ble_eq_true rfl) ?_
  obtain ⟨k_12, h⟩ := ix_ck_some h
  obtain ⟨z_13, e_14, h⟩ := ix_lt_ex h
  refine iz_putR (ty := .array .boolean) X fp_RX12_13 (fun _ => ⟨rfl, hnm⟩) k_12 (by decide +kernel) (by decide +kernel) (Or.inr ⟨_, rfl⟩) (ix_tb_at tb_X12_init 9 rfl) e_14 (pc1 := 22) rfl ?_
  refine ix_aload_n (i := 0) (j := 0) X (ix_tb_at tb_X12_init 10 rfl) rfl rfl (pc1 := 23) rfl ?_
  refine ix_bipush (v := 40) X (ix_tb_at tb_X12_init 11 rfl) (by decide) (pc1 := 25) rfl ?_
  obtain ⟨z_15, e_16, h⟩ := ix_lt_ex h
  obtain ⟨d_17, e_18, h⟩ := ix_lt_ex h
  refine iz_newa_int (pl := 98) X (by decide +kernel) (by decide) (by decide) (Nat.le_of_ble_eq_true rfl) (Nat.le_of_ble_eq_true rfl) (ix_tb_at tb_X12_init 12 rfl) e_16 e_18 (pc1 := 27) rfl ?_
  refine ix_widen (k1 := 3) (n1 := 642) (Nat.le_of_ble_eq_true rfl) (Nat.le_of_ble_eq_true rfl) ?_
  obtain ⟨k_19, h⟩ := ix_ck_some h
  obtain ⟨z_20, e_21, h⟩ := ix_lt_ex h
  refine iz_putR (ty := .array .int) X fp_RX12_17 (fun _ => ⟨rfl, hnm⟩) k_19 (by decide +kernel) (by decide +kernel) (Or.inr ⟨_, rfl⟩) (ix_tb_at tb_X12_init 13 rfl) e_21 (pc1 := 30) rfl ?_
  refine ix_aload_n (i := 0) (j := 0) X (ix_tb_at tb_X12_init 14 rfl) rfl rfl (pc1 := 31) rfl ?_
  refine ix_sipush (v := 480) X (ix_tb_at tb_X12_init 15 rfl) (by decide) (pc1 := 34) rfl ?_
  obtain ⟨z_22, e_23, h⟩ := ix_lt_ex h
  obtain ⟨d_24, e_25, h⟩ := ix_lt_ex h
  refine iz_newa_int (pl := 98) X (by decide +kernel) (by decide) (by decide) (Nat.le_of_ble_eq_true rfl) (Nat.le_of_ble_eq_true rfl) (ix_tb_at tb_X12_init 16 rfl) e_23 e_25 (pc1 := 36) rfl ?_
  refine ix_widen (k1 := 4) (n1 := 1122) (Nat.le_of_ble_eq_true rfl) (Nat.le_of_ble_eq_true rfl) ?_
  obtain ⟨k_26, h⟩ := ix_ck_some h
  obtain ⟨z_27, e_28, h⟩ := ix_lt_ex h
  refine iz_putR (ty := .array .int) X fp_RX12_20 (fun _ => ⟨rfl, hnm⟩) k_26 (by decide +kernel) (by decide +kernel) (Or.inr ⟨_, rfl⟩) (ix_tb_at tb_X12_init 17 rfl) e_28 (pc1 := 39) rfl ?_
  refine ix_aload_n (i := 0) (j := 0) X (ix_tb_at tb_X12_init 18 rfl) rfl rfl (pc1 := 40) rfl ?_
  refine ix_bipush (v := 60) X (ix_tb_at tb_X12_init 19 rfl) (by decide) (pc1 := 42) rfl ?_
  obtain ⟨z_29, e_30, h⟩ := ix_lt_ex h
  obtain ⟨d_31, e_32, h⟩ := ix_lt_ex h
  refine iz_newa_int (pl := 98) X (by decide +kernel) (by decide) (by decide) (Nat.le_of_ble_eq_true rfl) (Nat.le_of_ble_eq_true rfl) (ix_tb_at tb_X12_init 20 rfl) e_30 e_32 (pc1 := 44) rfl ?_
  refine ix_widen (k1 := 5) (n1 := 1182) (Nat.le_of_ble_eq_true rfl) (Nat.le_of_ble_eq_true rfl) ?_
  obtain ⟨k_33, h⟩ := ix_ck_some h
  obtain ⟨z_34, e_35, h⟩ := ix_lt_ex h
  refine iz_putR (ty := .array .int) X fp_RX12_23 (fun _ => ⟨rfl, hnm⟩) k_33 (by decide +kernel) (by decide +kernel) (Or.inr ⟨_, rfl⟩) (ix_tb_at tb_X12_init 21 rfl) e_35 (pc1 := 47) rfl ?_
  refine ix_aload_n (i := 0) (j := 0) X (ix_tb_at tb_X12_init 22 rfl) rfl rfl (pc1 := 48) rfl ?_
  refine ix_sipush (v := 16384) X (ix_tb_at tb_X12_init 23 rfl) (by decide) (pc1 := 51) rfl ?_
  obtain ⟨z_36, e_37, h⟩ := ix_lt_ex h
  obtain ⟨d_38, e_39, h⟩ := ix_lt_ex h
  refine iz_newa_int (pl := 98) X (by decide +kernel) (by decide) (by decide) (Nat.le_of_ble_eq_true rfl) (Nat.le_of_ble_eq_true rfl) (ix_tb_at tb_X12_init 24 rfl) e_37 e_39 (pc1 := 53) rfl ?_
  refine ix_widen (k1 := 6) (n1 := 17566) (Nat.le_of_ble_eq_true rfl) (Nat.le_of_ble_eq_true rfl) ?_
  obtain ⟨k_40, h⟩ := ix_ck_some h
  obtain ⟨z_41, e_42, h⟩ := ix_lt_ex h
  refine iz_putR (ty := .array .int) X fp_RX12_26 (fun _ => ⟨rfl, hnm⟩) k_40 (by decide +kernel) (by decide +kernel) (Or.inr ⟨_, rfl⟩) (ix_tb_at tb_X12_init 25 rfl) e_42 (pc1 := 56) rfl ?_
  refine ix_aload_n (i := 0) (j := 0) X (ix_tb_at tb_X12_init 26 rfl) rfl rfl (pc1 := 57) rfl ?_
  refine ix_bipush (v := 60) X (ix_tb_at tb_X12_init 27 rfl) (by decide) (pc1 := 59) rfl ?_
  obtain ⟨z_43, e_44, h⟩ := ix_lt_ex h
  obtain ⟨d_45, e_46, h⟩ := ix_lt_ex h
  refine iz_newa_int (pl := 98) X (by decide +kernel) (by decide) (by decide) (Nat.le_of_ble_eq_true rfl) (Nat.le_of_ble_eq_true rfl) (ix_tb_at tb_X12_init 28 rfl) e_44 e_46 (pc1 := 61) rfl ?_
  refine ix_widen (k1 := 7) (n1 := 17626) (Nat.le_of_ble_eq_true rfl) (Nat.le_of_ble_eq_true rfl) ?_
  obtain ⟨k_47, h⟩ := ix_ck_some h
  obtain ⟨z_48, e_49, h⟩ := ix_lt_ex h
  refine iz_putR (ty := .array .int) X fp_RX12_29 (fun _ => ⟨rfl, hnm⟩) k_47 (by decide +kernel) (by decide +kernel) (Or.inr ⟨_, rfl⟩) (ix_tb_at tb_X12_init 29 rfl) e_49 (pc1 := 64) rfl ?_
  refine ix_aload_n (i := 0) (j := 0) X (ix_tb_at tb_X12_init 30 rfl) rfl rfl (pc1 := 65) rfl ?_
  refine ix_bipush (v := 60) X (ix_tb_at tb_X12_init 31 rfl) (by decide) (pc1 := 67) rfl ?_
  obtain ⟨z_50, e_51, h⟩ := ix_lt_ex h
  obtain ⟨d_52, e_53, h⟩ := ix_lt_ex h
  refine iz_newa_int (pl := 98) X (by decide +kernel) (by decide) (by decide) (Nat.le_of_ble_eq_true rfl) (Nat.le_of_ble_eq_true rfl) (ix_tb_at tb_X12_init 32 rfl) e_51 e_53 (pc1 := 69) rfl ?_
  refine ix_widen (k1 := 8) (n1 := 17686) (Nat.le_of_ble_eq_true rfl) (Nat.le_of_ble_eq_true rfl) ?_
  obtain ⟨k_54, h⟩ := ix_ck_some h
  obtain ⟨z_55, e_56, h⟩ := ix_lt_ex h
  refine iz_putR (ty := .array .int) X fp_RX12_32 (fun _ => ⟨rfl, hnm⟩) k_54 (by decide +kernel) (by decide +kernel) (Or.inr ⟨_, rfl⟩) (ix_tb_at tb_X12_init 33 rfl) e_56 (pc1 := 72) rfl ?_
  refine ix_aload_n (i := 0) (j := 0) X (ix_tb_at tb_X12_init 34 rfl) rfl rfl (pc1 := 73) rfl ?_
  refine ix_bipush (v := 60) X (ix_tb_at tb_X12_init 35 rfl) (by decide) (pc1 := 75) rfl ?_
  obtain ⟨z_57, e_58, h⟩ := ix_lt_ex h
  obtain ⟨d_59, e_60, h⟩ := ix_lt_ex h
  refine iz_newa_boolean (pl := 183) X (by decide +kernel) (by decide) (by decide) (Nat.le_of_ble_eq_true rfl) (Nat.le_of_ble_eq_true rfl) (ix_tb_at tb_X12_init 36 rfl) e_58 e_60 (pc1 := 77) rfl ?_
  refine ix_widen (k1 := 9) (n1 := 17746) (Nat.le_of_ble_eq_true rfl) (Nat.le_of_ble_eq_true rfl) ?_
  obtain ⟨k_61, h⟩ := ix_ck_some h
  obtain ⟨z_62, e_63, h⟩ := ix_lt_ex h
  refine iz_putR (ty := .array .boolean) X fp_RX12_35 (fun _ => ⟨rfl, hnm⟩) k_61 (by decide +kernel) (by decide +kernel) (Or.inr ⟨_, rfl⟩) (ix_tb_at tb_X12_init 37 rfl) e_63 (pc1 := 80) rfl ?_
  refine ix_aload_n (i := 0) (j := 0) X (ix_tb_at tb_X12_init 38 rfl) rfl rfl (pc1 := 81) rfl ?_
  refine ix_bipush (v := 60) X (ix_tb_at tb_X12_init 39 rfl) (by decide) (pc1 := 83) rfl ?_
  obtain ⟨z_64, e_65, h⟩ := ix_lt_ex h
  obtain ⟨d_66, e_67, h⟩ := ix_lt_ex h
  refine iz_newa_int (pl := 98) X (by decide +kernel) (by decide) (by decide) (Nat.le_of_ble_eq_true rfl) (Nat.le_of_ble_eq_true rfl) (ix_tb_at tb_X12_init 40 rfl) e_65 e_67 (pc1 := 85) rfl ?_
  refine ix_widen (k1 := 10) (n1 := 17806) (Nat.le_of_ble_eq_true rfl) (Nat.le_of_ble_eq_true rfl) ?_
  obtain ⟨k_68, h⟩ := ix_ck_some h
  obtain ⟨z_69, e_70, h⟩ := ix_lt_ex h
  refine iz_putR (ty := .array .int) X fp_RX12_38 (fun _ => ⟨rfl, hnm⟩) k_68 (by decide +kernel) (by decide +kernel) (Or.inr ⟨_, rfl⟩) (ix_tb_at tb_X12_init 41 rfl) e_70 (pc1 := 88) rfl ?_
  refine ix_aload_n (i := 0) (j := 0) X (ix_tb_at tb_X12_init 42 rfl) rfl rfl (pc1 := 89) rfl ?_
  refine ix_sipush (v := 1800) X (ix_tb_at tb_X12_init 43 rfl) (by decide) (pc1 := 92) rfl ?_
  obtain ⟨z_71, e_72, h⟩ := ix_lt_ex h
  obtain ⟨d_73, e_74, h⟩ := ix_lt_ex h
  refine iz_newa_int (pl := 98) X (by decide +kernel) (by decide) (by decide) (Nat.le_of_ble_eq_true rfl) (Nat.le_of_ble_eq_true rfl) (ix_tb_at tb_X12_init 44 rfl) e_72 e_74 (pc1 := 94) rfl ?_
  refine ix_widen (k1 := 11) (n1 := 19606) (Nat.le_of_ble_eq_true rfl) (Nat.le_of_ble_eq_true rfl) ?_
  obtain ⟨k_75, h⟩ := ix_ck_some h
  obtain ⟨z_76, e_77, h⟩ := ix_lt_ex h
  refine iz_putR (ty := .array .int) X fp_RX12_41 (fun _ => ⟨rfl, hnm⟩) k_75 (by decide +kernel) (by decide +kernel) (Or.inr ⟨_, rfl⟩) (ix_tb_at tb_X12_init 45 rfl) e_77 (pc1 := 97) rfl ?_
  refine ix_aload_n (i := 0) (j := 0) X (ix_tb_at tb_X12_init 46 rfl) rfl rfl (pc1 := 98) rfl ?_
  refine ix_bipush (v := 60) X (ix_tb_at tb_X12_init 47 rfl) (by decide) (pc1 := 100) rfl ?_
  obtain ⟨z_78, e_79, h⟩ := ix_lt_ex h
  obtain ⟨d_80, e_81, h⟩ := ix_lt_ex h
  refine iz_newa_int (pl := 98) X (by decide +kernel) (by decide) (by decide) (Nat.le_of_ble_eq_true rfl) (Nat.le_of_ble_eq_true rfl) (ix_tb_at tb_X12_init 48 rfl) e_79 e_81 (pc1 := 102) rfl ?_
  refine ix_widen (k1 := 12) (n1 := 19666) (Nat.le_of_ble_eq_true rfl) (Nat.le_of_ble_eq_true rfl) ?_
  obtain ⟨k_82, h⟩ := ix_ck_some h
  obtain ⟨z_83, e_84, h⟩ := ix_lt_ex h
  refine iz_putR (ty := .array .int) X fp_RX12_44 (fun _ => ⟨rfl, hnm⟩) k_82 (by decide +kernel) (by decide +kernel) (Or.inr ⟨_, rfl⟩) (ix_tb_at tb_X12_init 49 rfl) e_84 (pc1 := 105) rfl ?_
  refine ix_aload_n (i := 0) (j := 0) X (ix_tb_at tb_X12_init 50 rfl) rfl rfl (pc1 := 106) rfl ?_
  refine ix_bipush (v := 60) X (ix_tb_at tb_X12_init 51 rfl) (by decide) (pc1 := 108) rfl ?_
  obtain ⟨z_85, e_86, h⟩ := ix_lt_ex h
  obtain ⟨d_87, e_88, h⟩ := ix_lt_ex h
  refine iz_newa_int (pl := 98) X (by decide +kernel) (by decide) (by decide) (Nat.le_of_ble_eq_true rfl) (Nat.le_of_ble_eq_true rfl) (ix_tb_at tb_X12_init 52 rfl) e_86 e_88 (pc1 := 110) rfl ?_
  refine ix_widen (k1 := 13) (n1 := 19726) (Nat.le_of_ble_eq_true rfl) (Nat.le_of_ble_eq_true rfl) ?_
  obtain ⟨k_89, h⟩ := ix_ck_some h
  obtain ⟨z_90, e_91, h⟩ := ix_lt_ex h
  refine iz_putR (ty := .array .int) X fp_RX12_47 (fun _ => ⟨rfl, hnm⟩) k_89 (by decide +kernel) (by decide +kernel) (Or.inr ⟨_, rfl⟩) (ix_tb_at tb_X12_init 53 rfl) e_91 (pc1 := 113) rfl ?_
  refine ix_aload_n (i := 0) (j := 0) X (ix_tb_at tb_X12_init 54 rfl) rfl rfl (pc1 := 114) rfl ?_
  refine ix_sipush (v := 3600) X (ix_tb_at tb_X12_init 55 rfl) (by decide) (pc1 := 117) rfl ?_
  obtain ⟨z_92, e_93, h⟩ := ix_lt_ex h
  obtain ⟨d_94, e_95, h⟩ := ix_lt_ex h
  refine iz_newa_int (pl := 98) X (by decide +kernel) (by decide) (by decide) (Nat.le_of_ble_eq_true rfl) (Nat.le_of_ble_eq_true rfl) (ix_tb_at tb_X12_init 56 rfl) e_93 e_95 (pc1 := 119) rfl ?_
  refine ix_widen (k1 := 14) (n1 := 23326) (Nat.le_of_ble_eq_true rfl) (Nat.le_of_ble_eq_true rfl) ?_
  obtain ⟨k_96, h⟩ := ix_ck_some h
  obtain ⟨z_97, e_98, h⟩ := ix_lt_ex h
  refine iz_putR (ty := .array .int) X fp_RX12_50 (fun _ => ⟨rfl, hnm⟩) k_96 (by decide +kernel) (by decide +kernel) (Or.inr ⟨_, rfl⟩) (ix_tb_at tb_X12_init 57 rfl) e_98 (pc1 := 122) rfl ?_
  refine ix_aload_n (i := 0) (j := 0) X (ix_tb_at tb_X12_init 58 rfl) rfl rfl (pc1 := 123) rfl ?_
  refine ix_bipush (v := 60) X (ix_tb_at tb_X12_init 59 rfl) (by decide) (pc1 := 125) rfl ?_
  obtain ⟨z_99, e_100, h⟩ := ix_lt_ex h
  obtain ⟨d_101, e_102, h⟩ := ix_lt_ex h
  refine iz_newa_int (pl := 98) X (by decide +kernel) (by decide) (by decide) (Nat.le_of_ble_eq_true rfl) (Nat.le_of_ble_eq_true rfl) (ix_tb_at tb_X12_init 60 rfl) e_100 e_102 (pc1 := 127) rfl ?_
  refine ix_widen (k1 := 15) (n1 := 23386) (Nat.le_of_ble_eq_true rfl) (Nat.le_of_ble_eq_true rfl) ?_
  obtain ⟨k_103, h⟩ := ix_ck_some h
  obtain ⟨z_104, e_105, h⟩ := ix_lt_ex h
  refine iz_putR (ty := .array .int) X fp_RX12_53 (fun _ => ⟨rfl, hnm⟩) k_103 (by decide +kernel) (by decide +kernel) (Or.inr ⟨_, rfl⟩) (ix_tb_at tb_X12_init 61 rfl) e_105 (pc1 := 130) rfl ?_
  refine ix_aload_n (i := 0) (j := 0) X (ix_tb_at tb_X12_init 62 rfl) rfl rfl (pc1 := 131) rfl ?_
  refine ix_sipush (v := 3600) X (ix_tb_at tb_X12_init 63 rfl) (by decide) (pc1 := 134) rfl ?_
  obtain ⟨z_106, e_107, h⟩ := ix_lt_ex h
  obtain ⟨d_108, e_109, h⟩ := ix_lt_ex h
  refine iz_newa_int (pl := 98) X (by decide +kernel) (by decide) (by decide) (Nat.le_of_ble_eq_true rfl) (Nat.le_of_ble_eq_true rfl) (ix_tb_at tb_X12_init 64 rfl) e_107 e_109 (pc1 := 136) rfl ?_
  refine ix_widen (k1 := 16) (n1 := 26986) (Nat.le_of_ble_eq_true rfl) (Nat.le_of_ble_eq_true rfl) ?_
  obtain ⟨k_110, h⟩ := ix_ck_some h
  obtain ⟨z_111, e_112, h⟩ := ix_lt_ex h
  refine iz_putR (ty := .array .int) X fp_RX12_56 (fun _ => ⟨rfl, hnm⟩) k_110 (by decide +kernel) (by decide +kernel) (Or.inr ⟨_, rfl⟩) (ix_tb_at tb_X12_init 65 rfl) e_112 (pc1 := 139) rfl ?_
  refine ix_aload_n (i := 0) (j := 0) X (ix_tb_at tb_X12_init 66 rfl) rfl rfl (pc1 := 140) rfl ?_
  refine ix_bipush (v := 60) X (ix_tb_at tb_X12_init 67 rfl) (by decide) (pc1 := 142) rfl ?_
  obtain ⟨z_113, e_114, h⟩ := ix_lt_ex h
  obtain ⟨d_115, e_116, h⟩ := ix_lt_ex h
  refine iz_newa_int (pl := 98) X (by decide +kernel) (by decide) (by decide) (Nat.le_of_ble_eq_true rfl) (Nat.le_of_ble_eq_true rfl) (ix_tb_at tb_X12_init 68 rfl) e_114 e_116 (pc1 := 144) rfl ?_
  refine ix_widen (k1 := 17) (n1 := 27046) (Nat.le_of_ble_eq_true rfl) (Nat.le_of_ble_eq_true rfl) ?_
  obtain ⟨k_117, h⟩ := ix_ck_some h
  obtain ⟨z_118, e_119, h⟩ := ix_lt_ex h
  refine iz_putR (ty := .array .int) X fp_RX12_59 (fun _ => ⟨rfl, hnm⟩) k_117 (by decide +kernel) (by decide +kernel) (Or.inr ⟨_, rfl⟩) (ix_tb_at tb_X12_init 69 rfl) e_119 (pc1 := 147) rfl ?_
  refine ix_aload_n (i := 0) (j := 0) X (ix_tb_at tb_X12_init 70 rfl) rfl rfl (pc1 := 148) rfl ?_
  refine ix_sipush (v := 501) X (ix_tb_at tb_X12_init 71 rfl) (by decide) (pc1 := 151) rfl ?_
  obtain ⟨z_120, e_121, h⟩ := ix_lt_ex h
  obtain ⟨d_122, e_123, h⟩ := ix_lt_ex h
  refine iz_newa_int (pl := 98) X (by decide +kernel) (by decide) (by decide) (Nat.le_of_ble_eq_true rfl) (Nat.le_of_ble_eq_true rfl) (ix_tb_at tb_X12_init 72 rfl) e_121 e_123 (pc1 := 153) rfl ?_
  refine ix_widen (k1 := 18) (n1 := 27547) (Nat.le_of_ble_eq_true rfl) (Nat.le_of_ble_eq_true rfl) ?_
  obtain ⟨k_124, h⟩ := ix_ck_some h
  obtain ⟨z_125, e_126, h⟩ := ix_lt_ex h
  refine iz_putR (ty := .array .int) X fp_RX12_62 (fun _ => ⟨rfl, hnm⟩) k_124 (by decide +kernel) (by decide +kernel) (Or.inr ⟨_, rfl⟩) (ix_tb_at tb_X12_init 73 rfl) e_126 (pc1 := 156) rfl ?_
  refine ix_aload_n (i := 0) (j := 0) X (ix_tb_at tb_X12_init 74 rfl) rfl rfl (pc1 := 157) rfl ?_
  refine ix_sipush (v := 2600) X (ix_tb_at tb_X12_init 75 rfl) (by decide) (pc1 := 160) rfl ?_
  obtain ⟨z_127, e_128, h⟩ := ix_lt_ex h
  obtain ⟨d_129, e_130, h⟩ := ix_lt_ex h
  refine iz_newa_int (pl := 98) X (by decide +kernel) (by decide) (by decide) (Nat.le_of_ble_eq_true rfl) (Nat.le_of_ble_eq_true rfl) (ix_tb_at tb_X12_init 76 rfl) e_128 e_130 (pc1 := 162) rfl ?_
  refine ix_widen (k1 := 19) (n1 := 30147) (Nat.le_of_ble_eq_true rfl) (Nat.le_of_ble_eq_true rfl) ?_
  obtain ⟨k_131, h⟩ := ix_ck_some h
  obtain ⟨z_132, e_133, h⟩ := ix_lt_ex h
  refine iz_putR (ty := .array .int) X fp_RX12_65 (fun _ => ⟨rfl, hnm⟩) k_131 (by decide +kernel) (by decide +kernel) (Or.inr ⟨_, rfl⟩) (ix_tb_at tb_X12_init 77 rfl) e_133 (pc1 := 165) rfl ?_
  refine ix_aload_n (i := 0) (j := 0) X (ix_tb_at tb_X12_init 78 rfl) rfl rfl (pc1 := 166) rfl ?_
  refine ix_bipush (v := 100) X (ix_tb_at tb_X12_init 79 rfl) (by decide) (pc1 := 168) rfl ?_
  obtain ⟨z_134, e_135, h⟩ := ix_lt_ex h
  obtain ⟨d_136, e_137, h⟩ := ix_lt_ex h
  refine iz_newa_int (pl := 98) X (by decide +kernel) (by decide) (by decide) (Nat.le_of_ble_eq_true rfl) (Nat.le_of_ble_eq_true rfl) (ix_tb_at tb_X12_init 80 rfl) e_135 e_137 (pc1 := 170) rfl ?_
  refine ix_widen (k1 := 20) (n1 := 30247) (Nat.le_of_ble_eq_true rfl) (Nat.le_of_ble_eq_true rfl) ?_
  obtain ⟨k_138, h⟩ := ix_ck_some h
  obtain ⟨z_139, e_140, h⟩ := ix_lt_ex h
  refine iz_putR (ty := .array .int) X fp_RX12_68 (fun _ => ⟨rfl, hnm⟩) k_138 (by decide +kernel) (by decide +kernel) (Or.inr ⟨_, rfl⟩) (ix_tb_at tb_X12_init 81 rfl) e_140 (pc1 := 173) rfl ?_
  refine ix_aload_n (i := 0) (j := 0) X (ix_tb_at tb_X12_init 82 rfl) rfl rfl (pc1 := 174) rfl ?_
  refine ix_bipush (v := 20) X (ix_tb_at tb_X12_init 83 rfl) (by decide) (pc1 := 176) rfl ?_
  obtain ⟨z_141, e_142, h⟩ := ix_lt_ex h
  obtain ⟨d_143, e_144, h⟩ := ix_lt_ex h
  refine iz_newa_int (pl := 98) X (by decide +kernel) (by decide) (by decide) (Nat.le_of_ble_eq_true rfl) (Nat.le_of_ble_eq_true rfl) (ix_tb_at tb_X12_init 84 rfl) e_142 e_144 (pc1 := 178) rfl ?_
  refine ix_widen (k1 := 21) (n1 := 30267) (Nat.le_of_ble_eq_true rfl) (Nat.le_of_ble_eq_true rfl) ?_
  obtain ⟨k_145, h⟩ := ix_ck_some h
  obtain ⟨z_146, e_147, h⟩ := ix_lt_ex h
  refine iz_putR (ty := .array .int) X fp_RX12_71 (fun _ => ⟨rfl, hnm⟩) k_145 (by decide +kernel) (by decide +kernel) (Or.inr ⟨_, rfl⟩) (ix_tb_at tb_X12_init 85 rfl) e_147 (pc1 := 181) rfl ?_
  refine ix_aload_n (i := 0) (j := 0) X (ix_tb_at tb_X12_init 86 rfl) rfl rfl (pc1 := 182) rfl ?_
  refine ix_sipush (v := 130) X (ix_tb_at tb_X12_init 87 rfl) (by decide) (pc1 := 185) rfl ?_
  obtain ⟨z_148, e_149, h⟩ := ix_lt_ex h
  obtain ⟨d_150, e_151, h⟩ := ix_lt_ex h
  refine iz_newa_int (pl := 98) X (by decide +kernel) (by decide) (by decide) (Nat.le_of_ble_eq_true rfl) (Nat.le_of_ble_eq_true rfl) (ix_tb_at tb_X12_init 88 rfl) e_149 e_151 (pc1 := 187) rfl ?_
  refine ix_widen (k1 := 22) (n1 := 30397) (Nat.le_of_ble_eq_true rfl) (Nat.le_of_ble_eq_true rfl) ?_
  obtain ⟨k_152, h⟩ := ix_ck_some h
  obtain ⟨z_153, e_154, h⟩ := ix_lt_ex h
  refine iz_putR (ty := .array .int) X fp_RX12_74 (fun _ => ⟨rfl, hnm⟩) k_152 (by decide +kernel) (by decide +kernel) (Or.inr ⟨_, rfl⟩) (ix_tb_at tb_X12_init 89 rfl) e_154 (pc1 := 190) rfl ?_
  refine ix_aload_n (i := 0) (j := 0) X (ix_tb_at tb_X12_init 90 rfl) rfl rfl (pc1 := 191) rfl ?_
  refine ix_sipush (v := 2600) X (ix_tb_at tb_X12_init 91 rfl) (by decide) (pc1 := 194) rfl ?_
  obtain ⟨z_155, e_156, h⟩ := ix_lt_ex h
  obtain ⟨d_157, e_158, h⟩ := ix_lt_ex h
  refine iz_newa_int (pl := 98) X (by decide +kernel) (by decide) (by decide) (Nat.le_of_ble_eq_true rfl) (Nat.le_of_ble_eq_true rfl) (ix_tb_at tb_X12_init 92 rfl) e_156 e_158 (pc1 := 196) rfl ?_
  refine ix_widen (k1 := 23) (n1 := 32997) (Nat.le_of_ble_eq_true rfl) (Nat.le_of_ble_eq_true rfl) ?_
  obtain ⟨k_159, h⟩ := ix_ck_some h
  obtain ⟨z_160, e_161, h⟩ := ix_lt_ex h
  refine iz_putR (ty := .array .int) X fp_RX12_77 (fun _ => ⟨rfl, hnm⟩) k_159 (by decide +kernel) (by decide +kernel) (Or.inr ⟨_, rfl⟩) (ix_tb_at tb_X12_init 93 rfl) e_161 (pc1 := 199) rfl ?_
  refine ix_aload_n (i := 0) (j := 0) X (ix_tb_at tb_X12_init 94 rfl) rfl rfl (pc1 := 200) rfl ?_
  refine ix_bipush (v := 12) X (ix_tb_at tb_X12_init 95 rfl) (by decide) (pc1 := 202) rfl ?_
  obtain ⟨z_162, e_163, h⟩ := ix_lt_ex h
  obtain ⟨d_164, e_165, h⟩ := ix_lt_ex h
  refine iz_newa_int (pl := 98) X (by decide +kernel) (by decide) (by decide) (Nat.le_of_ble_eq_true rfl) (Nat.le_of_ble_eq_true rfl) (ix_tb_at tb_X12_init 96 rfl) e_163 e_165 (pc1 := 204) rfl ?_
  refine ix_widen (k1 := 24) (n1 := 33009) (Nat.le_of_ble_eq_true rfl) (Nat.le_of_ble_eq_true rfl) ?_
  obtain ⟨k_166, h⟩ := ix_ck_some h
  obtain ⟨z_167, e_168, h⟩ := ix_lt_ex h
  refine iz_putR (ty := .array .int) X fp_RX12_80 (fun _ => ⟨rfl, hnm⟩) k_166 (by decide +kernel) (by decide +kernel) (Or.inr ⟨_, rfl⟩) (ix_tb_at tb_X12_init 97 rfl) e_168 (pc1 := 207) rfl ?_
  refine ix_aload_n (i := 0) (j := 0) X (ix_tb_at tb_X12_init 98 rfl) rfl rfl (pc1 := 208) rfl ?_
  refine ix_bipush (v := 40) X (ix_tb_at tb_X12_init 99 rfl) (by decide) (pc1 := 210) rfl ?_
  obtain ⟨z_169, e_170, h⟩ := ix_lt_ex h
  obtain ⟨d_171, e_172, h⟩ := ix_lt_ex h
  refine iz_newa_int (pl := 98) X (by decide +kernel) (by decide) (by decide) (Nat.le_of_ble_eq_true rfl) (Nat.le_of_ble_eq_true rfl) (ix_tb_at tb_X12_init 100 rfl) e_170 e_172 (pc1 := 212) rfl ?_
  refine ix_widen (k1 := 25) (n1 := 33049) (Nat.le_of_ble_eq_true rfl) (Nat.le_of_ble_eq_true rfl) ?_
  obtain ⟨k_173, h⟩ := ix_ck_some h
  obtain ⟨z_174, e_175, h⟩ := ix_lt_ex h
  refine iz_putR (ty := .array .int) X fp_RX12_83 (fun _ => ⟨rfl, hnm⟩) k_173 (by decide +kernel) (by decide +kernel) (Or.inr ⟨_, rfl⟩) (ix_tb_at tb_X12_init 101 rfl) e_175 (pc1 := 215) rfl ?_
  refine ix_aload_n (i := 0) (j := 0) X (ix_tb_at tb_X12_init 102 rfl) rfl rfl (pc1 := 216) rfl ?_
  refine ix_bipush (v := 40) X (ix_tb_at tb_X12_init 103 rfl) (by decide) (pc1 := 218) rfl ?_
  obtain ⟨z_176, e_177, h⟩ := ix_lt_ex h
  obtain ⟨d_178, e_179, h⟩ := ix_lt_ex h
  refine iz_newa_int (pl := 98) X (by decide +kernel) (by decide) (by decide) (Nat.le_of_ble_eq_true rfl) (Nat.le_of_ble_eq_true rfl) (ix_tb_at tb_X12_init 104 rfl) e_177 e_179 (pc1 := 220) rfl ?_
  refine ix_widen (k1 := 26) (n1 := 33089) (Nat.le_of_ble_eq_true rfl) (Nat.le_of_ble_eq_true rfl) ?_
  obtain ⟨k_180, h⟩ := ix_ck_some h
  obtain ⟨z_181, e_182, h⟩ := ix_lt_ex h
  refine iz_putR (ty := .array .int) X fp_RX12_86 (fun _ => ⟨rfl, hnm⟩) k_180 (by decide +kernel) (by decide +kernel) (Or.inr ⟨_, rfl⟩) (ix_tb_at tb_X12_init 105 rfl) e_182 (pc1 := 223) rfl ?_
  refine ix_aload_n (i := 0) (j := 0) X (ix_tb_at tb_X12_init 106 rfl) rfl rfl (pc1 := 224) rfl ?_
  refine ix_bipush (v := 14) X (ix_tb_at tb_X12_init 107 rfl) (by decide) (pc1 := 226) rfl ?_
  obtain ⟨z_183, e_184, h⟩ := ix_lt_ex h
  obtain ⟨d_185, e_186, h⟩ := ix_lt_ex h
  refine iz_newa_int (pl := 98) X (by decide +kernel) (by decide) (by decide) (Nat.le_of_ble_eq_true rfl) (Nat.le_of_ble_eq_true rfl) (ix_tb_at tb_X12_init 108 rfl) e_184 e_186 (pc1 := 228) rfl ?_
  refine ix_widen (k1 := 27) (n1 := 33103) (Nat.le_of_ble_eq_true rfl) (Nat.le_of_ble_eq_true rfl) ?_
  obtain ⟨k_187, h⟩ := ix_ck_some h
  obtain ⟨z_188, e_189, h⟩ := ix_lt_ex h
  refine iz_putR (ty := .array .int) X fp_RX12_89 (fun _ => ⟨rfl, hnm⟩) k_187 (by decide +kernel) (by decide +kernel) (Or.inr ⟨_, rfl⟩) (ix_tb_at tb_X12_init 109 rfl) e_189 (pc1 := 231) rfl ?_
  refine ix_aload_n (i := 0) (j := 0) X (ix_tb_at tb_X12_init 110 rfl) rfl rfl (pc1 := 232) rfl ?_
  refine ix_bipush (v := 14) X (ix_tb_at tb_X12_init 111 rfl) (by decide) (pc1 := 234) rfl ?_
  obtain ⟨z_190, e_191, h⟩ := ix_lt_ex h
  obtain ⟨d_192, e_193, h⟩ := ix_lt_ex h
  refine iz_newa_int (pl := 98) X (by decide +kernel) (by decide) (by decide) (Nat.le_of_ble_eq_true rfl) (Nat.le_of_ble_eq_true rfl) (ix_tb_at tb_X12_init 112 rfl) e_191 e_193 (pc1 := 236) rfl ?_
  refine ix_widen (k1 := 28) (n1 := 33117) (Nat.le_of_ble_eq_true rfl) (Nat.le_of_ble_eq_true rfl) ?_
  obtain ⟨k_194, h⟩ := ix_ck_some h
  obtain ⟨z_195, e_196, h⟩ := ix_lt_ex h
  refine iz_putR (ty := .array .int) X fp_RX12_92 (fun _ => ⟨rfl, hnm⟩) k_194 (by decide +kernel) (by decide +kernel) (Or.inr ⟨_, rfl⟩) (ix_tb_at tb_X12_init 113 rfl) e_196 (pc1 := 239) rfl ?_
  refine ix_aload_n (i := 0) (j := 0) X (ix_tb_at tb_X12_init 114 rfl) rfl rfl (pc1 := 240) rfl ?_
  refine ix_bipush (v := 60) X (ix_tb_at tb_X12_init 115 rfl) (by decide) (pc1 := 242) rfl ?_
  obtain ⟨z_197, e_198, h⟩ := ix_lt_ex h
  obtain ⟨d_199, e_200, h⟩ := ix_lt_ex h
  refine iz_newa_int (pl := 98) X (by decide +kernel) (by decide) (by decide) (Nat.le_of_ble_eq_true rfl) (Nat.le_of_ble_eq_true rfl) (ix_tb_at tb_X12_init 116 rfl) e_198 e_200 (pc1 := 244) rfl ?_
  refine ix_widen (k1 := 29) (n1 := 33177) (Nat.le_of_ble_eq_true rfl) (Nat.le_of_ble_eq_true rfl) ?_
  obtain ⟨k_201, h⟩ := ix_ck_some h
  obtain ⟨z_202, e_203, h⟩ := ix_lt_ex h
  refine iz_putR (ty := .array .int) X fp_RX12_95 (fun _ => ⟨rfl, hnm⟩) k_201 (by decide +kernel) (by decide +kernel) (Or.inr ⟨_, rfl⟩) (ix_tb_at tb_X12_init 117 rfl) e_203 (pc1 := 247) rfl ?_
  refine ix_aload_n (i := 0) (j := 0) X (ix_tb_at tb_X12_init 118 rfl) rfl rfl (pc1 := 248) rfl ?_
  refine ix_bipush (v := 60) X (ix_tb_at tb_X12_init 119 rfl) (by decide) (pc1 := 250) rfl ?_
  obtain ⟨z_204, e_205, h⟩ := ix_lt_ex h
  obtain ⟨d_206, e_207, h⟩ := ix_lt_ex h
  refine iz_newa_int (pl := 98) X (by decide +kernel) (by decide) (by decide) (Nat.le_of_ble_eq_true rfl) (Nat.le_of_ble_eq_true rfl) (ix_tb_at tb_X12_init 120 rfl) e_205 e_207 (pc1 := 252) rfl ?_
  refine ix_widen (k1 := 30) (n1 := 33237) (Nat.le_of_ble_eq_true rfl) (Nat.le_of_ble_eq_true rfl) ?_
  obtain ⟨k_208, h⟩ := ix_ck_some h
  obtain ⟨z_209, e_210, h⟩ := ix_lt_ex h
  refine iz_putR (ty := .array .int) X fp_RX12_98 (fun _ => ⟨rfl, hnm⟩) k_208 (by decide +kernel) (by decide +kernel) (Or.inr ⟨_, rfl⟩) (ix_tb_at tb_X12_init 121 rfl) e_210 (pc1 := 255) rfl ?_
  refine ix_aload_n (i := 0) (j := 0) X (ix_tb_at tb_X12_init 122 rfl) rfl rfl (pc1 := 256) rfl ?_
  refine ix_bipush (v := 60) X (ix_tb_at tb_X12_init 123 rfl) (by decide) (pc1 := 258) rfl ?_
  obtain ⟨z_211, e_212, h⟩ := ix_lt_ex h
  obtain ⟨d_213, e_214, h⟩ := ix_lt_ex h
  refine iz_newa_int (pl := 98) X (by decide +kernel) (by decide) (by decide) (Nat.le_of_ble_eq_true rfl) (Nat.le_of_ble_eq_true rfl) (ix_tb_at tb_X12_init 124 rfl) e_212 e_214 (pc1 := 260) rfl ?_
  refine ix_widen (k1 := 31) (n1 := 33297) (Nat.le_of_ble_eq_true rfl) (Nat.le_of_ble_eq_true rfl) ?_
  obtain ⟨k_215, h⟩ := ix_ck_some h
  obtain ⟨z_216, e_217, h⟩ := ix_lt_ex h
  refine iz_putR (ty := .array .int) X fp_RX12_101 (fun _ => ⟨rfl, hnm⟩) k_215 (by decide +kernel) (by decide +kernel) (Or.inr ⟨_, rfl⟩) (ix_tb_at tb_X12_init 125 rfl) e_217 (pc1 := 263) rfl ?_
  refine ix_aload_n (i := 0) (j := 0) X (ix_tb_at tb_X12_init 126 rfl) rfl rfl (pc1 := 264) rfl ?_
  refine ix_bipush (v := 60) X (ix_tb_at tb_X12_init 127 rfl) (by decide) (pc1 := 266) rfl ?_
  obtain ⟨z_218, e_219, h⟩ := ix_lt_ex h
  obtain ⟨d_220, e_221, h⟩ := ix_lt_ex h
  refine iz_newa_int (pl := 98) X (by decide +kernel) (by decide) (by decide) (Nat.le_of_ble_eq_true rfl) (Nat.le_of_ble_eq_true rfl) (ix_tb_at tb_X12_init 128 rfl) e_219 e_221 (pc1 := 268) rfl ?_
  refine ix_widen (k1 := 32) (n1 := 33357) (Nat.le_of_ble_eq_true rfl) (Nat.le_of_ble_eq_true rfl) ?_
  obtain ⟨k_222, h⟩ := ix_ck_some h
  obtain ⟨z_223, e_224, h⟩ := ix_lt_ex h
  refine iz_putR (ty := .array .int) X fp_RX12_104 (fun _ => ⟨rfl, hnm⟩) k_222 (by decide +kernel) (by decide +kernel) (Or.inr ⟨_, rfl⟩) (ix_tb_at tb_X12_init 129 rfl) e_224 (pc1 := 271) rfl ?_
  refine ix_aload_n (i := 0) (j := 0) X (ix_tb_at tb_X12_init 130 rfl) rfl rfl (pc1 := 272) rfl ?_
  refine ix_bipush (v := 60) X (ix_tb_at tb_X12_init 131 rfl) (by decide) (pc1 := 274) rfl ?_
  obtain ⟨z_225, e_226, h⟩ := ix_lt_ex h
  obtain ⟨d_227, e_228, h⟩ := ix_lt_ex h
  refine iz_newa_boolean (pl := 183) X (by decide +kernel) (by decide) (by decide) (Nat.le_of_ble_eq_true rfl) (Nat.le_of_ble_eq_true rfl) (ix_tb_at tb_X12_init 132 rfl) e_226 e_228 (pc1 := 276) rfl ?_
  refine ix_widen (k1 := 33) (n1 := 33417) (Nat.le_of_ble_eq_true rfl) (Nat.le_of_ble_eq_true rfl) ?_
  obtain ⟨k_229, h⟩ := ix_ck_some h
  obtain ⟨z_230, e_231, h⟩ := ix_lt_ex h
  refine iz_putR (ty := .array .boolean) X fp_RX12_107 (fun _ => ⟨rfl, hnm⟩) k_229 (by decide +kernel) (by decide +kernel) (Or.inr ⟨_, rfl⟩) (ix_tb_at tb_X12_init 133 rfl) e_231 (pc1 := 279) rfl ?_
  refine ix_aload_n (i := 0) (j := 0) X (ix_tb_at tb_X12_init 134 rfl) rfl rfl (pc1 := 280) rfl ?_
  refine ix_bipush (v := 26) X (ix_tb_at tb_X12_init 135 rfl) (by decide) (pc1 := 282) rfl ?_
  obtain ⟨z_232, e_233, h⟩ := ix_lt_ex h
  obtain ⟨d_234, e_235, h⟩ := ix_lt_ex h
  refine iz_newa_int (pl := 98) X (by decide +kernel) (by decide) (by decide) (Nat.le_of_ble_eq_true rfl) (Nat.le_of_ble_eq_true rfl) (ix_tb_at tb_X12_init 136 rfl) e_233 e_235 (pc1 := 284) rfl ?_
  refine ix_widen (k1 := 34) (n1 := 33443) (Nat.le_of_ble_eq_true rfl) (Nat.le_of_ble_eq_true rfl) ?_
  refine ix_dup X (ix_tb_at tb_X12_init 137 rfl) rfl (pc1 := 285) rfl ?_
  refine ix_iconst (v := 0) X (ix_tb_at tb_X12_init 138 rfl) (by decide) (pc1 := 286) rfl ?_
  refine ix_bipush (v := 115) X (ix_tb_at tb_X12_init 139 rfl) (by decide) (pc1 := 288) rfl ?_
  obtain ⟨k_236, h⟩ := ix_ck_some h
  obtain ⟨d_237, e_238, h⟩ := ix_lt_ex h
  refine iz_iast X k_236 (ix_tb_at tb_X12_init 140 rfl) e_238 (pc1 := 289) rfl ?_
  refine ix_dup X (ix_tb_at tb_X12_init 141 rfl) rfl (pc1 := 290) rfl ?_
  refine ix_iconst (v := 1) X (ix_tb_at tb_X12_init 142 rfl) (by decide) (pc1 := 291) rfl ?_
  refine ix_bipush (v := 111) X (ix_tb_at tb_X12_init 143 rfl) (by decide) (pc1 := 293) rfl ?_
  obtain ⟨k_239, h⟩ := ix_ck_some h
  obtain ⟨d_240, e_241, h⟩ := ix_lt_ex h
  refine iz_iast X k_239 (ix_tb_at tb_X12_init 144 rfl) e_241 (pc1 := 294) rfl ?_
  refine ix_dup X (ix_tb_at tb_X12_init 145 rfl) rfl (pc1 := 295) rfl ?_
  refine ix_iconst (v := 2) X (ix_tb_at tb_X12_init 146 rfl) (by decide) (pc1 := 296) rfl ?_
  refine ix_bipush (v := 109) X (ix_tb_at tb_X12_init 147 rfl) (by decide) (pc1 := 298) rfl ?_
  obtain ⟨k_242, h⟩ := ix_ck_some h
  obtain ⟨d_243, e_244, h⟩ := ix_lt_ex h
  refine iz_iast X k_242 (ix_tb_at tb_X12_init 148 rfl) e_244 (pc1 := 299) rfl ?_
  refine ix_dup X (ix_tb_at tb_X12_init 149 rfl) rfl (pc1 := 300) rfl ?_
  refine ix_iconst (v := 3) X (ix_tb_at tb_X12_init 150 rfl) (by decide) (pc1 := 301) rfl ?_
  refine ix_bipush (v := 101) X (ix_tb_at tb_X12_init 151 rfl) (by decide) (pc1 := 303) rfl ?_
  obtain ⟨k_245, h⟩ := ix_ck_some h
  obtain ⟨d_246, e_247, h⟩ := ix_lt_ex h
  refine iz_iast X k_245 (ix_tb_at tb_X12_init 152 rfl) e_247 (pc1 := 304) rfl ?_
  refine ix_dup X (ix_tb_at tb_X12_init 153 rfl) rfl (pc1 := 305) rfl ?_
  refine ix_iconst (v := 4) X (ix_tb_at tb_X12_init 154 rfl) (by decide) (pc1 := 306) rfl ?_
  refine ix_iconst (v := 0) X (ix_tb_at tb_X12_init 155 rfl) (by decide) (pc1 := 307) rfl ?_
  obtain ⟨k_248, h⟩ := ix_ck_some h
  obtain ⟨d_249, e_250, h⟩ := ix_lt_ex h
  refine iz_iast X k_248 (ix_tb_at tb_X12_init 156 rfl) e_250 (pc1 := 308) rfl ?_
  refine ix_dup X (ix_tb_at tb_X12_init 157 rfl) rfl (pc1 := 309) rfl ?_
  refine ix_iconst (v := 5) X (ix_tb_at tb_X12_init 158 rfl) (by decide) (pc1 := 310) rfl ?_
  refine ix_bipush (v := 109) X (ix_tb_at tb_X12_init 159 rfl) (by decide) (pc1 := 312) rfl ?_
  obtain ⟨k_251, h⟩ := ix_ck_some h
  obtain ⟨d_252, e_253, h⟩ := ix_lt_ex h
  refine iz_iast X k_251 (ix_tb_at tb_X12_init 160 rfl) e_253 (pc1 := 313) rfl ?_
  refine ix_dup X (ix_tb_at tb_X12_init 161 rfl) rfl (pc1 := 314) rfl ?_
  refine ix_bipush (v := 6) X (ix_tb_at tb_X12_init 162 rfl) (by decide) (pc1 := 316) rfl ?_
  refine ix_bipush (v := 111) X (ix_tb_at tb_X12_init 163 rfl) (by decide) (pc1 := 318) rfl ?_
  obtain ⟨k_254, h⟩ := ix_ck_some h
  obtain ⟨d_255, e_256, h⟩ := ix_lt_ex h
  refine iz_iast X k_254 (ix_tb_at tb_X12_init 164 rfl) e_256 (pc1 := 319) rfl ?_
  refine ix_dup X (ix_tb_at tb_X12_init 165 rfl) rfl (pc1 := 320) rfl ?_
  refine ix_bipush (v := 7) X (ix_tb_at tb_X12_init 166 rfl) (by decide) (pc1 := 322) rfl ?_
  refine ix_bipush (v := 115) X (ix_tb_at tb_X12_init 167 rfl) (by decide) (pc1 := 324) rfl ?_
  obtain ⟨k_257, h⟩ := ix_ck_some h
  obtain ⟨d_258, e_259, h⟩ := ix_lt_ex h
  refine iz_iast X k_257 (ix_tb_at tb_X12_init 168 rfl) e_259 (pc1 := 325) rfl ?_
  refine ix_dup X (ix_tb_at tb_X12_init 169 rfl) rfl (pc1 := 326) rfl ?_
  refine ix_bipush (v := 8) X (ix_tb_at tb_X12_init 170 rfl) (by decide) (pc1 := 328) rfl ?_
  refine ix_bipush (v := 116) X (ix_tb_at tb_X12_init 171 rfl) (by decide) (pc1 := 330) rfl ?_
  obtain ⟨k_260, h⟩ := ix_ck_some h
  obtain ⟨d_261, e_262, h⟩ := ix_lt_ex h
  refine iz_iast X k_260 (ix_tb_at tb_X12_init 172 rfl) e_262 (pc1 := 331) rfl ?_
  refine ix_dup X (ix_tb_at tb_X12_init 173 rfl) rfl (pc1 := 332) rfl ?_
  refine ix_bipush (v := 9) X (ix_tb_at tb_X12_init 174 rfl) (by decide) (pc1 := 334) rfl ?_
  refine ix_bipush (v := 32) X (ix_tb_at tb_X12_init 175 rfl) (by decide) (pc1 := 336) rfl ?_
  obtain ⟨k_263, h⟩ := ix_ck_some h
  obtain ⟨d_264, e_265, h⟩ := ix_lt_ex h
  refine iz_iast X k_263 (ix_tb_at tb_X12_init 176 rfl) e_265 (pc1 := 337) rfl ?_
  refine ix_dup X (ix_tb_at tb_X12_init 177 rfl) rfl (pc1 := 338) rfl ?_
  refine ix_bipush (v := 10) X (ix_tb_at tb_X12_init 178 rfl) (by decide) (pc1 := 340) rfl ?_
  refine ix_iconst (v := 0) X (ix_tb_at tb_X12_init 179 rfl) (by decide) (pc1 := 341) rfl ?_
  obtain ⟨k_266, h⟩ := ix_ck_some h
  obtain ⟨d_267, e_268, h⟩ := ix_lt_ex h
  refine iz_iast X k_266 (ix_tb_at tb_X12_init 180 rfl) e_268 (pc1 := 342) rfl ?_
  refine ix_dup X (ix_tb_at tb_X12_init 181 rfl) rfl (pc1 := 343) rfl ?_
  refine ix_bipush (v := 11) X (ix_tb_at tb_X12_init 182 rfl) (by decide) (pc1 := 345) rfl ?_
  refine ix_bipush (v := 106) X (ix_tb_at tb_X12_init 183 rfl) (by decide) (pc1 := 347) rfl ?_
  obtain ⟨k_269, h⟩ := ix_ck_some h
  obtain ⟨d_270, e_271, h⟩ := ix_lt_ex h
  refine iz_iast X k_269 (ix_tb_at tb_X12_init 184 rfl) e_271 (pc1 := 348) rfl ?_
  refine ix_dup X (ix_tb_at tb_X12_init 185 rfl) rfl (pc1 := 349) rfl ?_
  refine ix_bipush (v := 12) X (ix_tb_at tb_X12_init 186 rfl) (by decide) (pc1 := 351) rfl ?_
  refine ix_bipush (v := 117) X (ix_tb_at tb_X12_init 187 rfl) (by decide) (pc1 := 353) rfl ?_
  obtain ⟨k_272, h⟩ := ix_ck_some h
  obtain ⟨d_273, e_274, h⟩ := ix_lt_ex h
  refine iz_iast X k_272 (ix_tb_at tb_X12_init 188 rfl) e_274 (pc1 := 354) rfl ?_
  refine ix_dup X (ix_tb_at tb_X12_init 189 rfl) rfl (pc1 := 355) rfl ?_
  refine ix_bipush (v := 13) X (ix_tb_at tb_X12_init 190 rfl) (by decide) (pc1 := 357) rfl ?_
  refine ix_bipush (v := 115) X (ix_tb_at tb_X12_init 191 rfl) (by decide) (pc1 := 359) rfl ?_
  obtain ⟨k_275, h⟩ := ix_ck_some h
  obtain ⟨d_276, e_277, h⟩ := ix_lt_ex h
  refine iz_iast X k_275 (ix_tb_at tb_X12_init 192 rfl) e_277 (pc1 := 360) rfl ?_
  refine ix_dup X (ix_tb_at tb_X12_init 193 rfl) rfl (pc1 := 361) rfl ?_
  refine ix_bipush (v := 14) X (ix_tb_at tb_X12_init 194 rfl) (by decide) (pc1 := 363) rfl ?_
  refine ix_bipush (v := 116) X (ix_tb_at tb_X12_init 195 rfl) (by decide) (pc1 := 365) rfl ?_
  obtain ⟨k_278, h⟩ := ix_ck_some h
  obtain ⟨d_279, e_280, h⟩ := ix_lt_ex h
  refine iz_iast X k_278 (ix_tb_at tb_X12_init 196 rfl) e_280 (pc1 := 366) rfl ?_
  refine ix_dup X (ix_tb_at tb_X12_init 197 rfl) rfl (pc1 := 367) rfl ?_
  refine ix_bipush (v := 15) X (ix_tb_at tb_X12_init 198 rfl) (by decide) (pc1 := 369) rfl ?_
  refine ix_bipush (v := 32) X (ix_tb_at tb_X12_init 199 rfl) (by decide) (pc1 := 371) rfl ?_
  obtain ⟨k_281, h⟩ := ix_ck_some h
  obtain ⟨d_282, e_283, h⟩ := ix_lt_ex h
  refine iz_iast X k_281 (ix_tb_at tb_X12_init 200 rfl) e_283 (pc1 := 372) rfl ?_
  refine ix_dup X (ix_tb_at tb_X12_init 201 rfl) rfl (pc1 := 373) rfl ?_
  refine ix_bipush (v := 16) X (ix_tb_at tb_X12_init 202 rfl) (by decide) (pc1 := 375) rfl ?_
  refine ix_iconst (v := 0) X (ix_tb_at tb_X12_init 203 rfl) (by decide) (pc1 := 376) rfl ?_
  obtain ⟨k_284, h⟩ := ix_ck_some h
  obtain ⟨d_285, e_286, h⟩ := ix_lt_ex h
  refine iz_iast X k_284 (ix_tb_at tb_X12_init 204 rfl) e_286 (pc1 := 377) rfl ?_
  refine ix_dup X (ix_tb_at tb_X12_init 205 rfl) rfl (pc1 := 378) rfl ?_
  refine ix_bipush (v := 17) X (ix_tb_at tb_X12_init 206 rfl) (by decide) (pc1 := 380) rfl ?_
  refine ix_bipush (v := 111) X (ix_tb_at tb_X12_init 207 rfl) (by decide) (pc1 := 382) rfl ?_
  obtain ⟨k_287, h⟩ := ix_ck_some h
  obtain ⟨d_288, e_289, h⟩ := ix_lt_ex h
  refine iz_iast X k_287 (ix_tb_at tb_X12_init 208 rfl) e_289 (pc1 := 383) rfl ?_
  refine ix_dup X (ix_tb_at tb_X12_init 209 rfl) rfl (pc1 := 384) rfl ?_
  refine ix_bipush (v := 18) X (ix_tb_at tb_X12_init 210 rfl) (by decide) (pc1 := 386) rfl ?_
  refine ix_bipush (v := 100) X (ix_tb_at tb_X12_init 211 rfl) (by decide) (pc1 := 388) rfl ?_
  obtain ⟨k_290, h⟩ := ix_ck_some h
  obtain ⟨d_291, e_292, h⟩ := ix_lt_ex h
  refine iz_iast X k_290 (ix_tb_at tb_X12_init 212 rfl) e_292 (pc1 := 389) rfl ?_
  refine ix_dup X (ix_tb_at tb_X12_init 213 rfl) rfl (pc1 := 390) rfl ?_
  refine ix_bipush (v := 19) X (ix_tb_at tb_X12_init 214 rfl) (by decide) (pc1 := 392) rfl ?_
  refine ix_bipush (v := 100) X (ix_tb_at tb_X12_init 215 rfl) (by decide) (pc1 := 394) rfl ?_
  obtain ⟨k_293, h⟩ := ix_ck_some h
  obtain ⟨d_294, e_295, h⟩ := ix_lt_ex h
  refine iz_iast X k_293 (ix_tb_at tb_X12_init 216 rfl) e_295 (pc1 := 395) rfl ?_
  refine ix_dup X (ix_tb_at tb_X12_init 217 rfl) rfl (pc1 := 396) rfl ?_
  refine ix_bipush (v := 20) X (ix_tb_at tb_X12_init 218 rfl) (by decide) (pc1 := 398) rfl ?_
  refine ix_iconst (v := 0) X (ix_tb_at tb_X12_init 219 rfl) (by decide) (pc1 := 399) rfl ?_
  obtain ⟨k_296, h⟩ := ix_ck_some h
  obtain ⟨d_297, e_298, h⟩ := ix_lt_ex h
  refine iz_iast X k_296 (ix_tb_at tb_X12_init 220 rfl) e_298 (pc1 := 400) rfl ?_
  refine ix_dup X (ix_tb_at tb_X12_init 221 rfl) rfl (pc1 := 401) rfl ?_
  refine ix_bipush (v := 21) X (ix_tb_at tb_X12_init 222 rfl) (by decide) (pc1 := 403) rfl ?_
  refine ix_bipush (v := 101) X (ix_tb_at tb_X12_init 223 rfl) (by decide) (pc1 := 405) rfl ?_
  obtain ⟨k_299, h⟩ := ix_ck_some h
  obtain ⟨d_300, e_301, h⟩ := ix_lt_ex h
  refine iz_iast X k_299 (ix_tb_at tb_X12_init 224 rfl) e_301 (pc1 := 406) rfl ?_
  refine ix_dup X (ix_tb_at tb_X12_init 225 rfl) rfl (pc1 := 407) rfl ?_
  refine ix_bipush (v := 22) X (ix_tb_at tb_X12_init 226 rfl) (by decide) (pc1 := 409) rfl ?_
  refine ix_bipush (v := 118) X (ix_tb_at tb_X12_init 227 rfl) (by decide) (pc1 := 411) rfl ?_
  obtain ⟨k_302, h⟩ := ix_ck_some h
  obtain ⟨d_303, e_304, h⟩ := ix_lt_ex h
  refine iz_iast X k_302 (ix_tb_at tb_X12_init 228 rfl) e_304 (pc1 := 412) rfl ?_
  refine ix_dup X (ix_tb_at tb_X12_init 229 rfl) rfl (pc1 := 413) rfl ?_
  refine ix_bipush (v := 23) X (ix_tb_at tb_X12_init 230 rfl) (by decide) (pc1 := 415) rfl ?_
  refine ix_bipush (v := 101) X (ix_tb_at tb_X12_init 231 rfl) (by decide) (pc1 := 417) rfl ?_
  obtain ⟨k_305, h⟩ := ix_ck_some h
  obtain ⟨d_306, e_307, h⟩ := ix_lt_ex h
  refine iz_iast X k_305 (ix_tb_at tb_X12_init 232 rfl) e_307 (pc1 := 418) rfl ?_
  refine ix_dup X (ix_tb_at tb_X12_init 233 rfl) rfl (pc1 := 419) rfl ?_
  refine ix_bipush (v := 24) X (ix_tb_at tb_X12_init 234 rfl) (by decide) (pc1 := 421) rfl ?_
  refine ix_bipush (v := 110) X (ix_tb_at tb_X12_init 235 rfl) (by decide) (pc1 := 423) rfl ?_
  obtain ⟨k_308, h⟩ := ix_ck_some h
  obtain ⟨d_309, e_310, h⟩ := ix_lt_ex h
  refine iz_iast X k_308 (ix_tb_at tb_X12_init 236 rfl) e_310 (pc1 := 424) rfl ?_
  refine ix_dup X (ix_tb_at tb_X12_init 237 rfl) rfl (pc1 := 425) rfl ?_
  refine ix_bipush (v := 25) X (ix_tb_at tb_X12_init 238 rfl) (by decide) (pc1 := 427) rfl ?_
  refine ix_iconst (v := 0) X (ix_tb_at tb_X12_init 239 rfl) (by decide) (pc1 := 428) rfl ?_
  obtain ⟨k_311, h⟩ := ix_ck_some h
  obtain ⟨d_312, e_313, h⟩ := ix_lt_ex h
  refine iz_iast X k_311 (ix_tb_at tb_X12_init 240 rfl) e_313 (pc1 := 429) rfl ?_
  obtain ⟨k_314, h⟩ := ix_ck_some h
  obtain ⟨z_315, e_316, h⟩ := ix_lt_ex h
  refine iz_putR (ty := .array .int) X fp_RX12_110 (fun _ => ⟨rfl, hnm⟩) k_314 (by decide +kernel) (by decide +kernel) (Or.inr ⟨_, rfl⟩) (ix_tb_at tb_X12_init 241 rfl) e_316 (pc1 := 432) rfl ?_
  refine ix_aload_n (i := 0) (j := 0) X (ix_tb_at tb_X12_init 242 rfl) rfl rfl (pc1 := 433) rfl ?_
  refine ix_sipush (v := 301) X (ix_tb_at tb_X12_init 243 rfl) (by decide) (pc1 := 436) rfl ?_
  obtain ⟨z_317, e_318, h⟩ := ix_lt_ex h
  obtain ⟨d_319, e_320, h⟩ := ix_lt_ex h
  refine iz_newa_int (pl := 98) X (by decide +kernel) (by decide) (by decide) (Nat.le_of_ble_eq_true rfl) (Nat.le_of_ble_eq_true rfl) (ix_tb_at tb_X12_init 244 rfl) e_318 e_320 (pc1 := 438) rfl ?_
  refine ix_widen (k1 := 35) (n1 := 33744) (Nat.le_of_ble_eq_true rfl) (Nat.le_of_ble_eq_true rfl) ?_
  obtain ⟨k_321, h⟩ := ix_ck_some h
  obtain ⟨z_322, e_323, h⟩ := ix_lt_ex h
  refine iz_putR (ty := .array .int) X fp_RX12_113 (fun _ => ⟨rfl, hnm⟩) k_321 (by decide +kernel) (by decide +kernel) (Or.inr ⟨_, rfl⟩) (ix_tb_at tb_X12_init 245 rfl) e_323 (pc1 := 441) rfl ?_
  refine ix_aload_n (i := 0) (j := 0) X (ix_tb_at tb_X12_init 246 rfl) rfl rfl (pc1 := 442) rfl ?_
  refine ix_iconst (v := 2) X (ix_tb_at tb_X12_init 247 rfl) (by decide) (pc1 := 443) rfl ?_
  obtain ⟨z_324, e_325, h⟩ := ix_lt_ex h
  obtain ⟨d_326, e_327, h⟩ := ix_lt_ex h
  refine iz_newa_int (pl := 98) X (by decide +kernel) (by decide) (by decide) (Nat.le_of_ble_eq_true rfl) (Nat.le_of_ble_eq_true rfl) (ix_tb_at tb_X12_init 248 rfl) e_325 e_327 (pc1 := 445) rfl ?_
  refine ix_widen (k1 := 36) (n1 := 33746) (Nat.le_of_ble_eq_true rfl) (Nat.le_of_ble_eq_true rfl) ?_
  obtain ⟨k_328, h⟩ := ix_ck_some h
  obtain ⟨z_329, e_330, h⟩ := ix_lt_ex h
  refine iz_putR (ty := .array .int) X fp_RX12_116 (fun _ => ⟨rfl, hnm⟩) k_328 (by decide +kernel) (by decide +kernel) (Or.inr ⟨_, rfl⟩) (ix_tb_at tb_X12_init 249 rfl) e_330 (pc1 := 448) rfl ?_
  refine ix_aload_n (i := 0) (j := 0) X (ix_tb_at tb_X12_init 250 rfl) rfl rfl (pc1 := 449) rfl ?_
  refine ix_iconst (v := 2) X (ix_tb_at tb_X12_init 251 rfl) (by decide) (pc1 := 450) rfl ?_
  obtain ⟨z_331, e_332, h⟩ := ix_lt_ex h
  obtain ⟨d_333, e_334, h⟩ := ix_lt_ex h
  refine iz_newa_int (pl := 98) X (by decide +kernel) (by decide) (by decide) (Nat.le_of_ble_eq_true rfl) (Nat.le_of_ble_eq_true rfl) (ix_tb_at tb_X12_init 252 rfl) e_332 e_334 (pc1 := 452) rfl ?_
  refine ix_widen (k1 := 37) (n1 := 33748) (Nat.le_of_ble_eq_true rfl) (Nat.le_of_ble_eq_true rfl) ?_
  obtain ⟨k_335, h⟩ := ix_ck_some h
  obtain ⟨z_336, e_337, h⟩ := ix_lt_ex h
  refine iz_putR (ty := .array .int) X fp_RX12_119 (fun _ => ⟨rfl, hnm⟩) k_335 (by decide +kernel) (by decide +kernel) (Or.inr ⟨_, rfl⟩) (ix_tb_at tb_X12_init 253 rfl) e_337 (pc1 := 455) rfl ?_
  refine ix_aload_n (i := 0) (j := 0) X (ix_tb_at tb_X12_init 254 rfl) rfl rfl (pc1 := 456) rfl ?_
  refine ix_sipush (v := 1000) X (ix_tb_at tb_X12_init 255 rfl) (by decide) (pc1 := 459) rfl ?_
  obtain ⟨z_338, e_339, h⟩ := ix_lt_ex h
  obtain ⟨d_340, e_341, h⟩ := ix_lt_ex h
  refine iz_newa_boolean (pl := 183) X (by decide +kernel) (by decide) (by decide) (Nat.le_of_ble_eq_true rfl) (Nat.le_of_ble_eq_true rfl) (ix_tb_at tb_X12_init 256 rfl) e_339 e_341 (pc1 := 461) rfl ?_
  refine ix_widen (k1 := 38) (n1 := 34748) (Nat.le_of_ble_eq_true rfl) (Nat.le_of_ble_eq_true rfl) ?_
  obtain ⟨k_342, h⟩ := ix_ck_some h
  obtain ⟨z_343, e_344, h⟩ := ix_lt_ex h
  refine iz_putR (ty := .array .boolean) X fp_RX12_122 (fun _ => ⟨rfl, hnm⟩) k_342 (by decide +kernel) (by decide +kernel) (Or.inr ⟨_, rfl⟩) (ix_tb_at tb_X12_init 257 rfl) e_344 (pc1 := 464) rfl ?_
  refine ix_aload_n (i := 0) (j := 0) X (ix_tb_at tb_X12_init 258 rfl) rfl rfl (pc1 := 465) rfl ?_
  refine ix_bipush (v := 40) X (ix_tb_at tb_X12_init 259 rfl) (by decide) (pc1 := 467) rfl ?_
  obtain ⟨z_345, e_346, h⟩ := ix_lt_ex h
  obtain ⟨d_347, e_348, h⟩ := ix_lt_ex h
  refine iz_newa_int (pl := 98) X (by decide +kernel) (by decide) (by decide) (Nat.le_of_ble_eq_true rfl) (Nat.le_of_ble_eq_true rfl) (ix_tb_at tb_X12_init 260 rfl) e_346 e_348 (pc1 := 469) rfl ?_
  refine ix_widen (k1 := 39) (n1 := 34788) (Nat.le_of_ble_eq_true rfl) (Nat.le_of_ble_eq_true rfl) ?_
  obtain ⟨k_349, h⟩ := ix_ck_some h
  obtain ⟨z_350, e_351, h⟩ := ix_lt_ex h
  refine iz_putR (ty := .array .int) X fp_RX12_125 (fun _ => ⟨rfl, hnm⟩) k_349 (by decide +kernel) (by decide +kernel) (Or.inr ⟨_, rfl⟩) (ix_tb_at tb_X12_init 261 rfl) e_351 (pc1 := 472) rfl ?_
  refine ix_aload_n (i := 0) (j := 0) X (ix_tb_at tb_X12_init 262 rfl) rfl rfl (pc1 := 473) rfl ?_
  refine ix_iconst (v := 2) X (ix_tb_at tb_X12_init 263 rfl) (by decide) (pc1 := 474) rfl ?_
  obtain ⟨z_352, e_353, h⟩ := ix_lt_ex h
  obtain ⟨d_354, e_355, h⟩ := ix_lt_ex h
  refine iz_newa_int (pl := 98) X (by decide +kernel) (by decide) (by decide) (Nat.le_of_ble_eq_true rfl) (Nat.le_of_ble_eq_true rfl) (ix_tb_at tb_X12_init 264 rfl) e_353 e_355 (pc1 := 476) rfl ?_
  refine ix_widen (k1 := 40) (n1 := 34790) (Nat.le_of_ble_eq_true rfl) (Nat.le_of_ble_eq_true rfl) ?_
  obtain ⟨k_356, h⟩ := ix_ck_some h
  obtain ⟨z_357, e_358, h⟩ := ix_lt_ex h
  refine iz_putR (ty := .array .int) X fp_RX12_128 (fun _ => ⟨rfl, hnm⟩) k_356 (by decide +kernel) (by decide +kernel) (Or.inr ⟨_, rfl⟩) (ix_tb_at tb_X12_init 265 rfl) e_358 (pc1 := 479) rfl ?_
  refine ix_aload_n (i := 0) (j := 0) X (ix_tb_at tb_X12_init 266 rfl) rfl rfl (pc1 := 480) rfl ?_
  refine ix_iconst (v := 2) X (ix_tb_at tb_X12_init 267 rfl) (by decide) (pc1 := 481) rfl ?_
  obtain ⟨z_359, e_360, h⟩ := ix_lt_ex h
  obtain ⟨d_361, e_362, h⟩ := ix_lt_ex h
  refine iz_newa_int (pl := 98) X (by decide +kernel) (by decide) (by decide) (Nat.le_of_ble_eq_true rfl) (Nat.le_of_ble_eq_true rfl) (ix_tb_at tb_X12_init 268 rfl) e_360 e_362 (pc1 := 483) rfl ?_
  refine ix_widen (k1 := 41) (n1 := 34792) (Nat.le_of_ble_eq_true rfl) (Nat.le_of_ble_eq_true rfl) ?_
  obtain ⟨k_363, h⟩ := ix_ck_some h
  obtain ⟨z_364, e_365, h⟩ := ix_lt_ex h
  refine iz_putR (ty := .array .int) X fp_RX12_131 (fun _ => ⟨rfl, hnm⟩) k_363 (by decide +kernel) (by decide +kernel) (Or.inr ⟨_, rfl⟩) (ix_tb_at tb_X12_init 269 rfl) e_365 (pc1 := 486) rfl ?_
  refine ix_aload_n (i := 0) (j := 0) X (ix_tb_at tb_X12_init 270 rfl) rfl rfl (pc1 := 487) rfl ?_
  refine ix_sipush (v := 602) X (ix_tb_at tb_X12_init 271 rfl) (by decide) (pc1 := 490) rfl ?_
  obtain ⟨z_366, e_367, h⟩ := ix_lt_ex h
  obtain ⟨d_368, e_369, h⟩ := ix_lt_ex h
  refine iz_newa_int (pl := 98) X (by decide +kernel) (by decide) (by decide) (Nat.le_of_ble_eq_true rfl) (Nat.le_of_ble_eq_true rfl) (ix_tb_at tb_X12_init 272 rfl) e_367 e_369 (pc1 := 492) rfl ?_
  refine ix_widen (k1 := 42) (n1 := 35394) (Nat.le_of_ble_eq_true rfl) (Nat.le_of_ble_eq_true rfl) ?_
  obtain ⟨k_370, h⟩ := ix_ck_some h
  obtain ⟨z_371, e_372, h⟩ := ix_lt_ex h
  refine iz_putR (ty := .array .int) X fp_RX12_134 (fun _ => ⟨rfl, hnm⟩) k_370 (by decide +kernel) (by decide +kernel) (Or.inr ⟨_, rfl⟩) (ix_tb_at tb_X12_init 273 rfl) e_372 (pc1 := 495) rfl ?_
  refine ix_aload_n (i := 0) (j := 0) X (ix_tb_at tb_X12_init 274 rfl) rfl rfl (pc1 := 496) rfl ?_
  refine ix_sipush (v := 602) X (ix_tb_at tb_X12_init 275 rfl) (by decide) (pc1 := 499) rfl ?_
  obtain ⟨z_373, e_374, h⟩ := ix_lt_ex h
  obtain ⟨d_375, e_376, h⟩ := ix_lt_ex h
  refine iz_newa_int (pl := 98) X (by decide +kernel) (by decide) (by decide) (Nat.le_of_ble_eq_true rfl) (Nat.le_of_ble_eq_true rfl) (ix_tb_at tb_X12_init 276 rfl) e_374 e_376 (pc1 := 501) rfl ?_
  refine ix_widen (k1 := 43) (n1 := 35996) (Nat.le_of_ble_eq_true rfl) (Nat.le_of_ble_eq_true rfl) ?_
  obtain ⟨k_377, h⟩ := ix_ck_some h
  obtain ⟨z_378, e_379, h⟩ := ix_lt_ex h
  refine iz_putR (ty := .array .int) X fp_RX12_137 (fun _ => ⟨rfl, hnm⟩) k_377 (by decide +kernel) (by decide +kernel) (Or.inr ⟨_, rfl⟩) (ix_tb_at tb_X12_init 277 rfl) e_379 (pc1 := 504) rfl ?_
  refine ix_aload_n (i := 0) (j := 0) X (ix_tb_at tb_X12_init 278 rfl) rfl rfl (pc1 := 505) rfl ?_
  refine ix_sipush (v := 602) X (ix_tb_at tb_X12_init 279 rfl) (by decide) (pc1 := 508) rfl ?_
  obtain ⟨z_380, e_381, h⟩ := ix_lt_ex h
  obtain ⟨d_382, e_383, h⟩ := ix_lt_ex h
  refine iz_newa_int (pl := 98) X (by decide +kernel) (by decide) (by decide) (Nat.le_of_ble_eq_true rfl) (Nat.le_of_ble_eq_true rfl) (ix_tb_at tb_X12_init 280 rfl) e_381 e_383 (pc1 := 510) rfl ?_
  refine ix_widen (k1 := 44) (n1 := 36598) (Nat.le_of_ble_eq_true rfl) (Nat.le_of_ble_eq_true rfl) ?_
  obtain ⟨k_384, h⟩ := ix_ck_some h
  obtain ⟨z_385, e_386, h⟩ := ix_lt_ex h
  refine iz_putR (ty := .array .int) X fp_RX12_140 (fun _ => ⟨rfl, hnm⟩) k_384 (by decide +kernel) (by decide +kernel) (Or.inr ⟨_, rfl⟩) (ix_tb_at tb_X12_init 281 rfl) e_386 (pc1 := 513) rfl ?_
  refine ix_aload_n (i := 0) (j := 0) X (ix_tb_at tb_X12_init 282 rfl) rfl rfl (pc1 := 514) rfl ?_
  refine ix_sipush (v := 602) X (ix_tb_at tb_X12_init 283 rfl) (by decide) (pc1 := 517) rfl ?_
  obtain ⟨z_387, e_388, h⟩ := ix_lt_ex h
  obtain ⟨d_389, e_390, h⟩ := ix_lt_ex h
  refine iz_newa_int (pl := 98) X (by decide +kernel) (by decide) (by decide) (Nat.le_of_ble_eq_true rfl) (Nat.le_of_ble_eq_true rfl) (ix_tb_at tb_X12_init 284 rfl) e_388 e_390 (pc1 := 519) rfl ?_
  refine ix_widen (k1 := 45) (n1 := 37200) (Nat.le_of_ble_eq_true rfl) (Nat.le_of_ble_eq_true rfl) ?_
  obtain ⟨k_391, h⟩ := ix_ck_some h
  obtain ⟨z_392, e_393, h⟩ := ix_lt_ex h
  refine iz_putR (ty := .array .int) X fp_RX12_143 (fun _ => ⟨rfl, hnm⟩) k_391 (by decide +kernel) (by decide +kernel) (Or.inr ⟨_, rfl⟩) (ix_tb_at tb_X12_init 285 rfl) e_393 (pc1 := 522) rfl ?_
  refine ix_aload_n (i := 0) (j := 0) X (ix_tb_at tb_X12_init 286 rfl) rfl rfl (pc1 := 523) rfl ?_
  refine ix_sipush (v := 602) X (ix_tb_at tb_X12_init 287 rfl) (by decide) (pc1 := 526) rfl ?_
  obtain ⟨z_394, e_395, h⟩ := ix_lt_ex h
  obtain ⟨d_396, e_397, h⟩ := ix_lt_ex h
  refine iz_newa_long (pl := 270) X (by decide +kernel) (by decide) (by decide) (Nat.le_of_ble_eq_true rfl) (Nat.le_of_ble_eq_true rfl) (ix_tb_at tb_X12_init 288 rfl) e_395 e_397 (pc1 := 528) rfl ?_
  refine ix_widen (k1 := 46) (n1 := 37802) (Nat.le_of_ble_eq_true rfl) (Nat.le_of_ble_eq_true rfl) ?_
  obtain ⟨k_398, h⟩ := ix_ck_some h
  obtain ⟨z_399, e_400, h⟩ := ix_lt_ex h
  refine iz_putR (ty := .array .long) X fp_RX12_146 (fun _ => ⟨rfl, hnm⟩) k_398 (by decide +kernel) (by decide +kernel) (Or.inr ⟨_, rfl⟩) (ix_tb_at tb_X12_init 289 rfl) e_400 (pc1 := 531) rfl ?_
  refine ix_aload_n (i := 0) (j := 0) X (ix_tb_at tb_X12_init 290 rfl) rfl rfl (pc1 := 532) rfl ?_
  refine ix_iconst (v := 2) X (ix_tb_at tb_X12_init 291 rfl) (by decide) (pc1 := 533) rfl ?_
  obtain ⟨z_401, e_402, h⟩ := ix_lt_ex h
  obtain ⟨d_403, e_404, h⟩ := ix_lt_ex h
  refine iz_newa_long (pl := 270) X (by decide +kernel) (by decide) (by decide) (Nat.le_of_ble_eq_true rfl) (Nat.le_of_ble_eq_true rfl) (ix_tb_at tb_X12_init 292 rfl) e_402 e_404 (pc1 := 535) rfl ?_
  refine ix_widen (k1 := 47) (n1 := 37804) (Nat.le_of_ble_eq_true rfl) (Nat.le_of_ble_eq_true rfl) ?_
  obtain ⟨k_405, h⟩ := ix_ck_some h
  obtain ⟨z_406, e_407, h⟩ := ix_lt_ex h
  refine iz_putR (ty := .array .long) X fp_RX12_150 (fun _ => ⟨rfl, hnm⟩) k_405 (by decide +kernel) (by decide +kernel) (Or.inr ⟨_, rfl⟩) (ix_tb_at tb_X12_init 293 rfl) e_407 (pc1 := 538) rfl ?_
  refine ix_aload_n (i := 0) (j := 0) X (ix_tb_at tb_X12_init 294 rfl) rfl rfl (pc1 := 539) rfl ?_
  refine ix_sipush (v := 600) X (ix_tb_at tb_X12_init 295 rfl) (by decide) (pc1 := 542) rfl ?_
  obtain ⟨z_408, e_409, h⟩ := ix_lt_ex h
  obtain ⟨d_410, e_411, h⟩ := ix_lt_ex h
  refine iz_newa_int (pl := 98) X (by decide +kernel) (by decide) (by decide) (Nat.le_of_ble_eq_true rfl) (Nat.le_of_ble_eq_true rfl) (ix_tb_at tb_X12_init 296 rfl) e_409 e_411 (pc1 := 544) rfl ?_
  refine ix_widen (k1 := 48) (n1 := 38404) (Nat.le_of_ble_eq_true rfl) (Nat.le_of_ble_eq_true rfl) ?_
  obtain ⟨k_412, h⟩ := ix_ck_some h
  obtain ⟨z_413, e_414, h⟩ := ix_lt_ex h
  refine iz_putR (ty := .array .int) X fp_RX12_153 (fun _ => ⟨rfl, hnm⟩) k_412 (by decide +kernel) (by decide +kernel) (Or.inr ⟨_, rfl⟩) (ix_tb_at tb_X12_init 297 rfl) e_414 (pc1 := 547) rfl ?_
  refine ix_aload_n (i := 0) (j := 0) X (ix_tb_at tb_X12_init 298 rfl) rfl rfl (pc1 := 548) rfl ?_
  refine ix_iconst (v := 2) X (ix_tb_at tb_X12_init 299 rfl) (by decide) (pc1 := 549) rfl ?_
  obtain ⟨z_415, e_416, h⟩ := ix_lt_ex h
  obtain ⟨d_417, e_418, h⟩ := ix_lt_ex h
  refine iz_newa_int (pl := 98) X (by decide +kernel) (by decide) (by decide) (Nat.le_of_ble_eq_true rfl) (Nat.le_of_ble_eq_true rfl) (ix_tb_at tb_X12_init 300 rfl) e_416 e_418 (pc1 := 551) rfl ?_
  refine ix_widen (k1 := 49) (n1 := 38406) (Nat.le_of_ble_eq_true rfl) (Nat.le_of_ble_eq_true rfl) ?_
  obtain ⟨k_419, h⟩ := ix_ck_some h
  obtain ⟨z_420, e_421, h⟩ := ix_lt_ex h
  refine iz_putR (ty := .array .int) X fp_RX12_156 (fun _ => ⟨rfl, hnm⟩) k_419 (by decide +kernel) (by decide +kernel) (Or.inr ⟨_, rfl⟩) (ix_tb_at tb_X12_init 301 rfl) e_421 (pc1 := 554) rfl ?_
  refine ix_aload_n (i := 0) (j := 0) X (ix_tb_at tb_X12_init 302 rfl) rfl rfl (pc1 := 555) rfl ?_
  refine ix_iconst (v := 2) X (ix_tb_at tb_X12_init 303 rfl) (by decide) (pc1 := 556) rfl ?_
  obtain ⟨z_422, e_423, h⟩ := ix_lt_ex h
  obtain ⟨d_424, e_425, h⟩ := ix_lt_ex h
  refine iz_newa_int (pl := 98) X (by decide +kernel) (by decide) (by decide) (Nat.le_of_ble_eq_true rfl) (Nat.le_of_ble_eq_true rfl) (ix_tb_at tb_X12_init 304 rfl) e_423 e_425 (pc1 := 558) rfl ?_
  refine ix_widen (k1 := 50) (n1 := 38408) (Nat.le_of_ble_eq_true rfl) (Nat.le_of_ble_eq_true rfl) ?_
  obtain ⟨k_426, h⟩ := ix_ck_some h
  obtain ⟨z_427, e_428, h⟩ := ix_lt_ex h
  refine iz_putR (ty := .array .int) X fp_RX12_159 (fun _ => ⟨rfl, hnm⟩) k_426 (by decide +kernel) (by decide +kernel) (Or.inr ⟨_, rfl⟩) (ix_tb_at tb_X12_init 305 rfl) e_428 (pc1 := 561) rfl ?_
  refine ix_aload_n (i := 0) (j := 0) X (ix_tb_at tb_X12_init 306 rfl) rfl rfl (pc1 := 562) rfl ?_
  refine ix_sipush (v := 1602) X (ix_tb_at tb_X12_init 307 rfl) (by decide) (pc1 := 565) rfl ?_
  obtain ⟨z_429, e_430, h⟩ := ix_lt_ex h
  obtain ⟨d_431, e_432, h⟩ := ix_lt_ex h
  refine iz_newa_int (pl := 98) X (by decide +kernel) (by decide) (by decide) (Nat.le_of_ble_eq_true rfl) (Nat.le_of_ble_eq_true rfl) (ix_tb_at tb_X12_init 308 rfl) e_430 e_432 (pc1 := 567) rfl ?_
  refine ix_widen (k1 := 51) (n1 := 40010) (Nat.le_of_ble_eq_true rfl) (Nat.le_of_ble_eq_true rfl) ?_
  obtain ⟨k_433, h⟩ := ix_ck_some h
  obtain ⟨z_434, e_435, h⟩ := ix_lt_ex h
  refine iz_putR (ty := .array .int) X fp_RX12_162 (fun _ => ⟨rfl, hnm⟩) k_433 (by decide +kernel) (by decide +kernel) (Or.inr ⟨_, rfl⟩) (ix_tb_at tb_X12_init 309 rfl) e_435 (pc1 := 570) rfl ?_
  refine ix_aload_n (i := 0) (j := 0) X (ix_tb_at tb_X12_init 310 rfl) rfl rfl (pc1 := 571) rfl ?_
  refine ix_sipush (v := 16100) X (ix_tb_at tb_X12_init 311 rfl) (by decide) (pc1 := 574) rfl ?_
  obtain ⟨z_436, e_437, h⟩ := ix_lt_ex h
  obtain ⟨d_438, e_439, h⟩ := ix_lt_ex h
  refine iz_newa_int (pl := 98) X (by decide +kernel) (by decide) (by decide) (Nat.le_of_ble_eq_true rfl) (Nat.le_of_ble_eq_true rfl) (ix_tb_at tb_X12_init 312 rfl) e_437 e_439 (pc1 := 576) rfl ?_
  refine ix_widen (k1 := 52) (n1 := 56110) (Nat.le_of_ble_eq_true rfl) (Nat.le_of_ble_eq_true rfl) ?_
  obtain ⟨k_440, h⟩ := ix_ck_some h
  obtain ⟨z_441, e_442, h⟩ := ix_lt_ex h
  refine iz_putR (ty := .array .int) X fp_RX12_165 (fun _ => ⟨rfl, hnm⟩) k_440 (by decide +kernel) (by decide +kernel) (Or.inr ⟨_, rfl⟩) (ix_tb_at tb_X12_init 313 rfl) e_442 (pc1 := 579) rfl ?_
  refine ix_aload_n (i := 0) (j := 0) X (ix_tb_at tb_X12_init 314 rfl) rfl rfl (pc1 := 580) rfl ?_
  refine ix_iconst (v := 2) X (ix_tb_at tb_X12_init 315 rfl) (by decide) (pc1 := 581) rfl ?_
  obtain ⟨z_443, e_444, h⟩ := ix_lt_ex h
  obtain ⟨d_445, e_446, h⟩ := ix_lt_ex h
  refine iz_newa_int (pl := 98) X (by decide +kernel) (by decide) (by decide) (Nat.le_of_ble_eq_true rfl) (Nat.le_of_ble_eq_true rfl) (ix_tb_at tb_X12_init 316 rfl) e_444 e_446 (pc1 := 583) rfl ?_
  refine ix_widen (k1 := 53) (n1 := 56112) (Nat.le_of_ble_eq_true rfl) (Nat.le_of_ble_eq_true rfl) ?_
  obtain ⟨k_447, h⟩ := ix_ck_some h
  obtain ⟨z_448, e_449, h⟩ := ix_lt_ex h
  refine iz_putR (ty := .array .int) X fp_RX12_168 (fun _ => ⟨rfl, hnm⟩) k_447 (by decide +kernel) (by decide +kernel) (Or.inr ⟨_, rfl⟩) (ix_tb_at tb_X12_init 317 rfl) e_449 (pc1 := 586) rfl ?_
  refine ix_aload_n (i := 0) (j := 0) X (ix_tb_at tb_X12_init 318 rfl) rfl rfl (pc1 := 587) rfl ?_
  refine ix_iconst (v := 2) X (ix_tb_at tb_X12_init 319 rfl) (by decide) (pc1 := 588) rfl ?_
  obtain ⟨z_450, e_451, h⟩ := ix_lt_ex h
  obtain ⟨d_452, e_453, h⟩ := ix_lt_ex h
  refine iz_newa_int (pl := 98) X (by decide +kernel) (by decide) (by decide) (Nat.le_of_ble_eq_true rfl) (Nat.le_of_ble_eq_true rfl) (ix_tb_at tb_X12_init 320 rfl) e_451 e_453 (pc1 := 590) rfl ?_
  refine ix_widen (k1 := 54) (n1 := 56114) (Nat.le_of_ble_eq_true rfl) (Nat.le_of_ble_eq_true rfl) ?_
  obtain ⟨k_454, h⟩ := ix_ck_some h
  obtain ⟨z_455, e_456, h⟩ := ix_lt_ex h
  refine iz_putR (ty := .array .int) X fp_RX12_171 (fun _ => ⟨rfl, hnm⟩) k_454 (by decide +kernel) (by decide +kernel) (Or.inr ⟨_, rfl⟩) (ix_tb_at tb_X12_init 321 rfl) e_456 (pc1 := 593) rfl ?_
  refine ix_aload_n (i := 0) (j := 0) X (ix_tb_at tb_X12_init 322 rfl) rfl rfl (pc1 := 594) rfl ?_
  refine ix_sipush (v := 1600) X (ix_tb_at tb_X12_init 323 rfl) (by decide) (pc1 := 597) rfl ?_
  obtain ⟨z_457, e_458, h⟩ := ix_lt_ex h
  obtain ⟨d_459, e_460, h⟩ := ix_lt_ex h
  refine iz_newa_boolean (pl := 183) X (by decide +kernel) (by decide) (by decide) (Nat.le_of_ble_eq_true rfl) (Nat.le_of_ble_eq_true rfl) (ix_tb_at tb_X12_init 324 rfl) e_458 e_460 (pc1 := 599) rfl ?_
  refine ix_widen (k1 := 55) (n1 := 57714) (Nat.le_of_ble_eq_true rfl) (Nat.le_of_ble_eq_true rfl) ?_
  obtain ⟨k_461, h⟩ := ix_ck_some h
  obtain ⟨z_462, e_463, h⟩ := ix_lt_ex h
  refine iz_putR (ty := .array .boolean) X fp_RX12_174 (fun _ => ⟨rfl, hnm⟩) k_461 (by decide +kernel) (by decide +kernel) (Or.inr ⟨_, rfl⟩) (ix_tb_at tb_X12_init 325 rfl) e_463 (pc1 := 602) rfl ?_
  refine ix_aload_n (i := 0) (j := 0) X (ix_tb_at tb_X12_init 326 rfl) rfl rfl (pc1 := 603) rfl ?_
  refine ix_sipush (v := 1600) X (ix_tb_at tb_X12_init 327 rfl) (by decide) (pc1 := 606) rfl ?_
  obtain ⟨z_464, e_465, h⟩ := ix_lt_ex h
  obtain ⟨d_466, e_467, h⟩ := ix_lt_ex h
  refine iz_newa_int (pl := 98) X (by decide +kernel) (by decide) (by decide) (Nat.le_of_ble_eq_true rfl) (Nat.le_of_ble_eq_true rfl) (ix_tb_at tb_X12_init 328 rfl) e_465 e_467 (pc1 := 608) rfl ?_
  refine ix_widen (k1 := 56) (n1 := 59314) (Nat.le_of_ble_eq_true rfl) (Nat.le_of_ble_eq_true rfl) ?_
  obtain ⟨k_468, h⟩ := ix_ck_some h
  obtain ⟨z_469, e_470, h⟩ := ix_lt_ex h
  refine iz_putR (ty := .array .int) X fp_RX12_177 (fun _ => ⟨rfl, hnm⟩) k_468 (by decide +kernel) (by decide +kernel) (Or.inr ⟨_, rfl⟩) (ix_tb_at tb_X12_init 329 rfl) e_470 (pc1 := 611) rfl ?_
  refine ix_aload_n (i := 0) (j := 0) X (ix_tb_at tb_X12_init 330 rfl) rfl rfl (pc1 := 612) rfl ?_
  refine ix_sipush (v := 12800) X (ix_tb_at tb_X12_init 331 rfl) (by decide) (pc1 := 615) rfl ?_
  obtain ⟨z_471, e_472, h⟩ := ix_lt_ex h
  obtain ⟨d_473, e_474, h⟩ := ix_lt_ex h
  refine iz_newa_long (pl := 270) X (by decide +kernel) (by decide) (by decide) (Nat.le_of_ble_eq_true rfl) (Nat.le_of_ble_eq_true rfl) (ix_tb_at tb_X12_init 332 rfl) e_472 e_474 (pc1 := 617) rfl ?_
  refine ix_widen (k1 := 57) (n1 := 72114) (Nat.le_of_ble_eq_true rfl) (Nat.le_of_ble_eq_true rfl) ?_
  obtain ⟨k_475, h⟩ := ix_ck_some h
  obtain ⟨z_476, e_477, h⟩ := ix_lt_ex h
  refine iz_putR (ty := .array .long) X fp_RX12_180 (fun _ => ⟨rfl, hnm⟩) k_475 (by decide +kernel) (by decide +kernel) (Or.inr ⟨_, rfl⟩) (ix_tb_at tb_X12_init 333 rfl) e_477 (pc1 := 620) rfl ?_
  refine ix_aload_n (i := 0) (j := 0) X (ix_tb_at tb_X12_init 334 rfl) rfl rfl (pc1 := 621) rfl ?_
  refine ix_sipush (v := 4816) X (ix_tb_at tb_X12_init 335 rfl) (by decide) (pc1 := 624) rfl ?_
  obtain ⟨z_478, e_479, h⟩ := ix_lt_ex h
  obtain ⟨d_480, e_481, h⟩ := ix_lt_ex h
  refine iz_newa_long (pl := 270) X (by decide +kernel) (by decide) (by decide) (Nat.le_of_ble_eq_true rfl) (Nat.le_of_ble_eq_true rfl) (ix_tb_at tb_X12_init 336 rfl) e_479 e_481 (pc1 := 626) rfl ?_
  refine ix_widen (k1 := 58) (n1 := 76930) (Nat.le_of_ble_eq_true rfl) (Nat.le_of_ble_eq_true rfl) ?_
  obtain ⟨k_482, h⟩ := ix_ck_some h
  obtain ⟨z_483, e_484, h⟩ := ix_lt_ex h
  refine iz_putR (ty := .array .long) X fp_RX12_183 (fun _ => ⟨rfl, hnm⟩) k_482 (by decide +kernel) (by decide +kernel) (Or.inr ⟨_, rfl⟩) (ix_tb_at tb_X12_init 337 rfl) e_484 (pc1 := 629) rfl ?_
  refine ix_aload_n (i := 0) (j := 0) X (ix_tb_at tb_X12_init 338 rfl) rfl rfl (pc1 := 630) rfl ?_
  refine ix_bipush (v := 8) X (ix_tb_at tb_X12_init 339 rfl) (by decide) (pc1 := 632) rfl ?_
  obtain ⟨z_485, e_486, h⟩ := ix_lt_ex h
  obtain ⟨d_487, e_488, h⟩ := ix_lt_ex h
  refine iz_newa_long (pl := 270) X (by decide +kernel) (by decide) (by decide) (Nat.le_of_ble_eq_true rfl) (Nat.le_of_ble_eq_true rfl) (ix_tb_at tb_X12_init 340 rfl) e_486 e_488 (pc1 := 634) rfl ?_
  refine ix_widen (k1 := 59) (n1 := 76938) (Nat.le_of_ble_eq_true rfl) (Nat.le_of_ble_eq_true rfl) ?_
  obtain ⟨k_489, h⟩ := ix_ck_some h
  obtain ⟨z_490, e_491, h⟩ := ix_lt_ex h
  refine iz_putR (ty := .array .long) X fp_RX12_186 (fun _ => ⟨rfl, hnm⟩) k_489 (by decide +kernel) (by decide +kernel) (Or.inr ⟨_, rfl⟩) (ix_tb_at tb_X12_init 341 rfl) e_491 (pc1 := 637) rfl ?_
  refine ix_aload_n (i := 0) (j := 0) X (ix_tb_at tb_X12_init 342 rfl) rfl rfl (pc1 := 638) rfl ?_
  refine ix_iconst (v := 2) X (ix_tb_at tb_X12_init 343 rfl) (by decide) (pc1 := 639) rfl ?_
  obtain ⟨z_492, e_493, h⟩ := ix_lt_ex h
  obtain ⟨d_494, e_495, h⟩ := ix_lt_ex h
  refine iz_newa_int (pl := 98) X (by decide +kernel) (by decide) (by decide) (Nat.le_of_ble_eq_true rfl) (Nat.le_of_ble_eq_true rfl) (ix_tb_at tb_X12_init 344 rfl) e_493 e_495 (pc1 := 641) rfl ?_
  refine ix_widen (k1 := 60) (n1 := 76940) (Nat.le_of_ble_eq_true rfl) (Nat.le_of_ble_eq_true rfl) ?_
  obtain ⟨k_496, h⟩ := ix_ck_some h
  obtain ⟨z_497, e_498, h⟩ := ix_lt_ex h
  refine iz_putR (ty := .array .int) X fp_RX12_189 (fun _ => ⟨rfl, hnm⟩) k_496 (by decide +kernel) (by decide +kernel) (Or.inr ⟨_, rfl⟩) (ix_tb_at tb_X12_init 345 rfl) e_498 (pc1 := 644) rfl ?_
  refine ix_aload_n (i := 0) (j := 0) X (ix_tb_at tb_X12_init 346 rfl) rfl rfl (pc1 := 645) rfl ?_
  refine ix_iconst (v := 2) X (ix_tb_at tb_X12_init 347 rfl) (by decide) (pc1 := 646) rfl ?_
  obtain ⟨z_499, e_500, h⟩ := ix_lt_ex h
  obtain ⟨d_501, e_502, h⟩ := ix_lt_ex h
  refine iz_newa_int (pl := 98) X (by decide +kernel) (by decide) (by decide) (Nat.le_of_ble_eq_true rfl) (Nat.le_of_ble_eq_true rfl) (ix_tb_at tb_X12_init 348 rfl) e_500 e_502 (pc1 := 648) rfl ?_
  refine ix_widen (k1 := 61) (n1 := 76942) (Nat.le_of_ble_eq_true rfl) (Nat.le_of_ble_eq_true rfl) ?_
  obtain ⟨k_503, h⟩ := ix_ck_some h
  obtain ⟨z_504, e_505, h⟩ := ix_lt_ex h
  refine iz_putR (ty := .array .int) X fp_RX12_192 (fun _ => ⟨rfl, hnm⟩) k_503 (by decide +kernel) (by decide +kernel) (Or.inr ⟨_, rfl⟩) (ix_tb_at tb_X12_init 349 rfl) e_505 (pc1 := 651) rfl ?_
  refine ix_aload_n (i := 0) (j := 0) X (ix_tb_at tb_X12_init 350 rfl) rfl rfl (pc1 := 652) rfl ?_
  refine ix_bipush (v := 20) X (ix_tb_at tb_X12_init 351 rfl) (by decide) (pc1 := 654) rfl ?_
  obtain ⟨z_506, e_507, h⟩ := ix_lt_ex h
  obtain ⟨d_508, e_509, h⟩ := ix_lt_ex h
  refine iz_newa_int (pl := 98) X (by decide +kernel) (by decide) (by decide) (Nat.le_of_ble_eq_true rfl) (Nat.le_of_ble_eq_true rfl) (ix_tb_at tb_X12_init 352 rfl) e_507 e_509 (pc1 := 656) rfl ?_
  refine ix_widen (k1 := 62) (n1 := 76962) (Nat.le_of_ble_eq_true rfl) (Nat.le_of_ble_eq_true rfl) ?_
  obtain ⟨k_510, h⟩ := ix_ck_some h
  obtain ⟨z_511, e_512, h⟩ := ix_lt_ex h
  refine iz_putR (ty := .array .int) X fp_RX12_195 (fun _ => ⟨rfl, hnm⟩) k_510 (by decide +kernel) (by decide +kernel) (Or.inr ⟨_, rfl⟩) (ix_tb_at tb_X12_init 353 rfl) e_512 (pc1 := 659) rfl ?_
  refine ix_aload_n (i := 0) (j := 0) X (ix_tb_at tb_X12_init 354 rfl) rfl rfl (pc1 := 660) rfl ?_
  refine ix_iconst (v := 5) X (ix_tb_at tb_X12_init 355 rfl) (by decide) (pc1 := 661) rfl ?_
  obtain ⟨z_513, e_514, h⟩ := ix_lt_ex h
  obtain ⟨d_515, e_516, h⟩ := ix_lt_ex h
  refine iz_newa_int (pl := 98) X (by decide +kernel) (by decide) (by decide) (Nat.le_of_ble_eq_true rfl) (Nat.le_of_ble_eq_true rfl) (ix_tb_at tb_X12_init 356 rfl) e_514 e_516 (pc1 := 663) rfl ?_
  refine ix_widen (k1 := 63) (n1 := 76967) (Nat.le_of_ble_eq_true rfl) (Nat.le_of_ble_eq_true rfl) ?_
  obtain ⟨k_517, h⟩ := ix_ck_some h
  obtain ⟨z_518, e_519, h⟩ := ix_lt_ex h
  refine iz_putR (ty := .array .int) X fp_RX12_198 (fun _ => ⟨rfl, hnm⟩) k_517 (by decide +kernel) (by decide +kernel) (Or.inr ⟨_, rfl⟩) (ix_tb_at tb_X12_init 357 rfl) e_519 (pc1 := 666) rfl ?_
  refine ix_aload_n (i := 0) (j := 0) X (ix_tb_at tb_X12_init 358 rfl) rfl rfl (pc1 := 667) rfl ?_
  refine ix_sipush (v := 500) X (ix_tb_at tb_X12_init 359 rfl) (by decide) (pc1 := 670) rfl ?_
  obtain ⟨z_520, e_521, h⟩ := ix_lt_ex h
  obtain ⟨d_522, e_523, h⟩ := ix_lt_ex h
  refine iz_newa_int (pl := 98) X (by decide +kernel) (by decide) (by decide) (Nat.le_of_ble_eq_true rfl) (Nat.le_of_ble_eq_true rfl) (ix_tb_at tb_X12_init 360 rfl) e_521 e_523 (pc1 := 672) rfl ?_
  refine ix_widen (k1 := 64) (n1 := 77467) (Nat.le_of_ble_eq_true rfl) (Nat.le_of_ble_eq_true rfl) ?_
  obtain ⟨k_524, h⟩ := ix_ck_some h
  obtain ⟨z_525, e_526, h⟩ := ix_lt_ex h
  refine iz_putR (ty := .array .int) X fp_RX12_201 (fun _ => ⟨rfl, hnm⟩) k_524 (by decide +kernel) (by decide +kernel) (Or.inr ⟨_, rfl⟩) (ix_tb_at tb_X12_init 361 rfl) e_526 (pc1 := 675) rfl ?_
  refine ix_aload_n (i := 0) (j := 0) X (ix_tb_at tb_X12_init 362 rfl) rfl rfl (pc1 := 676) rfl ?_
  refine ix_bipush (v := 20) X (ix_tb_at tb_X12_init 363 rfl) (by decide) (pc1 := 678) rfl ?_
  obtain ⟨z_527, e_528, h⟩ := ix_lt_ex h
  obtain ⟨d_529, e_530, h⟩ := ix_lt_ex h
  refine iz_newa_int (pl := 98) X (by decide +kernel) (by decide) (by decide) (Nat.le_of_ble_eq_true rfl) (Nat.le_of_ble_eq_true rfl) (ix_tb_at tb_X12_init 364 rfl) e_528 e_530 (pc1 := 680) rfl ?_
  refine ix_widen (k1 := 65) (n1 := 77487) (Nat.le_of_ble_eq_true rfl) (Nat.le_of_ble_eq_true rfl) ?_
  obtain ⟨k_531, h⟩ := ix_ck_some h
  obtain ⟨z_532, e_533, h⟩ := ix_lt_ex h
  refine iz_putR (ty := .array .int) X fp_RX12_204 (fun _ => ⟨rfl, hnm⟩) k_531 (by decide +kernel) (by decide +kernel) (Or.inr ⟨_, rfl⟩) (ix_tb_at tb_X12_init 365 rfl) e_533 (pc1 := 683) rfl ?_
  refine ix_aload_n (i := 0) (j := 0) X (ix_tb_at tb_X12_init 366 rfl) rfl rfl (pc1 := 684) rfl ?_
  refine ix_sipush (v := 320) X (ix_tb_at tb_X12_init 367 rfl) (by decide) (pc1 := 687) rfl ?_
  obtain ⟨z_534, e_535, h⟩ := ix_lt_ex h
  obtain ⟨d_536, e_537, h⟩ := ix_lt_ex h
  refine iz_newa_int (pl := 98) X (by decide +kernel) (by decide) (by decide) (Nat.le_of_ble_eq_true rfl) (Nat.le_of_ble_eq_true rfl) (ix_tb_at tb_X12_init 368 rfl) e_535 e_537 (pc1 := 689) rfl ?_
  refine ix_widen (k1 := 66) (n1 := 77807) (Nat.le_of_ble_eq_true rfl) (Nat.le_of_ble_eq_true rfl) ?_
  obtain ⟨k_538, h⟩ := ix_ck_some h
  obtain ⟨z_539, e_540, h⟩ := ix_lt_ex h
  refine iz_putR (ty := .array .int) X fp_RX12_207 (fun _ => ⟨rfl, hnm⟩) k_538 (by decide +kernel) (by decide +kernel) (Or.inr ⟨_, rfl⟩) (ix_tb_at tb_X12_init 369 rfl) e_540 (pc1 := 692) rfl ?_
  refine ix_aload_n (i := 0) (j := 0) X (ix_tb_at tb_X12_init 370 rfl) rfl rfl (pc1 := 693) rfl ?_
  refine ix_sipush (v := 301) X (ix_tb_at tb_X12_init 371 rfl) (by decide) (pc1 := 696) rfl ?_
  obtain ⟨z_541, e_542, h⟩ := ix_lt_ex h
  obtain ⟨d_543, e_544, h⟩ := ix_lt_ex h
  refine iz_newa_boolean (pl := 183) X (by decide +kernel) (by decide) (by decide) (Nat.le_of_ble_eq_true rfl) (Nat.le_of_ble_eq_true rfl) (ix_tb_at tb_X12_init 372 rfl) e_542 e_544 (pc1 := 698) rfl ?_
  refine ix_widen (k1 := 67) (n1 := 78108) (Nat.le_of_ble_eq_true rfl) (Nat.le_of_ble_eq_true rfl) ?_
  obtain ⟨k_545, h⟩ := ix_ck_some h
  obtain ⟨z_546, e_547, h⟩ := ix_lt_ex h
  refine iz_putR (ty := .array .boolean) X fp_RX12_210 (fun _ => ⟨rfl, hnm⟩) k_545 (by decide +kernel) (by decide +kernel) (Or.inr ⟨_, rfl⟩) (ix_tb_at tb_X12_init 373 rfl) e_547 (pc1 := 701) rfl ?_
  refine ix_aload_n (i := 0) (j := 0) X (ix_tb_at tb_X12_init 374 rfl) rfl rfl (pc1 := 702) rfl ?_
  refine ix_sipush (v := 301) X (ix_tb_at tb_X12_init 375 rfl) (by decide) (pc1 := 705) rfl ?_
  obtain ⟨z_548, e_549, h⟩ := ix_lt_ex h
  obtain ⟨d_550, e_551, h⟩ := ix_lt_ex h
  refine iz_newa_boolean (pl := 183) X (by decide +kernel) (by decide) (by decide) (Nat.le_of_ble_eq_true rfl) (Nat.le_of_ble_eq_true rfl) (ix_tb_at tb_X12_init 376 rfl) e_549 e_551 (pc1 := 707) rfl ?_
  refine ix_widen (k1 := 68) (n1 := 78409) (Nat.le_of_ble_eq_true rfl) (Nat.le_of_ble_eq_true rfl) ?_
  obtain ⟨k_552, h⟩ := ix_ck_some h
  obtain ⟨z_553, e_554, h⟩ := ix_lt_ex h
  refine iz_putR (ty := .array .boolean) X fp_RX12_213 (fun _ => ⟨rfl, hnm⟩) k_552 (by decide +kernel) (by decide +kernel) (Or.inr ⟨_, rfl⟩) (ix_tb_at tb_X12_init 377 rfl) e_554 (pc1 := 710) rfl ?_
  refine ix_aload_n (i := 0) (j := 0) X (ix_tb_at tb_X12_init 378 rfl) rfl rfl (pc1 := 711) rfl ?_
  refine ix_sipush (v := 320) X (ix_tb_at tb_X12_init 379 rfl) (by decide) (pc1 := 714) rfl ?_
  obtain ⟨z_555, e_556, h⟩ := ix_lt_ex h
  obtain ⟨d_557, e_558, h⟩ := ix_lt_ex h
  refine iz_newa_int (pl := 98) X (by decide +kernel) (by decide) (by decide) (Nat.le_of_ble_eq_true rfl) (Nat.le_of_ble_eq_true rfl) (ix_tb_at tb_X12_init 380 rfl) e_556 e_558 (pc1 := 716) rfl ?_
  refine ix_widen (k1 := 69) (n1 := 78729) (Nat.le_of_ble_eq_true rfl) (Nat.le_of_ble_eq_true rfl) ?_
  obtain ⟨k_559, h⟩ := ix_ck_some h
  obtain ⟨z_560, e_561, h⟩ := ix_lt_ex h
  refine iz_putR (ty := .array .int) X fp_RX12_216 (fun _ => ⟨rfl, hnm⟩) k_559 (by decide +kernel) (by decide +kernel) (Or.inr ⟨_, rfl⟩) (ix_tb_at tb_X12_init 381 rfl) e_561 (pc1 := 719) rfl ?_
  refine ix_aload_n (i := 0) (j := 0) X (ix_tb_at tb_X12_init 382 rfl) rfl rfl (pc1 := 720) rfl ?_
  refine ix_sipush (v := 800) X (ix_tb_at tb_X12_init 383 rfl) (by decide) (pc1 := 723) rfl ?_
  obtain ⟨z_562, e_563, h⟩ := ix_lt_ex h
  obtain ⟨d_564, e_565, h⟩ := ix_lt_ex h
  refine iz_newa_boolean (pl := 183) X (by decide +kernel) (by decide) (by decide) (Nat.le_of_ble_eq_true rfl) (Nat.le_of_ble_eq_true rfl) (ix_tb_at tb_X12_init 384 rfl) e_563 e_565 (pc1 := 725) rfl ?_
  refine ix_widen (k1 := 70) (n1 := 79529) (Nat.le_of_ble_eq_true rfl) (Nat.le_of_ble_eq_true rfl) ?_
  obtain ⟨k_566, h⟩ := ix_ck_some h
  obtain ⟨z_567, e_568, h⟩ := ix_lt_ex h
  refine iz_putR (ty := .array .boolean) X fp_RX12_219 (fun _ => ⟨rfl, hnm⟩) k_566 (by decide +kernel) (by decide +kernel) (Or.inr ⟨_, rfl⟩) (ix_tb_at tb_X12_init 385 rfl) e_568 (pc1 := 728) rfl ?_
  refine ix_aload_n (i := 0) (j := 0) X (ix_tb_at tb_X12_init 386 rfl) rfl rfl (pc1 := 729) rfl ?_
  refine ix_sipush (v := 801) X (ix_tb_at tb_X12_init 387 rfl) (by decide) (pc1 := 732) rfl ?_
  obtain ⟨z_569, e_570, h⟩ := ix_lt_ex h
  obtain ⟨d_571, e_572, h⟩ := ix_lt_ex h
  refine iz_newa_int (pl := 98) X (by decide +kernel) (by decide) (by decide) (Nat.le_of_ble_eq_true rfl) (Nat.le_of_ble_eq_true rfl) (ix_tb_at tb_X12_init 388 rfl) e_570 e_572 (pc1 := 734) rfl ?_
  refine ix_widen (k1 := 71) (n1 := 80330) (Nat.le_of_ble_eq_true rfl) (Nat.le_of_ble_eq_true rfl) ?_
  obtain ⟨k_573, h⟩ := ix_ck_some h
  obtain ⟨z_574, e_575, h⟩ := ix_lt_ex h
  refine iz_putR (ty := .array .int) X fp_RX12_222 (fun _ => ⟨rfl, hnm⟩) k_573 (by decide +kernel) (by decide +kernel) (Or.inr ⟨_, rfl⟩) (ix_tb_at tb_X12_init 389 rfl) e_575 (pc1 := 737) rfl ?_
  refine ix_aload_n (i := 0) (j := 0) X (ix_tb_at tb_X12_init 390 rfl) rfl rfl (pc1 := 738) rfl ?_
  refine ix_sipush (v := 8100) X (ix_tb_at tb_X12_init 391 rfl) (by decide) (pc1 := 741) rfl ?_
  obtain ⟨z_576, e_577, h⟩ := ix_lt_ex h
  obtain ⟨d_578, e_579, h⟩ := ix_lt_ex h
  refine iz_newa_int (pl := 98) X (by decide +kernel) (by decide) (by decide) (Nat.le_of_ble_eq_true rfl) (Nat.le_of_ble_eq_true rfl) (ix_tb_at tb_X12_init 392 rfl) e_577 e_579 (pc1 := 743) rfl ?_
  refine ix_widen (k1 := 72) (n1 := 88430) (Nat.le_of_ble_eq_true rfl) (Nat.le_of_ble_eq_true rfl) ?_
  obtain ⟨k_580, h⟩ := ix_ck_some h
  obtain ⟨z_581, e_582, h⟩ := ix_lt_ex h
  refine iz_putR (ty := .array .int) X fp_RX12_225 (fun _ => ⟨rfl, hnm⟩) k_580 (by decide +kernel) (by decide +kernel) (Or.inr ⟨_, rfl⟩) (ix_tb_at tb_X12_init 393 rfl) e_582 (pc1 := 746) rfl ?_
  refine ix_aload_n (i := 0) (j := 0) X (ix_tb_at tb_X12_init 394 rfl) rfl rfl (pc1 := 747) rfl ?_
  refine ix_sipush (v := 301) X (ix_tb_at tb_X12_init 395 rfl) (by decide) (pc1 := 750) rfl ?_
  obtain ⟨z_583, e_584, h⟩ := ix_lt_ex h
  obtain ⟨d_585, e_586, h⟩ := ix_lt_ex h
  refine iz_newa_int (pl := 98) X (by decide +kernel) (by decide) (by decide) (Nat.le_of_ble_eq_true rfl) (Nat.le_of_ble_eq_true rfl) (ix_tb_at tb_X12_init 396 rfl) e_584 e_586 (pc1 := 752) rfl ?_
  refine ix_widen (k1 := 73) (n1 := 88731) (Nat.le_of_ble_eq_true rfl) (Nat.le_of_ble_eq_true rfl) ?_
  obtain ⟨k_587, h⟩ := ix_ck_some h
  obtain ⟨z_588, e_589, h⟩ := ix_lt_ex h
  refine iz_putR (ty := .array .int) X fp_RX12_228 (fun _ => ⟨rfl, hnm⟩) k_587 (by decide +kernel) (by decide +kernel) (Or.inr ⟨_, rfl⟩) (ix_tb_at tb_X12_init 397 rfl) e_589 (pc1 := 755) rfl ?_
  refine ix_iconst (v := 0) X (ix_tb_at tb_X12_init 398 rfl) (by decide) (pc1 := 756) rfl ?_
  refine ix_istore_n (i := 1) (L1 := [(1, .int 0), (0, .ref (K.2.2.1 + a0))]) X (ix_tb_at tb_X12_init 399 rfl) rfl (Nat.le_of_ble_eq_true rfl) rfl (pc1 := 757) rfl ?_
  refine ix_sub (L1 := [(0, .ref (K.2.2.1 + a0)), (1, .int 0)]) [1, 0] rfl ?_
  exact t_X12_init_757 hKp hnm X hr hlk  h

theorem fp_RX8_7 : ix_fpb 509 0 false RX8 7 "ClauseCourt$Rule" [0, 3, 5, 6, 9] 0 "[I" true = true := by decide +kernel
theorem mf_X8_init : ix_mf yX8_init cX8_init 2 (none : Option Jvm.ClassFile.FieldType) 1 := ⟨ix_wm (i := 507) (by decide +kernel), ix_wm (i := 11) (by decide +kernel), ⟨by decide +kernel, by decide +kernel⟩, by decide +kernel, by decide +kernel⟩
theorem mi_X8_init : Cond.instanceMethod yX8_init ∈ lw_tbl := ix_wm (i := 506) (by decide +kernel)
theorem ml_RX3_1 : tables_1[505]? = some (Cond.methodLink RX3 1 yX8_init) := by decide +kernel
theorem mf_X3_init : ix_mf yX3_init cX3_init 2 (none : Option Jvm.ClassFile.FieldType) 1 := ⟨ix_wm (i := 504) (by decide +kernel), ix_wm (i := 12) (by decide +kernel), ⟨by decide +kernel, by decide +kernel⟩, by decide +kernel, by decide +kernel⟩
theorem mi_X3_init : Cond.instanceMethod yX3_init ∈ lw_tbl := ix_wm (i := 503) (by decide +kernel)
theorem ml_RX0_1 : tables_1[637]? = some (Cond.methodLink RX0 1 yX3_init) := by decide +kernel
theorem fp_RX0_7 : ix_fpb 638 0 false RX0 7 "ClauseCourt$AtMost" [0, 5] 3 "I" true = true := by decide +kernel
theorem mf_X0_init : ix_mf yX0_init cX0_init 3 (none : Option Jvm.ClassFile.FieldType) 2 := ⟨ix_wm (i := 636) (by decide +kernel), ix_wm (i := 15) (by decide +kernel), ⟨by decide +kernel, by decide +kernel⟩, by decide +kernel, by decide +kernel⟩
theorem mi_X0_init : Cond.instanceMethod yX0_init ∈ lw_tbl := ix_wm (i := 635) (by decide +kernel)
theorem ml_RX0_27 : tables_1[545]? = some (Cond.methodLink RX0 27 yX2_makeName) := by decide +kernel
theorem ml_RX0_21 : tables_1[549]? = some (Cond.methodLink RX0 21 yX2_lay) := by decide +kernel
theorem mf_X0_laySums : ix_mf yX0_laySums cX0_laySums 9 (some (.array .int)) 1 := ⟨ix_wm (i := 544) (by decide +kernel), ix_wm (i := 15) (by decide +kernel), ⟨by decide +kernel, by decide +kernel⟩, by decide +kernel, by decide +kernel⟩
theorem mi_X0_laySums : Cond.instanceMethod yX0_laySums ∈ lw_tbl := ix_wm (i := 540) (by decide +kernel)
def ix_lf (z : ix_Z) (a : Option ix_D2) : Option (ix_Z × ix_D2) := a.bind (fun d => some (z, d))
theorem ix_lf_ex {z z1 : ix_Z} {a : Option ix_D2} {d1 : ix_D2} (h : ix_lf z a = some (z1, d1)) : a = some d1 ∧ z1 = z := by
  cases a with
  | none => cases h
  | some d => cases h; exact ⟨rfl, rfl⟩
theorem ml_RX0_13 : tables_1[539]? = some (Cond.methodLink RX0 13 (⟨"ClauseCourt$AtMost", "laySums", "(LClauseCourt$Case;)[I"⟩ : MethodName)) := by decide +kernel
theorem mf_X0_layInto : ix_mf yX0_layInto cX0_layInto 3 (none : Option Jvm.ClassFile.FieldType) 1 := ⟨ix_wm (i := 538) (by decide +kernel), ix_wm (i := 15) (by decide +kernel), ⟨by decide +kernel, by decide +kernel⟩, by decide +kernel, by decide +kernel⟩
theorem mi_X0_layInto : Cond.instanceMethod yX0_layInto ∈ lw_tbl := ix_wm (i := 537) (by decide +kernel)
theorem fp_RX7_9 : ix_fpb 112 0 false RX7 9 "ClauseCourt$Rows" [7] 0 "[I" true = true := by decide +kernel
theorem fp_RX7_15 : ix_fpb 116 0 false RX7 15 "ClauseCourt$Rows" [7] 1 "[I" true = true := by decide +kernel
theorem mf_X7_init : ix_mf yX7_init cX7_init 3 (none : Option Jvm.ClassFile.FieldType) 2 := ⟨ix_wm (i := 110) (by decide +kernel), ix_wm (i := 4) (by decide +kernel), ⟨by decide +kernel, by decide +kernel⟩, by decide +kernel, by decide +kernel⟩
theorem mi_X7_init : Cond.instanceMethod yX7_init ∈ lw_tbl := ix_wm (i := 109) (by decide +kernel)
theorem ml_RX1_13 : tables_1[199]? = some (Cond.methodLink RX1 13 yX7_init) := by decide +kernel
theorem fp_RX1_16 : ix_fpb 200 0 false RX1 16 "ClauseCourt$Board" [1] 0 "LClauseCourt$Rows;" true = true := by decide +kernel
theorem fp_RX1_20 : ix_fpb 203 0 false RX1 20 "ClauseCourt$Board" [1] 1 "[I" true = true := by decide +kernel
theorem fp_RX1_24 : ix_fpb 204 0 false RX1 24 "ClauseCourt$Board" [1] 2 "[I" true = true := by decide +kernel
theorem fp_RX1_27 : ix_fpb 205 0 false RX1 27 "ClauseCourt$Board" [1] 3 "[I" true = true := by decide +kernel
theorem fp_RX1_30 : ix_fpb 206 0 false RX1 30 "ClauseCourt$Board" [1] 4 "[I" true = true := by decide +kernel
theorem fp_RX1_33 : ix_fpb 208 0 false RX1 33 "ClauseCourt$Board" [1] 5 "[J" true = true := by decide +kernel
theorem fp_RX1_37 : ix_fpb 209 0 false RX1 37 "ClauseCourt$Board" [1] 6 "[J" true = true := by decide +kernel
theorem fp_RX1_40 : ix_fpb 210 0 false RX1 40 "ClauseCourt$Board" [1] 7 "[I" true = true := by decide +kernel
theorem fp_RX1_43 : ix_fpb 212 0 false RX1 43 "ClauseCourt$Board" [1] 8 "[I" true = true := by decide +kernel
theorem fp_RX1_46 : ix_fpb 214 0 false RX1 46 "ClauseCourt$Board" [1] 9 "[I" true = true := by decide +kernel
theorem fp_RX1_49 : ix_fpb 216 0 false RX1 49 "ClauseCourt$Board" [1] 10 "[I" true = true := by decide +kernel
theorem fp_RX1_52 : ix_fpb 219 0 false RX1 52 "ClauseCourt$Board" [1] 11 "[I" true = true := by decide +kernel
theorem mf_X1_init : ix_mf yX1_init cX1_init 1 (none : Option Jvm.ClassFile.FieldType) 0 := ⟨ix_wm (i := 196) (by decide +kernel), ix_wm (i := 6) (by decide +kernel), ⟨by decide +kernel, by decide +kernel⟩, by decide +kernel, by decide +kernel⟩
theorem mi_X1_init : Cond.instanceMethod yX1_init ∈ lw_tbl := ix_wm (i := 195) (by decide +kernel)
theorem ml_RX2_11 : tables_1[108]? = some (Cond.methodLink RX2 11 yX7_init) := by decide +kernel
theorem fp_RX2_14 : ix_fpb 131 0 false RX2 14 "ClauseCourt$Case" [2] 0 "LClauseCourt$Rows;" true = true := by decide +kernel
theorem fp_RX2_20 : ix_fpb 134 0 false RX2 20 "ClauseCourt$Case" [2] 1 "[I" true = true := by decide +kernel
theorem fp_RX2_24 : ix_fpb 137 0 false RX2 24 "ClauseCourt$Case" [2] 2 "[Z" true = true := by decide +kernel
theorem fp_RX2_28 : ix_fpb 140 0 false RX2 28 "ClauseCourt$Case" [2] 3 "[I" true = true := by decide +kernel
theorem fp_RX2_31 : ix_fpb 142 0 false RX2 31 "ClauseCourt$Case" [2] 4 "[I" true = true := by decide +kernel
theorem mf_X2_init : ix_mf yX2_init cX2_init 1 (none : Option Jvm.ClassFile.FieldType) 0 := ⟨ix_wm (i := 104) (by decide +kernel), ix_wm (i := 3) (by decide +kernel), ⟨by decide +kernel, by decide +kernel⟩, by decide +kernel, by decide +kernel⟩
theorem mi_X2_init : Cond.instanceMethod yX2_init ∈ lw_tbl := ix_wm (i := 103) (by decide +kernel)
theorem fp_RX4_11 : ix_fpb 40 0 false RX4 11 "ClauseCourt$Desk" [4] 0 "[B" true = true := by decide +kernel
theorem fp_RX4_15 : ix_fpb 44 0 false RX4 15 "ClauseCourt$Desk" [4] 2 "[B" true = true := by decide +kernel
theorem fp_RX4_18 : ix_fpb 48 0 false RX4 18 "ClauseCourt$Desk" [4] 4 "[I" true = true := by decide +kernel
theorem fp_RX4_22 : ix_fpb 51 0 false RX4 22 "ClauseCourt$Desk" [4] 6 "[I" true = true := by decide +kernel
theorem fp_RX4_25 : ix_fpb 54 0 false RX4 25 "ClauseCourt$Desk" [4] 8 "[I" true = true := by decide +kernel
theorem fp_RX4_28 : ix_fpb 55 0 false RX4 28 "ClauseCourt$Desk" [4] 9 "[I" true = true := by decide +kernel
theorem fp_RX4_31 : ix_fpb 56 0 false RX4 31 "ClauseCourt$Desk" [4] 10 "[I" true = true := by decide +kernel
theorem mf_X4_init : ix_mf yX4_init cX4_init 1 (none : Option Jvm.ClassFile.FieldType) 0 := ⟨ix_wm (i := 38) (by decide +kernel), ix_wm (i := 2) (by decide +kernel), ⟨by decide +kernel, by decide +kernel⟩, by decide +kernel, by decide +kernel⟩
theorem mi_X4_init : Cond.instanceMethod yX4_init ∈ lw_tbl := ix_wm (i := 37) (by decide +kernel)
theorem mf_X4_namesRead : ix_mf yX4_namesRead cX4_namesRead 5 (some (.array .int)) 0 := ⟨ix_wm (i := 813) (by decide +kernel), ix_wm (i := 2) (by decide +kernel), ⟨by decide +kernel, by decide +kernel⟩, by decide +kernel, by decide +kernel⟩
theorem mi_X4_namesRead : Cond.instanceMethod yX4_namesRead ∈ lw_tbl := ix_wm (i := 811) (by decide +kernel)
theorem ml_RX5_1 : tables_1[656]? = some (Cond.methodLink RX5 1 yX0_init) := by decide +kernel
theorem mf_X5_init : ix_mf yX5_init cX5_init 3 (none : Option Jvm.ClassFile.FieldType) 2 := ⟨ix_wm (i := 655) (by decide +kernel), ix_wm (i := 16) (by decide +kernel), ⟨by decide +kernel, by decide +kernel⟩, by decide +kernel, by decide +kernel⟩
theorem mi_X5_init : Cond.instanceMethod yX5_init ∈ lw_tbl := ix_wm (i := 654) (by decide +kernel)
theorem ml_RX5_7 : tables_1[574]? = some (Cond.methodLink RX5 7 (⟨"ClauseCourt$Group", "laySums", "(LClauseCourt$Case;)[I"⟩ : MethodName)) := by decide +kernel
theorem fl_RX5_13 : ix_flb 516 517 false RX5 13 "ClauseCourt$Group" [5] 0 2 = true := by decide +kernel
theorem ml_RX5_21 : tables_1[578]? = some (Cond.methodLink RX5 21 yX2_lay) := by decide +kernel
theorem ml_RX5_27 : tables_1[579]? = some (Cond.methodLink RX5 27 yX2_layDraft) := by decide +kernel
theorem mf_X5_layInto : ix_mf yX5_layInto cX5_layInto 3 (none : Option Jvm.ClassFile.FieldType) 1 := ⟨ix_wm (i := 573) (by decide +kernel), ix_wm (i := 16) (by decide +kernel), ⟨by decide +kernel, by decide +kernel⟩, by decide +kernel, by decide +kernel⟩
theorem mi_X5_layInto : Cond.instanceMethod yX5_layInto ∈ lw_tbl := ix_wm (i := 572) (by decide +kernel)
theorem ml_RX6_1 : tables_1[671]? = some (Cond.methodLink RX6 1 yX8_init) := by decide +kernel
theorem fp_RX6_7 : ix_fpb 672 0 false RX6 7 "ClauseCourt$Parity" [6] 3 "Z" true = true := by decide +kernel
theorem mf_X6_init : ix_mf yX6_init cX6_init 3 (none : Option Jvm.ClassFile.FieldType) 2 := ⟨ix_wm (i := 670) (by decide +kernel), ix_wm (i := 13) (by decide +kernel), ⟨by decide +kernel, by decide +kernel⟩, by decide +kernel, by decide +kernel⟩
theorem mi_X6_init : Cond.instanceMethod yX6_init ∈ lw_tbl := ix_wm (i := 669) (by decide +kernel)
theorem ml_RX9_11 : tables_1[194]? = some (Cond.methodLinkNest RX9 11 yX1_init "ClauseCourt") := by decide +kernel
theorem fp_RX9_12 : ix_fpb 276 0 false RX9 12 "ClauseCourt$Solver" [8] 0 "LClauseCourt$Board;" true = true := by decide +kernel
theorem ml_RX9_20 : tables_1[272]? = some (Cond.methodLink RX9 20 yX7_init) := by decide +kernel
theorem fp_RX9_23 : ix_fpb 278 0 false RX9 23 "ClauseCourt$Solver" [8] 1 "LClauseCourt$Rows;" true = true := by decide +kernel
theorem fp_RX9_27 : ix_fpb 280 0 false RX9 27 "ClauseCourt$Solver" [8] 2 "[J" true = true := by decide +kernel
theorem fp_RX9_31 : ix_fpb 283 0 false RX9 31 "ClauseCourt$Solver" [8] 4 "[I" true = true := by decide +kernel
theorem fp_RX9_35 : ix_fpb 285 0 false RX9 35 "ClauseCourt$Solver" [8] 6 "[I" true = true := by decide +kernel
theorem fp_RX9_38 : ix_fpb 286 0 false RX9 38 "ClauseCourt$Solver" [8] 7 "[J" true = true := by decide +kernel
theorem fp_RX9_41 : ix_fpb 287 0 false RX9 41 "ClauseCourt$Solver" [8] 8 "[J" true = true := by decide +kernel
theorem fp_RX9_44 : ix_fpb 288 0 false RX9 44 "ClauseCourt$Solver" [8] 9 "[J" true = true := by decide +kernel
theorem fp_RX9_47 : ix_fpb 289 0 false RX9 47 "ClauseCourt$Solver" [8] 10 "[I" true = true := by decide +kernel
theorem fp_RX9_50 : ix_fpb 291 0 false RX9 50 "ClauseCourt$Solver" [8] 11 "[I" true = true := by decide +kernel
theorem fp_RX9_53 : ix_fpb 293 0 false RX9 53 "ClauseCourt$Solver" [8] 12 "[I" true = true := by decide +kernel
theorem fp_RX9_56 : ix_fpb 294 0 false RX9 56 "ClauseCourt$Solver" [8] 13 "[I" true = true := by decide +kernel
theorem fp_RX9_59 : ix_fpb 296 0 false RX9 59 "ClauseCourt$Solver" [8] 15 "[I" true = true := by decide +kernel
theorem mf_X9_init : ix_mf yX9_init cX9_init 1 (none : Option Jvm.ClassFile.FieldType) 0 := ⟨ix_wm (i := 190) (by decide +kernel), ix_wm (i := 5) (by decide +kernel), ⟨by decide +kernel, by decide +kernel⟩, by decide +kernel, by decide +kernel⟩
theorem mi_X9_init : Cond.instanceMethod yX9_init ∈ lw_tbl := ix_wm (i := 189) (by decide +kernel)
theorem ml_RJ7_304 : tables_1[498]? = some (Cond.methodLink RJ7 304 Lib.Math.min.name) := by decide +kernel
theorem ml_RJ7_150 : tables_1[501]? = some (Cond.methodLink RJ7 150 arraycopyName) := by decide +kernel
theorem mf_J7_copyOf_9075b : ix_mf yJ7_copyOf_9075b cJ7_copyOf_9075b 3 (some (.array .byte)) 2 := ⟨ix_wm (i := 818) (by decide +kernel), ix_wm (i := 7) (by decide +kernel), ⟨by decide +kernel, by decide +kernel⟩, by decide +kernel, by decide +kernel⟩
theorem st_J7_copyOf_9075b : Cond.static yJ7_copyOf_9075b ∈ lw_tbl := ix_wm (i := 817) (by decide +kernel)
theorem mf_J7_copyOf_59c91 : ix_mf yJ7_copyOf_59c91 cJ7_copyOf_59c91 3 (some (.array .int)) 2 := ⟨ix_wm (i := 490) (by decide +kernel), ix_wm (i := 7) (by decide +kernel), ⟨by decide +kernel, by decide +kernel⟩, by decide +kernel, by decide +kernel⟩
theorem st_J7_copyOf_59c91 : Cond.static yJ7_copyOf_59c91 ∈ lw_tbl := ix_wm (i := 489) (by decide +kernel)
theorem ms_X4_namesRead : Cond.selects yX4_namesRead.cls yX4_namesRead yX4_namesRead ∈ lw_tbl := ix_wm (i := 812) (by decide +kernel)
theorem ml_RX10_1 : tables_1[810]? = some (Cond.methodLink RX10 1 yX4_namesRead) := by decide +kernel
theorem ml_RX10_7 : tables_1[815]? = some (Cond.methodLink RX10 7 yX3_init) := by decide +kernel
theorem fl_RX10_13 : ix_flb 41 0 true RX10 13 "ClauseCourt$Desk" [4] 0 2 = true := by decide +kernel
theorem ml_RX10_17 : tables_1[816]? = some (Cond.methodLink RX10 17 yJ7_copyOf_9075b) := by decide +kernel
theorem fp_RX10_23 : ix_fpb 825 0 false RX10 23 "ClauseCourt$Told" [9] 3 "[B" true = true := by decide +kernel
theorem fl_RX10_28 : ix_flb 50 0 true RX10 28 "ClauseCourt$Desk" [4] 6 2 = true := by decide +kernel
theorem fl_RX10_32 : ix_flb 52 0 true RX10 32 "ClauseCourt$Desk" [4] 7 0 = true := by decide +kernel
theorem ml_RX10_36 : tables_1[824]? = some (Cond.methodLink RX10 36 yJ7_copyOf_59c91) := by decide +kernel
theorem fp_RX10_39 : ix_fpb 826 0 false RX10 39 "ClauseCourt$Told" [9] 4 "[I" true = true := by decide +kernel
theorem fp_RX10_40 : ix_fpb 827 0 false RX10 40 "ClauseCourt$Told" [9] 5 "[I" true = true := by decide +kernel
theorem mf_X10_init : ix_mf yX10_init cX10_init 3 (none : Option Jvm.ClassFile.FieldType) 2 := ⟨ix_wm (i := 809) (by decide +kernel), ix_wm (i := 14) (by decide +kernel), ⟨by decide +kernel, by decide +kernel⟩, by decide +kernel, by decide +kernel⟩
theorem mi_X10_init : Cond.instanceMethod yX10_init ∈ lw_tbl := ix_wm (i := 808) (by decide +kernel)
theorem fp_RX11_11 : ix_fpb 345 0 false RX11 11 "ClauseCourt" [10] 0 "[[I" true = true := by decide +kernel
theorem fp_RX11_14 : ix_fpb 346 0 false RX11 14 "ClauseCourt" [10] 1 "[I" true = true := by decide +kernel
theorem ml_RX11_20 : tables_1[36]? = some (Cond.methodLinkNest RX11 20 yX4_init "ClauseCourt") := by decide +kernel
theorem fp_RX11_21 : ix_fpb 347 0 false RX11 21 "ClauseCourt" [10] 2 "LClauseCourt$Desk;" true = true := by decide +kernel
theorem ml_RX11_27 : tables_1[102]? = some (Cond.methodLinkNest RX11 27 yX2_init "ClauseCourt") := by decide +kernel
theorem fp_RX11_28 : ix_fpb 348 0 false RX11 28 "ClauseCourt" [10] 3 "LClauseCourt$Case;" true = true := by decide +kernel
theorem fp_RX11_34 : ix_fpb 349 0 false RX11 34 "ClauseCourt" [10] 4 "[LClauseCourt$Rule;" true = true := by decide +kernel
theorem ml_RX11_40 : tables_1[188]? = some (Cond.methodLink RX11 40 yX9_init) := by decide +kernel
theorem fp_RX11_41 : ix_fpb 351 0 false RX11 41 "ClauseCourt" [10] 6 "LClauseCourt$Solver;" true = true := by decide +kernel
theorem fp_RX11_45 : ix_fpb 352 0 false RX11 45 "ClauseCourt" [10] 7 "LClauseCourt$Solver;" true = true := by decide +kernel
theorem ml_RX11_50 : tables_1[343]? = some (Cond.methodLink RX11 50 yX7_init) := by decide +kernel
theorem fp_RX11_53 : ix_fpb 353 0 false RX11 53 "ClauseCourt" [10] 8 "LClauseCourt$Rows;" true = true := by decide +kernel
theorem fp_RX11_57 : ix_fpb 354 0 false RX11 57 "ClauseCourt" [10] 9 "[I" true = true := by decide +kernel
theorem fp_RX11_60 : ix_fpb 356 0 false RX11 60 "ClauseCourt" [10] 11 "[I" true = true := by decide +kernel
theorem mf_X11_init : ix_mf yX11_init cX11_init 1 (none : Option Jvm.ClassFile.FieldType) 0 := ⟨ix_wm (i := 28) (by decide +kernel), ix_wm (i := 1) (by decide +kernel), ⟨by decide +kernel, by decide +kernel⟩, by decide +kernel, by decide +kernel⟩
theorem mi_X11_init : Cond.instanceMethod yX11_init ∈ lw_tbl := ix_wm (i := 27) (by decide +kernel)
theorem ml_RX11_411 : tables_1[488]? = some (Cond.methodLink RX11 411 yJ7_copyOf_59c91) := by decide +kernel
theorem mf_X11_itemsOf : ix_mf yX11_itemsOf cX11_itemsOf 2 (some (.array .int)) 1 := ⟨ix_wm (i := 487) (by decide +kernel), ix_wm (i := 1) (by decide +kernel), ⟨by decide +kernel, by decide +kernel⟩, by decide +kernel, by decide +kernel⟩
theorem mi_X11_itemsOf : Cond.instanceMethod yX11_itemsOf ∈ lw_tbl := ix_wm (i := 486) (by decide +kernel)
theorem fp_RX11_415 : ix_fpb 157 0 true RX11 415 "ClauseCourt$Case" [2] 11 "Z" false = true := by decide +kernel
theorem ml_RX11_418 : tables_1[533]? = some (Cond.methodLink RX11 418 (⟨"ClauseCourt$Rule", "layInto", "(LClauseCourt$Case;)V"⟩ : MethodName)) := by decide +kernel
theorem fl_RX11_415 : ix_flb 157 0 true RX11 415 "ClauseCourt$Case" [2] 11 0 = true := by decide +kernel
theorem fp_RX11_171 : ix_fpb 519 0 false RX11 171 "ClauseCourt$Rule" [0, 3, 5, 6, 9] 1 "I" false = true := by decide +kernel
theorem fp_RX11_168 : ix_fpb 521 0 false RX11 168 "ClauseCourt$Rule" [0, 3, 5, 6, 9] 2 "I" false = true := by decide +kernel
theorem fp_RX11_281 : ix_fpb 350 0 false RX11 281 "ClauseCourt" [10] 5 "I" false = true := by decide +kernel
theorem mf_X11_admit : ix_mf yX11_admit cX11_admit 4 (some .int) 1 := ⟨ix_wm (i := 532) (by decide +kernel), ix_wm (i := 1) (by decide +kernel), ⟨by decide +kernel, by decide +kernel⟩, by decide +kernel, by decide +kernel⟩
theorem mi_X11_admit : Cond.instanceMethod yX11_admit ∈ lw_tbl := ix_wm (i := 531) (by decide +kernel)
theorem ms_X11_itemsOf : Cond.selects yX11_itemsOf.cls yX11_itemsOf yX11_itemsOf ∈ lw_tbl := List.mem_append_left _ (List.mem_of_getElem? (i := 4) (by decide +kernel))
theorem ml_RX11_119 : tables_1[484]? = some (Cond.methodLink RX11 119 yX11_itemsOf) := by decide +kernel
theorem ml_RX11_123 : tables_1[502]? = some (Cond.methodLink RX11 123 yX3_init) := by decide +kernel
theorem ms_X11_admit : Cond.selects yX11_admit.cls yX11_admit yX11_admit ∈ lw_tbl := List.mem_append_left _ (List.mem_of_getElem? (i := 5) (by decide +kernel))
theorem ml_RX11_126 : tables_1[529]? = some (Cond.methodLink RX11 126 yX11_admit) := by decide +kernel
theorem mf_X11_clause : ix_mf yX11_clause cX11_clause 3 (some .int) 1 := ⟨ix_wm (i := 470) (by decide +kernel), ix_wm (i := 1) (by decide +kernel), ⟨by decide +kernel, by decide +kernel⟩, by decide +kernel, by decide +kernel⟩
theorem mi_X11_clause : Cond.instanceMethod yX11_clause ∈ lw_tbl := ix_wm (i := 468) (by decide +kernel)
theorem ml_RX11_132 : tables_1[634]? = some (Cond.methodLink RX11 132 yX0_init) := by decide +kernel
theorem mf_X11_atMost : ix_mf yX11_atMost cX11_atMost 4 (some .int) 2 := ⟨ix_wm (i := 631) (by decide +kernel), ix_wm (i := 1) (by decide +kernel), ⟨by decide +kernel, by decide +kernel⟩, by decide +kernel, by decide +kernel⟩
theorem mi_X11_atMost : Cond.instanceMethod yX11_atMost ∈ lw_tbl := ix_wm (i := 629) (by decide +kernel)
theorem ml_RX11_136 : tables_1[653]? = some (Cond.methodLink RX11 136 yX5_init) := by decide +kernel
theorem mf_X11_group : ix_mf yX11_group cX11_group 4 (some .int) 2 := ⟨ix_wm (i := 650) (by decide +kernel), ix_wm (i := 1) (by decide +kernel), ⟨by decide +kernel, by decide +kernel⟩, by decide +kernel, by decide +kernel⟩
theorem mi_X11_group : Cond.instanceMethod yX11_group ∈ lw_tbl := ix_wm (i := 648) (by decide +kernel)
theorem ml_RX11_139 : tables_1[668]? = some (Cond.methodLink RX11 139 yX6_init) := by decide +kernel
theorem mf_X11_parity : ix_mf yX11_parity cX11_parity 4 (some .int) 2 := ⟨ix_wm (i := 665) (by decide +kernel), ix_wm (i := 1) (by decide +kernel), ⟨by decide +kernel, by decide +kernel⟩, by decide +kernel, by decide +kernel⟩
theorem mi_X11_parity : Cond.instanceMethod yX11_parity ∈ lw_tbl := ix_wm (i := 663) (by decide +kernel)
theorem ms_X4_readTape : Cond.selects yX4_readTape.cls yX4_readTape yX4_readTape ∈ lw_tbl := ix_wm (i := 685) (by decide +kernel)
theorem ml_RX11_142 : tables_1[683]? = some (Cond.methodLink RX11 142 yX4_readTape) := by decide +kernel
theorem ms_X4_lookForNames : Cond.selects yX4_lookForNames.cls yX4_lookForNames yX4_lookForNames ∈ lw_tbl := ix_wm (i := 803) (by decide +kernel)
theorem ml_RX11_145 : tables_1[801]? = some (Cond.methodLink RX11 145 yX4_lookForNames) := by decide +kernel
theorem ml_RX11_151 : tables_1[807]? = some (Cond.methodLink RX11 151 yX10_init) := by decide +kernel
theorem mf_X11_told : ix_mf yX11_told cX11_told 4 (some .int) 0 := ⟨ix_wm (i := 682) (by decide +kernel), ix_wm (i := 1) (by decide +kernel), ⟨by decide +kernel, by decide +kernel⟩, by decide +kernel, by decide +kernel⟩
theorem mi_X11_told : Cond.instanceMethod yX11_told ∈ lw_tbl := ix_wm (i := 680) (by decide +kernel)
def tab_X8_init : List (Nat × Instr × Nat) := [(0, .aload_n 0, 1), (1, .invokespecial 1, 3), (4, .aload_n 0, 1), (5, .aload_n 1, 1), (6, .putfield 7, 3), (9, .return_, 1)]
theorem tb_X8_init : ix_tab cX8_init tab_X8_init := by
  unfold ix_tab
  decide +kernel
noncomputable def f_X8_init (n : Nat) (z : ix_Z) (a0 : Nat) (a1 : Nat) (d : ix_D2) : Option (ix_Z × ix_D2) :=
  ix_ck (ix_ok z [0, 3, 5, 6, 9] a0) (ix_lt (ix_zr z a0 0 (some a1)) (fun z_2 => some (z_2, d)))
set_option maxRecDepth 20000 in
theorem c_X8_init {l : Launch} {K : ix_Cx} (hKp : ix_Kp K) {n : Nat} {z : ix_Z} {a0 : Nat} {a1 : Nat} {d : ix_D2} {z1 : ix_Z} {d1 : ix_D2} (h : f_X8_init n z a0 a1 d = some (z1, d1)) : ix_M l K yX8_init cX8_init 2 (none : Option Jvm.ClassFile.FieldType) 1 23 0 0 [.ref (K.2.2.1 + a0), .ref (K.2.2.1 + a1)] (ix_w z d) none (ix_w z1 d1) := by
  refine ix_met mf_X8_init hKp (Nat.le_of_ble_eq_true rfl) ?_
  intro p e s m args below meth c hr hlk hnm X
  have X : ix_X p s m args c K cX8_init RX8 2 := X
  have hnm : meth.name = "<init>" := hnm
  show ix_G p l e (ix_rm 1 23 0 0) s m args below meth c (MQ below (ix_Post K none (ix_w z1 d1)) args s 0 0 (ix_A K)) K 2 0 0 0 [(0, .ref (K.2.2.1 + a0)), (1, .ref (K.2.2.1 + a1))] [] (ix_w z d)
  unfold f_X8_init at h
  refine ix_aload_n (i := 0) (j := 0) X (ix_tb_at tb_X8_init 0 rfl) rfl rfl (pc1 := 1) rfl ?_
  refine ix_objI (pl := 508) X (by decide +kernel) (Nat.le_of_ble_eq_true rfl) (Nat.le_of_ble_eq_true rfl) (ix_tb_at tb_X8_init 1 rfl) (pc1 := 4) rfl ?_
  refine ix_aload_n (i := 0) (j := 0) X (ix_tb_at tb_X8_init 2 rfl) rfl rfl (pc1 := 5) rfl ?_
  refine ix_aload_n (i := 1) (j := 1) X (ix_tb_at tb_X8_init 3 rfl) rfl rfl (pc1 := 6) rfl ?_
  obtain ⟨k_1, h⟩ := ix_ck_some h
  obtain ⟨z_2, e_3, h⟩ := ix_lt_ex h
  refine iz_putR (ty := .array .int) X fp_RX8_7 (fun _ => ⟨rfl, hnm⟩) k_1 (by decide +kernel) (by decide +kernel) (Or.inr ⟨_, rfl⟩) (ix_tb_at tb_X8_init 4 rfl) e_3 (pc1 := 9) rfl ?_
  exact ix_vret X hr hlk (ix_r2v (g := ix_w) h) (ix_tb_at tb_X8_init 5 rfl)
def tab_X3_init : List (Nat × Instr × Nat) := [(0, .aload_n 0, 1), (1, .aload_n 1, 1), (2, .invokespecial 1, 3), (5, .return_, 1)]
theorem tb_X3_init : ix_tab cX3_init tab_X3_init := by
  unfold ix_tab
  decide +kernel
noncomputable def f_X3_init (n : Nat) (z : ix_Z) (a0 : Nat) (a1 : Nat) (d : ix_D2) : Option (ix_Z × ix_D2) :=
  ix_bd2 (f_X8_init n z a0 a1 d) (fun z_3 d_1 => some (z_3, d_1))
set_option maxRecDepth 20000 in
theorem c_X3_init {l : Launch} {K : ix_Cx} (hKp : ix_Kp K) {n : Nat} {z : ix_Z} {a0 : Nat} {a1 : Nat} {d : ix_D2} {z1 : ix_Z} {d1 : ix_D2} (h : f_X3_init n z a0 a1 d = some (z1, d1)) : ix_M l K yX3_init cX3_init 2 (none : Option Jvm.ClassFile.FieldType) 2 44 0 0 [.ref (K.2.2.1 + a0), .ref (K.2.2.1 + a1)] (ix_w z d) none (ix_w z1 d1) := by
  refine ix_met mf_X3_init hKp (Nat.le_of_ble_eq_true rfl) ?_
  intro p e s m args below meth c hr hlk hnm X
  have X : ix_X p s m args c K cX3_init RX3 2 := X
  have hnm : meth.name = "<init>" := hnm
  show ix_G p l e (ix_rm 2 44 0 0) s m args below meth c (MQ below (ix_Post K none (ix_w z1 d1)) args s 0 0 (ix_A K)) K 2 0 0 0 [(0, .ref (K.2.2.1 + a0)), (1, .ref (K.2.2.1 + a1))] [] (ix_w z d)
  unfold f_X3_init at h
  refine ix_aload_n (i := 0) (j := 0) X (ix_tb_at tb_X3_init 0 rfl) rfl rfl (pc1 := 1) rfl ?_
  refine ix_aload_n (i := 1) (j := 1) X (ix_tb_at tb_X3_init 1 rfl) rfl rfl (pc1 := 2) rfl ?_
  obtain ⟨z_3, d_1, h_2, h⟩ := ix_bd2_ex h
  refine ix_callI (As := [.ref (K.2.2.1 + a1)]) (rest := []) X mf_X8_init mi_X8_init rfl ml_RX3_1 ⟨Nat.le_of_ble_eq_true rfl, Nat.le_of_ble_eq_true rfl⟩ ⟨Nat.le_of_ble_eq_true rfl, Nat.le_of_ble_eq_true rfl⟩ rfl (Nat.le_of_ble_eq_true rfl) (ix_tb_at tb_X3_init 2 rfl) (c_X8_init hKp h_2) rfl (pc1 := 5) rfl ?_
  exact ix_vret X hr hlk (ix_r2v (g := ix_w) h) (ix_tb_at tb_X3_init 3 rfl)
def tab_X0_init : List (Nat × Instr × Nat) := [(0, .aload_n 0, 1), (1, .aload_n 1, 1), (2, .invokespecial 1, 3), (5, .aload_n 0, 1), (6, .iload_n 2, 1), (7, .putfield 7, 3), (10, .return_, 1)]
theorem tb_X0_init : ix_tab cX0_init tab_X0_init := by
  unfold ix_tab
  decide +kernel
noncomputable def f_X0_init (n : Nat) (z : ix_Z) (a0 : Nat) (a1 : Nat) (x2 : Int32) (d : ix_D2) : Option (ix_Z × ix_D2) :=
  ix_bd2 (f_X3_init n z a0 a1 d) (fun z_3 d_1 => ix_ck (ix_ok z_3 [0, 5] a0) (ix_lt (ix_di d_1 a0 3 x2) (fun d_6 => some (z_3, d_6))))
set_option maxRecDepth 20000 in
theorem c_X0_init {l : Launch} {K : ix_Cx} (hKp : ix_Kp K) {n : Nat} {z : ix_Z} {a0 : Nat} {a1 : Nat} {x2 : Int32} {d : ix_D2} {z1 : ix_Z} {d1 : ix_D2} (h : f_X0_init n z a0 a1 x2 d = some (z1, d1)) : ix_M l K yX0_init cX0_init 3 (none : Option Jvm.ClassFile.FieldType) 3 65 0 0 [.ref (K.2.2.1 + a0), .ref (K.2.2.1 + a1), .int x2] (ix_w z d) none (ix_w z1 d1) := by
  refine ix_met mf_X0_init hKp (Nat.le_of_ble_eq_true rfl) ?_
  intro p e s m args below meth c hr hlk hnm X
  have X : ix_X p s m args c K cX0_init RX0 3 := X
  have hnm : meth.name = "<init>" := hnm
  show ix_G p l e (ix_rm 3 65 0 0) s m args below meth c (MQ below (ix_Post K none (ix_w z1 d1)) args s 0 0 (ix_A K)) K 3 0 0 0 [(0, .ref (K.2.2.1 + a0)), (1, .ref (K.2.2.1 + a1)), (2, .int x2)] [] (ix_w z d)
  unfold f_X0_init at h
  refine ix_aload_n (i := 0) (j := 0) X (ix_tb_at tb_X0_init 0 rfl) rfl rfl (pc1 := 1) rfl ?_
  refine ix_aload_n (i := 1) (j := 1) X (ix_tb_at tb_X0_init 1 rfl) rfl rfl (pc1 := 2) rfl ?_
  obtain ⟨z_3, d_1, h_2, h⟩ := ix_bd2_ex h
  refine ix_callI (As := [.ref (K.2.2.1 + a1)]) (rest := []) X mf_X3_init mi_X3_init rfl ml_RX0_1 ⟨Nat.le_of_ble_eq_true rfl, Nat.le_of_ble_eq_true rfl⟩ ⟨Nat.le_of_ble_eq_true rfl, Nat.le_of_ble_eq_true rfl⟩ rfl (Nat.le_of_ble_eq_true rfl) (ix_tb_at tb_X0_init 2 rfl) (c_X3_init hKp h_2) rfl (pc1 := 5) rfl ?_
  refine ix_aload_n (i := 0) (j := 0) X (ix_tb_at tb_X0_init 3 rfl) rfl rfl (pc1 := 6) rfl ?_
  refine ix_iload_n (i := 2) (j := 2) X (ix_tb_at tb_X0_init 4 rfl) rfl rfl (pc1 := 7) rfl ?_
  obtain ⟨k_5, h⟩ := ix_ck_some h
  obtain ⟨d_6, e_7, h⟩ := ix_lt_ex h
  refine iz_putIF X fp_RX0_7 hnm k_5 (ix_tb_at tb_X0_init 5 rfl) e_7 (pc1 := 10) rfl ?_
  exact ix_vret X hr hlk (ix_r2v (g := ix_w) h) (ix_tb_at tb_X0_init 6 rfl)
def tab_X0_laySums : List (Nat × Instr × Nat) := [(0, .aload_n 0, 1), (1, .getfield 7, 3), (4, .iconst 2, 1), (5, .iadd, 1), (6, .newarray .int, 2), (8, .astore_n 2, 1), (9, .aload_n 0, 1), (10, .getfield 17, 3), (13, .arraylength, 1), (14, .ifCond .le 12, 3), (17, .aload_n 2, 1), (18, .iconst 1, 1), (19, .aload_n 0, 1), (20, .getfield 17, 3), (23, .iconst 0, 1), (24, .iaload, 1), (25, .iastore, 1), (26, .iconst 2, 1), (27, .istore_n 3, 1), (28, .iload_n 3, 1), (29, .aload_n 0, 1), (30, .getfield 17, 3), (33, .arraylength, 1), (34, .if_icmp .gt 134, 3), (37, .aload_n 0, 1), (38, .getfield 17, 3), (41, .iload_n 3, 1), (42, .iconst 1, 1), (43, .isub, 1), (44, .iaload, 1), (45, .istore 4, 2), (47, .iconst 0, 1), (48, .istore 5, 2), (50, .iconst 1, 1), (51, .istore 6, 2), (53, .iload 6, 2), (55, .iload_n 3, 1), (56, .if_icmp .gt 106, 3), (59, .iload 6, 2), (61, .aload_n 0, 1), (62, .getfield 7, 3), (65, .iconst 1, 1), (66, .iadd, 1), (67, .if_icmp .gt 95, 3), (70, .iload 6, 2), (72, .iload_n 3, 1), (73, .if_icmp .ge 10, 3), (76, .aload_n 2, 1), (77, .iload 6, 2), (79, .iaload, 1), (80, .goto 4, 3), (83, .iconst 0, 1), (84, .istore 7, 2), (86, .aload_n 1, 1), (87, .invokevirtual 27, 3), (90, .istore 8, 2), (92, .iload 7, 2), (94, .ifCond .eq 13, 3), (97, .aload_n 1, 1), (98, .iload 7, 2), (100, .ineg, 1), (101, .iload 8, 2), (103, .iconst 0, 1), (104, .invokevirtual 21, 3), (107, .aload_n 1, 1), (108, .iload 4, 2), (110, .ineg, 1), (111, .iload 5, 2), (113, .ineg, 1), (114, .iload 8, 2), (116, .invokevirtual 21, 3), (119, .aload_n 1, 1), (120, .iload 7, 2), (122, .iload 4, 2), (124, .iload 8, 2), (126, .ineg, 1), (127, .invokevirtual 21, 3), (130, .iload 5, 2), (132, .ifCond .eq 14, 3), (135, .aload_n 1, 1), (136, .iload 7, 2), (138, .iload 5, 2), (140, .iload 8, 2), (142, .ineg, 1), (143, .invokevirtual 21, 3), (146, .aload_n 2, 1), (147, .iload 6, 2), (149, .iload 8, 2), (151, .iastore, 1), (152, .iload 7, 2), (154, .istore 5, 2), (156, .iinc 6 1, 3), (159, .goto (-106), 3), (162, .iinc 3 1, 3), (165, .goto (-137), 3), (168, .aload_n 2, 1), (169, .areturn, 1)]
theorem tb_X0_laySums : ix_tab cX0_laySums tab_X0_laySums := by
  unfold ix_tab
  decide +kernel
noncomputable def f_X0_laySums_162 (n : Nat) (z : ix_Z) (rec28 : Int32 → ix_D2 → Option (Option Nat × ix_Z × ix_D2)) (a0 : Nat) (a1 : Nat) (a2 : Nat) (x3 : Int32) (d : ix_D2) : Option (Option Nat × ix_Z × ix_D2) :=
  ix_lt (x3 + 1) (fun x3_21 => rec28 x3_21 d)
noncomputable def f_X0_laySums_146 (n : Nat) (z : ix_Z) (rec28 : Int32 → ix_D2 → Option (Option Nat × ix_Z × ix_D2)) (rec53 : Int32 → Int32 → ix_D2 → Option (Option Nat × ix_Z × ix_D2)) (a0 : Nat) (a1 : Nat) (a2 : Nat) (x3 : Int32) (x4 : Int32) (x6 : Int32) (x7 : Int32) (x8 : Int32) (d : ix_D2) : Option (Option Nat × ix_Z × ix_D2) :=
  ix_ck (ix_ix z 20 a2 x6) (ix_lt (ix_di d a2 (ix_n x6) x8) (fun d_38 => ix_lt (x6 + 1) (fun x6_40 => rec53 x7 x6_40 d_38)))
noncomputable def f_X0_laySums_107 (n : Nat) (z : ix_Z) (rec28 : Int32 → ix_D2 → Option (Option Nat × ix_Z × ix_D2)) (rec53 : Int32 → Int32 → ix_D2 → Option (Option Nat × ix_Z × ix_D2)) (a0 : Nat) (a1 : Nat) (a2 : Nat) (x3 : Int32) (x4 : Int32) (x5 : Int32) (x6 : Int32) (x7 : Int32) (x8 : Int32) (d : ix_D2) : Option (Option Nat × ix_Z × ix_D2) :=
  ix_ck (ix_ok z [2] a1) (ix_bd1 (f_X2_lay n z a1 (-x4) (-x5) x8 d) (fun d_31 => ix_bd1 (f_X2_lay n z a1 x7 x4 (-x8) d_31) (fun d_34 => ix_if (x5 = 0) (f_X0_laySums_146 n z rec28 rec53 a0 a1 a2 x3 x4 x6 x7 x8 d_34) (ix_bd1 (f_X2_lay n z a1 x7 x5 (-x8) d_34) (fun d_42 => f_X0_laySums_146 n z rec28 rec53 a0 a1 a2 x3 x4 x6 x7 x8 d_42)))))
noncomputable def f_X0_laySums_84 (n : Nat) (z : ix_Z) (rec28 : Int32 → ix_D2 → Option (Option Nat × ix_Z × ix_D2)) (rec53 : Int32 → Int32 → ix_D2 → Option (Option Nat × ix_Z × ix_D2)) (a0 : Nat) (a1 : Nat) (a2 : Nat) (x3 : Int32) (x4 : Int32) (x5 : Int32) (x6 : Int32) (s0 : Int32) (d : ix_D2) : Option (Option Nat × ix_Z × ix_D2) :=
  ix_ck (ix_ok z [2] a1) (ix_bd2 (f_X2_makeName n z a1 d) (fun r_29 d_26 => ix_if (s0 = 0) (f_X0_laySums_107 n z rec28 rec53 a0 a1 a2 x3 x4 x5 x6 s0 r_29 d_26) (ix_bd1 (f_X2_lay n z a1 (-s0) r_29 0 d_26) (fun d_44 => f_X0_laySums_107 n z rec28 rec53 a0 a1 a2 x3 x4 x5 x6 s0 r_29 d_44))))
noncomputable def b_X0_laySums_53 (n : Nat) (z : ix_Z) (rec28 : Int32 → ix_D2 → Option (Option Nat × ix_Z × ix_D2)) (a0 : Nat) (a1 : Nat) (a2 : Nat) (x3 : Int32) (x4 : Int32) (rec53 : Int32 → Int32 → ix_D2 → Option (Option Nat × ix_Z × ix_D2)) (x5 : Int32) (x6 : Int32) (d : ix_D2) : Option (Option Nat × ix_Z × ix_D2) :=
  ix_if (x3 < x6) (f_X0_laySums_162 n z rec28 a0 a1 a2 x3 d) (ix_ck (ix_ok z [0, 5] a0) (ix_if ((d.1 a0 3) + 1 < x6) (f_X0_laySums_162 n z rec28 a0 a1 a2 x3 d) (ix_if (x3 ≤ x6) (f_X0_laySums_84 n z rec28 rec53 a0 a1 a2 x3 x4 x5 x6 0 d) (ix_ck (ix_ix z 20 a2 x6) (f_X0_laySums_84 n z rec28 rec53 a0 a1 a2 x3 x4 x5 x6 (d.1 a2 (ix_n x6)) d)))))
noncomputable def f_X0_laySums_53 (n : Nat) (z : ix_Z) (rec28 : Int32 → ix_D2 → Option (Option Nat × ix_Z × ix_D2)) (a0 : Nat) (a1 : Nat) (a2 : Nat) (x3 : Int32) (x4 : Int32) (x5 : Int32) (x6 : Int32) (d : ix_D2) : Option (Option Nat × ix_Z × ix_D2) := ix_fix (b_X0_laySums_53 n z rec28 a0 a1 a2 x3 x4) (fun _ _ _ => none) n x5 x6 d
noncomputable def b_X0_laySums_28 (n : Nat) (z : ix_Z)  (a0 : Nat) (a1 : Nat) (a2 : Nat) (rec28 : Int32 → ix_D2 → Option (Option Nat × ix_Z × ix_D2)) (x3 : Int32) (d : ix_D2) : Option (Option Nat × ix_Z × ix_D2) :=
  ix_ck (ix_ok z [0, 5] a0) (ix_bd1 (z.1 a0 0) (fun b_13 => ix_ck (b_13 < z.2.2 ∧ 20 ≤ (z.2.1 b_13).1 ∧ (z.2.1 b_13).1 < 26) (ix_if (nI (z.2.1 b_13).2 < x3) (some ((some a2), z, d)) (ix_ck (ix_ix z 20 b_13 (x3 - 1)) (ix_lt (d.1 b_13 (ix_n (x3 - 1))) (fun x4_18 => f_X0_laySums_53 n z rec28 a0 a1 a2 x3 x4_18 0 1 d))))))
noncomputable def f_X0_laySums_28 (n : Nat) (z : ix_Z)  (a0 : Nat) (a1 : Nat) (a2 : Nat) (x3 : Int32) (d : ix_D2) : Option (Option Nat × ix_Z × ix_D2) := ix_fix (b_X0_laySums_28 n z  a0 a1 a2) (fun _ _ => none) n x3 d
noncomputable def f_X0_laySums_26 (n : Nat) (z : ix_Z)  (a0 : Nat) (a1 : Nat) (a2 : Nat) (d : ix_D2) : Option (Option Nat × ix_Z × ix_D2) :=
  f_X0_laySums_28 n z  a0 a1 a2 2 d
noncomputable def f_X0_laySums (n : Nat) (z : ix_Z) (a0 : Nat) (a1 : Nat) (d : ix_D2) : Option (Option Nat × ix_Z × ix_D2) :=
  ix_ck (ix_ok z [0, 5] a0) (ix_ck (¬ ((d.1 a0 3) + 2) < 0 ∧ ix_n ((d.1 a0 3) + 2) ≤ 14) (ix_lt (ix_zn z 20 (ix_n ((d.1 a0 3) + 2))) (fun z_3 => ix_lt (ix_dn d z.2.2) (fun d_5 => ix_ck (ix_ok z_3 [0, 5] a0) (ix_bd1 (z_3.1 a0 0) (fun b_8 => ix_ck (b_8 < z_3.2.2 ∧ 20 ≤ (z_3.2.1 b_8).1 ∧ (z_3.2.1 b_8).1 < 26) (ix_if (nI (z_3.2.1 b_8).2 ≤ 0) (f_X0_laySums_26 n z_3  a0 a1 (z.2.2) d_5) (ix_ck (ix_ix z_3 20 b_8 0) (ix_ck (ix_ix z_3 20 (z.2.2) 1) (ix_lt (ix_di d_5 (z.2.2) (ix_n 1) (d_5.1 b_8 (ix_n 0))) (fun d_49 => f_X0_laySums_26 n z_3  a0 a1 (z.2.2) d_49)))))))))))
set_option maxRecDepth 20000 in
theorem t_X0_laySums_162 {l : Launch} {p : Program} {e : Env} {s : State} {m : MethodId} {args : Array Value} {below : List Frame} {meth : Method} {c : Code} {K : ix_Cx} (hKp : ix_Kp K) {n : Nat} {z : ix_Z} (X : ix_X p s m args c K cX0_laySums RX0 9) (hr : meth.sig.returnType = (some (.array .int))) (hlk : meth.locks = false) {rec28 : Int32 → ix_D2 → Option (Option Nat × ix_Z × ix_D2)} {a0 : Nat} {a1 : Nat} {a2 : Nat} {x3 : Int32} {r : Option Nat} {z1 : ix_Z} {d1 : ix_D2} (hrec28 : ∀ (x3 : Int32) (d : ix_D2), rec28 x3 d = some (r, z1, d1) → ix_G p l e (ix_rm 4 94 1 14) s m args below meth c (MQ below (ix_Post K (some (ix_rv K r)) (ix_w z1 d1)) args s 1 14 (ix_A K)) K 9 1 14 28 [(0, .ref (K.2.2.1 + a0)), (1, .ref (K.2.2.1 + a1)), (2, .ref (K.2.2.1 + a2)), (3, .int x3)] [] (ix_w z d)) {d : ix_D2} (h : f_X0_laySums_162 n z rec28 a0 a1 a2 x3 d = some (r, z1, d1)) : ix_G p l e (ix_rm 4 94 1 14) s m args below meth c (MQ below (ix_Post K (some (ix_rv K r)) (ix_w z1 d1)) args s 1 14 (ix_A K)) K 9 1 14 162 [(0, .ref (K.2.2.1 + a0)), (1, .ref (K.2.2.1 + a1)), (2, .ref (K.2.2.1 + a2)), (3, .int x3)] [] (ix_w z d) := by
  unfold f_X0_laySums_162 at h
  obtain ⟨x3_21, e_22, h⟩ := ix_lt_ex h
  refine ix_iinc (i := 3) (j := 3) (v := x3_21) (L1 := [(3, .int x3_21), (0, .ref (K.2.2.1 + a0)), (1, .ref (K.2.2.1 + a1)), (2, .ref (K.2.2.1 + a2))]) X (ix_tb_at tb_X0_laySums 93 rfl) rfl (by rw [oi_1]; exact e_22.symm) (Nat.le_of_ble_eq_true rfl) rfl (pc1 := 165) rfl ?_
  refine ix_goto (tgt := 28) X (ix_tb_at tb_X0_laySums 94 rfl) (by decide) ?_
  refine ix_sub (L1 := [(0, .ref (K.2.2.1 + a0)), (1, .ref (K.2.2.1 + a1)), (2, .ref (K.2.2.1 + a2)), (3, .int x3_21)]) [1, 2, 3, 0] rfl ?_
  exact hrec28 x3_21 d h
set_option maxRecDepth 20000 in
theorem t_X0_laySums_146 {l : Launch} {p : Program} {e : Env} {s : State} {m : MethodId} {args : Array Value} {below : List Frame} {meth : Method} {c : Code} {K : ix_Cx} (hKp : ix_Kp K) {n : Nat} {z : ix_Z} (X : ix_X p s m args c K cX0_laySums RX0 9) (hr : meth.sig.returnType = (some (.array .int))) (hlk : meth.locks = false) {rec28 : Int32 → ix_D2 → Option (Option Nat × ix_Z × ix_D2)} {rec53 : Int32 → Int32 → ix_D2 → Option (Option Nat × ix_Z × ix_D2)} {a0 : Nat} {a1 : Nat} {a2 : Nat} {x3 : Int32} {x4 : Int32} {x6 : Int32} {x7 : Int32} {x8 : Int32} {r : Option Nat} {z1 : ix_Z} {d1 : ix_D2} (hrec28 : ∀ (x3 : Int32) (d : ix_D2), rec28 x3 d = some (r, z1, d1) → ix_G p l e (ix_rm 4 94 1 14) s m args below meth c (MQ below (ix_Post K (some (ix_rv K r)) (ix_w z1 d1)) args s 1 14 (ix_A K)) K 9 1 14 28 [(0, .ref (K.2.2.1 + a0)), (1, .ref (K.2.2.1 + a1)), (2, .ref (K.2.2.1 + a2)), (3, .int x3)] [] (ix_w z d)) (hrec53 : ∀ (x5 : Int32) (x6 : Int32) (d : ix_D2), rec53 x5 x6 d = some (r, z1, d1) → ix_G p l e (ix_rm 4 94 1 14) s m args below meth c (MQ below (ix_Post K (some (ix_rv K r)) (ix_w z1 d1)) args s 1 14 (ix_A K)) K 9 1 14 53 [(0, .ref (K.2.2.1 + a0)), (1, .ref (K.2.2.1 + a1)), (2, .ref (K.2.2.1 + a2)), (3, .int x3), (4, .int x4), (5, .int x5), (6, .int x6)] [] (ix_w z d)) {d : ix_D2} (h : f_X0_laySums_146 n z rec28 rec53 a0 a1 a2 x3 x4 x6 x7 x8 d = some (r, z1, d1)) : ix_G p l e (ix_rm 4 94 1 14) s m args below meth c (MQ below (ix_Post K (some (ix_rv K r)) (ix_w z1 d1)) args s 1 14 (ix_A K)) K 9 1 14 146 [(0, .ref (K.2.2.1 + a0)), (1, .ref (K.2.2.1 + a1)), (2, .ref (K.2.2.1 + a2)), (3, .int x3), (4, .int x4), (6, .int x6), (7, .int x7), (8, .int x8)] [] (ix_w z d) := by
  unfold f_X0_laySums_146 at h
  refine ix_aload_n (i := 2) (j := 2) X (ix_tb_at tb_X0_laySums 85 rfl) rfl rfl (pc1 := 147) rfl ?_
  refine ix_iload (i := 6) (j := 5) X (ix_tb_at tb_X0_laySums 86 rfl) rfl (pc1 := 149) rfl ?_
  refine ix_iload (i := 8) (j := 7) X (ix_tb_at tb_X0_laySums 87 rfl) rfl (pc1 := 151) rfl ?_
  obtain ⟨k_37, h⟩ := ix_ck_some h
  obtain ⟨d_38, e_39, h⟩ := ix_lt_ex h
  refine iz_iast X k_37 (ix_tb_at tb_X0_laySums 88 rfl) e_39 (pc1 := 152) rfl ?_
  refine ix_iload (i := 7) (j := 6) X (ix_tb_at tb_X0_laySums 89 rfl) rfl (pc1 := 154) rfl ?_
  refine ix_istore (i := 5) (L1 := [(5, .int x7), (0, .ref (K.2.2.1 + a0)), (1, .ref (K.2.2.1 + a1)), (2, .ref (K.2.2.1 + a2)), (3, .int x3), (4, .int x4), (6, .int x6), (7, .int x7), (8, .int x8)]) X (ix_tb_at tb_X0_laySums 90 rfl) (Nat.le_of_ble_eq_true rfl) rfl (pc1 := 156) rfl ?_
  obtain ⟨x6_40, e_41, h⟩ := ix_lt_ex h
  refine ix_iinc (i := 6) (j := 6) (v := x6_40) (L1 := [(6, .int x6_40), (5, .int x7), (0, .ref (K.2.2.1 + a0)), (1, .ref (K.2.2.1 + a1)), (2, .ref (K.2.2.1 + a2)), (3, .int x3), (4, .int x4), (7, .int x7), (8, .int x8)]) X (ix_tb_at tb_X0_laySums 91 rfl) rfl (by rw [oi_1]; exact e_41.symm) (Nat.le_of_ble_eq_true rfl) rfl (pc1 := 159) rfl ?_
  refine ix_goto (tgt := 53) X (ix_tb_at tb_X0_laySums 92 rfl) (by decide) ?_
  refine ix_sub (L1 := [(0, .ref (K.2.2.1 + a0)), (1, .ref (K.2.2.1 + a1)), (2, .ref (K.2.2.1 + a2)), (3, .int x3), (4, .int x4), (5, .int x7), (6, .int x6_40)]) [2, 3, 4, 5, 6, 1, 0] rfl ?_
  exact hrec53 x7 x6_40 d_38 h
set_option maxRecDepth 20000 in
theorem t_X0_laySums_107 {l : Launch} {p : Program} {e : Env} {s : State} {m : MethodId} {args : Array Value} {below : List Frame} {meth : Method} {c : Code} {K : ix_Cx} (hKp : ix_Kp K) {n : Nat} {z : ix_Z} (X : ix_X p s m args c K cX0_laySums RX0 9) (hr : meth.sig.returnType = (some (.array .int))) (hlk : meth.locks = false) {rec28 : Int32 → ix_D2 → Option (Option Nat × ix_Z × ix_D2)} {rec53 : Int32 → Int32 → ix_D2 → Option (Option Nat × ix_Z × ix_D2)} {a0 : Nat} {a1 : Nat} {a2 : Nat} {x3 : Int32} {x4 : Int32} {x5 : Int32} {x6 : Int32} {x7 : Int32} {x8 : Int32} {r : Option Nat} {z1 : ix_Z} {d1 : ix_D2} (hrec28 : ∀ (x3 : Int32) (d : ix_D2), rec28 x3 d = some (r, z1, d1) → ix_G p l e (ix_rm 4 94 1 14) s m args below meth c (MQ below (ix_Post K (some (ix_rv K r)) (ix_w z1 d1)) args s 1 14 (ix_A K)) K 9 1 14 28 [(0, .ref (K.2.2.1 + a0)), (1, .ref (K.2.2.1 + a1)), (2, .ref (K.2.2.1 + a2)), (3, .int x3)] [] (ix_w z d)) (hrec53 : ∀ (x5 : Int32) (x6 : Int32) (d : ix_D2), rec53 x5 x6 d = some (r, z1, d1) → ix_G p l e (ix_rm 4 94 1 14) s m args below meth c (MQ below (ix_Post K (some (ix_rv K r)) (ix_w z1 d1)) args s 1 14 (ix_A K)) K 9 1 14 53 [(0, .ref (K.2.2.1 + a0)), (1, .ref (K.2.2.1 + a1)), (2, .ref (K.2.2.1 + a2)), (3, .int x3), (4, .int x4), (5, .int x5), (6, .int x6)] [] (ix_w z d)) {d : ix_D2} (h : f_X0_laySums_107 n z rec28 rec53 a0 a1 a2 x3 x4 x5 x6 x7 x8 d = some (r, z1, d1)) : ix_G p l e (ix_rm 4 94 1 14) s m args below meth c (MQ below (ix_Post K (some (ix_rv K r)) (ix_w z1 d1)) args s 1 14 (ix_A K)) K 9 1 14 107 [(0, .ref (K.2.2.1 + a0)), (1, .ref (K.2.2.1 + a1)), (2, .ref (K.2.2.1 + a2)), (3, .int x3), (4, .int x4), (5, .int x5), (6, .int x6), (7, .int x7), (8, .int x8)] [] (ix_w z d) := by
  unfold f_X0_laySums_107 at h
  refine ix_aload_n (i := 1) (j := 1) X (ix_tb_at tb_X0_laySums 64 rfl) rfl rfl (pc1 := 108) rfl ?_
  refine ix_iload (i := 4) (j := 4) X (ix_tb_at tb_X0_laySums 65 rfl) rfl (pc1 := 110) rfl ?_
  refine ix_ineg X (ix_tb_at tb_X0_laySums 66 rfl) (pc1 := 111) rfl ?_
  refine ix_iload (i := 5) (j := 5) X (ix_tb_at tb_X0_laySums 67 rfl) rfl (pc1 := 113) rfl ?_
  refine ix_ineg X (ix_tb_at tb_X0_laySums 68 rfl) (pc1 := 114) rfl ?_
  refine ix_iload (i := 8) (j := 8) X (ix_tb_at tb_X0_laySums 69 rfl) rfl (pc1 := 116) rfl ?_
  obtain ⟨k_33, h⟩ := ix_ck_some h
  obtain ⟨d_31, h_32, h⟩ := ix_bd1_ex h
  refine ix_callV (As := [.int (-x4), .int (-x5), .int x8]) (rest := []) (ci := 2) (T := TX2) (nf := 12) X mf_X2_lay mi_X2_lay ms_X2_lay rfl (Nat.le_of_ble_eq_true rfl) ml_RX0_21 ⟨Nat.le_of_ble_eq_true rfl, Nat.le_of_ble_eq_true rfl⟩ ⟨Nat.le_of_ble_eq_true rfl, Nat.le_of_ble_eq_true rfl⟩ rfl (Nat.le_of_ble_eq_true rfl) (ix_tb_at tb_X0_laySums 70 rfl) ⟨k_33.1, List.mem_singleton.mp k_33.2⟩ (c_X2_lay hKp h_32) rfl (pc1 := 119) rfl ?_
  refine ix_aload_n (i := 1) (j := 1) X (ix_tb_at tb_X0_laySums 71 rfl) rfl rfl (pc1 := 120) rfl ?_
  refine ix_iload (i := 7) (j := 7) X (ix_tb_at tb_X0_laySums 72 rfl) rfl (pc1 := 122) rfl ?_
  refine ix_iload (i := 4) (j := 4) X (ix_tb_at tb_X0_laySums 73 rfl) rfl (pc1 := 124) rfl ?_
  refine ix_iload (i := 8) (j := 8) X (ix_tb_at tb_X0_laySums 74 rfl) rfl (pc1 := 126) rfl ?_
  refine ix_ineg X (ix_tb_at tb_X0_laySums 75 rfl) (pc1 := 127) rfl ?_
  obtain ⟨d_34, h_35, h⟩ := ix_bd1_ex h
  refine ix_callV (As := [.int x7, .int x4, .int (-x8)]) (rest := []) (ci := 2) (T := TX2) (nf := 12) X mf_X2_lay mi_X2_lay ms_X2_lay rfl (Nat.le_of_ble_eq_true rfl) ml_RX0_21 ⟨Nat.le_of_ble_eq_true rfl, Nat.le_of_ble_eq_true rfl⟩ ⟨Nat.le_of_ble_eq_true rfl, Nat.le_of_ble_eq_true rfl⟩ rfl (Nat.le_of_ble_eq_true rfl) (ix_tb_at tb_X0_laySums 76 rfl) ⟨k_33.1, List.mem_singleton.mp k_33.2⟩ (c_X2_lay hKp h_35) rfl (pc1 := 130) rfl ?_
  refine ix_iload (i := 5) (j := 5) X (ix_tb_at tb_X0_laySums 77 rfl) rfl (pc1 := 132) rfl ?_
  refine ix_if_eq (tgt := 146) X (ix_tb_at tb_X0_laySums 78 rfl) (by decide) (pc1 := 135) rfl (fun q_36 => ?_) (fun q_36 => ?_)
  · have h := ix_ift q_36 h
    refine ix_sub (L1 := [(0, .ref (K.2.2.1 + a0)), (1, .ref (K.2.2.1 + a1)), (2, .ref (K.2.2.1 + a2)), (3, .int x3), (4, .int x4), (6, .int x6), (7, .int x7), (8, .int x8)]) [0, 1, 2, 3, 4, 6, 7, 8] rfl ?_
    exact t_X0_laySums_146 hKp X hr hlk hrec28 hrec53 h
  · have h := ix_iff q_36 h
    refine ix_aload_n (i := 1) (j := 1) X (ix_tb_at tb_X0_laySums 79 rfl) rfl rfl (pc1 := 136) rfl ?_
    refine ix_iload (i := 7) (j := 7) X (ix_tb_at tb_X0_laySums 80 rfl) rfl (pc1 := 138) rfl ?_
    refine ix_iload (i := 5) (j := 5) X (ix_tb_at tb_X0_laySums 81 rfl) rfl (pc1 := 140) rfl ?_
    refine ix_iload (i := 8) (j := 8) X (ix_tb_at tb_X0_laySums 82 rfl) rfl (pc1 := 142) rfl ?_
    refine ix_ineg X (ix_tb_at tb_X0_laySums 83 rfl) (pc1 := 143) rfl ?_
    obtain ⟨d_42, h_43, h⟩ := ix_bd1_ex h
    refine ix_callV (As := [.int x7, .int x5, .int (-x8)]) (rest := []) (ci := 2) (T := TX2) (nf := 12) X mf_X2_lay mi_X2_lay ms_X2_lay rfl (Nat.le_of_ble_eq_true rfl) ml_RX0_21 ⟨Nat.le_of_ble_eq_true rfl, Nat.le_of_ble_eq_true rfl⟩ ⟨Nat.le_of_ble_eq_true rfl, Nat.le_of_ble_eq_true rfl⟩ rfl (Nat.le_of_ble_eq_true rfl) (ix_tb_at tb_X0_laySums 84 rfl) ⟨k_33.1, List.mem_singleton.mp k_33.2⟩ (c_X2_lay hKp h_43) rfl (pc1 := 146) rfl ?_
    refine ix_sub (L1 := [(0, .ref (K.2.2.1 + a0)), (1, .ref (K.2.2.1 + a1)), (2, .ref (K.2.2.1 + a2)), (3, .int x3), (4, .int x4), (6, .int x6), (7, .int x7), (8, .int x8)]) [0, 1, 2, 3, 4, 6, 7, 8] rfl ?_
    exact t_X0_laySums_146 hKp X hr hlk hrec28 hrec53 h
set_option maxRecDepth 20000 in
theorem t_X0_laySums_84 {l : Launch} {p : Program} {e : Env} {s : State} {m : MethodId} {args : Array Value} {below : List Frame} {meth : Method} {c : Code} {K : ix_Cx} (hKp : ix_Kp K) {n : Nat} {z : ix_Z} (X : ix_X p s m args c K cX0_laySums RX0 9) (hr : meth.sig.returnType = (some (.array .int))) (hlk : meth.locks = false) {rec28 : Int32 → ix_D2 → Option (Option Nat × ix_Z × ix_D2)} {rec53 : Int32 → Int32 → ix_D2 → Option (Option Nat × ix_Z × ix_D2)} {a0 : Nat} {a1 : Nat} {a2 : Nat} {x3 : Int32} {x4 : Int32} {x5 : Int32} {x6 : Int32} {s0 : Int32} {r : Option Nat} {z1 : ix_Z} {d1 : ix_D2} (hrec28 : ∀ (x3 : Int32) (d : ix_D2), rec28 x3 d = some (r, z1, d1) → ix_G p l e (ix_rm 4 94 1 14) s m args below meth c (MQ below (ix_Post K (some (ix_rv K r)) (ix_w z1 d1)) args s 1 14 (ix_A K)) K 9 1 14 28 [(0, .ref (K.2.2.1 + a0)), (1, .ref (K.2.2.1 + a1)), (2, .ref (K.2.2.1 + a2)), (3, .int x3)] [] (ix_w z d)) (hrec53 : ∀ (x5 : Int32) (x6 : Int32) (d : ix_D2), rec53 x5 x6 d = some (r, z1, d1) → ix_G p l e (ix_rm 4 94 1 14) s m args below meth c (MQ below (ix_Post K (some (ix_rv K r)) (ix_w z1 d1)) args s 1 14 (ix_A K)) K 9 1 14 53 [(0, .ref (K.2.2.1 + a0)), (1, .ref (K.2.2.1 + a1)), (2, .ref (K.2.2.1 + a2)), (3, .int x3), (4, .int x4), (5, .int x5), (6, .int x6)] [] (ix_w z d)) {d : ix_D2} (h : f_X0_laySums_84 n z rec28 rec53 a0 a1 a2 x3 x4 x5 x6 s0 d = some (r, z1, d1)) : ix_G p l e (ix_rm 4 94 1 14) s m args below meth c (MQ below (ix_Post K (some (ix_rv K r)) (ix_w z1 d1)) args s 1 14 (ix_A K)) K 9 1 14 84 [(0, .ref (K.2.2.1 + a0)), (1, .ref (K.2.2.1 + a1)), (2, .ref (K.2.2.1 + a2)), (3, .int x3), (4, .int x4), (5, .int x5), (6, .int x6)] [.int s0] (ix_w z d) := by
  unfold f_X0_laySums_84 at h
  refine ix_istore (i := 7) (L1 := [(7, .int s0), (0, .ref (K.2.2.1 + a0)), (1, .ref (K.2.2.1 + a1)), (2, .ref (K.2.2.1 + a2)), (3, .int x3), (4, .int x4), (5, .int x5), (6, .int x6)]) X (ix_tb_at tb_X0_laySums 52 rfl) (Nat.le_of_ble_eq_true rfl) rfl (pc1 := 86) rfl ?_
  refine ix_aload_n (i := 1) (j := 2) X (ix_tb_at tb_X0_laySums 53 rfl) rfl rfl (pc1 := 87) rfl ?_
  obtain ⟨k_28, h⟩ := ix_ck_some h
  obtain ⟨r_29, d_26, h_27, h⟩ := ix_bd2_ex h
  refine ix_callV (As := []) (rest := []) (ci := 2) (T := TX2) (nf := 12) X mf_X2_makeName mi_X2_makeName ms_X2_makeName rfl (Nat.le_of_ble_eq_true rfl) ml_RX0_27 ⟨Nat.le_of_ble_eq_true rfl, Nat.le_of_ble_eq_true rfl⟩ ⟨Nat.le_of_ble_eq_true rfl, Nat.le_of_ble_eq_true rfl⟩ rfl (Nat.le_of_ble_eq_true rfl) (ix_tb_at tb_X0_laySums 54 rfl) ⟨k_28.1, List.mem_singleton.mp k_28.2⟩ (c_X2_makeName hKp h_27) rfl (pc1 := 90) rfl ?_
  refine ix_istore (i := 8) (L1 := [(8, .int r_29), (7, .int s0), (0, .ref (K.2.2.1 + a0)), (1, .ref (K.2.2.1 + a1)), (2, .ref (K.2.2.1 + a2)), (3, .int x3), (4, .int x4), (5, .int x5), (6, .int x6)]) X (ix_tb_at tb_X0_laySums 55 rfl) (Nat.le_of_ble_eq_true rfl) rfl (pc1 := 92) rfl ?_
  refine ix_iload (i := 7) (j := 1) X (ix_tb_at tb_X0_laySums 56 rfl) rfl (pc1 := 94) rfl ?_
  refine ix_if_eq (tgt := 107) X (ix_tb_at tb_X0_laySums 57 rfl) (by decide) (pc1 := 97) rfl (fun q_30 => ?_) (fun q_30 => ?_)
  · have h := ix_ift q_30 h
    refine ix_sub (L1 := [(0, .ref (K.2.2.1 + a0)), (1, .ref (K.2.2.1 + a1)), (2, .ref (K.2.2.1 + a2)), (3, .int x3), (4, .int x4), (5, .int x5), (6, .int x6), (7, .int s0), (8, .int r_29)]) [2, 3, 4, 5, 6, 7, 8, 1, 0] rfl ?_
    exact t_X0_laySums_107 hKp X hr hlk hrec28 hrec53 h
  · have h := ix_iff q_30 h
    refine ix_aload_n (i := 1) (j := 3) X (ix_tb_at tb_X0_laySums 58 rfl) rfl rfl (pc1 := 98) rfl ?_
    refine ix_iload (i := 7) (j := 1) X (ix_tb_at tb_X0_laySums 59 rfl) rfl (pc1 := 100) rfl ?_
    refine ix_ineg X (ix_tb_at tb_X0_laySums 60 rfl) (pc1 := 101) rfl ?_
    refine ix_iload (i := 8) (j := 0) X (ix_tb_at tb_X0_laySums 61 rfl) rfl (pc1 := 103) rfl ?_
    refine ix_iconst (v := 0) X (ix_tb_at tb_X0_laySums 62 rfl) (by decide) (pc1 := 104) rfl ?_
    obtain ⟨d_44, h_45, h⟩ := ix_bd1_ex h
    refine ix_callV (As := [.int (-s0), .int r_29, .int 0]) (rest := []) (ci := 2) (T := TX2) (nf := 12) X mf_X2_lay mi_X2_lay ms_X2_lay rfl (Nat.le_of_ble_eq_true rfl) ml_RX0_21 ⟨Nat.le_of_ble_eq_true rfl, Nat.le_of_ble_eq_true rfl⟩ ⟨Nat.le_of_ble_eq_true rfl, Nat.le_of_ble_eq_true rfl⟩ rfl (Nat.le_of_ble_eq_true rfl) (ix_tb_at tb_X0_laySums 63 rfl) ⟨k_28.1, List.mem_singleton.mp k_28.2⟩ (c_X2_lay hKp h_45) rfl (pc1 := 107) rfl ?_
    refine ix_sub (L1 := [(0, .ref (K.2.2.1 + a0)), (1, .ref (K.2.2.1 + a1)), (2, .ref (K.2.2.1 + a2)), (3, .int x3), (4, .int x4), (5, .int x5), (6, .int x6), (7, .int s0), (8, .int r_29)]) [2, 3, 4, 5, 6, 7, 8, 1, 0] rfl ?_
    exact t_X0_laySums_107 hKp X hr hlk hrec28 hrec53 h
set_option maxRecDepth 20000 in
theorem tb_X0_laySums_53 {l : Launch} {p : Program} {e : Env} {s : State} {m : MethodId} {args : Array Value} {below : List Frame} {meth : Method} {c : Code} {K : ix_Cx} (hKp : ix_Kp K) {n : Nat} {z : ix_Z} (X : ix_X p s m args c K cX0_laySums RX0 9) (hr : meth.sig.returnType = (some (.array .int))) (hlk : meth.locks = false) {rec28 : Int32 → ix_D2 → Option (Option Nat × ix_Z × ix_D2)} {a0 : Nat} {a1 : Nat} {a2 : Nat} {x3 : Int32} {x4 : Int32} {rec53 : Int32 → Int32 → ix_D2 → Option (Option Nat × ix_Z × ix_D2)} {r : Option Nat} {z1 : ix_Z} {d1 : ix_D2} (hrec28 : ∀ (x3 : Int32) (d : ix_D2), rec28 x3 d = some (r, z1, d1) → ix_G p l e (ix_rm 4 94 1 14) s m args below meth c (MQ below (ix_Post K (some (ix_rv K r)) (ix_w z1 d1)) args s 1 14 (ix_A K)) K 9 1 14 28 [(0, .ref (K.2.2.1 + a0)), (1, .ref (K.2.2.1 + a1)), (2, .ref (K.2.2.1 + a2)), (3, .int x3)] [] (ix_w z d)) (hrec53 : ∀ (x5 : Int32) (x6 : Int32) (d : ix_D2), rec53 x5 x6 d = some (r, z1, d1) → ix_G p l e (ix_rm 4 94 1 14) s m args below meth c (MQ below (ix_Post K (some (ix_rv K r)) (ix_w z1 d1)) args s 1 14 (ix_A K)) K 9 1 14 53 [(0, .ref (K.2.2.1 + a0)), (1, .ref (K.2.2.1 + a1)), (2, .ref (K.2.2.1 + a2)), (3, .int x3), (4, .int x4), (5, .int x5), (6, .int x6)] [] (ix_w z d)) {x5 : Int32} {x6 : Int32} {d : ix_D2} (h : b_X0_laySums_53 n z rec28 a0 a1 a2 x3 x4 rec53 x5 x6 d = some (r, z1, d1)) : ix_G p l e (ix_rm 4 94 1 14) s m args below meth c (MQ below (ix_Post K (some (ix_rv K r)) (ix_w z1 d1)) args s 1 14 (ix_A K)) K 9 1 14 53 [(0, .ref (K.2.2.1 + a0)), (1, .ref (K.2.2.1 + a1)), (2, .ref (K.2.2.1 + a2)), (3, .int x3), (4, .int x4), (5, .int x5), (6, .int x6)] [] (ix_w z d) := by
  unfold b_X0_laySums_53 at h
  refine ix_iload (i := 6) (j := 6) X (ix_tb_at tb_X0_laySums 35 rfl) rfl (pc1 := 55) rfl ?_
  refine ix_iload_n (i := 3) (j := 3) X (ix_tb_at tb_X0_laySums 36 rfl) rfl rfl (pc1 := 56) rfl ?_
  refine ix_icmp_gt (tgt := 162) X (ix_tb_at tb_X0_laySums 37 rfl) (by decide) (pc1 := 59) rfl (fun q_20 => ?_) (fun q_20 => ?_)
  · have h := ix_ift q_20 h
    refine ix_sub (L1 := [(0, .ref (K.2.2.1 + a0)), (1, .ref (K.2.2.1 + a1)), (2, .ref (K.2.2.1 + a2)), (3, .int x3)]) [0, 1, 2, 3] rfl ?_
    exact t_X0_laySums_162 hKp X hr hlk hrec28 h
  · have h := ix_iff q_20 h
    refine ix_iload (i := 6) (j := 6) X (ix_tb_at tb_X0_laySums 38 rfl) rfl (pc1 := 61) rfl ?_
    refine ix_aload_n (i := 0) (j := 0) X (ix_tb_at tb_X0_laySums 39 rfl) rfl rfl (pc1 := 62) rfl ?_
    obtain ⟨k_23, h⟩ := ix_ck_some h
    refine iz_getI X fl_RX0_7 k_23 (ix_tb_at tb_X0_laySums 40 rfl) (pc1 := 65) rfl ?_
    refine ix_iconst (v := 1) X (ix_tb_at tb_X0_laySums 41 rfl) (by decide) (pc1 := 66) rfl ?_
    refine ix_iadd X (ix_tb_at tb_X0_laySums 42 rfl) (pc1 := 67) rfl ?_
    refine ix_icmp_gt (tgt := 162) X (ix_tb_at tb_X0_laySums 43 rfl) (by decide) (pc1 := 70) rfl (fun q_24 => ?_) (fun q_24 => ?_)
    · have h := ix_ift q_24 h
      refine ix_sub (L1 := [(0, .ref (K.2.2.1 + a0)), (1, .ref (K.2.2.1 + a1)), (2, .ref (K.2.2.1 + a2)), (3, .int x3)]) [0, 1, 2, 3] rfl ?_
      exact t_X0_laySums_162 hKp X hr hlk hrec28 h
    · have h := ix_iff q_24 h
      refine ix_iload (i := 6) (j := 6) X (ix_tb_at tb_X0_laySums 44 rfl) rfl (pc1 := 72) rfl ?_
      refine ix_iload_n (i := 3) (j := 3) X (ix_tb_at tb_X0_laySums 45 rfl) rfl rfl (pc1 := 73) rfl ?_
      refine ix_icmp_ge (tgt := 83) X (ix_tb_at tb_X0_laySums 46 rfl) (by decide) (pc1 := 76) rfl (fun q_25 => ?_) (fun q_25 => ?_)
      · have h := ix_ift q_25 h
        refine ix_iconst (v := 0) X (ix_tb_at tb_X0_laySums 51 rfl) (by decide) (pc1 := 84) rfl ?_
        refine ix_sub (L1 := [(0, .ref (K.2.2.1 + a0)), (1, .ref (K.2.2.1 + a1)), (2, .ref (K.2.2.1 + a2)), (3, .int x3), (4, .int x4), (5, .int x5), (6, .int x6)]) [0, 1, 2, 3, 4, 5, 6] rfl ?_
        exact t_X0_laySums_84 hKp X hr hlk hrec28 hrec53 h
      · have h := ix_iff q_25 h
        refine ix_aload_n (i := 2) (j := 2) X (ix_tb_at tb_X0_laySums 47 rfl) rfl rfl (pc1 := 77) rfl ?_
        refine ix_iload (i := 6) (j := 6) X (ix_tb_at tb_X0_laySums 48 rfl) rfl (pc1 := 79) rfl ?_
        obtain ⟨k_46, h⟩ := ix_ck_some h
        refine iz_iald X k_46 (ix_tb_at tb_X0_laySums 49 rfl) (pc1 := 80) rfl ?_
        refine ix_goto (tgt := 84) X (ix_tb_at tb_X0_laySums 50 rfl) (by decide) ?_
        refine ix_sub (L1 := [(0, .ref (K.2.2.1 + a0)), (1, .ref (K.2.2.1 + a1)), (2, .ref (K.2.2.1 + a2)), (3, .int x3), (4, .int x4), (5, .int x5), (6, .int x6)]) [0, 1, 2, 3, 4, 5, 6] rfl ?_
        exact t_X0_laySums_84 hKp X hr hlk hrec28 hrec53 h
theorem t_X0_laySums_53 {l : Launch} {p : Program} {e : Env} {s : State} {m : MethodId} {args : Array Value} {below : List Frame} {meth : Method} {c : Code} {K : ix_Cx} (hKp : ix_Kp K) {n : Nat} {z : ix_Z} (X : ix_X p s m args c K cX0_laySums RX0 9) (hr : meth.sig.returnType = (some (.array .int))) (hlk : meth.locks = false) {rec28 : Int32 → ix_D2 → Option (Option Nat × ix_Z × ix_D2)} {a0 : Nat} {a1 : Nat} {a2 : Nat} {x3 : Int32} {x4 : Int32} {r : Option Nat} {z1 : ix_Z} {d1 : ix_D2} (hrec28 : ∀ (x3 : Int32) (d : ix_D2), rec28 x3 d = some (r, z1, d1) → ix_G p l e (ix_rm 4 94 1 14) s m args below meth c (MQ below (ix_Post K (some (ix_rv K r)) (ix_w z1 d1)) args s 1 14 (ix_A K)) K 9 1 14 28 [(0, .ref (K.2.2.1 + a0)), (1, .ref (K.2.2.1 + a1)), (2, .ref (K.2.2.1 + a2)), (3, .int x3)] [] (ix_w z d)) {x5 : Int32} {x6 : Int32} {d : ix_D2} (h : f_X0_laySums_53 n z rec28 a0 a1 a2 x3 x4 x5 x6 d = some (r, z1, d1)) : ix_G p l e (ix_rm 4 94 1 14) s m args below meth c (MQ below (ix_Post K (some (ix_rv K r)) (ix_w z1 d1)) args s 1 14 (ix_A K)) K 9 1 14 53 [(0, .ref (K.2.2.1 + a0)), (1, .ref (K.2.2.1 + a1)), (2, .ref (K.2.2.1 + a2)), (3, .int x3), (4, .int x4), (5, .int x5), (6, .int x6)] [] (ix_w z d) := by
  have key : ∀ (f : Nat) (x5 : Int32) (x6 : Int32) (d : ix_D2), ix_fix (b_X0_laySums_53 n z rec28 a0 a1 a2 x3 x4) (fun _ _ _ => none) f x5 x6 d = some (r, z1, d1) → ix_G p l e (ix_rm 4 94 1 14) s m args below meth c (MQ below (ix_Post K (some (ix_rv K r)) (ix_w z1 d1)) args s 1 14 (ix_A K)) K 9 1 14 53 [(0, .ref (K.2.2.1 + a0)), (1, .ref (K.2.2.1 + a1)), (2, .ref (K.2.2.1 + a2)), (3, .int x3), (4, .int x4), (5, .int x5), (6, .int x6)] [] (ix_w z d) := by
    intro f
    induction f with
    | zero =>
      intro x5 x6 d h
      have h : (none : Option (Option Nat × ix_Z × ix_D2)) = some (r, z1, d1) := h
      cases h
    | succ f ih =>
      intro x5 x6 d h
      exact tb_X0_laySums_53 hKp X hr hlk (rec53 := ix_fix (b_X0_laySums_53 n z rec28 a0 a1 a2 x3 x4) (fun _ _ _ => none) f) hrec28 ih h
  exact key n x5 x6 d h
set_option maxRecDepth 20000 in
theorem tb_X0_laySums_28 {l : Launch} {p : Program} {e : Env} {s : State} {m : MethodId} {args : Array Value} {below : List Frame} {meth : Method} {c : Code} {K : ix_Cx} (hKp : ix_Kp K) {n : Nat} {z : ix_Z} (X : ix_X p s m args c K cX0_laySums RX0 9) (hr : meth.sig.returnType = (some (.array .int))) (hlk : meth.locks = false)  {a0 : Nat} {a1 : Nat} {a2 : Nat} {rec28 : Int32 → ix_D2 → Option (Option Nat × ix_Z × ix_D2)} {r : Option Nat} {z1 : ix_Z} {d1 : ix_D2} (hrec28 : ∀ (x3 : Int32) (d : ix_D2), rec28 x3 d = some (r, z1, d1) → ix_G p l e (ix_rm 4 94 1 14) s m args below meth c (MQ below (ix_Post K (some (ix_rv K r)) (ix_w z1 d1)) args s 1 14 (ix_A K)) K 9 1 14 28 [(0, .ref (K.2.2.1 + a0)), (1, .ref (K.2.2.1 + a1)), (2, .ref (K.2.2.1 + a2)), (3, .int x3)] [] (ix_w z d)) {x3 : Int32} {d : ix_D2} (h : b_X0_laySums_28 n z  a0 a1 a2 rec28 x3 d = some (r, z1, d1)) : ix_G p l e (ix_rm 4 94 1 14) s m args below meth c (MQ below (ix_Post K (some (ix_rv K r)) (ix_w z1 d1)) args s 1 14 (ix_A K)) K 9 1 14 28 [(0, .ref (K.2.2.1 + a0)), (1, .ref (K.2.2.1 + a1)), (2, .ref (K.2.2.1 + a2)), (3, .int x3)] [] (ix_w z d) := by
  unfold b_X0_laySums_28 at h
  refine ix_iload_n (i := 3) (j := 3) X (ix_tb_at tb_X0_laySums 19 rfl) rfl rfl (pc1 := 29) rfl ?_
  refine ix_aload_n (i := 0) (j := 0) X (ix_tb_at tb_X0_laySums 20 rfl) rfl rfl (pc1 := 30) rfl ?_
  obtain ⟨k_12, h⟩ := ix_ck_some h
  obtain ⟨b_13, q_14, h⟩ := ix_bd1_ex h
  refine iz_getR X fl_RX0_17 k_12 q_14 (ix_tb_at tb_X0_laySums 21 rfl) (pc1 := 33) rfl ?_
  obtain ⟨k_15, h⟩ := ix_ck_some h
  refine iz_alen X k_15 (ix_tb_at tb_X0_laySums 22 rfl) (pc1 := 34) rfl ?_
  refine ix_icmp_gt (tgt := 168) X (ix_tb_at tb_X0_laySums 23 rfl) (by decide) (pc1 := 37) rfl (fun q_16 => ?_) (fun q_16 => ?_)
  · have h := ix_ift q_16 h
    refine ix_aload_n (i := 2) (j := 2) X (ix_tb_at tb_X0_laySums 95 rfl) rfl rfl (pc1 := 169) rfl ?_
    exact ix_aret (v := (some a2)) X hr (Or.inr ⟨_, rfl⟩) hlk (ix_r3 (f := fun r => some (ix_rv K r)) (g := ix_w) h) (ix_tb_at tb_X0_laySums 96 rfl)
  · have h := ix_iff q_16 h
    refine ix_aload_n (i := 0) (j := 0) X (ix_tb_at tb_X0_laySums 24 rfl) rfl rfl (pc1 := 38) rfl ?_
    refine iz_getR X fl_RX0_17 k_12 q_14 (ix_tb_at tb_X0_laySums 25 rfl) (pc1 := 41) rfl ?_
    refine ix_iload_n (i := 3) (j := 3) X (ix_tb_at tb_X0_laySums 26 rfl) rfl rfl (pc1 := 42) rfl ?_
    refine ix_iconst (v := 1) X (ix_tb_at tb_X0_laySums 27 rfl) (by decide) (pc1 := 43) rfl ?_
    refine ix_isub X (ix_tb_at tb_X0_laySums 28 rfl) (pc1 := 44) rfl ?_
    obtain ⟨k_17, h⟩ := ix_ck_some h
    refine iz_iald X k_17 (ix_tb_at tb_X0_laySums 29 rfl) (pc1 := 45) rfl ?_
    obtain ⟨x4_18, e_19, h⟩ := ix_lt_ex h
    refine ix_nmi e_19 ?_
    refine ix_istore (i := 4) (L1 := [(4, .int x4_18), (0, .ref (K.2.2.1 + a0)), (1, .ref (K.2.2.1 + a1)), (2, .ref (K.2.2.1 + a2)), (3, .int x3)]) X (ix_tb_at tb_X0_laySums 30 rfl) (Nat.le_of_ble_eq_true rfl) rfl (pc1 := 47) rfl ?_
    refine ix_iconst (v := 0) X (ix_tb_at tb_X0_laySums 31 rfl) (by decide) (pc1 := 48) rfl ?_
    refine ix_istore (i := 5) (L1 := [(5, .int 0), (4, .int x4_18), (0, .ref (K.2.2.1 + a0)), (1, .ref (K.2.2.1 + a1)), (2, .ref (K.2.2.1 + a2)), (3, .int x3)]) X (ix_tb_at tb_X0_laySums 32 rfl) (Nat.le_of_ble_eq_true rfl) rfl (pc1 := 50) rfl ?_
    refine ix_iconst (v := 1) X (ix_tb_at tb_X0_laySums 33 rfl) (by decide) (pc1 := 51) rfl ?_
    refine ix_istore (i := 6) (L1 := [(6, .int 1), (5, .int 0), (4, .int x4_18), (0, .ref (K.2.2.1 + a0)), (1, .ref (K.2.2.1 + a1)), (2, .ref (K.2.2.1 + a2)), (3, .int x3)]) X (ix_tb_at tb_X0_laySums 34 rfl) (Nat.le_of_ble_eq_true rfl) rfl (pc1 := 53) rfl ?_
    refine ix_sub (L1 := [(0, .ref (K.2.2.1 + a0)), (1, .ref (K.2.2.1 + a1)), (2, .ref (K.2.2.1 + a2)), (3, .int x3), (4, .int x4_18), (5, .int 0), (6, .int 1)]) [3, 4, 5, 6, 2, 1, 0] rfl ?_
    exact t_X0_laySums_53 hKp X hr hlk hrec28 h
theorem t_X0_laySums_28 {l : Launch} {p : Program} {e : Env} {s : State} {m : MethodId} {args : Array Value} {below : List Frame} {meth : Method} {c : Code} {K : ix_Cx} (hKp : ix_Kp K) {n : Nat} {z : ix_Z} (X : ix_X p s m args c K cX0_laySums RX0 9) (hr : meth.sig.returnType = (some (.array .int))) (hlk : meth.locks = false)  {a0 : Nat} {a1 : Nat} {a2 : Nat} {r : Option Nat} {z1 : ix_Z} {d1 : ix_D2}  {x3 : Int32} {d : ix_D2} (h : f_X0_laySums_28 n z  a0 a1 a2 x3 d = some (r, z1, d1)) : ix_G p l e (ix_rm 4 94 1 14) s m args below meth c (MQ below (ix_Post K (some (ix_rv K r)) (ix_w z1 d1)) args s 1 14 (ix_A K)) K 9 1 14 28 [(0, .ref (K.2.2.1 + a0)), (1, .ref (K.2.2.1 + a1)), (2, .ref (K.2.2.1 + a2)), (3, .int x3)] [] (ix_w z d) := by
  have key : ∀ (f : Nat) (x3 : Int32) (d : ix_D2), ix_fix (b_X0_laySums_28 n z  a0 a1 a2) (fun _ _ => none) f x3 d = some (r, z1, d1) → ix_G p l e (ix_rm 4 94 1 14) s m args below meth c (MQ below (ix_Post K (some (ix_rv K r)) (ix_w z1 d1)) args s 1 14 (ix_A K)) K 9 1 14 28 [(0, .ref (K.2.2.1 + a0)), (1, .ref (K.2.2.1 + a1)), (2, .ref (K.2.2.1 + a2)), (3, .int x3)] [] (ix_w z d) := by
    intro f
    induction f with
    | zero =>
      intro x3 d h
      have h : (none : Option (Option Nat × ix_Z × ix_D2)) = some (r, z1, d1) := h
      cases h
    | succ f ih =>
      intro x3 d h
      exact tb_X0_laySums_28 hKp X hr hlk (rec28 := ix_fix (b_X0_laySums_28 n z  a0 a1 a2) (fun _ _ => none) f)  ih h
  exact key n x3 d h
set_option maxRecDepth 20000 in
theorem t_X0_laySums_26 {l : Launch} {p : Program} {e : Env} {s : State} {m : MethodId} {args : Array Value} {below : List Frame} {meth : Method} {c : Code} {K : ix_Cx} (hKp : ix_Kp K) {n : Nat} {z : ix_Z} (X : ix_X p s m args c K cX0_laySums RX0 9) (hr : meth.sig.returnType = (some (.array .int))) (hlk : meth.locks = false)  {a0 : Nat} {a1 : Nat} {a2 : Nat} {r : Option Nat} {z1 : ix_Z} {d1 : ix_D2}  {d : ix_D2} (h : f_X0_laySums_26 n z  a0 a1 a2 d = some (r, z1, d1)) : ix_G p l e (ix_rm 4 94 1 14) s m args below meth c (MQ below (ix_Post K (some (ix_rv K r)) (ix_w z1 d1)) args s 1 14 (ix_A K)) K 9 1 14 26 [(0, .ref (K.2.2.1 + a0)), (1, .ref (K.2.2.1 + a1)), (2, .ref (K.2.2.1 + a2))] [] (ix_w z d) := by
  unfold f_X0_laySums_26 at h
  refine ix_iconst (v := 2) X (ix_tb_at tb_X0_laySums 17 rfl) (by decide) (pc1 := 27) rfl ?_
  refine ix_istore_n (i := 3) (L1 := [(3, .int 2), (0, .ref (K.2.2.1 + a0)), (1, .ref (K.2.2.1 + a1)), (2, .ref (K.2.2.1 + a2))]) X (ix_tb_at tb_X0_laySums 18 rfl) rfl (Nat.le_of_ble_eq_true rfl) rfl (pc1 := 28) rfl ?_
  refine ix_sub (L1 := [(0, .ref (K.2.2.1 + a0)), (1, .ref (K.2.2.1 + a1)), (2, .ref (K.2.2.1 + a2)), (3, .int 2)]) [1, 2, 3, 0] rfl ?_
  exact t_X0_laySums_28 hKp X hr hlk  h
set_option maxRecDepth 20000 in
theorem c_X0_laySums {l : Launch} {K : ix_Cx} (hKp : ix_Kp K) {n : Nat} {z : ix_Z} {a0 : Nat} {a1 : Nat} {d : ix_D2} {r : Option Nat} {z1 : ix_Z} {d1 : ix_D2} (h : f_X0_laySums n z a0 a1 d = some (r, z1, d1)) : ix_M l K yX0_laySums cX0_laySums 9 (some (.array .int)) 4 94 1 14 [.ref (K.2.2.1 + a0), .ref (K.2.2.1 + a1)] (ix_w z d) (some (ix_rv K r)) (ix_w z1 d1) := by
  refine ix_met mf_X0_laySums hKp (Nat.le_of_ble_eq_true rfl) ?_
  intro p e s m args below meth c hr hlk hnm X
  have X : ix_X p s m args c K cX0_laySums RX0 9 := X
  show ix_G p l e (ix_rm 4 94 1 14) s m args below meth c (MQ below (ix_Post K (some (ix_rv K r)) (ix_w z1 d1)) args s 1 14 (ix_A K)) K 9 0 0 0 [(0, .ref (K.2.2.1 + a0)), (1, .ref (K.2.2.1 + a1))] [] (ix_w z d)
  unfold f_X0_laySums at h
  refine ix_aload_n (i := 0) (j := 0) X (ix_tb_at tb_X0_laySums 0 rfl) rfl rfl (pc1 := 1) rfl ?_
  obtain ⟨k_1, h⟩ := ix_ck_some h
  refine iz_getI X fl_RX0_7 k_1 (ix_tb_at tb_X0_laySums 1 rfl) (pc1 := 4) rfl ?_
  refine ix_iconst (v := 2) X (ix_tb_at tb_X0_laySums 2 rfl) (by decide) (pc1 := 5) rfl ?_
  refine ix_iadd X (ix_tb_at tb_X0_laySums 3 rfl) (pc1 := 6) rfl ?_
  obtain ⟨k_2, h⟩ := ix_ck_some h
  obtain ⟨z_3, e_4, h⟩ := ix_lt_ex h
  obtain ⟨d_5, e_6, h⟩ := ix_lt_ex h
  refine iz_newa_int (pl := 98) X (by decide +kernel) k_2.1 (Nat.le_trans k_2.2 (by decide)) (Nat.le_of_ble_eq_true rfl) (Nat.le_trans (Nat.add_le_add_left k_2.2 _) (Nat.le_of_ble_eq_true rfl)) (ix_tb_at tb_X0_laySums 4 rfl) e_4 e_6 (pc1 := 8) rfl ?_
  refine ix_widen (k1 := 1) (n1 := 14) (Nat.le_of_ble_eq_true rfl) (Nat.le_trans (Nat.add_le_add_left k_2.2 _) (Nat.le_of_ble_eq_true rfl)) ?_
  refine ix_astore_n (i := 2) (L1 := [(2, .ref (K.2.2.1 + (z.2.2))), (0, .ref (K.2.2.1 + a0)), (1, .ref (K.2.2.1 + a1))]) X (ix_tb_at tb_X0_laySums 5 rfl) rfl (Nat.le_of_ble_eq_true rfl) rfl (pc1 := 9) rfl ?_
  refine ix_aload_n (i := 0) (j := 1) X (ix_tb_at tb_X0_laySums 6 rfl) rfl rfl (pc1 := 10) rfl ?_
  obtain ⟨k_7, h⟩ := ix_ck_some h
  obtain ⟨b_8, q_9, h⟩ := ix_bd1_ex h
  refine iz_getR X fl_RX0_17 k_7 q_9 (ix_tb_at tb_X0_laySums 7 rfl) (pc1 := 13) rfl ?_
  obtain ⟨k_10, h⟩ := ix_ck_some h
  refine iz_alen X k_10 (ix_tb_at tb_X0_laySums 8 rfl) (pc1 := 14) rfl ?_
  refine ix_if_le (tgt := 26) X (ix_tb_at tb_X0_laySums 9 rfl) (by decide) (pc1 := 17) rfl (fun q_11 => ?_) (fun q_11 => ?_)
  · have h := ix_ift q_11 h
    refine ix_sub (L1 := [(0, .ref (K.2.2.1 + a0)), (1, .ref (K.2.2.1 + a1)), (2, .ref (K.2.2.1 + (z.2.2)))]) [1, 2, 0] rfl ?_
    exact t_X0_laySums_26 hKp X hr hlk  h
  · have h := ix_iff q_11 h
    refine ix_aload_n (i := 2) (j := 0) X (ix_tb_at tb_X0_laySums 10 rfl) rfl rfl (pc1 := 18) rfl ?_
    refine ix_iconst (v := 1) X (ix_tb_at tb_X0_laySums 11 rfl) (by decide) (pc1 := 19) rfl ?_
    refine ix_aload_n (i := 0) (j := 1) X (ix_tb_at tb_X0_laySums 12 rfl) rfl rfl (pc1 := 20) rfl ?_
    refine iz_getR X fl_RX0_17 k_7 q_9 (ix_tb_at tb_X0_laySums 13 rfl) (pc1 := 23) rfl ?_
    refine ix_iconst (v := 0) X (ix_tb_at tb_X0_laySums 14 rfl) (by decide) (pc1 := 24) rfl ?_
    obtain ⟨k_47, h⟩ := ix_ck_some h
    refine iz_iald X k_47 (ix_tb_at tb_X0_laySums 15 rfl) (pc1 := 25) rfl ?_
    obtain ⟨k_48, h⟩ := ix_ck_some h
    obtain ⟨d_49, e_50, h⟩ := ix_lt_ex h
    refine iz_iast X k_48 (ix_tb_at tb_X0_laySums 16 rfl) e_50 (pc1 := 26) rfl ?_
    refine ix_sub (L1 := [(0, .ref (K.2.2.1 + a0)), (1, .ref (K.2.2.1 + a1)), (2, .ref (K.2.2.1 + (z.2.2)))]) [1, 2, 0] rfl ?_
    exact t_X0_laySums_26 hKp X hr hlk  h
def tab_X0_layInto : List (Nat × Instr × Nat) := [(0, .aload_n 0, 1), (1, .aload_n 1, 1), (2, .invokevirtual 13, 3), (5, .astore_n 2, 1), (6, .aload_n 0, 1), (7, .getfield 17, 3), (10, .arraylength, 1), (11, .aload_n 0, 1), (12, .getfield 7, 3), (15, .if_icmp .le 18, 3), (18, .aload_n 1, 1), (19, .aload_n 2, 1), (20, .aload_n 0, 1), (21, .getfield 7, 3), (24, .iconst 1, 1), (25, .iadd, 1), (26, .iaload, 1), (27, .ineg, 1), (28, .iconst 0, 1), (29, .iconst 0, 1), (30, .invokevirtual 21, 3), (33, .return_, 1)]
theorem tb_X0_layInto : ix_tab cX0_layInto tab_X0_layInto := by
  unfold ix_tab
  decide +kernel
noncomputable def v_RX0_13 (n : Nat) (z : ix_Z) (b : Nat) (p0 : Nat) (d : ix_D2) : Option (Option Nat × ix_Z × ix_D2) := ix_if ((z.2.1 b).1 = 0) (f_X0_laySums n z b p0 d) (f_X0_laySums n z b p0 d)
theorem tv_RX0_13 {l : Launch} {p : Program} {e : Env} {s : State} {m : MethodId} {args : Array Value} {below : List Frame} {meth : Method} {c : Code} {K : ix_Cx} {R : Room} {Q : State → Prop} {nL k n pc : Nat} {cc : ByteArray} {L : List (Nat × Value)} {rest : List Value} (hKp : ix_Kp K) (X : ix_X p s m args c K cc RX0 nL) {N : Nat} {z : ix_Z} {b : Nat} {p0 : Nat} {d : ix_D2} {r : Option Nat} {z1 : ix_Z} {d1 : ix_D2} (hk : ix_ok z [0, 5] b) (hcall : v_RX0_13 N z b p0 d = some (r, z1, d1)) (hfr : 5 ≤ R.frames) (hlo : 122 ≤ R.locals) (hcs : k + 1 ≤ R.cells ∧ n + 14 ≤ R.slots) (hrm : (rest.map fun v => v.category).sum ≤ 8) (hd : decode cc pc = .ok (.invokevirtual 13, 3)) {pc1 : Nat} (hp : pc + 3 = pc1) (kk : ix_G p l e R s m args below meth c Q K nL (k + 1) (n + 14) pc1 L (ix_rv K r :: rest) (ix_w z1 d1)) : ix_G p l e R s m args below meth c Q K nL k n pc L (.ref (K.2.2.1 + p0) :: .ref (K.2.2.1 + b) :: rest) (ix_w z d) := by
  unfold v_RX0_13 at hcall
  have h2 := hk.2
  simp only [List.mem_cons, List.not_mem_nil, or_false] at h2
  rcases h2 with h2 | h2
  · have hcall := ix_ift h2 hcall
    exact ix_callU (As := [.ref (K.2.2.1 + p0)]) (rest := rest) (x := (⟨"ClauseCourt$AtMost", "laySums", "(LClauseCourt$Case;)[I"⟩ : MethodName)) (owner := "ClauseCourt$AtMost") (C := RX0) (T := TX0) (nf := 4) (ci := 0) X mf_X0_laySums mi_X0_laySums (ix_wm (i := 541) (by decide +kernel)) (ix_wm (i := 542) (by decide +kernel)) (Or.inl (ix_wm (i := 576) (by decide +kernel))) ⟨by decide, by decide⟩ (by decide +kernel) rfl (by decide) ml_RX0_13 ⟨Nat.le_trans (Nat.le_of_ble_eq_true rfl) hfr, Nat.le_trans (Nat.le_of_ble_eq_true rfl) hlo⟩ ⟨Nat.le_trans (Nat.add_le_add_left (by decide) _) hcs.1, Nat.le_trans (Nat.add_le_add_left (by decide) _) hcs.2⟩ rfl hrm hd ⟨hk.1, h2⟩ (c_X0_laySums hKp hcall) rfl hp (ix_widen (Nat.add_le_add_left (by decide) _) (Nat.add_le_add_left (by decide) _) kk)
  · have hcall := ix_iff (by rw [h2]; decide) hcall
    exact ix_callU (As := [.ref (K.2.2.1 + p0)]) (rest := rest) (x := (⟨"ClauseCourt$AtMost", "laySums", "(LClauseCourt$Case;)[I"⟩ : MethodName)) (owner := "ClauseCourt$AtMost") (C := RX5) (T := TX5) (nf := 4) (ci := 5) X mf_X0_laySums mi_X0_laySums (ix_wm (i := 543) (by decide +kernel)) (ix_wm (i := 542) (by decide +kernel)) (Or.inl (ix_wm (i := 576) (by decide +kernel))) ⟨by decide, by decide⟩ (by decide +kernel) rfl (by decide) ml_RX0_13 ⟨Nat.le_trans (Nat.le_of_ble_eq_true rfl) hfr, Nat.le_trans (Nat.le_of_ble_eq_true rfl) hlo⟩ ⟨Nat.le_trans (Nat.add_le_add_left (by decide) _) hcs.1, Nat.le_trans (Nat.add_le_add_left (by decide) _) hcs.2⟩ rfl hrm hd ⟨hk.1, h2⟩ (c_X0_laySums hKp hcall) rfl hp (ix_widen (Nat.add_le_add_left (by decide) _) (Nat.add_le_add_left (by decide) _) kk)
noncomputable def f_X0_layInto (n : Nat) (z : ix_Z) (a0 : Nat) (a1 : Nat) (d : ix_D2) : Option (ix_Z × ix_D2) :=
  ix_ck (ix_ok z [0, 5] a0) (ix_bd3 (v_RX0_13 n z a0 a1 d) (fun r_5 z_3 d_2 => ix_bd1 r_5 (fun b_6 => ix_ck (ix_ok z_3 [0, 5] a0) (ix_bd1 (z_3.1 a0 0) (fun b_9 => ix_ck (b_9 < z_3.2.2 ∧ 20 ≤ (z_3.2.1 b_9).1 ∧ (z_3.2.1 b_9).1 < 26) (ix_if (nI (z_3.2.1 b_9).2 ≤ d_2.1 a0 3) (some (z_3, d_2)) (ix_ck (ix_ix z_3 20 b_6 ((d_2.1 a0 3) + 1)) (ix_ck (ix_ok z_3 [2] a1) (ix_bd1 (f_X2_lay n z_3 a1 (-(d_2.1 b_6 (ix_n ((d_2.1 a0 3) + 1)))) 0 0 d_2) (fun d_14 => some (z_3, d_14)))))))))))
set_option maxRecDepth 20000 in
theorem c_X0_layInto {l : Launch} {K : ix_Cx} (hKp : ix_Kp K) {n : Nat} {z : ix_Z} {a0 : Nat} {a1 : Nat} {d : ix_D2} {z1 : ix_Z} {d1 : ix_D2} (h : f_X0_layInto n z a0 a1 d = some (z1, d1)) : ix_M l K yX0_layInto cX0_layInto 3 (none : Option Jvm.ClassFile.FieldType) 5 122 1 14 [.ref (K.2.2.1 + a0), .ref (K.2.2.1 + a1)] (ix_w z d) none (ix_w z1 d1) := by
  refine ix_met mf_X0_layInto hKp (Nat.le_of_ble_eq_true rfl) ?_
  intro p e s m args below meth c hr hlk hnm X
  have X : ix_X p s m args c K cX0_layInto RX0 3 := X
  show ix_G p l e (ix_rm 5 122 1 14) s m args below meth c (MQ below (ix_Post K none (ix_w z1 d1)) args s 1 14 (ix_A K)) K 3 0 0 0 [(0, .ref (K.2.2.1 + a0)), (1, .ref (K.2.2.1 + a1))] [] (ix_w z d)
  unfold f_X0_layInto at h
  refine ix_aload_n (i := 0) (j := 0) X (ix_tb_at tb_X0_layInto 0 rfl) rfl rfl (pc1 := 1) rfl ?_
  refine ix_aload_n (i := 1) (j := 1) X (ix_tb_at tb_X0_layInto 1 rfl) rfl rfl (pc1 := 2) rfl ?_
  obtain ⟨k_1, h⟩ := ix_ck_some h
  obtain ⟨r_5, z_3, d_2, h_4, h⟩ := ix_bd3_ex h
  refine tv_RX0_13 (rest := []) hKp X k_1 h_4 (Nat.le_of_ble_eq_true rfl) (Nat.le_of_ble_eq_true rfl) ⟨Nat.le_of_ble_eq_true rfl, Nat.le_of_ble_eq_true rfl⟩ (Nat.le_of_ble_eq_true rfl) (ix_tb_at tb_X0_layInto 2 rfl) (pc1 := 5) rfl ?_
  obtain ⟨b_6, q_7, h⟩ := ix_bd1_ex h
  refine ix_rvs q_7 ?_
  refine ix_astore_n (i := 2) (L1 := [(2, .ref (K.2.2.1 + b_6)), (0, .ref (K.2.2.1 + a0)), (1, .ref (K.2.2.1 + a1))]) X (ix_tb_at tb_X0_layInto 3 rfl) rfl (Nat.le_of_ble_eq_true rfl) rfl (pc1 := 6) rfl ?_
  refine ix_aload_n (i := 0) (j := 1) X (ix_tb_at tb_X0_layInto 4 rfl) rfl rfl (pc1 := 7) rfl ?_
  obtain ⟨k_8, h⟩ := ix_ck_some h
  obtain ⟨b_9, q_10, h⟩ := ix_bd1_ex h
  refine iz_getR X fl_RX0_17 k_8 q_10 (ix_tb_at tb_X0_layInto 5 rfl) (pc1 := 10) rfl ?_
  obtain ⟨k_11, h⟩ := ix_ck_some h
  refine iz_alen X k_11 (ix_tb_at tb_X0_layInto 6 rfl) (pc1 := 11) rfl ?_
  refine ix_aload_n (i := 0) (j := 1) X (ix_tb_at tb_X0_layInto 7 rfl) rfl rfl (pc1 := 12) rfl ?_
  refine iz_getI X fl_RX0_7 k_8 (ix_tb_at tb_X0_layInto 8 rfl) (pc1 := 15) rfl ?_
  refine ix_icmp_le (tgt := 33) X (ix_tb_at tb_X0_layInto 9 rfl) (by decide) (pc1 := 18) rfl (fun q_12 => ?_) (fun q_12 => ?_)
  · have h := ix_ift q_12 h
    exact ix_vret X hr hlk (ix_r2v (g := ix_w) h) (ix_tb_at tb_X0_layInto 21 rfl)
  · have h := ix_iff q_12 h
    refine ix_aload_n (i := 1) (j := 2) X (ix_tb_at tb_X0_layInto 10 rfl) rfl rfl (pc1 := 19) rfl ?_
    refine ix_aload_n (i := 2) (j := 0) X (ix_tb_at tb_X0_layInto 11 rfl) rfl rfl (pc1 := 20) rfl ?_
    refine ix_aload_n (i := 0) (j := 1) X (ix_tb_at tb_X0_layInto 12 rfl) rfl rfl (pc1 := 21) rfl ?_
    refine iz_getI X fl_RX0_7 k_8 (ix_tb_at tb_X0_layInto 13 rfl) (pc1 := 24) rfl ?_
    refine ix_iconst (v := 1) X (ix_tb_at tb_X0_layInto 14 rfl) (by decide) (pc1 := 25) rfl ?_
    refine ix_iadd X (ix_tb_at tb_X0_layInto 15 rfl) (pc1 := 26) rfl ?_
    obtain ⟨k_13, h⟩ := ix_ck_some h
    refine iz_iald X k_13 (ix_tb_at tb_X0_layInto 16 rfl) (pc1 := 27) rfl ?_
    refine ix_ineg X (ix_tb_at tb_X0_layInto 17 rfl) (pc1 := 28) rfl ?_
    refine ix_iconst (v := 0) X (ix_tb_at tb_X0_layInto 18 rfl) (by decide) (pc1 := 29) rfl ?_
    refine ix_iconst (v := 0) X (ix_tb_at tb_X0_layInto 19 rfl) (by decide) (pc1 := 30) rfl ?_
    obtain ⟨k_16, h⟩ := ix_ck_some h
    obtain ⟨d_14, h_15, h⟩ := ix_bd1_ex h
    refine ix_callV (As := [.int (-(d_2.1 b_6 (ix_n ((d_2.1 a0 3) + 1)))), .int 0, .int 0]) (rest := []) (ci := 2) (T := TX2) (nf := 12) X mf_X2_lay mi_X2_lay ms_X2_lay rfl (Nat.le_of_ble_eq_true rfl) ml_RX0_21 ⟨Nat.le_of_ble_eq_true rfl, Nat.le_of_ble_eq_true rfl⟩ ⟨Nat.le_of_ble_eq_true rfl, Nat.le_of_ble_eq_true rfl⟩ rfl (Nat.le_of_ble_eq_true rfl) (ix_tb_at tb_X0_layInto 20 rfl) ⟨k_16.1, List.mem_singleton.mp k_16.2⟩ (c_X2_lay hKp h_15) rfl (pc1 := 33) rfl ?_
    exact ix_vret X hr hlk (ix_r2v (g := ix_w) h) (ix_tb_at tb_X0_layInto 21 rfl)
def tab_X7_init : List (Nat × Instr × Nat) := [(0, .aload_n 0, 1), (1, .invokespecial 3, 3), (4, .aload_n 0, 1), (5, .iload_n 2, 1), (6, .newarray .int, 2), (8, .putfield 9, 3), (11, .aload_n 0, 1), (12, .iload_n 1, 1), (13, .iconst 1, 1), (14, .iadd, 1), (15, .newarray .int, 2), (17, .putfield 15, 3), (20, .return_, 1)]
theorem tb_X7_init : ix_tab cX7_init tab_X7_init := by
  unfold ix_tab
  decide +kernel
noncomputable def f_X7_init (n : Nat) (z : ix_Z) (a0 : Nat) (x1 : Int32) (x2 : Int32) (d : ix_D2) : Option (ix_Z × ix_D2) :=
  ix_ck (¬ x2 < 0 ∧ ix_n x2 ≤ 12000) (ix_lt (ix_zn z 20 (ix_n x2)) (fun z_2 => ix_lt (ix_dn d z.2.2) (fun d_4 => ix_ck (ix_ok z_2 [7] a0) (ix_lt (ix_zr z_2 a0 0 (some (z.2.2))) (fun z_7 => ix_ck (¬ (x1 + 1) < 0 ∧ ix_n (x1 + 1) ≤ 1400) (ix_lt (ix_zn z_7 20 (ix_n (x1 + 1))) (fun z_10 => ix_lt (ix_dn d_4 z_7.2.2) (fun d_12 => ix_ck (ix_ok z_10 [7] a0) (ix_lt (ix_zr z_10 a0 1 (some z_7.2.2)) (fun z_15 => some (z_15, d_12)))))))))))
set_option maxRecDepth 20000 in
theorem c_X7_init {l : Launch} {K : ix_Cx} (hKp : ix_Kp K) {n : Nat} {z : ix_Z} {a0 : Nat} {x1 : Int32} {x2 : Int32} {d : ix_D2} {z1 : ix_Z} {d1 : ix_D2} (h : f_X7_init n z a0 x1 x2 d = some (z1, d1)) : ix_M l K yX7_init cX7_init 3 (none : Option Jvm.ClassFile.FieldType) 1 23 2 13400 [.ref (K.2.2.1 + a0), .int x1, .int x2] (ix_w z d) none (ix_w z1 d1) := by
  refine ix_met mf_X7_init hKp (Nat.le_of_ble_eq_true rfl) ?_
  intro p e s m args below meth c hr hlk hnm X
  have X : ix_X p s m args c K cX7_init RX7 3 := X
  have hnm : meth.name = "<init>" := hnm
  show ix_G p l e (ix_rm 1 23 2 13400) s m args below meth c (MQ below (ix_Post K none (ix_w z1 d1)) args s 2 13400 (ix_A K)) K 3 0 0 0 [(0, .ref (K.2.2.1 + a0)), (1, .int x1), (2, .int x2)] [] (ix_w z d)
  unfold f_X7_init at h
  refine ix_aload_n (i := 0) (j := 0) X (ix_tb_at tb_X7_init 0 rfl) rfl rfl (pc1 := 1) rfl ?_
  refine ix_objI (pl := 111) X (by decide +kernel) (Nat.le_of_ble_eq_true rfl) (Nat.le_of_ble_eq_true rfl) (ix_tb_at tb_X7_init 1 rfl) (pc1 := 4) rfl ?_
  refine ix_aload_n (i := 0) (j := 0) X (ix_tb_at tb_X7_init 2 rfl) rfl rfl (pc1 := 5) rfl ?_
  refine ix_iload_n (i := 2) (j := 2) X (ix_tb_at tb_X7_init 3 rfl) rfl rfl (pc1 := 6) rfl ?_
  obtain ⟨k_1, h⟩ := ix_ck_some h
  obtain ⟨z_2, e_3, h⟩ := ix_lt_ex h
  obtain ⟨d_4, e_5, h⟩ := ix_lt_ex h
  refine iz_newa_int (pl := 98) X (by decide +kernel) k_1.1 (Nat.le_trans k_1.2 (by decide)) (Nat.le_of_ble_eq_true rfl) (Nat.le_trans (Nat.add_le_add_left k_1.2 _) (Nat.le_of_ble_eq_true rfl)) (ix_tb_at tb_X7_init 4 rfl) e_3 e_5 (pc1 := 8) rfl ?_
  refine ix_widen (k1 := 1) (n1 := 12000) (Nat.le_of_ble_eq_true rfl) (Nat.le_trans (Nat.add_le_add_left k_1.2 _) (Nat.le_of_ble_eq_true rfl)) ?_
  obtain ⟨k_6, h⟩ := ix_ck_some h
  obtain ⟨z_7, e_8, h⟩ := ix_lt_ex h
  refine iz_putR (ty := .array .int) X fp_RX7_9 (fun _ => ⟨rfl, hnm⟩) k_6 (by decide +kernel) (by decide +kernel) (Or.inr ⟨_, rfl⟩) (ix_tb_at tb_X7_init 5 rfl) e_8 (pc1 := 11) rfl ?_
  refine ix_aload_n (i := 0) (j := 0) X (ix_tb_at tb_X7_init 6 rfl) rfl rfl (pc1 := 12) rfl ?_
  refine ix_iload_n (i := 1) (j := 1) X (ix_tb_at tb_X7_init 7 rfl) rfl rfl (pc1 := 13) rfl ?_
  refine ix_iconst (v := 1) X (ix_tb_at tb_X7_init 8 rfl) (by decide) (pc1 := 14) rfl ?_
  refine ix_iadd X (ix_tb_at tb_X7_init 9 rfl) (pc1 := 15) rfl ?_
  obtain ⟨k_9, h⟩ := ix_ck_some h
  obtain ⟨z_10, e_11, h⟩ := ix_lt_ex h
  obtain ⟨d_12, e_13, h⟩ := ix_lt_ex h
  refine iz_newa_int (pl := 98) X (by decide +kernel) k_9.1 (Nat.le_trans k_9.2 (by decide)) (Nat.le_of_ble_eq_true rfl) (Nat.le_trans (Nat.add_le_add_left k_9.2 _) (Nat.le_of_ble_eq_true rfl)) (ix_tb_at tb_X7_init 10 rfl) e_11 e_13 (pc1 := 17) rfl ?_
  refine ix_widen (k1 := 2) (n1 := 13400) (Nat.le_of_ble_eq_true rfl) (Nat.le_trans (Nat.add_le_add_left k_9.2 _) (Nat.le_of_ble_eq_true rfl)) ?_
  obtain ⟨k_14, h⟩ := ix_ck_some h
  obtain ⟨z_15, e_16, h⟩ := ix_lt_ex h
  refine iz_putR (ty := .array .int) X fp_RX7_15 (fun _ => ⟨rfl, hnm⟩) k_14 (by decide +kernel) (by decide +kernel) (Or.inr ⟨_, rfl⟩) (ix_tb_at tb_X7_init 11 rfl) e_16 (pc1 := 20) rfl ?_
  exact ix_vret X hr hlk (ix_r2v (g := ix_w) h) (ix_tb_at tb_X7_init 12 rfl)
def tab_X1_init : List (Nat × Instr × Nat) := [(0, .aload_n 0, 1), (1, .invokespecial 5, 3), (4, .aload_n 0, 1), (5, .new 11, 3), (8, .dup, 1), (9, .sipush 1364, 3), (12, .sipush 11780, 3), (15, .invokespecial 13, 3), (18, .putfield 16, 3), (21, .aload_n 0, 1), (22, .sipush 601, 3), (25, .newarray .int, 2), (27, .putfield 20, 3), (30, .aload_n 0, 1), (31, .sipush 11780, 3), (34, .newarray .int, 2), (36, .putfield 24, 3), (39, .aload_n 0, 1), (40, .sipush 11780, 3), (43, .newarray .int, 2), (45, .putfield 27, 3), (48, .aload_n 0, 1), (49, .sipush 1364, 3), (52, .newarray .int, 2), (54, .putfield 30, 3), (57, .aload_n 0, 1), (58, .bipush 22, 2), (60, .newarray .long, 2), (62, .putfield 33, 3), (65, .aload_n 0, 1), (66, .bipush 22, 2), (68, .newarray .long, 2), (70, .putfield 37, 3), (73, .aload_n 0, 1), (74, .sipush 301, 3), (77, .newarray .int, 2), (79, .putfield 40, 3), (82, .aload_n 0, 1), (83, .sipush 301, 3), (86, .newarray .int, 2), (88, .putfield 43, 3), (91, .aload_n 0, 1), (92, .sipush 301, 3), (95, .newarray .int, 2), (97, .putfield 46, 3), (100, .aload_n 0, 1), (101, .sipush 301, 3), (104, .newarray .int, 2), (106, .putfield 49, 3), (109, .aload_n 0, 1), (110, .sipush 301, 3), (113, .newarray .int, 2), (115, .putfield 52, 3), (118, .return_, 1)]
theorem tb_X1_init : ix_tab cX1_init tab_X1_init := by
  unfold ix_tab
  decide +kernel
noncomputable def f_X1_init (n : Nat) (z : ix_Z) (a0 : Nat) (d : ix_D2) : Option (ix_Z × ix_D2) :=
  ix_lt (ix_zn z 7 3) (fun z_1 => ix_lt (ix_dn d z.2.2) (fun d_3 => ix_bd2 (f_X7_init n z_1 (z.2.2) 1364 11780 d_3) (fun z_7 d_5 => ix_ck (ix_ok z_7 [1] a0) (ix_lt (ix_zr z_7 a0 0 (some (z.2.2))) (fun z_10 => ix_lt (ix_zn z_10 20 (ix_n 601)) (fun z_12 => ix_lt (ix_dn d_5 z_10.2.2) (fun d_14 => ix_ck (ix_ok z_12 [1] a0) (ix_lt (ix_zr z_12 a0 1 (some z_10.2.2)) (fun z_17 => ix_lt (ix_zn z_17 20 (ix_n 11780)) (fun z_19 => ix_lt (ix_dn d_14 z_17.2.2) (fun d_21 => ix_ck (ix_ok z_19 [1] a0) (ix_lt (ix_zr z_19 a0 2 (some z_17.2.2)) (fun z_24 => ix_lt (ix_zn z_24 20 (ix_n 11780)) (fun z_26 => ix_lt (ix_dn d_21 z_24.2.2) (fun d_28 => ix_ck (ix_ok z_26 [1] a0) (ix_lt (ix_zr z_26 a0 3 (some z_24.2.2)) (fun z_31 => ix_lt (ix_zn z_31 20 (ix_n 1364)) (fun z_33 => ix_lt (ix_dn d_28 z_31.2.2) (fun d_35 => ix_ck (ix_ok z_33 [1] a0) (ix_lt (ix_zr z_33 a0 4 (some z_31.2.2)) (fun z_38 => ix_lt (ix_zn z_38 23 (ix_n 22)) (fun z_40 => ix_lt (ix_dn d_35 z_38.2.2) (fun d_42 => ix_ck (ix_ok z_40 [1] a0) (ix_lt (ix_zr z_40 a0 5 (some z_38.2.2)) (fun z_45 => ix_lt (ix_zn z_45 23 (ix_n 22)) (fun z_47 => ix_lt (ix_dn d_42 z_45.2.2) (fun d_49 => ix_ck (ix_ok z_47 [1] a0) (ix_lt (ix_zr z_47 a0 6 (some z_45.2.2)) (fun z_52 => ix_lt (ix_zn z_52 20 (ix_n 301)) (fun z_54 => ix_lt (ix_dn d_49 z_52.2.2) (fun d_56 => ix_ck (ix_ok z_54 [1] a0) (ix_lt (ix_zr z_54 a0 7 (some z_52.2.2)) (fun z_59 => ix_lt (ix_zn z_59 20 (ix_n 301)) (fun z_61 => ix_lt (ix_dn d_56 z_59.2.2) (fun d_63 => ix_ck (ix_ok z_61 [1] a0) (ix_lt (ix_zr z_61 a0 8 (some z_59.2.2)) (fun z_66 => ix_lt (ix_zn z_66 20 (ix_n 301)) (fun z_68 => ix_lt (ix_dn d_63 z_66.2.2) (fun d_70 => ix_ck (ix_ok z_68 [1] a0) (ix_lt (ix_zr z_68 a0 9 (some z_66.2.2)) (fun z_73 => ix_lt (ix_zn z_73 20 (ix_n 301)) (fun z_75 => ix_lt (ix_dn d_70 z_73.2.2) (fun d_77 => ix_ck (ix_ok z_75 [1] a0) (ix_lt (ix_zr z_75 a0 10 (some z_73.2.2)) (fun z_80 => ix_lt (ix_zn z_80 20 (ix_n 301)) (fun z_82 => ix_lt (ix_dn d_77 z_80.2.2) (fun d_84 => ix_ck (ix_ok z_82 [1] a0) (ix_lt (ix_zr z_82 a0 11 (some z_80.2.2)) (fun z_87 => some (z_87, d_84))))))))))))))))))))))))))))))))))))))))))))))))))
set_option maxRecDepth 20000 in
theorem c_X1_init {l : Launch} {K : ix_Cx} (hKp : ix_Kp K) {n : Nat} {z : ix_Z} {a0 : Nat} {d : ix_D2} {z1 : ix_Z} {d1 : ix_D2} (h : f_X1_init n z a0 d = some (z1, d1)) : ix_M l K yX1_init cX1_init 1 (none : Option Jvm.ClassFile.FieldType) 2 45 14 40477 [.ref (K.2.2.1 + a0)] (ix_w z d) none (ix_w z1 d1) := by
  refine ix_met mf_X1_init hKp (Nat.le_of_ble_eq_true rfl) ?_
  intro p e s m args below meth c hr hlk hnm X
  have X : ix_X p s m args c K cX1_init RX1 1 := X
  have hnm : meth.name = "<init>" := hnm
  show ix_G p l e (ix_rm 2 45 14 40477) s m args below meth c (MQ below (ix_Post K none (ix_w z1 d1)) args s 14 40477 (ix_A K)) K 1 0 0 0 [(0, .ref (K.2.2.1 + a0))] [] (ix_w z d)
  unfold f_X1_init at h
  refine ix_aload_n (i := 0) (j := 0) X (ix_tb_at tb_X1_init 0 rfl) rfl rfl (pc1 := 1) rfl ?_
  refine ix_objI (pl := 197) X (by decide +kernel) (Nat.le_of_ble_eq_true rfl) (Nat.le_of_ble_eq_true rfl) (ix_tb_at tb_X1_init 1 rfl) (pc1 := 4) rfl ?_
  refine ix_aload_n (i := 0) (j := 0) X (ix_tb_at tb_X1_init 2 rfl) rfl rfl (pc1 := 5) rfl ?_
  obtain ⟨z_1, e_2, h⟩ := ix_lt_ex h
  obtain ⟨d_3, e_4, h⟩ := ix_lt_ex h
  refine iz_new (ci := 7) (pl := 198) (pi := 107) (pj := 4) (N := 3) (C := RX7) (T := TX7) X rfl (by decide) (by decide +kernel) (by decide +kernel) (by decide +kernel) (Nat.le_of_ble_eq_true rfl) (Nat.le_of_ble_eq_true rfl) (ix_tb_at tb_X1_init 3 rfl) e_2 e_4 (pc1 := 8) rfl ?_
  refine ix_dup X (ix_tb_at tb_X1_init 4 rfl) rfl (pc1 := 9) rfl ?_
  refine ix_sipush (v := 1364) X (ix_tb_at tb_X1_init 5 rfl) (by decide) (pc1 := 12) rfl ?_
  refine ix_sipush (v := 11780) X (ix_tb_at tb_X1_init 6 rfl) (by decide) (pc1 := 15) rfl ?_
  obtain ⟨z_7, d_5, h_6, h⟩ := ix_bd2_ex h
  refine ix_callI (As := [.int 1364, .int 11780]) (rest := [.ref (K.2.2.1 + (z.2.2)), .ref (K.2.2.1 + a0)]) X mf_X7_init mi_X7_init rfl ml_RX1_13 ⟨Nat.le_of_ble_eq_true rfl, Nat.le_of_ble_eq_true rfl⟩ ⟨Nat.le_of_ble_eq_true rfl, Nat.le_of_ble_eq_true rfl⟩ rfl (Nat.le_of_ble_eq_true rfl) (ix_tb_at tb_X1_init 7 rfl) (c_X7_init hKp h_6) rfl (pc1 := 18) rfl ?_
  obtain ⟨k_9, h⟩ := ix_ck_some h
  obtain ⟨z_10, e_11, h⟩ := ix_lt_ex h
  refine iz_putR (ty := .object "ClauseCourt$Rows") X fp_RX1_16 (fun _ => ⟨rfl, hnm⟩) k_9 (by decide +kernel) (by decide +kernel) (Or.inl ⟨_, rfl⟩) (ix_tb_at tb_X1_init 8 rfl) e_11 (pc1 := 21) rfl ?_
  refine ix_aload_n (i := 0) (j := 0) X (ix_tb_at tb_X1_init 9 rfl) rfl rfl (pc1 := 22) rfl ?_
  refine ix_sipush (v := 601) X (ix_tb_at tb_X1_init 10 rfl) (by decide) (pc1 := 25) rfl ?_
  obtain ⟨z_12, e_13, h⟩ := ix_lt_ex h
  obtain ⟨d_14, e_15, h⟩ := ix_lt_ex h
  refine iz_newa_int (pl := 98) X (by decide +kernel) (by decide) (by decide) (Nat.le_of_ble_eq_true rfl) (Nat.le_of_ble_eq_true rfl) (ix_tb_at tb_X1_init 11 rfl) e_13 e_15 (pc1 := 27) rfl ?_
  refine ix_widen (k1 := 4) (n1 := 14004) (Nat.le_of_ble_eq_true rfl) (Nat.le_of_ble_eq_true rfl) ?_
  obtain ⟨k_16, h⟩ := ix_ck_some h
  obtain ⟨z_17, e_18, h⟩ := ix_lt_ex h
  refine iz_putR (ty := .array .int) X fp_RX1_20 (fun _ => ⟨rfl, hnm⟩) k_16 (by decide +kernel) (by decide +kernel) (Or.inr ⟨_, rfl⟩) (ix_tb_at tb_X1_init 12 rfl) e_18 (pc1 := 30) rfl ?_
  refine ix_aload_n (i := 0) (j := 0) X (ix_tb_at tb_X1_init 13 rfl) rfl rfl (pc1 := 31) rfl ?_
  refine ix_sipush (v := 11780) X (ix_tb_at tb_X1_init 14 rfl) (by decide) (pc1 := 34) rfl ?_
  obtain ⟨z_19, e_20, h⟩ := ix_lt_ex h
  obtain ⟨d_21, e_22, h⟩ := ix_lt_ex h
  refine iz_newa_int (pl := 98) X (by decide +kernel) (by decide) (by decide) (Nat.le_of_ble_eq_true rfl) (Nat.le_of_ble_eq_true rfl) (ix_tb_at tb_X1_init 15 rfl) e_20 e_22 (pc1 := 36) rfl ?_
  refine ix_widen (k1 := 5) (n1 := 25784) (Nat.le_of_ble_eq_true rfl) (Nat.le_of_ble_eq_true rfl) ?_
  obtain ⟨k_23, h⟩ := ix_ck_some h
  obtain ⟨z_24, e_25, h⟩ := ix_lt_ex h
  refine iz_putR (ty := .array .int) X fp_RX1_24 (fun _ => ⟨rfl, hnm⟩) k_23 (by decide +kernel) (by decide +kernel) (Or.inr ⟨_, rfl⟩) (ix_tb_at tb_X1_init 16 rfl) e_25 (pc1 := 39) rfl ?_
  refine ix_aload_n (i := 0) (j := 0) X (ix_tb_at tb_X1_init 17 rfl) rfl rfl (pc1 := 40) rfl ?_
  refine ix_sipush (v := 11780) X (ix_tb_at tb_X1_init 18 rfl) (by decide) (pc1 := 43) rfl ?_
  obtain ⟨z_26, e_27, h⟩ := ix_lt_ex h
  obtain ⟨d_28, e_29, h⟩ := ix_lt_ex h
  refine iz_newa_int (pl := 98) X (by decide +kernel) (by decide) (by decide) (Nat.le_of_ble_eq_true rfl) (Nat.le_of_ble_eq_true rfl) (ix_tb_at tb_X1_init 19 rfl) e_27 e_29 (pc1 := 45) rfl ?_
  refine ix_widen (k1 := 6) (n1 := 37564) (Nat.le_of_ble_eq_true rfl) (Nat.le_of_ble_eq_true rfl) ?_
  obtain ⟨k_30, h⟩ := ix_ck_some h
  obtain ⟨z_31, e_32, h⟩ := ix_lt_ex h
  refine iz_putR (ty := .array .int) X fp_RX1_27 (fun _ => ⟨rfl, hnm⟩) k_30 (by decide +kernel) (by decide +kernel) (Or.inr ⟨_, rfl⟩) (ix_tb_at tb_X1_init 20 rfl) e_32 (pc1 := 48) rfl ?_
  refine ix_aload_n (i := 0) (j := 0) X (ix_tb_at tb_X1_init 21 rfl) rfl rfl (pc1 := 49) rfl ?_
  refine ix_sipush (v := 1364) X (ix_tb_at tb_X1_init 22 rfl) (by decide) (pc1 := 52) rfl ?_
  obtain ⟨z_33, e_34, h⟩ := ix_lt_ex h
  obtain ⟨d_35, e_36, h⟩ := ix_lt_ex h
  refine iz_newa_int (pl := 98) X (by decide +kernel) (by decide) (by decide) (Nat.le_of_ble_eq_true rfl) (Nat.le_of_ble_eq_true rfl) (ix_tb_at tb_X1_init 23 rfl) e_34 e_36 (pc1 := 54) rfl ?_
  refine ix_widen (k1 := 7) (n1 := 38928) (Nat.le_of_ble_eq_true rfl) (Nat.le_of_ble_eq_true rfl) ?_
  obtain ⟨k_37, h⟩ := ix_ck_some h
  obtain ⟨z_38, e_39, h⟩ := ix_lt_ex h
  refine iz_putR (ty := .array .int) X fp_RX1_30 (fun _ => ⟨rfl, hnm⟩) k_37 (by decide +kernel) (by decide +kernel) (Or.inr ⟨_, rfl⟩) (ix_tb_at tb_X1_init 24 rfl) e_39 (pc1 := 57) rfl ?_
  refine ix_aload_n (i := 0) (j := 0) X (ix_tb_at tb_X1_init 25 rfl) rfl rfl (pc1 := 58) rfl ?_
  refine ix_bipush (v := 22) X (ix_tb_at tb_X1_init 26 rfl) (by decide) (pc1 := 60) rfl ?_
  obtain ⟨z_40, e_41, h⟩ := ix_lt_ex h
  obtain ⟨d_42, e_43, h⟩ := ix_lt_ex h
  refine iz_newa_long (pl := 270) X (by decide +kernel) (by decide) (by decide) (Nat.le_of_ble_eq_true rfl) (Nat.le_of_ble_eq_true rfl) (ix_tb_at tb_X1_init 27 rfl) e_41 e_43 (pc1 := 62) rfl ?_
  refine ix_widen (k1 := 8) (n1 := 38950) (Nat.le_of_ble_eq_true rfl) (Nat.le_of_ble_eq_true rfl) ?_
  obtain ⟨k_44, h⟩ := ix_ck_some h
  obtain ⟨z_45, e_46, h⟩ := ix_lt_ex h
  refine iz_putR (ty := .array .long) X fp_RX1_33 (fun _ => ⟨rfl, hnm⟩) k_44 (by decide +kernel) (by decide +kernel) (Or.inr ⟨_, rfl⟩) (ix_tb_at tb_X1_init 28 rfl) e_46 (pc1 := 65) rfl ?_
  refine ix_aload_n (i := 0) (j := 0) X (ix_tb_at tb_X1_init 29 rfl) rfl rfl (pc1 := 66) rfl ?_
  refine ix_bipush (v := 22) X (ix_tb_at tb_X1_init 30 rfl) (by decide) (pc1 := 68) rfl ?_
  obtain ⟨z_47, e_48, h⟩ := ix_lt_ex h
  obtain ⟨d_49, e_50, h⟩ := ix_lt_ex h
  refine iz_newa_long (pl := 270) X (by decide +kernel) (by decide) (by decide) (Nat.le_of_ble_eq_true rfl) (Nat.le_of_ble_eq_true rfl) (ix_tb_at tb_X1_init 31 rfl) e_48 e_50 (pc1 := 70) rfl ?_
  refine ix_widen (k1 := 9) (n1 := 38972) (Nat.le_of_ble_eq_true rfl) (Nat.le_of_ble_eq_true rfl) ?_
  obtain ⟨k_51, h⟩ := ix_ck_some h
  obtain ⟨z_52, e_53, h⟩ := ix_lt_ex h
  refine iz_putR (ty := .array .long) X fp_RX1_37 (fun _ => ⟨rfl, hnm⟩) k_51 (by decide +kernel) (by decide +kernel) (Or.inr ⟨_, rfl⟩) (ix_tb_at tb_X1_init 32 rfl) e_53 (pc1 := 73) rfl ?_
  refine ix_aload_n (i := 0) (j := 0) X (ix_tb_at tb_X1_init 33 rfl) rfl rfl (pc1 := 74) rfl ?_
  refine ix_sipush (v := 301) X (ix_tb_at tb_X1_init 34 rfl) (by decide) (pc1 := 77) rfl ?_
  obtain ⟨z_54, e_55, h⟩ := ix_lt_ex h
  obtain ⟨d_56, e_57, h⟩ := ix_lt_ex h
  refine iz_newa_int (pl := 98) X (by decide +kernel) (by decide) (by decide) (Nat.le_of_ble_eq_true rfl) (Nat.le_of_ble_eq_true rfl) (ix_tb_at tb_X1_init 35 rfl) e_55 e_57 (pc1 := 79) rfl ?_
  refine ix_widen (k1 := 10) (n1 := 39273) (Nat.le_of_ble_eq_true rfl) (Nat.le_of_ble_eq_true rfl) ?_
  obtain ⟨k_58, h⟩ := ix_ck_some h
  obtain ⟨z_59, e_60, h⟩ := ix_lt_ex h
  refine iz_putR (ty := .array .int) X fp_RX1_40 (fun _ => ⟨rfl, hnm⟩) k_58 (by decide +kernel) (by decide +kernel) (Or.inr ⟨_, rfl⟩) (ix_tb_at tb_X1_init 36 rfl) e_60 (pc1 := 82) rfl ?_
  refine ix_aload_n (i := 0) (j := 0) X (ix_tb_at tb_X1_init 37 rfl) rfl rfl (pc1 := 83) rfl ?_
  refine ix_sipush (v := 301) X (ix_tb_at tb_X1_init 38 rfl) (by decide) (pc1 := 86) rfl ?_
  obtain ⟨z_61, e_62, h⟩ := ix_lt_ex h
  obtain ⟨d_63, e_64, h⟩ := ix_lt_ex h
  refine iz_newa_int (pl := 98) X (by decide +kernel) (by decide) (by decide) (Nat.le_of_ble_eq_true rfl) (Nat.le_of_ble_eq_true rfl) (ix_tb_at tb_X1_init 39 rfl) e_62 e_64 (pc1 := 88) rfl ?_
  refine ix_widen (k1 := 11) (n1 := 39574) (Nat.le_of_ble_eq_true rfl) (Nat.le_of_ble_eq_true rfl) ?_
  obtain ⟨k_65, h⟩ := ix_ck_some h
  obtain ⟨z_66, e_67, h⟩ := ix_lt_ex h
  refine iz_putR (ty := .array .int) X fp_RX1_43 (fun _ => ⟨rfl, hnm⟩) k_65 (by decide +kernel) (by decide +kernel) (Or.inr ⟨_, rfl⟩) (ix_tb_at tb_X1_init 40 rfl) e_67 (pc1 := 91) rfl ?_
  refine ix_aload_n (i := 0) (j := 0) X (ix_tb_at tb_X1_init 41 rfl) rfl rfl (pc1 := 92) rfl ?_
  refine ix_sipush (v := 301) X (ix_tb_at tb_X1_init 42 rfl) (by decide) (pc1 := 95) rfl ?_
  obtain ⟨z_68, e_69, h⟩ := ix_lt_ex h
  obtain ⟨d_70, e_71, h⟩ := ix_lt_ex h
  refine iz_newa_int (pl := 98) X (by decide +kernel) (by decide) (by decide) (Nat.le_of_ble_eq_true rfl) (Nat.le_of_ble_eq_true rfl) (ix_tb_at tb_X1_init 43 rfl) e_69 e_71 (pc1 := 97) rfl ?_
  refine ix_widen (k1 := 12) (n1 := 39875) (Nat.le_of_ble_eq_true rfl) (Nat.le_of_ble_eq_true rfl) ?_
  obtain ⟨k_72, h⟩ := ix_ck_some h
  obtain ⟨z_73, e_74, h⟩ := ix_lt_ex h
  refine iz_putR (ty := .array .int) X fp_RX1_46 (fun _ => ⟨rfl, hnm⟩) k_72 (by decide +kernel) (by decide +kernel) (Or.inr ⟨_, rfl⟩) (ix_tb_at tb_X1_init 44 rfl) e_74 (pc1 := 100) rfl ?_
  refine ix_aload_n (i := 0) (j := 0) X (ix_tb_at tb_X1_init 45 rfl) rfl rfl (pc1 := 101) rfl ?_
  refine ix_sipush (v := 301) X (ix_tb_at tb_X1_init 46 rfl) (by decide) (pc1 := 104) rfl ?_
  obtain ⟨z_75, e_76, h⟩ := ix_lt_ex h
  obtain ⟨d_77, e_78, h⟩ := ix_lt_ex h
  refine iz_newa_int (pl := 98) X (by decide +kernel) (by decide) (by decide) (Nat.le_of_ble_eq_true rfl) (Nat.le_of_ble_eq_true rfl) (ix_tb_at tb_X1_init 47 rfl) e_76 e_78 (pc1 := 106) rfl ?_
  refine ix_widen (k1 := 13) (n1 := 40176) (Nat.le_of_ble_eq_true rfl) (Nat.le_of_ble_eq_true rfl) ?_
  obtain ⟨k_79, h⟩ := ix_ck_some h
  obtain ⟨z_80, e_81, h⟩ := ix_lt_ex h
  refine iz_putR (ty := .array .int) X fp_RX1_49 (fun _ => ⟨rfl, hnm⟩) k_79 (by decide +kernel) (by decide +kernel) (Or.inr ⟨_, rfl⟩) (ix_tb_at tb_X1_init 48 rfl) e_81 (pc1 := 109) rfl ?_
  refine ix_aload_n (i := 0) (j := 0) X (ix_tb_at tb_X1_init 49 rfl) rfl rfl (pc1 := 110) rfl ?_
  refine ix_sipush (v := 301) X (ix_tb_at tb_X1_init 50 rfl) (by decide) (pc1 := 113) rfl ?_
  obtain ⟨z_82, e_83, h⟩ := ix_lt_ex h
  obtain ⟨d_84, e_85, h⟩ := ix_lt_ex h
  refine iz_newa_int (pl := 98) X (by decide +kernel) (by decide) (by decide) (Nat.le_of_ble_eq_true rfl) (Nat.le_of_ble_eq_true rfl) (ix_tb_at tb_X1_init 51 rfl) e_83 e_85 (pc1 := 115) rfl ?_
  refine ix_widen (k1 := 14) (n1 := 40477) (Nat.le_of_ble_eq_true rfl) (Nat.le_of_ble_eq_true rfl) ?_
  obtain ⟨k_86, h⟩ := ix_ck_some h
  obtain ⟨z_87, e_88, h⟩ := ix_lt_ex h
  refine iz_putR (ty := .array .int) X fp_RX1_52 (fun _ => ⟨rfl, hnm⟩) k_86 (by decide +kernel) (by decide +kernel) (Or.inr ⟨_, rfl⟩) (ix_tb_at tb_X1_init 52 rfl) e_88 (pc1 := 118) rfl ?_
  exact ix_vret X hr hlk (ix_r2v (g := ix_w) h) (ix_tb_at tb_X1_init 53 rfl)
def tab_X2_init : List (Nat × Instr × Nat) := [(0, .aload_n 0, 1), (1, .invokespecial 3, 3), (4, .aload_n 0, 1), (5, .new 9, 3), (8, .dup, 1), (9, .sipush 500, 3), (12, .sipush 2500, 3), (15, .invokespecial 11, 3), (18, .putfield 14, 3), (21, .aload_n 0, 1), (22, .sipush 301, 3), (25, .newarray .int, 2), (27, .putfield 20, 3), (30, .aload_n 0, 1), (31, .sipush 301, 3), (34, .newarray .boolean, 2), (36, .putfield 24, 3), (39, .aload_n 0, 1), (40, .bipush 20, 2), (42, .newarray .int, 2), (44, .putfield 28, 3), (47, .aload_n 0, 1), (48, .bipush 12, 2), (50, .newarray .int, 2), (52, .putfield 31, 3), (55, .return_, 1)]
theorem tb_X2_init : ix_tab cX2_init tab_X2_init := by
  unfold ix_tab
  decide +kernel
noncomputable def f_X2_init (n : Nat) (z : ix_Z) (a0 : Nat) (d : ix_D2) : Option (ix_Z × ix_D2) :=
  ix_lt (ix_zn z 7 3) (fun z_1 => ix_lt (ix_dn d z.2.2) (fun d_3 => ix_bd2 (f_X7_init n z_1 (z.2.2) 500 2500 d_3) (fun z_7 d_5 => ix_ck (ix_ok z_7 [2] a0) (ix_lt (ix_zr z_7 a0 0 (some (z.2.2))) (fun z_10 => ix_lt (ix_zn z_10 20 (ix_n 301)) (fun z_12 => ix_lt (ix_dn d_5 z_10.2.2) (fun d_14 => ix_ck (ix_ok z_12 [2] a0) (ix_lt (ix_zr z_12 a0 1 (some z_10.2.2)) (fun z_17 => ix_lt (ix_zn z_17 22 (ix_n 301)) (fun z_19 => ix_lt (ix_dn d_14 z_17.2.2) (fun d_21 => ix_ck (ix_ok z_19 [2] a0) (ix_lt (ix_zr z_19 a0 2 (some z_17.2.2)) (fun z_24 => ix_lt (ix_zn z_24 20 (ix_n 20)) (fun z_26 => ix_lt (ix_dn d_21 z_24.2.2) (fun d_28 => ix_ck (ix_ok z_26 [2] a0) (ix_lt (ix_zr z_26 a0 3 (some z_24.2.2)) (fun z_31 => ix_lt (ix_zn z_31 20 (ix_n 12)) (fun z_33 => ix_lt (ix_dn d_28 z_31.2.2) (fun d_35 => ix_ck (ix_ok z_33 [2] a0) (ix_lt (ix_zr z_33 a0 4 (some z_31.2.2)) (fun z_38 => some (z_38, d_35))))))))))))))))))))))
set_option maxRecDepth 20000 in
theorem c_X2_init {l : Launch} {K : ix_Cx} (hKp : ix_Kp K) {n : Nat} {z : ix_Z} {a0 : Nat} {d : ix_D2} {z1 : ix_Z} {d1 : ix_D2} (h : f_X2_init n z a0 d = some (z1, d1)) : ix_M l K yX2_init cX2_init 1 (none : Option Jvm.ClassFile.FieldType) 2 45 7 14037 [.ref (K.2.2.1 + a0)] (ix_w z d) none (ix_w z1 d1) := by
  refine ix_met mf_X2_init hKp (Nat.le_of_ble_eq_true rfl) ?_
  intro p e s m args below meth c hr hlk hnm X
  have X : ix_X p s m args c K cX2_init RX2 1 := X
  have hnm : meth.name = "<init>" := hnm
  show ix_G p l e (ix_rm 2 45 7 14037) s m args below meth c (MQ below (ix_Post K none (ix_w z1 d1)) args s 7 14037 (ix_A K)) K 1 0 0 0 [(0, .ref (K.2.2.1 + a0))] [] (ix_w z d)
  unfold f_X2_init at h
  refine ix_aload_n (i := 0) (j := 0) X (ix_tb_at tb_X2_init 0 rfl) rfl rfl (pc1 := 1) rfl ?_
  refine ix_objI (pl := 105) X (by decide +kernel) (Nat.le_of_ble_eq_true rfl) (Nat.le_of_ble_eq_true rfl) (ix_tb_at tb_X2_init 1 rfl) (pc1 := 4) rfl ?_
  refine ix_aload_n (i := 0) (j := 0) X (ix_tb_at tb_X2_init 2 rfl) rfl rfl (pc1 := 5) rfl ?_
  obtain ⟨z_1, e_2, h⟩ := ix_lt_ex h
  obtain ⟨d_3, e_4, h⟩ := ix_lt_ex h
  refine iz_new (ci := 7) (pl := 106) (pi := 107) (pj := 4) (N := 3) (C := RX7) (T := TX7) X rfl (by decide) (by decide +kernel) (by decide +kernel) (by decide +kernel) (Nat.le_of_ble_eq_true rfl) (Nat.le_of_ble_eq_true rfl) (ix_tb_at tb_X2_init 3 rfl) e_2 e_4 (pc1 := 8) rfl ?_
  refine ix_dup X (ix_tb_at tb_X2_init 4 rfl) rfl (pc1 := 9) rfl ?_
  refine ix_sipush (v := 500) X (ix_tb_at tb_X2_init 5 rfl) (by decide) (pc1 := 12) rfl ?_
  refine ix_sipush (v := 2500) X (ix_tb_at tb_X2_init 6 rfl) (by decide) (pc1 := 15) rfl ?_
  obtain ⟨z_7, d_5, h_6, h⟩ := ix_bd2_ex h
  refine ix_callI (As := [.int 500, .int 2500]) (rest := [.ref (K.2.2.1 + (z.2.2)), .ref (K.2.2.1 + a0)]) X mf_X7_init mi_X7_init rfl ml_RX2_11 ⟨Nat.le_of_ble_eq_true rfl, Nat.le_of_ble_eq_true rfl⟩ ⟨Nat.le_of_ble_eq_true rfl, Nat.le_of_ble_eq_true rfl⟩ rfl (Nat.le_of_ble_eq_true rfl) (ix_tb_at tb_X2_init 7 rfl) (c_X7_init hKp h_6) rfl (pc1 := 18) rfl ?_
  obtain ⟨k_9, h⟩ := ix_ck_some h
  obtain ⟨z_10, e_11, h⟩ := ix_lt_ex h
  refine iz_putR (ty := .object "ClauseCourt$Rows") X fp_RX2_14 (fun _ => ⟨rfl, hnm⟩) k_9 (by decide +kernel) (by decide +kernel) (Or.inl ⟨_, rfl⟩) (ix_tb_at tb_X2_init 8 rfl) e_11 (pc1 := 21) rfl ?_
  refine ix_aload_n (i := 0) (j := 0) X (ix_tb_at tb_X2_init 9 rfl) rfl rfl (pc1 := 22) rfl ?_
  refine ix_sipush (v := 301) X (ix_tb_at tb_X2_init 10 rfl) (by decide) (pc1 := 25) rfl ?_
  obtain ⟨z_12, e_13, h⟩ := ix_lt_ex h
  obtain ⟨d_14, e_15, h⟩ := ix_lt_ex h
  refine iz_newa_int (pl := 98) X (by decide +kernel) (by decide) (by decide) (Nat.le_of_ble_eq_true rfl) (Nat.le_of_ble_eq_true rfl) (ix_tb_at tb_X2_init 11 rfl) e_13 e_15 (pc1 := 27) rfl ?_
  refine ix_widen (k1 := 4) (n1 := 13704) (Nat.le_of_ble_eq_true rfl) (Nat.le_of_ble_eq_true rfl) ?_
  obtain ⟨k_16, h⟩ := ix_ck_some h
  obtain ⟨z_17, e_18, h⟩ := ix_lt_ex h
  refine iz_putR (ty := .array .int) X fp_RX2_20 (fun _ => ⟨rfl, hnm⟩) k_16 (by decide +kernel) (by decide +kernel) (Or.inr ⟨_, rfl⟩) (ix_tb_at tb_X2_init 12 rfl) e_18 (pc1 := 30) rfl ?_
  refine ix_aload_n (i := 0) (j := 0) X (ix_tb_at tb_X2_init 13 rfl) rfl rfl (pc1 := 31) rfl ?_
  refine ix_sipush (v := 301) X (ix_tb_at tb_X2_init 14 rfl) (by decide) (pc1 := 34) rfl ?_
  obtain ⟨z_19, e_20, h⟩ := ix_lt_ex h
  obtain ⟨d_21, e_22, h⟩ := ix_lt_ex h
  refine iz_newa_boolean (pl := 183) X (by decide +kernel) (by decide) (by decide) (Nat.le_of_ble_eq_true rfl) (Nat.le_of_ble_eq_true rfl) (ix_tb_at tb_X2_init 15 rfl) e_20 e_22 (pc1 := 36) rfl ?_
  refine ix_widen (k1 := 5) (n1 := 14005) (Nat.le_of_ble_eq_true rfl) (Nat.le_of_ble_eq_true rfl) ?_
  obtain ⟨k_23, h⟩ := ix_ck_some h
  obtain ⟨z_24, e_25, h⟩ := ix_lt_ex h
  refine iz_putR (ty := .array .boolean) X fp_RX2_24 (fun _ => ⟨rfl, hnm⟩) k_23 (by decide +kernel) (by decide +kernel) (Or.inr ⟨_, rfl⟩) (ix_tb_at tb_X2_init 16 rfl) e_25 (pc1 := 39) rfl ?_
  refine ix_aload_n (i := 0) (j := 0) X (ix_tb_at tb_X2_init 17 rfl) rfl rfl (pc1 := 40) rfl ?_
  refine ix_bipush (v := 20) X (ix_tb_at tb_X2_init 18 rfl) (by decide) (pc1 := 42) rfl ?_
  obtain ⟨z_26, e_27, h⟩ := ix_lt_ex h
  obtain ⟨d_28, e_29, h⟩ := ix_lt_ex h
  refine iz_newa_int (pl := 98) X (by decide +kernel) (by decide) (by decide) (Nat.le_of_ble_eq_true rfl) (Nat.le_of_ble_eq_true rfl) (ix_tb_at tb_X2_init 19 rfl) e_27 e_29 (pc1 := 44) rfl ?_
  refine ix_widen (k1 := 6) (n1 := 14025) (Nat.le_of_ble_eq_true rfl) (Nat.le_of_ble_eq_true rfl) ?_
  obtain ⟨k_30, h⟩ := ix_ck_some h
  obtain ⟨z_31, e_32, h⟩ := ix_lt_ex h
  refine iz_putR (ty := .array .int) X fp_RX2_28 (fun _ => ⟨rfl, hnm⟩) k_30 (by decide +kernel) (by decide +kernel) (Or.inr ⟨_, rfl⟩) (ix_tb_at tb_X2_init 20 rfl) e_32 (pc1 := 47) rfl ?_
  refine ix_aload_n (i := 0) (j := 0) X (ix_tb_at tb_X2_init 21 rfl) rfl rfl (pc1 := 48) rfl ?_
  refine ix_bipush (v := 12) X (ix_tb_at tb_X2_init 22 rfl) (by decide) (pc1 := 50) rfl ?_
  obtain ⟨z_33, e_34, h⟩ := ix_lt_ex h
  obtain ⟨d_35, e_36, h⟩ := ix_lt_ex h
  refine iz_newa_int (pl := 98) X (by decide +kernel) (by decide) (by decide) (Nat.le_of_ble_eq_true rfl) (Nat.le_of_ble_eq_true rfl) (ix_tb_at tb_X2_init 23 rfl) e_34 e_36 (pc1 := 52) rfl ?_
  refine ix_widen (k1 := 7) (n1 := 14037) (Nat.le_of_ble_eq_true rfl) (Nat.le_of_ble_eq_true rfl) ?_
  obtain ⟨k_37, h⟩ := ix_ck_some h
  obtain ⟨z_38, e_39, h⟩ := ix_lt_ex h
  refine iz_putR (ty := .array .int) X fp_RX2_31 (fun _ => ⟨rfl, hnm⟩) k_37 (by decide +kernel) (by decide +kernel) (Or.inr ⟨_, rfl⟩) (ix_tb_at tb_X2_init 24 rfl) e_39 (pc1 := 55) rfl ?_
  exact ix_vret X hr hlk (ix_r2v (g := ix_w) h) (ix_tb_at tb_X2_init 25 rfl)
def tab_X4_init : List (Nat × Instr × Nat) := [(0, .aload_n 0, 1), (1, .invokespecial 3, 3), (4, .aload_n 0, 1), (5, .bipush 60, 2), (7, .newarray .byte, 2), (9, .putfield 11, 3), (12, .aload_n 0, 1), (13, .sipush 13500, 3), (16, .newarray .byte, 2), (18, .putfield 15, 3), (21, .aload_n 0, 1), (22, .bipush 100, 2), (24, .newarray .int, 2), (26, .putfield 18, 3), (29, .aload_n 0, 1), (30, .bipush 60, 2), (32, .newarray .int, 2), (34, .putfield 22, 3), (37, .aload_n 0, 1), (38, .bipush 8, 2), (40, .newarray .int, 2), (42, .putfield 25, 3), (45, .aload_n 0, 1), (46, .bipush 8, 2), (48, .newarray .int, 2), (50, .putfield 28, 3), (53, .aload_n 0, 1), (54, .bipush 8, 2), (56, .newarray .int, 2), (58, .putfield 31, 3), (61, .return_, 1)]
theorem tb_X4_init : ix_tab cX4_init tab_X4_init := by
  unfold ix_tab
  decide +kernel
noncomputable def f_X4_init (n : Nat) (z : ix_Z) (a0 : Nat) (d : ix_D2) : Option (ix_Z × ix_D2) :=
  ix_lt (ix_zn z 21 (ix_n 60)) (fun z_1 => ix_lt (ix_dn d z.2.2) (fun d_3 => ix_ck (ix_ok z_1 [4] a0) (ix_lt (ix_zr z_1 a0 0 (some (z.2.2))) (fun z_6 => ix_lt (ix_zn z_6 21 (ix_n 13500)) (fun z_8 => ix_lt (ix_dn d_3 z_6.2.2) (fun d_10 => ix_ck (ix_ok z_8 [4] a0) (ix_lt (ix_zr z_8 a0 2 (some z_6.2.2)) (fun z_13 => ix_lt (ix_zn z_13 20 (ix_n 100)) (fun z_15 => ix_lt (ix_dn d_10 z_13.2.2) (fun d_17 => ix_ck (ix_ok z_15 [4] a0) (ix_lt (ix_zr z_15 a0 4 (some z_13.2.2)) (fun z_20 => ix_lt (ix_zn z_20 20 (ix_n 60)) (fun z_22 => ix_lt (ix_dn d_17 z_20.2.2) (fun d_24 => ix_ck (ix_ok z_22 [4] a0) (ix_lt (ix_zr z_22 a0 6 (some z_20.2.2)) (fun z_27 => ix_lt (ix_zn z_27 20 (ix_n 8)) (fun z_29 => ix_lt (ix_dn d_24 z_27.2.2) (fun d_31 => ix_ck (ix_ok z_29 [4] a0) (ix_lt (ix_zr z_29 a0 8 (some z_27.2.2)) (fun z_34 => ix_lt (ix_zn z_34 20 (ix_n 8)) (fun z_36 => ix_lt (ix_dn d_31 z_34.2.2) (fun d_38 => ix_ck (ix_ok z_36 [4] a0) (ix_lt (ix_zr z_36 a0 9 (some z_34.2.2)) (fun z_41 => ix_lt (ix_zn z_41 20 (ix_n 8)) (fun z_43 => ix_lt (ix_dn d_38 z_41.2.2) (fun d_45 => ix_ck (ix_ok z_43 [4] a0) (ix_lt (ix_zr z_43 a0 10 (some z_41.2.2)) (fun z_48 => some (z_48, d_45)))))))))))))))))))))))))))))
set_option maxRecDepth 20000 in
theorem c_X4_init {l : Launch} {K : ix_Cx} (hKp : ix_Kp K) {n : Nat} {z : ix_Z} {a0 : Nat} {d : ix_D2} {z1 : ix_Z} {d1 : ix_D2} (h : f_X4_init n z a0 d = some (z1, d1)) : ix_M l K yX4_init cX4_init 1 (none : Option Jvm.ClassFile.FieldType) 1 23 7 13744 [.ref (K.2.2.1 + a0)] (ix_w z d) none (ix_w z1 d1) := by
  refine ix_met mf_X4_init hKp (Nat.le_of_ble_eq_true rfl) ?_
  intro p e s m args below meth c hr hlk hnm X
  have X : ix_X p s m args c K cX4_init RX4 1 := X
  have hnm : meth.name = "<init>" := hnm
  show ix_G p l e (ix_rm 1 23 7 13744) s m args below meth c (MQ below (ix_Post K none (ix_w z1 d1)) args s 7 13744 (ix_A K)) K 1 0 0 0 [(0, .ref (K.2.2.1 + a0))] [] (ix_w z d)
  unfold f_X4_init at h
  refine ix_aload_n (i := 0) (j := 0) X (ix_tb_at tb_X4_init 0 rfl) rfl rfl (pc1 := 1) rfl ?_
  refine ix_objI (pl := 39) X (by decide +kernel) (Nat.le_of_ble_eq_true rfl) (Nat.le_of_ble_eq_true rfl) (ix_tb_at tb_X4_init 1 rfl) (pc1 := 4) rfl ?_
  refine ix_aload_n (i := 0) (j := 0) X (ix_tb_at tb_X4_init 2 rfl) rfl rfl (pc1 := 5) rfl ?_
  refine ix_bipush (v := 60) X (ix_tb_at tb_X4_init 3 rfl) (by decide) (pc1 := 7) rfl ?_
  obtain ⟨z_1, e_2, h⟩ := ix_lt_ex h
  obtain ⟨d_3, e_4, h⟩ := ix_lt_ex h
  refine iz_newa_byte (pl := 99) X (by decide +kernel) (by decide) (by decide) (Nat.le_of_ble_eq_true rfl) (Nat.le_of_ble_eq_true rfl) (ix_tb_at tb_X4_init 4 rfl) e_2 e_4 (pc1 := 9) rfl ?_
  refine ix_widen (k1 := 1) (n1 := 60) (Nat.le_of_ble_eq_true rfl) (Nat.le_of_ble_eq_true rfl) ?_
  obtain ⟨k_5, h⟩ := ix_ck_some h
  obtain ⟨z_6, e_7, h⟩ := ix_lt_ex h
  refine iz_putR (ty := .array .byte) X fp_RX4_11 (fun _ => ⟨rfl, hnm⟩) k_5 (by decide +kernel) (by decide +kernel) (Or.inr ⟨_, rfl⟩) (ix_tb_at tb_X4_init 5 rfl) e_7 (pc1 := 12) rfl ?_
  refine ix_aload_n (i := 0) (j := 0) X (ix_tb_at tb_X4_init 6 rfl) rfl rfl (pc1 := 13) rfl ?_
  refine ix_sipush (v := 13500) X (ix_tb_at tb_X4_init 7 rfl) (by decide) (pc1 := 16) rfl ?_
  obtain ⟨z_8, e_9, h⟩ := ix_lt_ex h
  obtain ⟨d_10, e_11, h⟩ := ix_lt_ex h
  refine iz_newa_byte (pl := 99) X (by decide +kernel) (by decide) (by decide) (Nat.le_of_ble_eq_true rfl) (Nat.le_of_ble_eq_true rfl) (ix_tb_at tb_X4_init 8 rfl) e_9 e_11 (pc1 := 18) rfl ?_
  refine ix_widen (k1 := 2) (n1 := 13560) (Nat.le_of_ble_eq_true rfl) (Nat.le_of_ble_eq_true rfl) ?_
  obtain ⟨k_12, h⟩ := ix_ck_some h
  obtain ⟨z_13, e_14, h⟩ := ix_lt_ex h
  refine iz_putR (ty := .array .byte) X fp_RX4_15 (fun _ => ⟨rfl, hnm⟩) k_12 (by decide +kernel) (by decide +kernel) (Or.inr ⟨_, rfl⟩) (ix_tb_at tb_X4_init 9 rfl) e_14 (pc1 := 21) rfl ?_
  refine ix_aload_n (i := 0) (j := 0) X (ix_tb_at tb_X4_init 10 rfl) rfl rfl (pc1 := 22) rfl ?_
  refine ix_bipush (v := 100) X (ix_tb_at tb_X4_init 11 rfl) (by decide) (pc1 := 24) rfl ?_
  obtain ⟨z_15, e_16, h⟩ := ix_lt_ex h
  obtain ⟨d_17, e_18, h⟩ := ix_lt_ex h
  refine iz_newa_int (pl := 98) X (by decide +kernel) (by decide) (by decide) (Nat.le_of_ble_eq_true rfl) (Nat.le_of_ble_eq_true rfl) (ix_tb_at tb_X4_init 12 rfl) e_16 e_18 (pc1 := 26) rfl ?_
  refine ix_widen (k1 := 3) (n1 := 13660) (Nat.le_of_ble_eq_true rfl) (Nat.le_of_ble_eq_true rfl) ?_
  obtain ⟨k_19, h⟩ := ix_ck_some h
  obtain ⟨z_20, e_21, h⟩ := ix_lt_ex h
  refine iz_putR (ty := .array .int) X fp_RX4_18 (fun _ => ⟨rfl, hnm⟩) k_19 (by decide +kernel) (by decide +kernel) (Or.inr ⟨_, rfl⟩) (ix_tb_at tb_X4_init 13 rfl) e_21 (pc1 := 29) rfl ?_
  refine ix_aload_n (i := 0) (j := 0) X (ix_tb_at tb_X4_init 14 rfl) rfl rfl (pc1 := 30) rfl ?_
  refine ix_bipush (v := 60) X (ix_tb_at tb_X4_init 15 rfl) (by decide) (pc1 := 32) rfl ?_
  obtain ⟨z_22, e_23, h⟩ := ix_lt_ex h
  obtain ⟨d_24, e_25, h⟩ := ix_lt_ex h
  refine iz_newa_int (pl := 98) X (by decide +kernel) (by decide) (by decide) (Nat.le_of_ble_eq_true rfl) (Nat.le_of_ble_eq_true rfl) (ix_tb_at tb_X4_init 16 rfl) e_23 e_25 (pc1 := 34) rfl ?_
  refine ix_widen (k1 := 4) (n1 := 13720) (Nat.le_of_ble_eq_true rfl) (Nat.le_of_ble_eq_true rfl) ?_
  obtain ⟨k_26, h⟩ := ix_ck_some h
  obtain ⟨z_27, e_28, h⟩ := ix_lt_ex h
  refine iz_putR (ty := .array .int) X fp_RX4_22 (fun _ => ⟨rfl, hnm⟩) k_26 (by decide +kernel) (by decide +kernel) (Or.inr ⟨_, rfl⟩) (ix_tb_at tb_X4_init 17 rfl) e_28 (pc1 := 37) rfl ?_
  refine ix_aload_n (i := 0) (j := 0) X (ix_tb_at tb_X4_init 18 rfl) rfl rfl (pc1 := 38) rfl ?_
  refine ix_bipush (v := 8) X (ix_tb_at tb_X4_init 19 rfl) (by decide) (pc1 := 40) rfl ?_
  obtain ⟨z_29, e_30, h⟩ := ix_lt_ex h
  obtain ⟨d_31, e_32, h⟩ := ix_lt_ex h
  refine iz_newa_int (pl := 98) X (by decide +kernel) (by decide) (by decide) (Nat.le_of_ble_eq_true rfl) (Nat.le_of_ble_eq_true rfl) (ix_tb_at tb_X4_init 20 rfl) e_30 e_32 (pc1 := 42) rfl ?_
  refine ix_widen (k1 := 5) (n1 := 13728) (Nat.le_of_ble_eq_true rfl) (Nat.le_of_ble_eq_true rfl) ?_
  obtain ⟨k_33, h⟩ := ix_ck_some h
  obtain ⟨z_34, e_35, h⟩ := ix_lt_ex h
  refine iz_putR (ty := .array .int) X fp_RX4_25 (fun _ => ⟨rfl, hnm⟩) k_33 (by decide +kernel) (by decide +kernel) (Or.inr ⟨_, rfl⟩) (ix_tb_at tb_X4_init 21 rfl) e_35 (pc1 := 45) rfl ?_
  refine ix_aload_n (i := 0) (j := 0) X (ix_tb_at tb_X4_init 22 rfl) rfl rfl (pc1 := 46) rfl ?_
  refine ix_bipush (v := 8) X (ix_tb_at tb_X4_init 23 rfl) (by decide) (pc1 := 48) rfl ?_
  obtain ⟨z_36, e_37, h⟩ := ix_lt_ex h
  obtain ⟨d_38, e_39, h⟩ := ix_lt_ex h
  refine iz_newa_int (pl := 98) X (by decide +kernel) (by decide) (by decide) (Nat.le_of_ble_eq_true rfl) (Nat.le_of_ble_eq_true rfl) (ix_tb_at tb_X4_init 24 rfl) e_37 e_39 (pc1 := 50) rfl ?_
  refine ix_widen (k1 := 6) (n1 := 13736) (Nat.le_of_ble_eq_true rfl) (Nat.le_of_ble_eq_true rfl) ?_
  obtain ⟨k_40, h⟩ := ix_ck_some h
  obtain ⟨z_41, e_42, h⟩ := ix_lt_ex h
  refine iz_putR (ty := .array .int) X fp_RX4_28 (fun _ => ⟨rfl, hnm⟩) k_40 (by decide +kernel) (by decide +kernel) (Or.inr ⟨_, rfl⟩) (ix_tb_at tb_X4_init 25 rfl) e_42 (pc1 := 53) rfl ?_
  refine ix_aload_n (i := 0) (j := 0) X (ix_tb_at tb_X4_init 26 rfl) rfl rfl (pc1 := 54) rfl ?_
  refine ix_bipush (v := 8) X (ix_tb_at tb_X4_init 27 rfl) (by decide) (pc1 := 56) rfl ?_
  obtain ⟨z_43, e_44, h⟩ := ix_lt_ex h
  obtain ⟨d_45, e_46, h⟩ := ix_lt_ex h
  refine iz_newa_int (pl := 98) X (by decide +kernel) (by decide) (by decide) (Nat.le_of_ble_eq_true rfl) (Nat.le_of_ble_eq_true rfl) (ix_tb_at tb_X4_init 28 rfl) e_44 e_46 (pc1 := 58) rfl ?_
  refine ix_widen (k1 := 7) (n1 := 13744) (Nat.le_of_ble_eq_true rfl) (Nat.le_of_ble_eq_true rfl) ?_
  obtain ⟨k_47, h⟩ := ix_ck_some h
  obtain ⟨z_48, e_49, h⟩ := ix_lt_ex h
  refine iz_putR (ty := .array .int) X fp_RX4_31 (fun _ => ⟨rfl, hnm⟩) k_47 (by decide +kernel) (by decide +kernel) (Or.inr ⟨_, rfl⟩) (ix_tb_at tb_X4_init 29 rfl) e_49 (pc1 := 61) rfl ?_
  exact ix_vret X hr hlk (ix_r2v (g := ix_w) h) (ix_tb_at tb_X4_init 30 rfl)
def tab_X4_namesRead : List (Nat × Instr × Nat) := [(0, .iconst 0, 1), (1, .istore_n 1, 1), (2, .iconst 0, 1), (3, .istore_n 2, 1), (4, .iload_n 2, 1), (5, .aload_n 0, 1), (6, .getfield 38, 3), (9, .if_icmp .ge 29, 3), (12, .iload_n 1, 1), (13, .aload_n 0, 1), (14, .getfield 22, 3), (17, .iload_n 2, 1), (18, .iaload, 1), (19, .sipush 10000, 3), (22, .if_icmp .ge 7, 3), (25, .iconst 1, 1), (26, .goto 4, 3), (29, .iconst 0, 1), (30, .iadd, 1), (31, .istore_n 1, 1), (32, .iinc 2 1, 3), (35, .goto (-31), 3), (38, .iload_n 1, 1), (39, .newarray .int, 2), (41, .astore_n 2, 1), (42, .iconst 0, 1), (43, .istore_n 3, 1), (44, .iconst 0, 1), (45, .istore 4, 2), (47, .iload 4, 2), (49, .aload_n 0, 1), (50, .getfield 38, 3), (53, .if_icmp .ge 43, 3), (56, .iload_n 3, 1), (57, .iload_n 1, 1), (58, .if_icmp .ge 38, 3), (61, .aload_n 0, 1), (62, .getfield 22, 3), (65, .iload 4, 2), (67, .iaload, 1), (68, .sipush 10000, 3), (71, .if_icmp .ge 19, 3), (74, .aload_n 2, 1), (75, .iload_n 3, 1), (76, .aload_n 0, 1), (77, .getfield 22, 3), (80, .iload 4, 2), (82, .iaload, 1), (83, .invokestatic 98, 3), (86, .iastore, 1), (87, .iinc 3 1, 3), (90, .iinc 4 1, 3), (93, .goto (-46), 3), (96, .aload_n 2, 1), (97, .areturn, 1)]
theorem tb_X4_namesRead : ix_tab cX4_namesRead tab_X4_namesRead := by
  unfold ix_tab
  decide +kernel
noncomputable def f_X4_namesRead_96 (n : Nat) (z : ix_Z)  (a2 : Nat) (d : ix_D2) : Option (Option Nat × ix_Z × ix_D2) :=
  some ((some a2), z, d)
noncomputable def f_X4_namesRead_90 (n : Nat) (z : ix_Z) (rec47 : Int32 → Int32 → ix_D2 → Option (Option Nat × ix_Z × ix_D2)) (a0 : Nat) (x1 : Int32) (a2 : Nat) (x3 : Int32) (x4 : Int32) (d : ix_D2) : Option (Option Nat × ix_Z × ix_D2) :=
  ix_lt (x4 + 1) (fun x4_15 => rec47 x3 x4_15 d)
noncomputable def b_X4_namesRead_47 (n : Nat) (z : ix_Z)  (a0 : Nat) (x1 : Int32) (a2 : Nat) (rec47 : Int32 → Int32 → ix_D2 → Option (Option Nat × ix_Z × ix_D2)) (x3 : Int32) (x4 : Int32) (d : ix_D2) : Option (Option Nat × ix_Z × ix_D2) :=
  ix_ck (ix_ok z [4] a0) (ix_if (d.1 a0 7 ≤ x4) (f_X4_namesRead_96 n z  a2 d) (ix_if (x1 ≤ x3) (f_X4_namesRead_96 n z  a2 d) (ix_bd1 (z.1 a0 6) (fun b_11 => ix_ck (ix_ix z 20 b_11 x4) (ix_if (10000 ≤ d.1 b_11 (ix_n x4)) (f_X4_namesRead_90 n z rec47 a0 x1 a2 x3 x4 d) (ix_ck (ix_ix z 20 a2 x3) (ix_lt (ix_di d a2 (ix_n x3) (ix_abs (d.1 b_11 (ix_n x4)))) (fun d_18 => ix_lt (x3 + 1) (fun x3_20 => f_X4_namesRead_90 n z rec47 a0 x1 a2 x3_20 x4 d_18)))))))))
noncomputable def f_X4_namesRead_47 (n : Nat) (z : ix_Z)  (a0 : Nat) (x1 : Int32) (a2 : Nat) (x3 : Int32) (x4 : Int32) (d : ix_D2) : Option (Option Nat × ix_Z × ix_D2) := ix_fix (b_X4_namesRead_47 n z  a0 x1 a2) (fun _ _ _ => none) n x3 x4 d
noncomputable def f_X4_namesRead_30 (n : Nat) (z : ix_Z) (rec4 : Int32 → Int32 → ix_D2 → Option (Option Nat × ix_Z × ix_D2)) (a0 : Nat) (x2 : Int32) (s0 : Int32) (s1 : Int32) (d : ix_D2) : Option (Option Nat × ix_Z × ix_D2) :=
  ix_lt (s1 + s0) (fun x1_26 => ix_lt (x2 + 1) (fun x2_28 => rec4 x1_26 x2_28 d))
noncomputable def b_X4_namesRead_4 (n : Nat) (z : ix_Z)  (a0 : Nat) (rec4 : Int32 → Int32 → ix_D2 → Option (Option Nat × ix_Z × ix_D2)) (x1 : Int32) (x2 : Int32) (d : ix_D2) : Option (Option Nat × ix_Z × ix_D2) :=
  ix_ck (ix_ok z [4] a0) (ix_if (d.1 a0 7 ≤ x2) (ix_ck (¬ x1 < 0 ∧ ix_n x1 ≤ 64) (ix_lt (ix_zn z 20 (ix_n x1)) (fun z_4 => ix_lt (ix_dn d z.2.2) (fun d_6 => f_X4_namesRead_47 n z_4  a0 x1 (z.2.2) 0 0 d_6)))) (ix_bd1 (z.1 a0 6) (fun b_22 => ix_ck (ix_ix z 20 b_22 x2) (ix_if (10000 ≤ d.1 b_22 (ix_n x2)) (f_X4_namesRead_30 n z rec4 a0 x2 0 x1 d) (f_X4_namesRead_30 n z rec4 a0 x2 1 x1 d)))))
noncomputable def f_X4_namesRead_4 (n : Nat) (z : ix_Z)  (a0 : Nat) (x1 : Int32) (x2 : Int32) (d : ix_D2) : Option (Option Nat × ix_Z × ix_D2) := ix_fix (b_X4_namesRead_4 n z  a0) (fun _ _ _ => none) n x1 x2 d
noncomputable def f_X4_namesRead (n : Nat) (z : ix_Z) (a0 : Nat) (d : ix_D2) : Option (Option Nat × ix_Z × ix_D2) :=
  f_X4_namesRead_4 n z  a0 0 0 d
set_option maxRecDepth 20000 in
theorem t_X4_namesRead_96 {l : Launch} {p : Program} {e : Env} {s : State} {m : MethodId} {args : Array Value} {below : List Frame} {meth : Method} {c : Code} {K : ix_Cx} (hKp : ix_Kp K) {n : Nat} {z : ix_Z} (X : ix_X p s m args c K cX4_namesRead RX4 5) (hr : meth.sig.returnType = (some (.array .int))) (hlk : meth.locks = false)  {a2 : Nat} {r : Option Nat} {z1 : ix_Z} {d1 : ix_D2}  {d : ix_D2} (h : f_X4_namesRead_96 n z  a2 d = some (r, z1, d1)) : ix_G p l e (ix_rm 1 23 1 64) s m args below meth c (MQ below (ix_Post K (some (ix_rv K r)) (ix_w z1 d1)) args s 1 64 (ix_A K)) K 5 1 64 96 [(2, .ref (K.2.2.1 + a2))] [] (ix_w z d) := by
  unfold f_X4_namesRead_96 at h
  refine ix_aload_n (i := 2) (j := 0) X (ix_tb_at tb_X4_namesRead 53 rfl) rfl rfl (pc1 := 97) rfl ?_
  exact ix_aret (v := (some a2)) X hr (Or.inr ⟨_, rfl⟩) hlk (ix_r3 (f := fun r => some (ix_rv K r)) (g := ix_w) h) (ix_tb_at tb_X4_namesRead 54 rfl)
set_option maxRecDepth 20000 in
theorem t_X4_namesRead_90 {l : Launch} {p : Program} {e : Env} {s : State} {m : MethodId} {args : Array Value} {below : List Frame} {meth : Method} {c : Code} {K : ix_Cx} (hKp : ix_Kp K) {n : Nat} {z : ix_Z} (X : ix_X p s m args c K cX4_namesRead RX4 5) (hr : meth.sig.returnType = (some (.array .int))) (hlk : meth.locks = false) {rec47 : Int32 → Int32 → ix_D2 → Option (Option Nat × ix_Z × ix_D2)} {a0 : Nat} {x1 : Int32} {a2 : Nat} {x3 : Int32} {x4 : Int32} {r : Option Nat} {z1 : ix_Z} {d1 : ix_D2} (hrec47 : ∀ (x3 : Int32) (x4 : Int32) (d : ix_D2), rec47 x3 x4 d = some (r, z1, d1) → ix_G p l e (ix_rm 1 23 1 64) s m args below meth c (MQ below (ix_Post K (some (ix_rv K r)) (ix_w z1 d1)) args s 1 64 (ix_A K)) K 5 1 64 47 [(0, .ref (K.2.2.1 + a0)), (1, .int x1), (2, .ref (K.2.2.1 + a2)), (3, .int x3), (4, .int x4)] [] (ix_w z d)) {d : ix_D2} (h : f_X4_namesRead_90 n z rec47 a0 x1 a2 x3 x4 d = some (r, z1, d1)) : ix_G p l e (ix_rm 1 23 1 64) s m args below meth c (MQ below (ix_Post K (some (ix_rv K r)) (ix_w z1 d1)) args s 1 64 (ix_A K)) K 5 1 64 90 [(0, .ref (K.2.2.1 + a0)), (1, .int x1), (2, .ref (K.2.2.1 + a2)), (3, .int x3), (4, .int x4)] [] (ix_w z d) := by
  unfold f_X4_namesRead_90 at h
  obtain ⟨x4_15, e_16, h⟩ := ix_lt_ex h
  refine ix_iinc (i := 4) (j := 4) (v := x4_15) (L1 := [(4, .int x4_15), (0, .ref (K.2.2.1 + a0)), (1, .int x1), (2, .ref (K.2.2.1 + a2)), (3, .int x3)]) X (ix_tb_at tb_X4_namesRead 51 rfl) rfl (by rw [oi_1]; exact e_16.symm) (Nat.le_of_ble_eq_true rfl) rfl (pc1 := 93) rfl ?_
  refine ix_goto (tgt := 47) X (ix_tb_at tb_X4_namesRead 52 rfl) (by decide) ?_
  refine ix_sub (L1 := [(0, .ref (K.2.2.1 + a0)), (1, .int x1), (2, .ref (K.2.2.1 + a2)), (3, .int x3), (4, .int x4_15)]) [1, 2, 3, 4, 0] rfl ?_
  exact hrec47 x3 x4_15 d h
set_option maxRecDepth 20000 in
theorem tb_X4_namesRead_47 {l : Launch} {p : Program} {e : Env} {s : State} {m : MethodId} {args : Array Value} {below : List Frame} {meth : Method} {c : Code} {K : ix_Cx} (hKp : ix_Kp K) {n : Nat} {z : ix_Z} (X : ix_X p s m args c K cX4_namesRead RX4 5) (hr : meth.sig.returnType = (some (.array .int))) (hlk : meth.locks = false)  {a0 : Nat} {x1 : Int32} {a2 : Nat} {rec47 : Int32 → Int32 → ix_D2 → Option (Option Nat × ix_Z × ix_D2)} {r : Option Nat} {z1 : ix_Z} {d1 : ix_D2} (hrec47 : ∀ (x3 : Int32) (x4 : Int32) (d : ix_D2), rec47 x3 x4 d = some (r, z1, d1) → ix_G p l e (ix_rm 1 23 1 64) s m args below meth c (MQ below (ix_Post K (some (ix_rv K r)) (ix_w z1 d1)) args s 1 64 (ix_A K)) K 5 1 64 47 [(0, .ref (K.2.2.1 + a0)), (1, .int x1), (2, .ref (K.2.2.1 + a2)), (3, .int x3), (4, .int x4)] [] (ix_w z d)) {x3 : Int32} {x4 : Int32} {d : ix_D2} (h : b_X4_namesRead_47 n z  a0 x1 a2 rec47 x3 x4 d = some (r, z1, d1)) : ix_G p l e (ix_rm 1 23 1 64) s m args below meth c (MQ below (ix_Post K (some (ix_rv K r)) (ix_w z1 d1)) args s 1 64 (ix_A K)) K 5 1 64 47 [(0, .ref (K.2.2.1 + a0)), (1, .int x1), (2, .ref (K.2.2.1 + a2)), (3, .int x3), (4, .int x4)] [] (ix_w z d) := by
  unfold b_X4_namesRead_47 at h
  refine ix_iload (i := 4) (j := 4) X (ix_tb_at tb_X4_namesRead 29 rfl) rfl (pc1 := 49) rfl ?_
  refine ix_aload_n (i := 0) (j := 0) X (ix_tb_at tb_X4_namesRead 30 rfl) rfl rfl (pc1 := 50) rfl ?_
  obtain ⟨k_8, h⟩ := ix_ck_some h
  refine iz_getI X fl_RX4_38 k_8 (ix_tb_at tb_X4_namesRead 31 rfl) (pc1 := 53) rfl ?_
  refine ix_icmp_ge (tgt := 96) X (ix_tb_at tb_X4_namesRead 32 rfl) (by decide) (pc1 := 56) rfl (fun q_9 => ?_) (fun q_9 => ?_)
  · have h := ix_ift q_9 h
    refine ix_sub (L1 := [(2, .ref (K.2.2.1 + a2))]) [2] rfl ?_
    exact t_X4_namesRead_96 hKp X hr hlk  h
  · have h := ix_iff q_9 h
    refine ix_iload_n (i := 3) (j := 3) X (ix_tb_at tb_X4_namesRead 33 rfl) rfl rfl (pc1 := 57) rfl ?_
    refine ix_iload_n (i := 1) (j := 1) X (ix_tb_at tb_X4_namesRead 34 rfl) rfl rfl (pc1 := 58) rfl ?_
    refine ix_icmp_ge (tgt := 96) X (ix_tb_at tb_X4_namesRead 35 rfl) (by decide) (pc1 := 61) rfl (fun q_10 => ?_) (fun q_10 => ?_)
    · have h := ix_ift q_10 h
      refine ix_sub (L1 := [(2, .ref (K.2.2.1 + a2))]) [2] rfl ?_
      exact t_X4_namesRead_96 hKp X hr hlk  h
    · have h := ix_iff q_10 h
      refine ix_aload_n (i := 0) (j := 0) X (ix_tb_at tb_X4_namesRead 36 rfl) rfl rfl (pc1 := 62) rfl ?_
      obtain ⟨b_11, q_12, h⟩ := ix_bd1_ex h
      refine iz_getR X fl_RX4_22 k_8 q_12 (ix_tb_at tb_X4_namesRead 37 rfl) (pc1 := 65) rfl ?_
      refine ix_iload (i := 4) (j := 4) X (ix_tb_at tb_X4_namesRead 38 rfl) rfl (pc1 := 67) rfl ?_
      obtain ⟨k_13, h⟩ := ix_ck_some h
      refine iz_iald X k_13 (ix_tb_at tb_X4_namesRead 39 rfl) (pc1 := 68) rfl ?_
      refine ix_sipush (v := 10000) X (ix_tb_at tb_X4_namesRead 40 rfl) (by decide) (pc1 := 71) rfl ?_
      refine ix_icmp_ge (tgt := 90) X (ix_tb_at tb_X4_namesRead 41 rfl) (by decide) (pc1 := 74) rfl (fun q_14 => ?_) (fun q_14 => ?_)
      · have h := ix_ift q_14 h
        refine ix_sub (L1 := [(0, .ref (K.2.2.1 + a0)), (1, .int x1), (2, .ref (K.2.2.1 + a2)), (3, .int x3), (4, .int x4)]) [0, 1, 2, 3, 4] rfl ?_
        exact t_X4_namesRead_90 hKp X hr hlk hrec47 h
      · have h := ix_iff q_14 h
        refine ix_aload_n (i := 2) (j := 2) X (ix_tb_at tb_X4_namesRead 42 rfl) rfl rfl (pc1 := 75) rfl ?_
        refine ix_iload_n (i := 3) (j := 3) X (ix_tb_at tb_X4_namesRead 43 rfl) rfl rfl (pc1 := 76) rfl ?_
        refine ix_aload_n (i := 0) (j := 0) X (ix_tb_at tb_X4_namesRead 44 rfl) rfl rfl (pc1 := 77) rfl ?_
        refine iz_getR X fl_RX4_22 k_8 q_12 (ix_tb_at tb_X4_namesRead 45 rfl) (pc1 := 80) rfl ?_
        refine ix_iload (i := 4) (j := 4) X (ix_tb_at tb_X4_namesRead 46 rfl) rfl (pc1 := 82) rfl ?_
        refine iz_iald X k_13 (ix_tb_at tb_X4_namesRead 47 rfl) (pc1 := 83) rfl ?_
        refine ix_mabs X ml_RX4_98 (Nat.le_of_ble_eq_true rfl) (Nat.le_of_ble_eq_true rfl) ⟨Nat.le_of_ble_eq_true rfl, Nat.le_of_ble_eq_true rfl⟩ (ix_tb_at tb_X4_namesRead 48 rfl) (pc1 := 86) rfl ?_
        obtain ⟨k_17, h⟩ := ix_ck_some h
        obtain ⟨d_18, e_19, h⟩ := ix_lt_ex h
        refine iz_iast X k_17 (ix_tb_at tb_X4_namesRead 49 rfl) e_19 (pc1 := 87) rfl ?_
        obtain ⟨x3_20, e_21, h⟩ := ix_lt_ex h
        refine ix_iinc (i := 3) (j := 3) (v := x3_20) (L1 := [(3, .int x3_20), (0, .ref (K.2.2.1 + a0)), (1, .int x1), (2, .ref (K.2.2.1 + a2)), (4, .int x4)]) X (ix_tb_at tb_X4_namesRead 50 rfl) rfl (by rw [oi_1]; exact e_21.symm) (Nat.le_of_ble_eq_true rfl) rfl (pc1 := 90) rfl ?_
        refine ix_sub (L1 := [(0, .ref (K.2.2.1 + a0)), (1, .int x1), (2, .ref (K.2.2.1 + a2)), (3, .int x3_20), (4, .int x4)]) [1, 2, 3, 0, 4] rfl ?_
        exact t_X4_namesRead_90 hKp X hr hlk hrec47 h
theorem t_X4_namesRead_47 {l : Launch} {p : Program} {e : Env} {s : State} {m : MethodId} {args : Array Value} {below : List Frame} {meth : Method} {c : Code} {K : ix_Cx} (hKp : ix_Kp K) {n : Nat} {z : ix_Z} (X : ix_X p s m args c K cX4_namesRead RX4 5) (hr : meth.sig.returnType = (some (.array .int))) (hlk : meth.locks = false)  {a0 : Nat} {x1 : Int32} {a2 : Nat} {r : Option Nat} {z1 : ix_Z} {d1 : ix_D2}  {x3 : Int32} {x4 : Int32} {d : ix_D2} (h : f_X4_namesRead_47 n z  a0 x1 a2 x3 x4 d = some (r, z1, d1)) : ix_G p l e (ix_rm 1 23 1 64) s m args below meth c (MQ below (ix_Post K (some (ix_rv K r)) (ix_w z1 d1)) args s 1 64 (ix_A K)) K 5 1 64 47 [(0, .ref (K.2.2.1 + a0)), (1, .int x1), (2, .ref (K.2.2.1 + a2)), (3, .int x3), (4, .int x4)] [] (ix_w z d) := by
  have key : ∀ (f : Nat) (x3 : Int32) (x4 : Int32) (d : ix_D2), ix_fix (b_X4_namesRead_47 n z  a0 x1 a2) (fun _ _ _ => none) f x3 x4 d = some (r, z1, d1) → ix_G p l e (ix_rm 1 23 1 64) s m args below meth c (MQ below (ix_Post K (some (ix_rv K r)) (ix_w z1 d1)) args s 1 64 (ix_A K)) K 5 1 64 47 [(0, .ref (K.2.2.1 + a0)), (1, .int x1), (2, .ref (K.2.2.1 + a2)), (3, .int x3), (4, .int x4)] [] (ix_w z d) := by
    intro f
    induction f with
    | zero =>
      intro x3 x4 d h
      have h : (none : Option (Option Nat × ix_Z × ix_D2)) = some (r, z1, d1) := h
      cases h
    | succ f ih =>
      intro x3 x4 d h
      exact tb_X4_namesRead_47 hKp X hr hlk (rec47 := ix_fix (b_X4_namesRead_47 n z  a0 x1 a2) (fun _ _ _ => none) f)  ih h
  exact key n x3 x4 d h
set_option maxRecDepth 20000 in
theorem t_X4_namesRead_30 {l : Launch} {p : Program} {e : Env} {s : State} {m : MethodId} {args : Array Value} {below : List Frame} {meth : Method} {c : Code} {K : ix_Cx} (hKp : ix_Kp K) {n : Nat} {z : ix_Z} (X : ix_X p s m args c K cX4_namesRead RX4 5) (hr : meth.sig.returnType = (some (.array .int))) (hlk : meth.locks = false) {rec4 : Int32 → Int32 → ix_D2 → Option (Option Nat × ix_Z × ix_D2)} {a0 : Nat} {x2 : Int32} {s0 : Int32} {s1 : Int32} {r : Option Nat} {z1 : ix_Z} {d1 : ix_D2} (hrec4 : ∀ (x1 : Int32) (x2 : Int32) (d : ix_D2), rec4 x1 x2 d = some (r, z1, d1) → ix_G p l e (ix_rm 1 23 1 64) s m args below meth c (MQ below (ix_Post K (some (ix_rv K r)) (ix_w z1 d1)) args s 1 64 (ix_A K)) K 5 0 0 4 [(0, .ref (K.2.2.1 + a0)), (1, .int x1), (2, .int x2)] [] (ix_w z d)) {d : ix_D2} (h : f_X4_namesRead_30 n z rec4 a0 x2 s0 s1 d = some (r, z1, d1)) : ix_G p l e (ix_rm 1 23 1 64) s m args below meth c (MQ below (ix_Post K (some (ix_rv K r)) (ix_w z1 d1)) args s 1 64 (ix_A K)) K 5 0 0 30 [(0, .ref (K.2.2.1 + a0)), (2, .int x2)] [.int s0, .int s1] (ix_w z d) := by
  unfold f_X4_namesRead_30 at h
  refine ix_iadd X (ix_tb_at tb_X4_namesRead 18 rfl) (pc1 := 31) rfl ?_
  obtain ⟨x1_26, e_27, h⟩ := ix_lt_ex h
  refine ix_nmi e_27 ?_
  refine ix_istore_n (i := 1) (L1 := [(1, .int x1_26), (0, .ref (K.2.2.1 + a0)), (2, .int x2)]) X (ix_tb_at tb_X4_namesRead 19 rfl) rfl (Nat.le_of_ble_eq_true rfl) rfl (pc1 := 32) rfl ?_
  obtain ⟨x2_28, e_29, h⟩ := ix_lt_ex h
  refine ix_iinc (i := 2) (j := 2) (v := x2_28) (L1 := [(2, .int x2_28), (1, .int x1_26), (0, .ref (K.2.2.1 + a0))]) X (ix_tb_at tb_X4_namesRead 20 rfl) rfl (by rw [oi_1]; exact e_29.symm) (Nat.le_of_ble_eq_true rfl) rfl (pc1 := 35) rfl ?_
  refine ix_goto (tgt := 4) X (ix_tb_at tb_X4_namesRead 21 rfl) (by decide) ?_
  refine ix_sub (L1 := [(0, .ref (K.2.2.1 + a0)), (1, .int x1_26), (2, .int x2_28)]) [2, 1, 0] rfl ?_
  exact hrec4 x1_26 x2_28 d h
set_option maxRecDepth 20000 in
theorem tb_X4_namesRead_4 {l : Launch} {p : Program} {e : Env} {s : State} {m : MethodId} {args : Array Value} {below : List Frame} {meth : Method} {c : Code} {K : ix_Cx} (hKp : ix_Kp K) {n : Nat} {z : ix_Z} (X : ix_X p s m args c K cX4_namesRead RX4 5) (hr : meth.sig.returnType = (some (.array .int))) (hlk : meth.locks = false)  {a0 : Nat} {rec4 : Int32 → Int32 → ix_D2 → Option (Option Nat × ix_Z × ix_D2)} {r : Option Nat} {z1 : ix_Z} {d1 : ix_D2} (hrec4 : ∀ (x1 : Int32) (x2 : Int32) (d : ix_D2), rec4 x1 x2 d = some (r, z1, d1) → ix_G p l e (ix_rm 1 23 1 64) s m args below meth c (MQ below (ix_Post K (some (ix_rv K r)) (ix_w z1 d1)) args s 1 64 (ix_A K)) K 5 0 0 4 [(0, .ref (K.2.2.1 + a0)), (1, .int x1), (2, .int x2)] [] (ix_w z d)) {x1 : Int32} {x2 : Int32} {d : ix_D2} (h : b_X4_namesRead_4 n z  a0 rec4 x1 x2 d = some (r, z1, d1)) : ix_G p l e (ix_rm 1 23 1 64) s m args below meth c (MQ below (ix_Post K (some (ix_rv K r)) (ix_w z1 d1)) args s 1 64 (ix_A K)) K 5 0 0 4 [(0, .ref (K.2.2.1 + a0)), (1, .int x1), (2, .int x2)] [] (ix_w z d) := by
  unfold b_X4_namesRead_4 at h
  refine ix_iload_n (i := 2) (j := 2) X (ix_tb_at tb_X4_namesRead 4 rfl) rfl rfl (pc1 := 5) rfl ?_
  refine ix_aload_n (i := 0) (j := 0) X (ix_tb_at tb_X4_namesRead 5 rfl) rfl rfl (pc1 := 6) rfl ?_
  obtain ⟨k_1, h⟩ := ix_ck_some h
  refine iz_getI X fl_RX4_38 k_1 (ix_tb_at tb_X4_namesRead 6 rfl) (pc1 := 9) rfl ?_
  refine ix_icmp_ge (tgt := 38) X (ix_tb_at tb_X4_namesRead 7 rfl) (by decide) (pc1 := 12) rfl (fun q_2 => ?_) (fun q_2 => ?_)
  · have h := ix_ift q_2 h
    refine ix_iload_n (i := 1) (j := 1) X (ix_tb_at tb_X4_namesRead 22 rfl) rfl rfl (pc1 := 39) rfl ?_
    obtain ⟨k_3, h⟩ := ix_ck_some h
    obtain ⟨z_4, e_5, h⟩ := ix_lt_ex h
    obtain ⟨d_6, e_7, h⟩ := ix_lt_ex h
    refine iz_newa_int (pl := 98) X (by decide +kernel) k_3.1 (Nat.le_trans k_3.2 (by decide)) (Nat.le_of_ble_eq_true rfl) (Nat.le_trans (Nat.add_le_add_left k_3.2 _) (Nat.le_of_ble_eq_true rfl)) (ix_tb_at tb_X4_namesRead 23 rfl) e_5 e_7 (pc1 := 41) rfl ?_
    refine ix_widen (k1 := 1) (n1 := 64) (Nat.le_of_ble_eq_true rfl) (Nat.le_trans (Nat.add_le_add_left k_3.2 _) (Nat.le_of_ble_eq_true rfl)) ?_
    refine ix_astore_n (i := 2) (L1 := [(2, .ref (K.2.2.1 + (z.2.2))), (0, .ref (K.2.2.1 + a0)), (1, .int x1)]) X (ix_tb_at tb_X4_namesRead 24 rfl) rfl (Nat.le_of_ble_eq_true rfl) rfl (pc1 := 42) rfl ?_
    refine ix_iconst (v := 0) X (ix_tb_at tb_X4_namesRead 25 rfl) (by decide) (pc1 := 43) rfl ?_
    refine ix_istore_n (i := 3) (L1 := [(3, .int 0), (2, .ref (K.2.2.1 + (z.2.2))), (0, .ref (K.2.2.1 + a0)), (1, .int x1)]) X (ix_tb_at tb_X4_namesRead 26 rfl) rfl (Nat.le_of_ble_eq_true rfl) rfl (pc1 := 44) rfl ?_
    refine ix_iconst (v := 0) X (ix_tb_at tb_X4_namesRead 27 rfl) (by decide) (pc1 := 45) rfl ?_
    refine ix_istore (i := 4) (L1 := [(4, .int 0), (3, .int 0), (2, .ref (K.2.2.1 + (z.2.2))), (0, .ref (K.2.2.1 + a0)), (1, .int x1)]) X (ix_tb_at tb_X4_namesRead 28 rfl) (Nat.le_of_ble_eq_true rfl) rfl (pc1 := 47) rfl ?_
    refine ix_sub (L1 := [(0, .ref (K.2.2.1 + a0)), (1, .int x1), (2, .ref (K.2.2.1 + (z.2.2))), (3, .int 0), (4, .int 0)]) [3, 4, 2, 1, 0] rfl ?_
    exact t_X4_namesRead_47 hKp X hr hlk  h
  · have h := ix_iff q_2 h
    refine ix_iload_n (i := 1) (j := 1) X (ix_tb_at tb_X4_namesRead 8 rfl) rfl rfl (pc1 := 13) rfl ?_
    refine ix_aload_n (i := 0) (j := 0) X (ix_tb_at tb_X4_namesRead 9 rfl) rfl rfl (pc1 := 14) rfl ?_
    obtain ⟨b_22, q_23, h⟩ := ix_bd1_ex h
    refine iz_getR X fl_RX4_22 k_1 q_23 (ix_tb_at tb_X4_namesRead 10 rfl) (pc1 := 17) rfl ?_
    refine ix_iload_n (i := 2) (j := 2) X (ix_tb_at tb_X4_namesRead 11 rfl) rfl rfl (pc1 := 18) rfl ?_
    obtain ⟨k_24, h⟩ := ix_ck_some h
    refine iz_iald X k_24 (ix_tb_at tb_X4_namesRead 12 rfl) (pc1 := 19) rfl ?_
    refine ix_sipush (v := 10000) X (ix_tb_at tb_X4_namesRead 13 rfl) (by decide) (pc1 := 22) rfl ?_
    refine ix_icmp_ge (tgt := 29) X (ix_tb_at tb_X4_namesRead 14 rfl) (by decide) (pc1 := 25) rfl (fun q_25 => ?_) (fun q_25 => ?_)
    · have h := ix_ift q_25 h
      refine ix_iconst (v := 0) X (ix_tb_at tb_X4_namesRead 17 rfl) (by decide) (pc1 := 30) rfl ?_
      refine ix_sub (L1 := [(0, .ref (K.2.2.1 + a0)), (2, .int x2)]) [0, 2] rfl ?_
      exact t_X4_namesRead_30 hKp X hr hlk hrec4 h
    · have h := ix_iff q_25 h
      refine ix_iconst (v := 1) X (ix_tb_at tb_X4_namesRead 15 rfl) (by decide) (pc1 := 26) rfl ?_
      refine ix_goto (tgt := 30) X (ix_tb_at tb_X4_namesRead 16 rfl) (by decide) ?_
      refine ix_sub (L1 := [(0, .ref (K.2.2.1 + a0)), (2, .int x2)]) [0, 2] rfl ?_
      exact t_X4_namesRead_30 hKp X hr hlk hrec4 h
theorem t_X4_namesRead_4 {l : Launch} {p : Program} {e : Env} {s : State} {m : MethodId} {args : Array Value} {below : List Frame} {meth : Method} {c : Code} {K : ix_Cx} (hKp : ix_Kp K) {n : Nat} {z : ix_Z} (X : ix_X p s m args c K cX4_namesRead RX4 5) (hr : meth.sig.returnType = (some (.array .int))) (hlk : meth.locks = false)  {a0 : Nat} {r : Option Nat} {z1 : ix_Z} {d1 : ix_D2}  {x1 : Int32} {x2 : Int32} {d : ix_D2} (h : f_X4_namesRead_4 n z  a0 x1 x2 d = some (r, z1, d1)) : ix_G p l e (ix_rm 1 23 1 64) s m args below meth c (MQ below (ix_Post K (some (ix_rv K r)) (ix_w z1 d1)) args s 1 64 (ix_A K)) K 5 0 0 4 [(0, .ref (K.2.2.1 + a0)), (1, .int x1), (2, .int x2)] [] (ix_w z d) := by
  have key : ∀ (f : Nat) (x1 : Int32) (x2 : Int32) (d : ix_D2), ix_fix (b_X4_namesRead_4 n z  a0) (fun _ _ _ => none) f x1 x2 d = some (r, z1, d1) → ix_G p l e (ix_rm 1 23 1 64) s m args below meth c (MQ below (ix_Post K (some (ix_rv K r)) (ix_w z1 d1)) args s 1 64 (ix_A K)) K 5 0 0 4 [(0, .ref (K.2.2.1 + a0)), (1, .int x1), (2, .int x2)] [] (ix_w z d) := by
    intro f
    induction f with
    | zero =>
      intro x1 x2 d h
      have h : (none : Option (Option Nat × ix_Z × ix_D2)) = some (r, z1, d1) := h
      cases h
    | succ f ih =>
      intro x1 x2 d h
      exact tb_X4_namesRead_4 hKp X hr hlk (rec4 := ix_fix (b_X4_namesRead_4 n z  a0) (fun _ _ _ => none) f)  ih h
  exact key n x1 x2 d h
set_option maxRecDepth 20000 in
theorem c_X4_namesRead {l : Launch} {K : ix_Cx} (hKp : ix_Kp K) {n : Nat} {z : ix_Z} {a0 : Nat} {d : ix_D2} {r : Option Nat} {z1 : ix_Z} {d1 : ix_D2} (h : f_X4_namesRead n z a0 d = some (r, z1, d1)) : ix_M l K yX4_namesRead cX4_namesRead 5 (some (.array .int)) 1 23 1 64 [.ref (K.2.2.1 + a0)] (ix_w z d) (some (ix_rv K r)) (ix_w z1 d1) := by
  refine ix_met mf_X4_namesRead hKp (Nat.le_of_ble_eq_true rfl) ?_
  intro p e s m args below meth c hr hlk hnm X
  have X : ix_X p s m args c K cX4_namesRead RX4 5 := X
  show ix_G p l e (ix_rm 1 23 1 64) s m args below meth c (MQ below (ix_Post K (some (ix_rv K r)) (ix_w z1 d1)) args s 1 64 (ix_A K)) K 5 0 0 0 [(0, .ref (K.2.2.1 + a0))] [] (ix_w z d)
  unfold f_X4_namesRead at h
  refine ix_iconst (v := 0) X (ix_tb_at tb_X4_namesRead 0 rfl) (by decide) (pc1 := 1) rfl ?_
  refine ix_istore_n (i := 1) (L1 := [(1, .int 0), (0, .ref (K.2.2.1 + a0))]) X (ix_tb_at tb_X4_namesRead 1 rfl) rfl (Nat.le_of_ble_eq_true rfl) rfl (pc1 := 2) rfl ?_
  refine ix_iconst (v := 0) X (ix_tb_at tb_X4_namesRead 2 rfl) (by decide) (pc1 := 3) rfl ?_
  refine ix_istore_n (i := 2) (L1 := [(2, .int 0), (1, .int 0), (0, .ref (K.2.2.1 + a0))]) X (ix_tb_at tb_X4_namesRead 3 rfl) rfl (Nat.le_of_ble_eq_true rfl) rfl (pc1 := 4) rfl ?_
  refine ix_sub (L1 := [(0, .ref (K.2.2.1 + a0)), (1, .int 0), (2, .int 0)]) [2, 1, 0] rfl ?_
  exact t_X4_namesRead_4 hKp X hr hlk  h
def tab_X5_init : List (Nat × Instr × Nat) := [(0, .aload_n 0, 1), (1, .aload_n 1, 1), (2, .iload_n 2, 1), (3, .invokespecial 1, 3), (6, .return_, 1)]
theorem tb_X5_init : ix_tab cX5_init tab_X5_init := by
  unfold ix_tab
  decide +kernel
noncomputable def f_X5_init (n : Nat) (z : ix_Z) (a0 : Nat) (a1 : Nat) (x2 : Int32) (d : ix_D2) : Option (ix_Z × ix_D2) :=
  ix_bd2 (f_X0_init n z a0 a1 x2 d) (fun z_3 d_1 => some (z_3, d_1))
set_option maxRecDepth 20000 in
theorem c_X5_init {l : Launch} {K : ix_Cx} (hKp : ix_Kp K) {n : Nat} {z : ix_Z} {a0 : Nat} {a1 : Nat} {x2 : Int32} {d : ix_D2} {z1 : ix_Z} {d1 : ix_D2} (h : f_X5_init n z a0 a1 x2 d = some (z1, d1)) : ix_M l K yX5_init cX5_init 3 (none : Option Jvm.ClassFile.FieldType) 4 87 0 0 [.ref (K.2.2.1 + a0), .ref (K.2.2.1 + a1), .int x2] (ix_w z d) none (ix_w z1 d1) := by
  refine ix_met mf_X5_init hKp (Nat.le_of_ble_eq_true rfl) ?_
  intro p e s m args below meth c hr hlk hnm X
  have X : ix_X p s m args c K cX5_init RX5 3 := X
  have hnm : meth.name = "<init>" := hnm
  show ix_G p l e (ix_rm 4 87 0 0) s m args below meth c (MQ below (ix_Post K none (ix_w z1 d1)) args s 0 0 (ix_A K)) K 3 0 0 0 [(0, .ref (K.2.2.1 + a0)), (1, .ref (K.2.2.1 + a1)), (2, .int x2)] [] (ix_w z d)
  unfold f_X5_init at h
  refine ix_aload_n (i := 0) (j := 0) X (ix_tb_at tb_X5_init 0 rfl) rfl rfl (pc1 := 1) rfl ?_
  refine ix_aload_n (i := 1) (j := 1) X (ix_tb_at tb_X5_init 1 rfl) rfl rfl (pc1 := 2) rfl ?_
  refine ix_iload_n (i := 2) (j := 2) X (ix_tb_at tb_X5_init 2 rfl) rfl rfl (pc1 := 3) rfl ?_
  obtain ⟨z_3, d_1, h_2, h⟩ := ix_bd2_ex h
  refine ix_callI (As := [.ref (K.2.2.1 + a1), .int x2]) (rest := []) X mf_X0_init mi_X0_init rfl ml_RX5_1 ⟨Nat.le_of_ble_eq_true rfl, Nat.le_of_ble_eq_true rfl⟩ ⟨Nat.le_of_ble_eq_true rfl, Nat.le_of_ble_eq_true rfl⟩ rfl (Nat.le_of_ble_eq_true rfl) (ix_tb_at tb_X5_init 3 rfl) (c_X0_init hKp h_2) rfl (pc1 := 6) rfl ?_
  exact ix_vret X hr hlk (ix_r2v (g := ix_w) h) (ix_tb_at tb_X5_init 4 rfl)
def tab_X5_layInto : List (Nat × Instr × Nat) := [(0, .aload_n 0, 1), (1, .aload_n 1, 1), (2, .invokevirtual 7, 3), (5, .astore_n 2, 1), (6, .aload_n 0, 1), (7, .getfield 13, 3), (10, .arraylength, 1), (11, .aload_n 0, 1), (12, .getfield 17, 3), (15, .if_icmp .le 18, 3), (18, .aload_n 1, 1), (19, .aload_n 2, 1), (20, .aload_n 0, 1), (21, .getfield 17, 3), (24, .iconst 1, 1), (25, .iadd, 1), (26, .iaload, 1), (27, .ineg, 1), (28, .iconst 0, 1), (29, .iconst 0, 1), (30, .invokevirtual 21, 3), (33, .aload_n 0, 1), (34, .getfield 17, 3), (37, .aload_n 0, 1), (38, .getfield 13, 3), (41, .arraylength, 1), (42, .if_icmp .le 10, 3), (45, .aload_n 1, 1), (46, .invokevirtual 27, 3), (49, .goto 22, 3), (52, .aload_n 0, 1), (53, .getfield 17, 3), (56, .ifCond .le 15, 3), (59, .aload_n 1, 1), (60, .aload_n 2, 1), (61, .aload_n 0, 1), (62, .getfield 17, 3), (65, .iaload, 1), (66, .iconst 0, 1), (67, .iconst 0, 1), (68, .invokevirtual 21, 3), (71, .return_, 1)]
theorem tb_X5_layInto : ix_tab cX5_layInto tab_X5_layInto := by
  unfold ix_tab
  decide +kernel
noncomputable def v_RX5_7 (n : Nat) (z : ix_Z) (b : Nat) (p0 : Nat) (d : ix_D2) : Option (Option Nat × ix_Z × ix_D2) := f_X0_laySums n z b p0 d
theorem tv_RX5_7 {l : Launch} {p : Program} {e : Env} {s : State} {m : MethodId} {args : Array Value} {below : List Frame} {meth : Method} {c : Code} {K : ix_Cx} {R : Room} {Q : State → Prop} {nL k n pc : Nat} {cc : ByteArray} {L : List (Nat × Value)} {rest : List Value} (hKp : ix_Kp K) (X : ix_X p s m args c K cc RX5 nL) {N : Nat} {z : ix_Z} {b : Nat} {p0 : Nat} {d : ix_D2} {r : Option Nat} {z1 : ix_Z} {d1 : ix_D2} (hk : ix_ok z [5] b) (hcall : v_RX5_7 N z b p0 d = some (r, z1, d1)) (hfr : 5 ≤ R.frames) (hlo : 122 ≤ R.locals) (hcs : k + 1 ≤ R.cells ∧ n + 14 ≤ R.slots) (hrm : (rest.map fun v => v.category).sum ≤ 8) (hd : decode cc pc = .ok (.invokevirtual 7, 3)) {pc1 : Nat} (hp : pc + 3 = pc1) (kk : ix_G p l e R s m args below meth c Q K nL (k + 1) (n + 14) pc1 L (ix_rv K r :: rest) (ix_w z1 d1)) : ix_G p l e R s m args below meth c Q K nL k n pc L (.ref (K.2.2.1 + p0) :: .ref (K.2.2.1 + b) :: rest) (ix_w z d) := by
  unfold v_RX5_7 at hcall
  have h2 := hk.2
  simp only [List.mem_cons, List.not_mem_nil, or_false] at h2
  rcases h2 with h2
  · exact ix_callU (As := [.ref (K.2.2.1 + p0)]) (rest := rest) (x := (⟨"ClauseCourt$Group", "laySums", "(LClauseCourt$Case;)[I"⟩ : MethodName)) (owner := "ClauseCourt$AtMost") (C := RX5) (T := TX5) (nf := 4) (ci := 5) X mf_X0_laySums mi_X0_laySums (ix_wm (i := 577) (by decide +kernel)) (ix_wm (i := 575) (by decide +kernel)) (Or.inl (ix_wm (i := 576) (by decide +kernel))) ⟨by decide, by decide⟩ (by decide +kernel) rfl (by decide) ml_RX5_7 ⟨Nat.le_trans (Nat.le_of_ble_eq_true rfl) hfr, Nat.le_trans (Nat.le_of_ble_eq_true rfl) hlo⟩ ⟨Nat.le_trans (Nat.add_le_add_left (by decide) _) hcs.1, Nat.le_trans (Nat.add_le_add_left (by decide) _) hcs.2⟩ rfl hrm hd ⟨hk.1, h2⟩ (c_X0_laySums hKp hcall) rfl hp (ix_widen (Nat.add_le_add_left (by decide) _) (Nat.add_le_add_left (by decide) _) kk)
noncomputable def f_X5_layInto_33 (n : Nat) (z : ix_Z)  (a0 : Nat) (a1 : Nat) (a2 : Nat) (d : ix_D2) : Option (ix_Z × ix_D2) :=
  ix_ck (ix_ok z [5] a0) (ix_bd1 (z.1 a0 0) (fun b_14 => ix_ck (b_14 < z.2.2 ∧ 20 ≤ (z.2.1 b_14).1 ∧ (z.2.1 b_14).1 < 26) (ix_if (d.1 a0 3 ≤ nI (z.2.1 b_14).2) (ix_if (d.1 a0 3 ≤ 0) (some (z, d)) (ix_ck (ix_ix z 20 a2 (d.1 a0 3)) (ix_ck (ix_ok z [2] a1) (ix_bd1 (f_X2_lay n z a1 (d.1 a2 (ix_n (d.1 a0 3))) 0 0 d) (fun d_20 => some (z, d_20)))))) (ix_ck (ix_ok z [2] a1) (ix_bd1 (f_X2_layDraft n z a1 d) (fun d_23 => some (z, d_23)))))))
noncomputable def f_X5_layInto (n : Nat) (z : ix_Z) (a0 : Nat) (a1 : Nat) (d : ix_D2) : Option (ix_Z × ix_D2) :=
  ix_ck (ix_ok z [5] a0) (ix_bd3 (v_RX5_7 n z a0 a1 d) (fun r_5 z_3 d_2 => ix_bd1 r_5 (fun b_6 => ix_ck (ix_ok z_3 [5] a0) (ix_bd1 (z_3.1 a0 0) (fun b_9 => ix_ck (b_9 < z_3.2.2 ∧ 20 ≤ (z_3.2.1 b_9).1 ∧ (z_3.2.1 b_9).1 < 26) (ix_if (nI (z_3.2.1 b_9).2 ≤ d_2.1 a0 3) (f_X5_layInto_33 n z_3  a0 a1 b_6 d_2) (ix_ck (ix_ix z_3 20 b_6 ((d_2.1 a0 3) + 1)) (ix_ck (ix_ok z_3 [2] a1) (ix_bd1 (f_X2_lay n z_3 a1 (-(d_2.1 b_6 (ix_n ((d_2.1 a0 3) + 1)))) 0 0 d_2) (fun d_27 => f_X5_layInto_33 n z_3  a0 a1 b_6 d_27))))))))))
set_option maxRecDepth 20000 in
theorem t_X5_layInto_33 {l : Launch} {p : Program} {e : Env} {s : State} {m : MethodId} {args : Array Value} {below : List Frame} {meth : Method} {c : Code} {K : ix_Cx} (hKp : ix_Kp K) {n : Nat} {z : ix_Z} (X : ix_X p s m args c K cX5_layInto RX5 3) (hr : meth.sig.returnType = (none : Option Jvm.ClassFile.FieldType)) (hlk : meth.locks = false)  {a0 : Nat} {a1 : Nat} {a2 : Nat} {z1 : ix_Z} {d1 : ix_D2}  {d : ix_D2} (h : f_X5_layInto_33 n z  a0 a1 a2 d = some (z1, d1)) : ix_G p l e (ix_rm 5 122 1 14) s m args below meth c (MQ below (ix_Post K none (ix_w z1 d1)) args s 1 14 (ix_A K)) K 3 1 14 33 [(0, .ref (K.2.2.1 + a0)), (1, .ref (K.2.2.1 + a1)), (2, .ref (K.2.2.1 + a2))] [] (ix_w z d) := by
  unfold f_X5_layInto_33 at h
  refine ix_aload_n (i := 0) (j := 0) X (ix_tb_at tb_X5_layInto 21 rfl) rfl rfl (pc1 := 34) rfl ?_
  obtain ⟨k_13, h⟩ := ix_ck_some h
  refine iz_getI X fl_RX5_17 k_13 (ix_tb_at tb_X5_layInto 22 rfl) (pc1 := 37) rfl ?_
  refine ix_aload_n (i := 0) (j := 0) X (ix_tb_at tb_X5_layInto 23 rfl) rfl rfl (pc1 := 38) rfl ?_
  obtain ⟨b_14, q_15, h⟩ := ix_bd1_ex h
  refine iz_getR X fl_RX5_13 k_13 q_15 (ix_tb_at tb_X5_layInto 24 rfl) (pc1 := 41) rfl ?_
  obtain ⟨k_16, h⟩ := ix_ck_some h
  refine iz_alen X k_16 (ix_tb_at tb_X5_layInto 25 rfl) (pc1 := 42) rfl ?_
  refine ix_icmp_le (tgt := 52) X (ix_tb_at tb_X5_layInto 26 rfl) (by decide) (pc1 := 45) rfl (fun q_17 => ?_) (fun q_17 => ?_)
  · have h := ix_ift q_17 h
    refine ix_aload_n (i := 0) (j := 0) X (ix_tb_at tb_X5_layInto 30 rfl) rfl rfl (pc1 := 53) rfl ?_
    refine iz_getI X fl_RX5_17 k_13 (ix_tb_at tb_X5_layInto 31 rfl) (pc1 := 56) rfl ?_
    refine ix_if_le (tgt := 71) X (ix_tb_at tb_X5_layInto 32 rfl) (by decide) (pc1 := 59) rfl (fun q_18 => ?_) (fun q_18 => ?_)
    · have h := ix_ift q_18 h
      exact ix_vret X hr hlk (ix_r2v (g := ix_w) h) (ix_tb_at tb_X5_layInto 41 rfl)
    · have h := ix_iff q_18 h
      refine ix_aload_n (i := 1) (j := 1) X (ix_tb_at tb_X5_layInto 33 rfl) rfl rfl (pc1 := 60) rfl ?_
      refine ix_aload_n (i := 2) (j := 2) X (ix_tb_at tb_X5_layInto 34 rfl) rfl rfl (pc1 := 61) rfl ?_
      refine ix_aload_n (i := 0) (j := 0) X (ix_tb_at tb_X5_layInto 35 rfl) rfl rfl (pc1 := 62) rfl ?_
      refine iz_getI X fl_RX5_17 k_13 (ix_tb_at tb_X5_layInto 36 rfl) (pc1 := 65) rfl ?_
      obtain ⟨k_19, h⟩ := ix_ck_some h
      refine iz_iald X k_19 (ix_tb_at tb_X5_layInto 37 rfl) (pc1 := 66) rfl ?_
      refine ix_iconst (v := 0) X (ix_tb_at tb_X5_layInto 38 rfl) (by decide) (pc1 := 67) rfl ?_
      refine ix_iconst (v := 0) X (ix_tb_at tb_X5_layInto 39 rfl) (by decide) (pc1 := 68) rfl ?_
      obtain ⟨k_22, h⟩ := ix_ck_some h
      obtain ⟨d_20, h_21, h⟩ := ix_bd1_ex h
      refine ix_callV (As := [.int (d.1 a2 (ix_n (d.1 a0 3))), .int 0, .int 0]) (rest := []) (ci := 2) (T := TX2) (nf := 12) X mf_X2_lay mi_X2_lay ms_X2_lay rfl (Nat.le_of_ble_eq_true rfl) ml_RX5_21 ⟨Nat.le_of_ble_eq_true rfl, Nat.le_of_ble_eq_true rfl⟩ ⟨Nat.le_of_ble_eq_true rfl, Nat.le_of_ble_eq_true rfl⟩ rfl (Nat.le_of_ble_eq_true rfl) (ix_tb_at tb_X5_layInto 40 rfl) ⟨k_22.1, List.mem_singleton.mp k_22.2⟩ (c_X2_lay hKp h_21) rfl (pc1 := 71) rfl ?_
      exact ix_vret X hr hlk (ix_r2v (g := ix_w) h) (ix_tb_at tb_X5_layInto 41 rfl)
  · have h := ix_iff q_17 h
    refine ix_aload_n (i := 1) (j := 1) X (ix_tb_at tb_X5_layInto 27 rfl) rfl rfl (pc1 := 46) rfl ?_
    obtain ⟨k_25, h⟩ := ix_ck_some h
    obtain ⟨d_23, h_24, h⟩ := ix_bd1_ex h
    refine ix_callV (As := []) (rest := []) (ci := 2) (T := TX2) (nf := 12) X mf_X2_layDraft mi_X2_layDraft ms_X2_layDraft rfl (Nat.le_of_ble_eq_true rfl) ml_RX5_27 ⟨Nat.le_of_ble_eq_true rfl, Nat.le_of_ble_eq_true rfl⟩ ⟨Nat.le_of_ble_eq_true rfl, Nat.le_of_ble_eq_true rfl⟩ rfl (Nat.le_of_ble_eq_true rfl) (ix_tb_at tb_X5_layInto 28 rfl) ⟨k_25.1, List.mem_singleton.mp k_25.2⟩ (c_X2_layDraft hKp h_24) rfl (pc1 := 49) rfl ?_
    refine ix_goto (tgt := 71) X (ix_tb_at tb_X5_layInto 29 rfl) (by decide) ?_
    exact ix_vret X hr hlk (ix_r2v (g := ix_w) h) (ix_tb_at tb_X5_layInto 41 rfl)
set_option maxRecDepth 20000 in
theorem c_X5_layInto {l : Launch} {K : ix_Cx} (hKp : ix_Kp K) {n : Nat} {z : ix_Z} {a0 : Nat} {a1 : Nat} {d : ix_D2} {z1 : ix_Z} {d1 : ix_D2} (h : f_X5_layInto n z a0 a1 d = some (z1, d1)) : ix_M l K yX5_layInto cX5_layInto 3 (none : Option Jvm.ClassFile.FieldType) 5 122 1 14 [.ref (K.2.2.1 + a0), .ref (K.2.2.1 + a1)] (ix_w z d) none (ix_w z1 d1) := by
  refine ix_met mf_X5_layInto hKp (Nat.le_of_ble_eq_true rfl) ?_
  intro p e s m args below meth c hr hlk hnm X
  have X : ix_X p s m args c K cX5_layInto RX5 3 := X
  show ix_G p l e (ix_rm 5 122 1 14) s m args below meth c (MQ below (ix_Post K none (ix_w z1 d1)) args s 1 14 (ix_A K)) K 3 0 0 0 [(0, .ref (K.2.2.1 + a0)), (1, .ref (K.2.2.1 + a1))] [] (ix_w z d)
  unfold f_X5_layInto at h
  refine ix_aload_n (i := 0) (j := 0) X (ix_tb_at tb_X5_layInto 0 rfl) rfl rfl (pc1 := 1) rfl ?_
  refine ix_aload_n (i := 1) (j := 1) X (ix_tb_at tb_X5_layInto 1 rfl) rfl rfl (pc1 := 2) rfl ?_
  obtain ⟨k_1, h⟩ := ix_ck_some h
  obtain ⟨r_5, z_3, d_2, h_4, h⟩ := ix_bd3_ex h
  refine tv_RX5_7 (rest := []) hKp X k_1 h_4 (Nat.le_of_ble_eq_true rfl) (Nat.le_of_ble_eq_true rfl) ⟨Nat.le_of_ble_eq_true rfl, Nat.le_of_ble_eq_true rfl⟩ (Nat.le_of_ble_eq_true rfl) (ix_tb_at tb_X5_layInto 2 rfl) (pc1 := 5) rfl ?_
  obtain ⟨b_6, q_7, h⟩ := ix_bd1_ex h
  refine ix_rvs q_7 ?_
  refine ix_astore_n (i := 2) (L1 := [(2, .ref (K.2.2.1 + b_6)), (0, .ref (K.2.2.1 + a0)), (1, .ref (K.2.2.1 + a1))]) X (ix_tb_at tb_X5_layInto 3 rfl) rfl (Nat.le_of_ble_eq_true rfl) rfl (pc1 := 6) rfl ?_
  refine ix_aload_n (i := 0) (j := 1) X (ix_tb_at tb_X5_layInto 4 rfl) rfl rfl (pc1 := 7) rfl ?_
  obtain ⟨k_8, h⟩ := ix_ck_some h
  obtain ⟨b_9, q_10, h⟩ := ix_bd1_ex h
  refine iz_getR X fl_RX5_13 k_8 q_10 (ix_tb_at tb_X5_layInto 5 rfl) (pc1 := 10) rfl ?_
  obtain ⟨k_11, h⟩ := ix_ck_some h
  refine iz_alen X k_11 (ix_tb_at tb_X5_layInto 6 rfl) (pc1 := 11) rfl ?_
  refine ix_aload_n (i := 0) (j := 1) X (ix_tb_at tb_X5_layInto 7 rfl) rfl rfl (pc1 := 12) rfl ?_
  refine iz_getI X fl_RX5_17 k_8 (ix_tb_at tb_X5_layInto 8 rfl) (pc1 := 15) rfl ?_
  refine ix_icmp_le (tgt := 33) X (ix_tb_at tb_X5_layInto 9 rfl) (by decide) (pc1 := 18) rfl (fun q_12 => ?_) (fun q_12 => ?_)
  · have h := ix_ift q_12 h
    refine ix_sub (L1 := [(0, .ref (K.2.2.1 + a0)), (1, .ref (K.2.2.1 + a1)), (2, .ref (K.2.2.1 + b_6))]) [1, 2, 0] rfl ?_
    exact t_X5_layInto_33 hKp X hr hlk  h
  · have h := ix_iff q_12 h
    refine ix_aload_n (i := 1) (j := 2) X (ix_tb_at tb_X5_layInto 10 rfl) rfl rfl (pc1 := 19) rfl ?_
    refine ix_aload_n (i := 2) (j := 0) X (ix_tb_at tb_X5_layInto 11 rfl) rfl rfl (pc1 := 20) rfl ?_
    refine ix_aload_n (i := 0) (j := 1) X (ix_tb_at tb_X5_layInto 12 rfl) rfl rfl (pc1 := 21) rfl ?_
    refine iz_getI X fl_RX5_17 k_8 (ix_tb_at tb_X5_layInto 13 rfl) (pc1 := 24) rfl ?_
    refine ix_iconst (v := 1) X (ix_tb_at tb_X5_layInto 14 rfl) (by decide) (pc1 := 25) rfl ?_
    refine ix_iadd X (ix_tb_at tb_X5_layInto 15 rfl) (pc1 := 26) rfl ?_
    obtain ⟨k_26, h⟩ := ix_ck_some h
    refine iz_iald X k_26 (ix_tb_at tb_X5_layInto 16 rfl) (pc1 := 27) rfl ?_
    refine ix_ineg X (ix_tb_at tb_X5_layInto 17 rfl) (pc1 := 28) rfl ?_
    refine ix_iconst (v := 0) X (ix_tb_at tb_X5_layInto 18 rfl) (by decide) (pc1 := 29) rfl ?_
    refine ix_iconst (v := 0) X (ix_tb_at tb_X5_layInto 19 rfl) (by decide) (pc1 := 30) rfl ?_
    obtain ⟨k_29, h⟩ := ix_ck_some h
    obtain ⟨d_27, h_28, h⟩ := ix_bd1_ex h
    refine ix_callV (As := [.int (-(d_2.1 b_6 (ix_n ((d_2.1 a0 3) + 1)))), .int 0, .int 0]) (rest := []) (ci := 2) (T := TX2) (nf := 12) X mf_X2_lay mi_X2_lay ms_X2_lay rfl (Nat.le_of_ble_eq_true rfl) ml_RX5_21 ⟨Nat.le_of_ble_eq_true rfl, Nat.le_of_ble_eq_true rfl⟩ ⟨Nat.le_of_ble_eq_true rfl, Nat.le_of_ble_eq_true rfl⟩ rfl (Nat.le_of_ble_eq_true rfl) (ix_tb_at tb_X5_layInto 20 rfl) ⟨k_29.1, List.mem_singleton.mp k_29.2⟩ (c_X2_lay hKp h_28) rfl (pc1 := 33) rfl ?_
    refine ix_sub (L1 := [(0, .ref (K.2.2.1 + a0)), (1, .ref (K.2.2.1 + a1)), (2, .ref (K.2.2.1 + b_6))]) [1, 2, 0] rfl ?_
    exact t_X5_layInto_33 hKp X hr hlk  h
def tab_X6_init : List (Nat × Instr × Nat) := [(0, .aload_n 0, 1), (1, .aload_n 1, 1), (2, .invokespecial 1, 3), (5, .aload_n 0, 1), (6, .iload_n 2, 1), (7, .putfield 7, 3), (10, .return_, 1)]
theorem tb_X6_init : ix_tab cX6_init tab_X6_init := by
  unfold ix_tab
  decide +kernel
noncomputable def f_X6_init (n : Nat) (z : ix_Z) (a0 : Nat) (a1 : Nat) (x2 : Int32) (d : ix_D2) : Option (ix_Z × ix_D2) :=
  ix_bd2 (f_X8_init n z a0 a1 d) (fun z_3 d_1 => ix_ck (ix_ok z_3 [6] a0) (ix_ck (x2 = 0 ∨ x2 = 1) (ix_lt (ix_di d_1 a0 3 x2) (fun d_7 => some (z_3, d_7)))))
set_option maxRecDepth 20000 in
theorem c_X6_init {l : Launch} {K : ix_Cx} (hKp : ix_Kp K) {n : Nat} {z : ix_Z} {a0 : Nat} {a1 : Nat} {x2 : Int32} {d : ix_D2} {z1 : ix_Z} {d1 : ix_D2} (h : f_X6_init n z a0 a1 x2 d = some (z1, d1)) : ix_M l K yX6_init cX6_init 3 (none : Option Jvm.ClassFile.FieldType) 2 44 0 0 [.ref (K.2.2.1 + a0), .ref (K.2.2.1 + a1), .int x2] (ix_w z d) none (ix_w z1 d1) := by
  refine ix_met mf_X6_init hKp (Nat.le_of_ble_eq_true rfl) ?_
  intro p e s m args below meth c hr hlk hnm X
  have X : ix_X p s m args c K cX6_init RX6 3 := X
  have hnm : meth.name = "<init>" := hnm
  show ix_G p l e (ix_rm 2 44 0 0) s m args below meth c (MQ below (ix_Post K none (ix_w z1 d1)) args s 0 0 (ix_A K)) K 3 0 0 0 [(0, .ref (K.2.2.1 + a0)), (1, .ref (K.2.2.1 + a1)), (2, .int x2)] [] (ix_w z d)
  unfold f_X6_init at h
  refine ix_aload_n (i := 0) (j := 0) X (ix_tb_at tb_X6_init 0 rfl) rfl rfl (pc1 := 1) rfl ?_
  refine ix_aload_n (i := 1) (j := 1) X (ix_tb_at tb_X6_init 1 rfl) rfl rfl (pc1 := 2) rfl ?_
  obtain ⟨z_3, d_1, h_2, h⟩ := ix_bd2_ex h
  refine ix_callI (As := [.ref (K.2.2.1 + a1)]) (rest := []) X mf_X8_init mi_X8_init rfl ml_RX6_1 ⟨Nat.le_of_ble_eq_true rfl, Nat.le_of_ble_eq_true rfl⟩ ⟨Nat.le_of_ble_eq_true rfl, Nat.le_of_ble_eq_true rfl⟩ rfl (Nat.le_of_ble_eq_true rfl) (ix_tb_at tb_X6_init 2 rfl) (c_X8_init hKp h_2) rfl (pc1 := 5) rfl ?_
  refine ix_aload_n (i := 0) (j := 0) X (ix_tb_at tb_X6_init 3 rfl) rfl rfl (pc1 := 6) rfl ?_
  refine ix_iload_n (i := 2) (j := 2) X (ix_tb_at tb_X6_init 4 rfl) rfl rfl (pc1 := 7) rfl ?_
  obtain ⟨k_5, h⟩ := ix_ck_some h
  obtain ⟨k_6, h⟩ := ix_ck_some h
  obtain ⟨d_7, e_8, h⟩ := ix_lt_ex h
  refine iz_putZF X fp_RX6_7 hnm k_5 (ix_tb_at tb_X6_init 5 rfl) k_6 e_8 (pc1 := 10) rfl ?_
  exact ix_vret X hr hlk (ix_r2v (g := ix_w) h) (ix_tb_at tb_X6_init 6 rfl)
def tab_X9_init : List (Nat × Instr × Nat) := [(0, .aload_n 0, 1), (1, .invokespecial 3, 3), (4, .aload_n 0, 1), (5, .new 9, 3), (8, .dup, 1), (9, .invokespecial 11, 3), (12, .putfield 12, 3), (15, .aload_n 0, 1), (16, .new 18, 3), (19, .dup, 1), (20, .bipush 64, 2), (22, .sipush 1280, 3), (25, .invokespecial 20, 3), (28, .putfield 23, 3), (31, .aload_n 0, 1), (32, .sipush 301, 3), (35, .newarray .long, 2), (37, .putfield 27, 3), (40, .aload_n 0, 1), (41, .bipush 20, 2), (43, .newarray .int, 2), (45, .putfield 31, 3), (48, .aload_n 0, 1), (49, .sipush 800, 3), (52, .newarray .int, 2), (54, .putfield 35, 3), (57, .aload_n 0, 1), (58, .sipush 6400, 3), (61, .newarray .long, 2), (63, .putfield 38, 3), (66, .aload_n 0, 1), (67, .sipush 2408, 3), (70, .newarray .long, 2), (72, .putfield 41, 3), (75, .aload_n 0, 1), (76, .bipush 8, 2), (78, .newarray .long, 2), (80, .putfield 44, 3), (83, .aload_n 0, 1), (84, .bipush 10, 2), (86, .newarray .int, 2), (88, .putfield 47, 3), (91, .aload_n 0, 1), (92, .iconst 5, 1), (93, .newarray .int, 2), (95, .putfield 50, 3), (98, .aload_n 0, 1), (99, .sipush 301, 3), (102, .newarray .int, 2), (104, .putfield 53, 3), (107, .aload_n 0, 1), (108, .sipush 301, 3), (111, .newarray .int, 2), (113, .putfield 56, 3), (116, .aload_n 0, 1), (117, .sipush 800, 3), (120, .newarray .int, 2), (122, .putfield 59, 3), (125, .aload_n 0, 1), (126, .getfield 47, 3), (129, .iconst 0, 1), (130, .sipush (-1005), 3), (133, .iastore, 1), (134, .aload_n 0, 1), (135, .getfield 50, 3), (138, .sipush (-1005), 3), (141, .invokestatic 62, 3), (144, .return_, 1)]
theorem tb_X9_init : ix_tab cX9_init tab_X9_init := by
  unfold ix_tab
  decide +kernel
noncomputable def f_X9_init (n : Nat) (z : ix_Z) (a0 : Nat) (d : ix_D2) : Option (ix_Z × ix_D2) :=
  ix_lt (ix_zn z 1 17) (fun z_1 => ix_lt (ix_dn d z.2.2) (fun d_3 => ix_bd2 (f_X1_init n z_1 (z.2.2) d_3) (fun z_7 d_5 => ix_ck (ix_ok z_7 [8] a0) (ix_lt (ix_zr z_7 a0 0 (some (z.2.2))) (fun z_10 => ix_lt (ix_zn z_10 7 3) (fun z_12 => ix_lt (ix_dn d_5 z_10.2.2) (fun d_14 => ix_bd2 (f_X7_init n z_12 z_10.2.2 64 1280 d_14) (fun z_18 d_16 => ix_ck (ix_ok z_18 [8] a0) (ix_lt (ix_zr z_18 a0 1 (some z_10.2.2)) (fun z_21 => ix_lt (ix_zn z_21 23 (ix_n 301)) (fun z_23 => ix_lt (ix_dn d_16 z_21.2.2) (fun d_25 => ix_ck (ix_ok z_23 [8] a0) (ix_lt (ix_zr z_23 a0 2 (some z_21.2.2)) (fun z_28 => ix_lt (ix_zn z_28 20 (ix_n 20)) (fun z_30 => ix_lt (ix_dn d_25 z_28.2.2) (fun d_32 => ix_ck (ix_ok z_30 [8] a0) (ix_lt (ix_zr z_30 a0 4 (some z_28.2.2)) (fun z_35 => ix_lt (ix_zn z_35 20 (ix_n 800)) (fun z_37 => ix_lt (ix_dn d_32 z_35.2.2) (fun d_39 => ix_ck (ix_ok z_37 [8] a0) (ix_lt (ix_zr z_37 a0 6 (some z_35.2.2)) (fun z_42 => ix_lt (ix_zn z_42 23 (ix_n 6400)) (fun z_44 => ix_lt (ix_dn d_39 z_42.2.2) (fun d_46 => ix_ck (ix_ok z_44 [8] a0) (ix_lt (ix_zr z_44 a0 7 (some z_42.2.2)) (fun z_49 => ix_lt (ix_zn z_49 23 (ix_n 2408)) (fun z_51 => ix_lt (ix_dn d_46 z_49.2.2) (fun d_53 => ix_ck (ix_ok z_51 [8] a0) (ix_lt (ix_zr z_51 a0 8 (some z_49.2.2)) (fun z_56 => ix_lt (ix_zn z_56 23 (ix_n 8)) (fun z_58 => ix_lt (ix_dn d_53 z_56.2.2) (fun d_60 => ix_ck (ix_ok z_58 [8] a0) (ix_lt (ix_zr z_58 a0 9 (some z_56.2.2)) (fun z_63 => ix_lt (ix_zn z_63 20 (ix_n 10)) (fun z_65 => ix_lt (ix_dn d_60 z_63.2.2) (fun d_67 => ix_ck (ix_ok z_65 [8] a0) (ix_lt (ix_zr z_65 a0 10 (some z_63.2.2)) (fun z_70 => ix_lt (ix_zn z_70 20 (ix_n 5)) (fun z_72 => ix_lt (ix_dn d_67 z_70.2.2) (fun d_74 => ix_ck (ix_ok z_72 [8] a0) (ix_lt (ix_zr z_72 a0 11 (some z_70.2.2)) (fun z_77 => ix_lt (ix_zn z_77 20 (ix_n 301)) (fun z_79 => ix_lt (ix_dn d_74 z_77.2.2) (fun d_81 => ix_ck (ix_ok z_79 [8] a0) (ix_lt (ix_zr z_79 a0 12 (some z_77.2.2)) (fun z_84 => ix_lt (ix_zn z_84 20 (ix_n 301)) (fun z_86 => ix_lt (ix_dn d_81 z_84.2.2) (fun d_88 => ix_ck (ix_ok z_86 [8] a0) (ix_lt (ix_zr z_86 a0 13 (some z_84.2.2)) (fun z_91 => ix_lt (ix_zn z_91 20 (ix_n 800)) (fun z_93 => ix_lt (ix_dn d_88 z_91.2.2) (fun d_95 => ix_ck (ix_ok z_93 [8] a0) (ix_lt (ix_zr z_93 a0 15 (some z_91.2.2)) (fun z_98 => ix_ck (ix_ok z_98 [8] a0) (ix_bd1 (z_98.1 a0 10) (fun b_101 => ix_ck (ix_ix z_98 20 b_101 0) (ix_lt (ix_di d_95 b_101 (ix_n 0) ((-1005))) (fun d_104 => ix_bd1 (z_98.1 a0 11) (fun b_106 => ix_bd1 (f_J7_fill_53178 n z_98 b_106 ((-1005)) d_104) (fun d_108 => some (z_98, d_108)))))))))))))))))))))))))))))))))))))))))))))))))))))))))))))
set_option maxRecDepth 20000 in
theorem c_X9_init {l : Launch} {K : ix_Cx} (hKp : ix_Kp K) {n : Nat} {z : ix_Z} {a0 : Nat} {d : ix_D2} {z1 : ix_Z} {d1 : ix_D2} (h : f_X9_init n z a0 d = some (z1, d1)) : ix_M l K yX9_init cX9_init 1 (none : Option Jvm.ClassFile.FieldType) 3 65 29 65251 [.ref (K.2.2.1 + a0)] (ix_w z d) none (ix_w z1 d1) := by
  refine ix_met mf_X9_init hKp (Nat.le_of_ble_eq_true rfl) ?_
  intro p e s m args below meth c hr hlk hnm X
  have X : ix_X p s m args c K cX9_init RX9 1 := X
  have hnm : meth.name = "<init>" := hnm
  show ix_G p l e (ix_rm 3 65 29 65251) s m args below meth c (MQ below (ix_Post K none (ix_w z1 d1)) args s 29 65251 (ix_A K)) K 1 0 0 0 [(0, .ref (K.2.2.1 + a0))] [] (ix_w z d)
  unfold f_X9_init at h
  refine ix_aload_n (i := 0) (j := 0) X (ix_tb_at tb_X9_init 0 rfl) rfl rfl (pc1 := 1) rfl ?_
  refine ix_objI (pl := 191) X (by decide +kernel) (Nat.le_of_ble_eq_true rfl) (Nat.le_of_ble_eq_true rfl) (ix_tb_at tb_X9_init 1 rfl) (pc1 := 4) rfl ?_
  refine ix_aload_n (i := 0) (j := 0) X (ix_tb_at tb_X9_init 2 rfl) rfl rfl (pc1 := 5) rfl ?_
  obtain ⟨z_1, e_2, h⟩ := ix_lt_ex h
  obtain ⟨d_3, e_4, h⟩ := ix_lt_ex h
  refine iz_new (ci := 1) (pl := 192) (pi := 193) (pj := 6) (N := 17) (C := RX1) (T := TX1) X rfl (by decide) (by decide +kernel) (by decide +kernel) (by decide +kernel) (Nat.le_of_ble_eq_true rfl) (Nat.le_of_ble_eq_true rfl) (ix_tb_at tb_X9_init 3 rfl) e_2 e_4 (pc1 := 8) rfl ?_
  refine ix_dup X (ix_tb_at tb_X9_init 4 rfl) rfl (pc1 := 9) rfl ?_
  obtain ⟨z_7, d_5, h_6, h⟩ := ix_bd2_ex h
  refine ix_callIN (As := []) (rest := [.ref (K.2.2.1 + (z.2.2)), .ref (K.2.2.1 + a0)]) X mf_X1_init mi_X1_init rfl ml_RX9_11 ⟨Nat.le_of_ble_eq_true rfl, Nat.le_of_ble_eq_true rfl⟩ ⟨Nat.le_of_ble_eq_true rfl, Nat.le_of_ble_eq_true rfl⟩ rfl (Nat.le_of_ble_eq_true rfl) (ix_tb_at tb_X9_init 5 rfl) (c_X1_init hKp h_6) rfl (pc1 := 12) rfl ?_
  obtain ⟨k_9, h⟩ := ix_ck_some h
  obtain ⟨z_10, e_11, h⟩ := ix_lt_ex h
  refine iz_putR (ty := .object "ClauseCourt$Board") X fp_RX9_12 (fun _ => ⟨rfl, hnm⟩) k_9 (by decide +kernel) (by decide +kernel) (Or.inl ⟨_, rfl⟩) (ix_tb_at tb_X9_init 6 rfl) e_11 (pc1 := 15) rfl ?_
  refine ix_aload_n (i := 0) (j := 0) X (ix_tb_at tb_X9_init 7 rfl) rfl rfl (pc1 := 16) rfl ?_
  obtain ⟨z_12, e_13, h⟩ := ix_lt_ex h
  obtain ⟨d_14, e_15, h⟩ := ix_lt_ex h
  refine iz_new (ci := 7) (pl := 271) (pi := 107) (pj := 4) (N := 3) (C := RX7) (T := TX7) X rfl (by decide) (by decide +kernel) (by decide +kernel) (by decide +kernel) (Nat.le_of_ble_eq_true rfl) (Nat.le_of_ble_eq_true rfl) (ix_tb_at tb_X9_init 8 rfl) e_13 e_15 (pc1 := 19) rfl ?_
  refine ix_dup X (ix_tb_at tb_X9_init 9 rfl) rfl (pc1 := 20) rfl ?_
  refine ix_bipush (v := 64) X (ix_tb_at tb_X9_init 10 rfl) (by decide) (pc1 := 22) rfl ?_
  refine ix_sipush (v := 1280) X (ix_tb_at tb_X9_init 11 rfl) (by decide) (pc1 := 25) rfl ?_
  obtain ⟨z_18, d_16, h_17, h⟩ := ix_bd2_ex h
  refine ix_callI (As := [.int 64, .int 1280]) (rest := [.ref (K.2.2.1 + z_10.2.2), .ref (K.2.2.1 + a0)]) X mf_X7_init mi_X7_init rfl ml_RX9_20 ⟨Nat.le_of_ble_eq_true rfl, Nat.le_of_ble_eq_true rfl⟩ ⟨Nat.le_of_ble_eq_true rfl, Nat.le_of_ble_eq_true rfl⟩ rfl (Nat.le_of_ble_eq_true rfl) (ix_tb_at tb_X9_init 12 rfl) (c_X7_init hKp h_17) rfl (pc1 := 28) rfl ?_
  obtain ⟨k_20, h⟩ := ix_ck_some h
  obtain ⟨z_21, e_22, h⟩ := ix_lt_ex h
  refine iz_putR (ty := .object "ClauseCourt$Rows") X fp_RX9_23 (fun _ => ⟨rfl, hnm⟩) k_20 (by decide +kernel) (by decide +kernel) (Or.inl ⟨_, rfl⟩) (ix_tb_at tb_X9_init 13 rfl) e_22 (pc1 := 31) rfl ?_
  refine ix_aload_n (i := 0) (j := 0) X (ix_tb_at tb_X9_init 14 rfl) rfl rfl (pc1 := 32) rfl ?_
  refine ix_sipush (v := 301) X (ix_tb_at tb_X9_init 15 rfl) (by decide) (pc1 := 35) rfl ?_
  obtain ⟨z_23, e_24, h⟩ := ix_lt_ex h
  obtain ⟨d_25, e_26, h⟩ := ix_lt_ex h
  refine iz_newa_long (pl := 270) X (by decide +kernel) (by decide) (by decide) (Nat.le_of_ble_eq_true rfl) (Nat.le_of_ble_eq_true rfl) (ix_tb_at tb_X9_init 16 rfl) e_24 e_26 (pc1 := 37) rfl ?_
  refine ix_widen (k1 := 19) (n1 := 54198) (Nat.le_of_ble_eq_true rfl) (Nat.le_of_ble_eq_true rfl) ?_
  obtain ⟨k_27, h⟩ := ix_ck_some h
  obtain ⟨z_28, e_29, h⟩ := ix_lt_ex h
  refine iz_putR (ty := .array .long) X fp_RX9_27 (fun _ => ⟨rfl, hnm⟩) k_27 (by decide +kernel) (by decide +kernel) (Or.inr ⟨_, rfl⟩) (ix_tb_at tb_X9_init 17 rfl) e_29 (pc1 := 40) rfl ?_
  refine ix_aload_n (i := 0) (j := 0) X (ix_tb_at tb_X9_init 18 rfl) rfl rfl (pc1 := 41) rfl ?_
  refine ix_bipush (v := 20) X (ix_tb_at tb_X9_init 19 rfl) (by decide) (pc1 := 43) rfl ?_
  obtain ⟨z_30, e_31, h⟩ := ix_lt_ex h
  obtain ⟨d_32, e_33, h⟩ := ix_lt_ex h
  refine iz_newa_int (pl := 98) X (by decide +kernel) (by decide) (by decide) (Nat.le_of_ble_eq_true rfl) (Nat.le_of_ble_eq_true rfl) (ix_tb_at tb_X9_init 20 rfl) e_31 e_33 (pc1 := 45) rfl ?_
  refine ix_widen (k1 := 20) (n1 := 54218) (Nat.le_of_ble_eq_true rfl) (Nat.le_of_ble_eq_true rfl) ?_
  obtain ⟨k_34, h⟩ := ix_ck_some h
  obtain ⟨z_35, e_36, h⟩ := ix_lt_ex h
  refine iz_putR (ty := .array .int) X fp_RX9_31 (fun _ => ⟨rfl, hnm⟩) k_34 (by decide +kernel) (by decide +kernel) (Or.inr ⟨_, rfl⟩) (ix_tb_at tb_X9_init 21 rfl) e_36 (pc1 := 48) rfl ?_
  refine ix_aload_n (i := 0) (j := 0) X (ix_tb_at tb_X9_init 22 rfl) rfl rfl (pc1 := 49) rfl ?_
  refine ix_sipush (v := 800) X (ix_tb_at tb_X9_init 23 rfl) (by decide) (pc1 := 52) rfl ?_
  obtain ⟨z_37, e_38, h⟩ := ix_lt_ex h
  obtain ⟨d_39, e_40, h⟩ := ix_lt_ex h
  refine iz_newa_int (pl := 98) X (by decide +kernel) (by decide) (by decide) (Nat.le_of_ble_eq_true rfl) (Nat.le_of_ble_eq_true rfl) (ix_tb_at tb_X9_init 24 rfl) e_38 e_40 (pc1 := 54) rfl ?_
  refine ix_widen (k1 := 21) (n1 := 55018) (Nat.le_of_ble_eq_true rfl) (Nat.le_of_ble_eq_true rfl) ?_
  obtain ⟨k_41, h⟩ := ix_ck_some h
  obtain ⟨z_42, e_43, h⟩ := ix_lt_ex h
  refine iz_putR (ty := .array .int) X fp_RX9_35 (fun _ => ⟨rfl, hnm⟩) k_41 (by decide +kernel) (by decide +kernel) (Or.inr ⟨_, rfl⟩) (ix_tb_at tb_X9_init 25 rfl) e_43 (pc1 := 57) rfl ?_
  refine ix_aload_n (i := 0) (j := 0) X (ix_tb_at tb_X9_init 26 rfl) rfl rfl (pc1 := 58) rfl ?_
  refine ix_sipush (v := 6400) X (ix_tb_at tb_X9_init 27 rfl) (by decide) (pc1 := 61) rfl ?_
  obtain ⟨z_44, e_45, h⟩ := ix_lt_ex h
  obtain ⟨d_46, e_47, h⟩ := ix_lt_ex h
  refine iz_newa_long (pl := 270) X (by decide +kernel) (by decide) (by decide) (Nat.le_of_ble_eq_true rfl) (Nat.le_of_ble_eq_true rfl) (ix_tb_at tb_X9_init 28 rfl) e_45 e_47 (pc1 := 63) rfl ?_
  refine ix_widen (k1 := 22) (n1 := 61418) (Nat.le_of_ble_eq_true rfl) (Nat.le_of_ble_eq_true rfl) ?_
  obtain ⟨k_48, h⟩ := ix_ck_some h
  obtain ⟨z_49, e_50, h⟩ := ix_lt_ex h
  refine iz_putR (ty := .array .long) X fp_RX9_38 (fun _ => ⟨rfl, hnm⟩) k_48 (by decide +kernel) (by decide +kernel) (Or.inr ⟨_, rfl⟩) (ix_tb_at tb_X9_init 29 rfl) e_50 (pc1 := 66) rfl ?_
  refine ix_aload_n (i := 0) (j := 0) X (ix_tb_at tb_X9_init 30 rfl) rfl rfl (pc1 := 67) rfl ?_
  refine ix_sipush (v := 2408) X (ix_tb_at tb_X9_init 31 rfl) (by decide) (pc1 := 70) rfl ?_
  obtain ⟨z_51, e_52, h⟩ := ix_lt_ex h
  obtain ⟨d_53, e_54, h⟩ := ix_lt_ex h
  refine iz_newa_long (pl := 270) X (by decide +kernel) (by decide) (by decide) (Nat.le_of_ble_eq_true rfl) (Nat.le_of_ble_eq_true rfl) (ix_tb_at tb_X9_init 32 rfl) e_52 e_54 (pc1 := 72) rfl ?_
  refine ix_widen (k1 := 23) (n1 := 63826) (Nat.le_of_ble_eq_true rfl) (Nat.le_of_ble_eq_true rfl) ?_
  obtain ⟨k_55, h⟩ := ix_ck_some h
  obtain ⟨z_56, e_57, h⟩ := ix_lt_ex h
  refine iz_putR (ty := .array .long) X fp_RX9_41 (fun _ => ⟨rfl, hnm⟩) k_55 (by decide +kernel) (by decide +kernel) (Or.inr ⟨_, rfl⟩) (ix_tb_at tb_X9_init 33 rfl) e_57 (pc1 := 75) rfl ?_
  refine ix_aload_n (i := 0) (j := 0) X (ix_tb_at tb_X9_init 34 rfl) rfl rfl (pc1 := 76) rfl ?_
  refine ix_bipush (v := 8) X (ix_tb_at tb_X9_init 35 rfl) (by decide) (pc1 := 78) rfl ?_
  obtain ⟨z_58, e_59, h⟩ := ix_lt_ex h
  obtain ⟨d_60, e_61, h⟩ := ix_lt_ex h
  refine iz_newa_long (pl := 270) X (by decide +kernel) (by decide) (by decide) (Nat.le_of_ble_eq_true rfl) (Nat.le_of_ble_eq_true rfl) (ix_tb_at tb_X9_init 36 rfl) e_59 e_61 (pc1 := 80) rfl ?_
  refine ix_widen (k1 := 24) (n1 := 63834) (Nat.le_of_ble_eq_true rfl) (Nat.le_of_ble_eq_true rfl) ?_
  obtain ⟨k_62, h⟩ := ix_ck_some h
  obtain ⟨z_63, e_64, h⟩ := ix_lt_ex h
  refine iz_putR (ty := .array .long) X fp_RX9_44 (fun _ => ⟨rfl, hnm⟩) k_62 (by decide +kernel) (by decide +kernel) (Or.inr ⟨_, rfl⟩) (ix_tb_at tb_X9_init 37 rfl) e_64 (pc1 := 83) rfl ?_
  refine ix_aload_n (i := 0) (j := 0) X (ix_tb_at tb_X9_init 38 rfl) rfl rfl (pc1 := 84) rfl ?_
  refine ix_bipush (v := 10) X (ix_tb_at tb_X9_init 39 rfl) (by decide) (pc1 := 86) rfl ?_
  obtain ⟨z_65, e_66, h⟩ := ix_lt_ex h
  obtain ⟨d_67, e_68, h⟩ := ix_lt_ex h
  refine iz_newa_int (pl := 98) X (by decide +kernel) (by decide) (by decide) (Nat.le_of_ble_eq_true rfl) (Nat.le_of_ble_eq_true rfl) (ix_tb_at tb_X9_init 40 rfl) e_66 e_68 (pc1 := 88) rfl ?_
  refine ix_widen (k1 := 25) (n1 := 63844) (Nat.le_of_ble_eq_true rfl) (Nat.le_of_ble_eq_true rfl) ?_
  obtain ⟨k_69, h⟩ := ix_ck_some h
  obtain ⟨z_70, e_71, h⟩ := ix_lt_ex h
  refine iz_putR (ty := .array .int) X fp_RX9_47 (fun _ => ⟨rfl, hnm⟩) k_69 (by decide +kernel) (by decide +kernel) (Or.inr ⟨_, rfl⟩) (ix_tb_at tb_X9_init 41 rfl) e_71 (pc1 := 91) rfl ?_
  refine ix_aload_n (i := 0) (j := 0) X (ix_tb_at tb_X9_init 42 rfl) rfl rfl (pc1 := 92) rfl ?_
  refine ix_iconst (v := 5) X (ix_tb_at tb_X9_init 43 rfl) (by decide) (pc1 := 93) rfl ?_
  obtain ⟨z_72, e_73, h⟩ := ix_lt_ex h
  obtain ⟨d_74, e_75, h⟩ := ix_lt_ex h
  refine iz_newa_int (pl := 98) X (by decide +kernel) (by decide) (by decide) (Nat.le_of_ble_eq_true rfl) (Nat.le_of_ble_eq_true rfl) (ix_tb_at tb_X9_init 44 rfl) e_73 e_75 (pc1 := 95) rfl ?_
  refine ix_widen (k1 := 26) (n1 := 63849) (Nat.le_of_ble_eq_true rfl) (Nat.le_of_ble_eq_true rfl) ?_
  obtain ⟨k_76, h⟩ := ix_ck_some h
  obtain ⟨z_77, e_78, h⟩ := ix_lt_ex h
  refine iz_putR (ty := .array .int) X fp_RX9_50 (fun _ => ⟨rfl, hnm⟩) k_76 (by decide +kernel) (by decide +kernel) (Or.inr ⟨_, rfl⟩) (ix_tb_at tb_X9_init 45 rfl) e_78 (pc1 := 98) rfl ?_
  refine ix_aload_n (i := 0) (j := 0) X (ix_tb_at tb_X9_init 46 rfl) rfl rfl (pc1 := 99) rfl ?_
  refine ix_sipush (v := 301) X (ix_tb_at tb_X9_init 47 rfl) (by decide) (pc1 := 102) rfl ?_
  obtain ⟨z_79, e_80, h⟩ := ix_lt_ex h
  obtain ⟨d_81, e_82, h⟩ := ix_lt_ex h
  refine iz_newa_int (pl := 98) X (by decide +kernel) (by decide) (by decide) (Nat.le_of_ble_eq_true rfl) (Nat.le_of_ble_eq_true rfl) (ix_tb_at tb_X9_init 48 rfl) e_80 e_82 (pc1 := 104) rfl ?_
  refine ix_widen (k1 := 27) (n1 := 64150) (Nat.le_of_ble_eq_true rfl) (Nat.le_of_ble_eq_true rfl) ?_
  obtain ⟨k_83, h⟩ := ix_ck_some h
  obtain ⟨z_84, e_85, h⟩ := ix_lt_ex h
  refine iz_putR (ty := .array .int) X fp_RX9_53 (fun _ => ⟨rfl, hnm⟩) k_83 (by decide +kernel) (by decide +kernel) (Or.inr ⟨_, rfl⟩) (ix_tb_at tb_X9_init 49 rfl) e_85 (pc1 := 107) rfl ?_
  refine ix_aload_n (i := 0) (j := 0) X (ix_tb_at tb_X9_init 50 rfl) rfl rfl (pc1 := 108) rfl ?_
  refine ix_sipush (v := 301) X (ix_tb_at tb_X9_init 51 rfl) (by decide) (pc1 := 111) rfl ?_
  obtain ⟨z_86, e_87, h⟩ := ix_lt_ex h
  obtain ⟨d_88, e_89, h⟩ := ix_lt_ex h
  refine iz_newa_int (pl := 98) X (by decide +kernel) (by decide) (by decide) (Nat.le_of_ble_eq_true rfl) (Nat.le_of_ble_eq_true rfl) (ix_tb_at tb_X9_init 52 rfl) e_87 e_89 (pc1 := 113) rfl ?_
  refine ix_widen (k1 := 28) (n1 := 64451) (Nat.le_of_ble_eq_true rfl) (Nat.le_of_ble_eq_true rfl) ?_
  obtain ⟨k_90, h⟩ := ix_ck_some h
  obtain ⟨z_91, e_92, h⟩ := ix_lt_ex h
  refine iz_putR (ty := .array .int) X fp_RX9_56 (fun _ => ⟨rfl, hnm⟩) k_90 (by decide +kernel) (by decide +kernel) (Or.inr ⟨_, rfl⟩) (ix_tb_at tb_X9_init 53 rfl) e_92 (pc1 := 116) rfl ?_
  refine ix_aload_n (i := 0) (j := 0) X (ix_tb_at tb_X9_init 54 rfl) rfl rfl (pc1 := 117) rfl ?_
  refine ix_sipush (v := 800) X (ix_tb_at tb_X9_init 55 rfl) (by decide) (pc1 := 120) rfl ?_
  obtain ⟨z_93, e_94, h⟩ := ix_lt_ex h
  obtain ⟨d_95, e_96, h⟩ := ix_lt_ex h
  refine iz_newa_int (pl := 98) X (by decide +kernel) (by decide) (by decide) (Nat.le_of_ble_eq_true rfl) (Nat.le_of_ble_eq_true rfl) (ix_tb_at tb_X9_init 56 rfl) e_94 e_96 (pc1 := 122) rfl ?_
  refine ix_widen (k1 := 29) (n1 := 65251) (Nat.le_of_ble_eq_true rfl) (Nat.le_of_ble_eq_true rfl) ?_
  obtain ⟨k_97, h⟩ := ix_ck_some h
  obtain ⟨z_98, e_99, h⟩ := ix_lt_ex h
  refine iz_putR (ty := .array .int) X fp_RX9_59 (fun _ => ⟨rfl, hnm⟩) k_97 (by decide +kernel) (by decide +kernel) (Or.inr ⟨_, rfl⟩) (ix_tb_at tb_X9_init 57 rfl) e_99 (pc1 := 125) rfl ?_
  refine ix_aload_n (i := 0) (j := 0) X (ix_tb_at tb_X9_init 58 rfl) rfl rfl (pc1 := 126) rfl ?_
  obtain ⟨k_100, h⟩ := ix_ck_some h
  obtain ⟨b_101, q_102, h⟩ := ix_bd1_ex h
  refine iz_getR X fl_RX9_47 k_100 q_102 (ix_tb_at tb_X9_init 59 rfl) (pc1 := 129) rfl ?_
  refine ix_iconst (v := 0) X (ix_tb_at tb_X9_init 60 rfl) (by decide) (pc1 := 130) rfl ?_
  refine ix_sipush (v := (-1005)) X (ix_tb_at tb_X9_init 61 rfl) (by decide) (pc1 := 133) rfl ?_
  obtain ⟨k_103, h⟩ := ix_ck_some h
  obtain ⟨d_104, e_105, h⟩ := ix_lt_ex h
  refine iz_iast X k_103 (ix_tb_at tb_X9_init 62 rfl) e_105 (pc1 := 134) rfl ?_
  refine ix_aload_n (i := 0) (j := 0) X (ix_tb_at tb_X9_init 63 rfl) rfl rfl (pc1 := 135) rfl ?_
  obtain ⟨b_106, q_107, h⟩ := ix_bd1_ex h
  refine iz_getR X fl_RX9_50 k_100 q_107 (ix_tb_at tb_X9_init 64 rfl) (pc1 := 138) rfl ?_
  refine ix_sipush (v := (-1005)) X (ix_tb_at tb_X9_init 65 rfl) (by decide) (pc1 := 141) rfl ?_
  obtain ⟨d_108, h_109, h⟩ := ix_bd1_ex h
  refine ix_callS (As := [.ref (K.2.2.1 + b_106), .int ((-1005))]) (rest := []) X mf_J7_fill_53178 st_J7_fill_53178 ml_RX9_62 ⟨Nat.le_of_ble_eq_true rfl, Nat.le_of_ble_eq_true rfl⟩ ⟨Nat.le_of_ble_eq_true rfl, Nat.le_of_ble_eq_true rfl⟩ rfl (Nat.le_of_ble_eq_true rfl) (ix_tb_at tb_X9_init 66 rfl) (c_J7_fill_53178 hKp h_109) rfl (pc1 := 144) rfl ?_
  exact ix_vret X hr hlk (ix_r2v (g := ix_w) h) (ix_tb_at tb_X9_init 67 rfl)
def tab_J7_copyOf_9075b : List (Nat × Instr × Nat) := [(0, .iload_n 1, 1), (1, .aload_n 0, 1), (2, .arraylength, 1), (3, .if_icmp .ne 11, 3), (6, .aload_n 0, 1), (7, .invokevirtual 310, 3), (10, .checkcast 311, 3), (13, .areturn, 1), (14, .iload_n 1, 1), (15, .newarray .byte, 2), (17, .astore_n 2, 1), (18, .aload_n 0, 1), (19, .iconst 0, 1), (20, .aload_n 2, 1), (21, .iconst 0, 1), (22, .aload_n 0, 1), (23, .arraylength, 1), (24, .iload_n 1, 1), (25, .invokestatic 304, 3), (28, .invokestatic 150, 3), (31, .aload_n 2, 1), (32, .areturn, 1)]
theorem tb_J7_copyOf_9075b : ix_tab cJ7_copyOf_9075b tab_J7_copyOf_9075b := by
  unfold ix_tab
  decide +kernel
noncomputable def f_J7_copyOf_9075b (n : Nat) (z : ix_Z) (a0 : Nat) (x1 : Int32) (d : ix_D2) : Option (Option Nat × ix_Z × ix_D2) :=
  ix_ck (a0 < z.2.2 ∧ 20 ≤ (z.2.1 a0).1 ∧ (z.2.1 a0).1 < 26) (ix_if (x1 = nI (z.2.1 a0).2) (ix_ck (a0 < z.2.2 ∧ (z.2.1 a0).1 = 21 ∧ (z.2.1 a0).2 ≤ 64) (ix_ck (∀ i, i < (z.2.1 a0).2 → fits .byte (.int (d.1 a0 i)) = true) (ix_lt (ix_zn z 21 (z.2.1 a0).2) (fun z_15 => ix_lt (ix_dc d a0 z.2.2) (fun d_17 => some ((some (z.2.2)), z_15, d_17)))))) (ix_ck (¬ x1 < 0 ∧ ix_n x1 ≤ 64) (ix_lt (ix_zn z 21 (ix_n x1)) (fun z_4 => ix_lt (ix_dn d z.2.2) (fun d_6 => ix_ck (a0 < z_4.2.2 ∧ 20 ≤ (z_4.2.1 a0).1 ∧ (z_4.2.1 a0).1 < 26) (ix_ck (ix_cpk z_4 21 a0 0 (z.2.2) 0 (ix_min (nI (z_4.2.1 a0).2) x1)) (ix_ck (∀ i, i < ix_n (ix_min (nI (z_4.2.1 a0).2) x1) → fits .byte (.int (d_6.1 a0 (ix_n 0 + i))) = true) (ix_lt (ix_cpI d_6 a0 (z.2.2) (ix_n 0) (ix_n 0) (ix_n (ix_min (nI (z_4.2.1 a0).2) x1))) (fun d_11 => some ((some (z.2.2)), z_4, d_11))))))))))
set_option maxRecDepth 20000 in
theorem c_J7_copyOf_9075b {l : Launch} {K : ix_Cx} (hKp : ix_Kp K) {n : Nat} {z : ix_Z} {a0 : Nat} {x1 : Int32} {d : ix_D2} {r : Option Nat} {z1 : ix_Z} {d1 : ix_D2} (h : f_J7_copyOf_9075b n z a0 x1 d = some (r, z1, d1)) : ix_M l K yJ7_copyOf_9075b cJ7_copyOf_9075b 3 (some (.array .byte)) 1 26 1 64 [.ref (K.2.2.1 + a0), .int x1] (ix_w z d) (some (ix_rv K r)) (ix_w z1 d1) := by
  refine ix_met2 mf_J7_copyOf_9075b hKp (Nat.le_of_ble_eq_true rfl) ?_
  intro p e s m args below meth c hr hlk hnm hsz X
  have X : ix_X p s m args c K cJ7_copyOf_9075b RJ7 3 := X
  show ix_G p l e (ix_rm 1 26 1 64) s m args below meth c (MQ below (ix_Post K (some (ix_rv K r)) (ix_w z1 d1)) args s 1 64 (ix_A K)) K 3 0 0 0 [(0, .ref (K.2.2.1 + a0)), (1, .int x1)] [] (ix_w z d)
  unfold f_J7_copyOf_9075b at h
  refine ix_iload_n (i := 1) (j := 1) X (ix_tb_at tb_J7_copyOf_9075b 0 rfl) rfl rfl (pc1 := 1) rfl ?_
  refine ix_aload_n (i := 0) (j := 0) X (ix_tb_at tb_J7_copyOf_9075b 1 rfl) rfl rfl (pc1 := 2) rfl ?_
  obtain ⟨k_1, h⟩ := ix_ck_some h
  refine iz_alen X k_1 (ix_tb_at tb_J7_copyOf_9075b 2 rfl) (pc1 := 3) rfl ?_
  refine ix_icmp_ne (tgt := 14) X (ix_tb_at tb_J7_copyOf_9075b 3 rfl) (by decide) (pc1 := 6) rfl (fun q_2 => ?_) (fun q_2 => ?_)
  · have h := ix_iff q_2 h
    refine ix_iload_n (i := 1) (j := 1) X (ix_tb_at tb_J7_copyOf_9075b 8 rfl) rfl rfl (pc1 := 15) rfl ?_
    obtain ⟨k_3, h⟩ := ix_ck_some h
    obtain ⟨z_4, e_5, h⟩ := ix_lt_ex h
    obtain ⟨d_6, e_7, h⟩ := ix_lt_ex h
    refine iz_newa_byte (pl := 99) X (by decide +kernel) k_3.1 (Nat.le_trans k_3.2 (by decide)) (Nat.le_of_ble_eq_true rfl) (Nat.le_trans (Nat.add_le_add_left k_3.2 _) (Nat.le_of_ble_eq_true rfl)) (ix_tb_at tb_J7_copyOf_9075b 9 rfl) e_5 e_7 (pc1 := 17) rfl ?_
    refine ix_widen (k1 := 1) (n1 := 64) (Nat.le_of_ble_eq_true rfl) (Nat.le_trans (Nat.add_le_add_left k_3.2 _) (Nat.le_of_ble_eq_true rfl)) ?_
    refine ix_astore_n (i := 2) (L1 := [(2, .ref (K.2.2.1 + (z.2.2))), (0, .ref (K.2.2.1 + a0)), (1, .int x1)]) X (ix_tb_at tb_J7_copyOf_9075b 10 rfl) rfl (Nat.le_of_ble_eq_true rfl) rfl (pc1 := 18) rfl ?_
    refine ix_aload_n (i := 0) (j := 1) X (ix_tb_at tb_J7_copyOf_9075b 11 rfl) rfl rfl (pc1 := 19) rfl ?_
    refine ix_iconst (v := 0) X (ix_tb_at tb_J7_copyOf_9075b 12 rfl) (by decide) (pc1 := 20) rfl ?_
    refine ix_aload_n (i := 2) (j := 0) X (ix_tb_at tb_J7_copyOf_9075b 13 rfl) rfl rfl (pc1 := 21) rfl ?_
    refine ix_iconst (v := 0) X (ix_tb_at tb_J7_copyOf_9075b 14 rfl) (by decide) (pc1 := 22) rfl ?_
    refine ix_aload_n (i := 0) (j := 1) X (ix_tb_at tb_J7_copyOf_9075b 15 rfl) rfl rfl (pc1 := 23) rfl ?_
    obtain ⟨k_8, h⟩ := ix_ck_some h
    refine iz_alen X k_8 (ix_tb_at tb_J7_copyOf_9075b 16 rfl) (pc1 := 24) rfl ?_
    refine ix_iload_n (i := 1) (j := 2) X (ix_tb_at tb_J7_copyOf_9075b 17 rfl) rfl rfl (pc1 := 25) rfl ?_
    refine ix_mmin X ml_RJ7_304 (Nat.le_of_ble_eq_true rfl) (Nat.le_of_ble_eq_true rfl) ⟨Nat.le_of_ble_eq_true rfl, Nat.le_of_ble_eq_true rfl⟩ (ix_tb_at tb_J7_copyOf_9075b 18 rfl) (pc1 := 28) rfl ?_
    obtain ⟨k_9, h⟩ := ix_ck_some h
    obtain ⟨k_10, h⟩ := ix_ck_some h
    obtain ⟨d_11, e_12, h⟩ := ix_lt_ex h
    refine iz_copyI X (by rw [e_5]; show s.heap.size + 1 = K.2.2.1 + (z.2.2 + 1); have hq : s.heap.size = K.2.2.1 + z.2.2 := hsz; omega) (Or.inr ⟨rfl, k_10⟩) ml_RJ7_150 k_9 (Nat.le_of_ble_eq_true rfl) (Nat.le_of_ble_eq_true rfl) (ix_tb_at tb_J7_copyOf_9075b 19 rfl) e_12 (pc1 := 31) rfl ?_
    refine ix_aload_n (i := 2) (j := 0) X (ix_tb_at tb_J7_copyOf_9075b 20 rfl) rfl rfl (pc1 := 32) rfl ?_
    exact ix_aret (v := (some (z.2.2))) X hr (Or.inr ⟨_, rfl⟩) hlk (ix_r3 (f := fun r => some (ix_rv K r)) (g := ix_w) h) (ix_tb_at tb_J7_copyOf_9075b 21 rfl)
  · have h := ix_ift q_2 h
    refine ix_aload_n (i := 0) (j := 0) X (ix_tb_at tb_J7_copyOf_9075b 4 rfl) rfl rfl (pc1 := 7) rfl ?_
    obtain ⟨k_13, h⟩ := ix_ck_some h
    obtain ⟨k_14, h⟩ := ix_ck_some h
    obtain ⟨z_15, e_16, h⟩ := ix_lt_ex h
    obtain ⟨d_17, e_18, h⟩ := ix_lt_ex h
    refine iz_clone_byte X hsz k_13 k_14 (Nat.le_of_ble_eq_true rfl) (Nat.le_of_ble_eq_true rfl) (Nat.le_of_ble_eq_true rfl) (Nat.le_trans (Nat.add_le_add_left k_13.2.2 _) (Nat.le_of_ble_eq_true rfl)) (ix_tb_at tb_J7_copyOf_9075b 5 rfl) e_16 e_18 (pc1 := 10) rfl ?_
    refine ix_widen (k1 := 1) (n1 := 64) (Nat.le_of_ble_eq_true rfl) (Nat.le_trans (Nat.add_le_add_left k_13.2.2 _) (Nat.le_of_ble_eq_true rfl)) ?_
    refine iz_castA_byte (pl := 823) X (by decide +kernel) (by rw [e_16]; simp [ix_zn, ix_w]) (ix_tb_at tb_J7_copyOf_9075b 6 rfl) (pc1 := 13) rfl ?_
    exact ix_aret (v := (some (z.2.2))) X hr (Or.inr ⟨_, rfl⟩) hlk (ix_r3 (f := fun r => some (ix_rv K r)) (g := ix_w) h) (ix_tb_at tb_J7_copyOf_9075b 7 rfl)
def tab_J7_copyOf_59c91 : List (Nat × Instr × Nat) := [(0, .iload_n 1, 1), (1, .aload_n 0, 1), (2, .arraylength, 1), (3, .if_icmp .ne 11, 3), (6, .aload_n 0, 1), (7, .invokevirtual 316, 3), (10, .checkcast 317, 3), (13, .areturn, 1), (14, .iload_n 1, 1), (15, .newarray .int, 2), (17, .astore_n 2, 1), (18, .aload_n 0, 1), (19, .iconst 0, 1), (20, .aload_n 2, 1), (21, .iconst 0, 1), (22, .aload_n 0, 1), (23, .arraylength, 1), (24, .iload_n 1, 1), (25, .invokestatic 304, 3), (28, .invokestatic 150, 3), (31, .aload_n 2, 1), (32, .areturn, 1)]
theorem tb_J7_copyOf_59c91 : ix_tab cJ7_copyOf_59c91 tab_J7_copyOf_59c91 := by
  unfold ix_tab
  decide +kernel
noncomputable def f_J7_copyOf_59c91 (n : Nat) (z : ix_Z) (a0 : Nat) (x1 : Int32) (d : ix_D2) : Option (Option Nat × ix_Z × ix_D2) :=
  ix_ck (a0 < z.2.2 ∧ 20 ≤ (z.2.1 a0).1 ∧ (z.2.1 a0).1 < 26) (ix_if (x1 = nI (z.2.1 a0).2) (ix_ck (a0 < z.2.2 ∧ (z.2.1 a0).1 = 20 ∧ (z.2.1 a0).2 ≤ 64) (ix_lt (ix_zn z 20 (z.2.1 a0).2) (fun z_13 => ix_lt (ix_dc d a0 z.2.2) (fun d_15 => some ((some (z.2.2)), z_13, d_15))))) (ix_ck (¬ x1 < 0 ∧ ix_n x1 ≤ 64) (ix_lt (ix_zn z 20 (ix_n x1)) (fun z_4 => ix_lt (ix_dn d z.2.2) (fun d_6 => ix_ck (a0 < z_4.2.2 ∧ 20 ≤ (z_4.2.1 a0).1 ∧ (z_4.2.1 a0).1 < 26) (ix_ck (ix_cpk z_4 20 a0 0 (z.2.2) 0 (ix_min (nI (z_4.2.1 a0).2) x1)) (ix_lt (ix_cpI d_6 a0 (z.2.2) (ix_n 0) (ix_n 0) (ix_n (ix_min (nI (z_4.2.1 a0).2) x1))) (fun d_10 => some ((some (z.2.2)), z_4, d_10)))))))))
set_option maxRecDepth 20000 in
theorem c_J7_copyOf_59c91 {l : Launch} {K : ix_Cx} (hKp : ix_Kp K) {n : Nat} {z : ix_Z} {a0 : Nat} {x1 : Int32} {d : ix_D2} {r : Option Nat} {z1 : ix_Z} {d1 : ix_D2} (h : f_J7_copyOf_59c91 n z a0 x1 d = some (r, z1, d1)) : ix_M l K yJ7_copyOf_59c91 cJ7_copyOf_59c91 3 (some (.array .int)) 1 26 1 64 [.ref (K.2.2.1 + a0), .int x1] (ix_w z d) (some (ix_rv K r)) (ix_w z1 d1) := by
  refine ix_met2 mf_J7_copyOf_59c91 hKp (Nat.le_of_ble_eq_true rfl) ?_
  intro p e s m args below meth c hr hlk hnm hsz X
  have X : ix_X p s m args c K cJ7_copyOf_59c91 RJ7 3 := X
  show ix_G p l e (ix_rm 1 26 1 64) s m args below meth c (MQ below (ix_Post K (some (ix_rv K r)) (ix_w z1 d1)) args s 1 64 (ix_A K)) K 3 0 0 0 [(0, .ref (K.2.2.1 + a0)), (1, .int x1)] [] (ix_w z d)
  unfold f_J7_copyOf_59c91 at h
  refine ix_iload_n (i := 1) (j := 1) X (ix_tb_at tb_J7_copyOf_59c91 0 rfl) rfl rfl (pc1 := 1) rfl ?_
  refine ix_aload_n (i := 0) (j := 0) X (ix_tb_at tb_J7_copyOf_59c91 1 rfl) rfl rfl (pc1 := 2) rfl ?_
  obtain ⟨k_1, h⟩ := ix_ck_some h
  refine iz_alen X k_1 (ix_tb_at tb_J7_copyOf_59c91 2 rfl) (pc1 := 3) rfl ?_
  refine ix_icmp_ne (tgt := 14) X (ix_tb_at tb_J7_copyOf_59c91 3 rfl) (by decide) (pc1 := 6) rfl (fun q_2 => ?_) (fun q_2 => ?_)
  · have h := ix_iff q_2 h
    refine ix_iload_n (i := 1) (j := 1) X (ix_tb_at tb_J7_copyOf_59c91 8 rfl) rfl rfl (pc1 := 15) rfl ?_
    obtain ⟨k_3, h⟩ := ix_ck_some h
    obtain ⟨z_4, e_5, h⟩ := ix_lt_ex h
    obtain ⟨d_6, e_7, h⟩ := ix_lt_ex h
    refine iz_newa_int (pl := 98) X (by decide +kernel) k_3.1 (Nat.le_trans k_3.2 (by decide)) (Nat.le_of_ble_eq_true rfl) (Nat.le_trans (Nat.add_le_add_left k_3.2 _) (Nat.le_of_ble_eq_true rfl)) (ix_tb_at tb_J7_copyOf_59c91 9 rfl) e_5 e_7 (pc1 := 17) rfl ?_
    refine ix_widen (k1 := 1) (n1 := 64) (Nat.le_of_ble_eq_true rfl) (Nat.le_trans (Nat.add_le_add_left k_3.2 _) (Nat.le_of_ble_eq_true rfl)) ?_
    refine ix_astore_n (i := 2) (L1 := [(2, .ref (K.2.2.1 + (z.2.2))), (0, .ref (K.2.2.1 + a0)), (1, .int x1)]) X (ix_tb_at tb_J7_copyOf_59c91 10 rfl) rfl (Nat.le_of_ble_eq_true rfl) rfl (pc1 := 18) rfl ?_
    refine ix_aload_n (i := 0) (j := 1) X (ix_tb_at tb_J7_copyOf_59c91 11 rfl) rfl rfl (pc1 := 19) rfl ?_
    refine ix_iconst (v := 0) X (ix_tb_at tb_J7_copyOf_59c91 12 rfl) (by decide) (pc1 := 20) rfl ?_
    refine ix_aload_n (i := 2) (j := 0) X (ix_tb_at tb_J7_copyOf_59c91 13 rfl) rfl rfl (pc1 := 21) rfl ?_
    refine ix_iconst (v := 0) X (ix_tb_at tb_J7_copyOf_59c91 14 rfl) (by decide) (pc1 := 22) rfl ?_
    refine ix_aload_n (i := 0) (j := 1) X (ix_tb_at tb_J7_copyOf_59c91 15 rfl) rfl rfl (pc1 := 23) rfl ?_
    obtain ⟨k_8, h⟩ := ix_ck_some h
    refine iz_alen X k_8 (ix_tb_at tb_J7_copyOf_59c91 16 rfl) (pc1 := 24) rfl ?_
    refine ix_iload_n (i := 1) (j := 2) X (ix_tb_at tb_J7_copyOf_59c91 17 rfl) rfl rfl (pc1 := 25) rfl ?_
    refine ix_mmin X ml_RJ7_304 (Nat.le_of_ble_eq_true rfl) (Nat.le_of_ble_eq_true rfl) ⟨Nat.le_of_ble_eq_true rfl, Nat.le_of_ble_eq_true rfl⟩ (ix_tb_at tb_J7_copyOf_59c91 18 rfl) (pc1 := 28) rfl ?_
    obtain ⟨k_9, h⟩ := ix_ck_some h
    obtain ⟨d_10, e_11, h⟩ := ix_lt_ex h
    refine iz_copyI X (by rw [e_5]; show s.heap.size + 1 = K.2.2.1 + (z.2.2 + 1); have hq : s.heap.size = K.2.2.1 + z.2.2 := hsz; omega) (Or.inl rfl) ml_RJ7_150 k_9 (Nat.le_of_ble_eq_true rfl) (Nat.le_of_ble_eq_true rfl) (ix_tb_at tb_J7_copyOf_59c91 19 rfl) e_11 (pc1 := 31) rfl ?_
    refine ix_aload_n (i := 2) (j := 0) X (ix_tb_at tb_J7_copyOf_59c91 20 rfl) rfl rfl (pc1 := 32) rfl ?_
    exact ix_aret (v := (some (z.2.2))) X hr (Or.inr ⟨_, rfl⟩) hlk (ix_r3 (f := fun r => some (ix_rv K r)) (g := ix_w) h) (ix_tb_at tb_J7_copyOf_59c91 21 rfl)
  · have h := ix_ift q_2 h
    refine ix_aload_n (i := 0) (j := 0) X (ix_tb_at tb_J7_copyOf_59c91 4 rfl) rfl rfl (pc1 := 7) rfl ?_
    obtain ⟨k_12, h⟩ := ix_ck_some h
    obtain ⟨z_13, e_14, h⟩ := ix_lt_ex h
    obtain ⟨d_15, e_16, h⟩ := ix_lt_ex h
    refine iz_clone_int X hsz k_12 (Nat.le_of_ble_eq_true rfl) (Nat.le_of_ble_eq_true rfl) (Nat.le_of_ble_eq_true rfl) (Nat.le_trans (Nat.add_le_add_left k_12.2.2 _) (Nat.le_of_ble_eq_true rfl)) (ix_tb_at tb_J7_copyOf_59c91 5 rfl) e_14 e_16 (pc1 := 10) rfl ?_
    refine ix_widen (k1 := 1) (n1 := 64) (Nat.le_of_ble_eq_true rfl) (Nat.le_trans (Nat.add_le_add_left k_12.2.2 _) (Nat.le_of_ble_eq_true rfl)) ?_
    refine iz_castA_int (pl := 497) X (by decide +kernel) (by rw [e_14]; simp [ix_zn, ix_w]) (ix_tb_at tb_J7_copyOf_59c91 6 rfl) (pc1 := 13) rfl ?_
    exact ix_aret (v := (some (z.2.2))) X hr (Or.inr ⟨_, rfl⟩) hlk (ix_r3 (f := fun r => some (ix_rv K r)) (g := ix_w) h) (ix_tb_at tb_J7_copyOf_59c91 7 rfl)
def tab_X10_init : List (Nat × Instr × Nat) := [(0, .aload_n 0, 1), (1, .aload_n 1, 1), (2, .invokevirtual 1, 3), (5, .invokespecial 7, 3), (8, .aload_n 0, 1), (9, .aload_n 1, 1), (10, .getfield 13, 3), (13, .iload_n 2, 1), (14, .invokestatic 17, 3), (17, .putfield 23, 3), (20, .aload_n 0, 1), (21, .aload_n 1, 1), (22, .getfield 28, 3), (25, .aload_n 1, 1), (26, .getfield 32, 3), (29, .invokestatic 36, 3), (32, .putfield 39, 3), (35, .aload_n 0, 1), (36, .aload_n 1, 1), (37, .getfield 32, 3), (40, .iconst 1, 1), (41, .iadd, 1), (42, .newarray .int, 2), (44, .putfield 40, 3), (47, .return_, 1)]
theorem tb_X10_init : ix_tab cX10_init tab_X10_init := by
  unfold ix_tab
  decide +kernel
noncomputable def f_X10_init (n : Nat) (z : ix_Z) (a0 : Nat) (a1 : Nat) (x2 : Int32) (d : ix_D2) : Option (ix_Z × ix_D2) :=
  ix_ck (ix_ok z [4] a1) (ix_bd3 (f_X4_namesRead n z a1 d) (fun r_5 z_4 d_1 => ix_bd1 r_5 (fun b_6 => ix_bd2 (f_X3_init n z_4 a0 b_6 d_1) (fun z_10 d_8 => ix_ck (ix_ok z_10 [4] a1) (ix_bd1 (z_10.1 a1 0) (fun b_13 => ix_bd3 (f_J7_copyOf_9075b n z_10 b_13 x2 d_8) (fun r_18 z_17 d_15 => ix_bd1 r_18 (fun b_19 => ix_ck (ix_ok z_17 [9] a0) (ix_lt (ix_zr z_17 a0 3 (some b_19)) (fun z_22 => ix_ck (ix_ok z_22 [4] a1) (ix_bd1 (z_22.1 a1 6) (fun b_25 => ix_bd3 (f_J7_copyOf_59c91 n z_22 b_25 (d_15.1 a1 7) d_15) (fun r_30 z_29 d_27 => ix_bd1 r_30 (fun b_31 => ix_ck (ix_ok z_29 [9] a0) (ix_lt (ix_zr z_29 a0 4 (some b_31)) (fun z_34 => ix_ck (ix_ok z_34 [4] a1) (ix_ck (¬ ((d_27.1 a1 7) + 1) < 0 ∧ ix_n ((d_27.1 a1 7) + 1) ≤ 64) (ix_lt (ix_zn z_34 20 (ix_n ((d_27.1 a1 7) + 1))) (fun z_38 => ix_lt (ix_dn d_27 z_34.2.2) (fun d_40 => ix_ck (ix_ok z_38 [9] a0) (ix_lt (ix_zr z_38 a0 5 (some z_34.2.2)) (fun z_43 => some (z_43, d_40)))))))))))))))))))))))
set_option maxRecDepth 20000 in
theorem c_X10_init {l : Launch} {K : ix_Cx} (hKp : ix_Kp K) {n : Nat} {z : ix_Z} {a0 : Nat} {a1 : Nat} {x2 : Int32} {d : ix_D2} {z1 : ix_Z} {d1 : ix_D2} (h : f_X10_init n z a0 a1 x2 d = some (z1, d1)) : ix_M l K yX10_init cX10_init 3 (none : Option Jvm.ClassFile.FieldType) 3 65 4 256 [.ref (K.2.2.1 + a0), .ref (K.2.2.1 + a1), .int x2] (ix_w z d) none (ix_w z1 d1) := by
  refine ix_met mf_X10_init hKp (Nat.le_of_ble_eq_true rfl) ?_
  intro p e s m args below meth c hr hlk hnm X
  have X : ix_X p s m args c K cX10_init RX10 3 := X
  have hnm : meth.name = "<init>" := hnm
  show ix_G p l e (ix_rm 3 65 4 256) s m args below meth c (MQ below (ix_Post K none (ix_w z1 d1)) args s 4 256 (ix_A K)) K 3 0 0 0 [(0, .ref (K.2.2.1 + a0)), (1, .ref (K.2.2.1 + a1)), (2, .int x2)] [] (ix_w z d)
  unfold f_X10_init at h
  refine ix_aload_n (i := 0) (j := 0) X (ix_tb_at tb_X10_init 0 rfl) rfl rfl (pc1 := 1) rfl ?_
  refine ix_aload_n (i := 1) (j := 1) X (ix_tb_at tb_X10_init 1 rfl) rfl rfl (pc1 := 2) rfl ?_
  obtain ⟨k_3, h⟩ := ix_ck_some h
  obtain ⟨r_5, z_4, d_1, h_2, h⟩ := ix_bd3_ex h
  refine ix_callV (As := []) (rest := [.ref (K.2.2.1 + a0)]) (ci := 4) (T := TX4) (nf := 17) X mf_X4_namesRead mi_X4_namesRead ms_X4_namesRead rfl (Nat.le_of_ble_eq_true rfl) ml_RX10_1 ⟨Nat.le_of_ble_eq_true rfl, Nat.le_of_ble_eq_true rfl⟩ ⟨Nat.le_of_ble_eq_true rfl, Nat.le_of_ble_eq_true rfl⟩ rfl (Nat.le_of_ble_eq_true rfl) (ix_tb_at tb_X10_init 2 rfl) ⟨k_3.1, List.mem_singleton.mp k_3.2⟩ (c_X4_namesRead hKp h_2) rfl (pc1 := 5) rfl ?_
  obtain ⟨b_6, q_7, h⟩ := ix_bd1_ex h
  refine ix_rvs q_7 ?_
  obtain ⟨z_10, d_8, h_9, h⟩ := ix_bd2_ex h
  refine ix_callI (As := [.ref (K.2.2.1 + b_6)]) (rest := []) X mf_X3_init mi_X3_init rfl ml_RX10_7 ⟨Nat.le_of_ble_eq_true rfl, Nat.le_of_ble_eq_true rfl⟩ ⟨Nat.le_of_ble_eq_true rfl, Nat.le_of_ble_eq_true rfl⟩ rfl (Nat.le_of_ble_eq_true rfl) (ix_tb_at tb_X10_init 3 rfl) (c_X3_init hKp h_9) rfl (pc1 := 8) rfl ?_
  refine ix_aload_n (i := 0) (j := 0) X (ix_tb_at tb_X10_init 4 rfl) rfl rfl (pc1 := 9) rfl ?_
  refine ix_aload_n (i := 1) (j := 1) X (ix_tb_at tb_X10_init 5 rfl) rfl rfl (pc1 := 10) rfl ?_
  obtain ⟨k_12, h⟩ := ix_ck_some h
  obtain ⟨b_13, q_14, h⟩ := ix_bd1_ex h
  refine iz_getR X fl_RX10_13 k_12 q_14 (ix_tb_at tb_X10_init 6 rfl) (pc1 := 13) rfl ?_
  refine ix_iload_n (i := 2) (j := 2) X (ix_tb_at tb_X10_init 7 rfl) rfl rfl (pc1 := 14) rfl ?_
  obtain ⟨r_18, z_17, d_15, h_16, h⟩ := ix_bd3_ex h
  refine ix_callS (As := [.ref (K.2.2.1 + b_13), .int x2]) (rest := [.ref (K.2.2.1 + a0)]) X mf_J7_copyOf_9075b st_J7_copyOf_9075b ml_RX10_17 ⟨Nat.le_of_ble_eq_true rfl, Nat.le_of_ble_eq_true rfl⟩ ⟨Nat.le_of_ble_eq_true rfl, Nat.le_of_ble_eq_true rfl⟩ rfl (Nat.le_of_ble_eq_true rfl) (ix_tb_at tb_X10_init 8 rfl) (c_J7_copyOf_9075b hKp h_16) rfl (pc1 := 17) rfl ?_
  obtain ⟨b_19, q_20, h⟩ := ix_bd1_ex h
  refine ix_rvs q_20 ?_
  obtain ⟨k_21, h⟩ := ix_ck_some h
  obtain ⟨z_22, e_23, h⟩ := ix_lt_ex h
  refine iz_putR (ty := .array .byte) X fp_RX10_23 (fun _ => ⟨rfl, hnm⟩) k_21 (by decide +kernel) (by decide +kernel) (Or.inr ⟨_, rfl⟩) (ix_tb_at tb_X10_init 9 rfl) e_23 (pc1 := 20) rfl ?_
  refine ix_aload_n (i := 0) (j := 0) X (ix_tb_at tb_X10_init 10 rfl) rfl rfl (pc1 := 21) rfl ?_
  refine ix_aload_n (i := 1) (j := 1) X (ix_tb_at tb_X10_init 11 rfl) rfl rfl (pc1 := 22) rfl ?_
  obtain ⟨k_24, h⟩ := ix_ck_some h
  obtain ⟨b_25, q_26, h⟩ := ix_bd1_ex h
  refine iz_getR X fl_RX10_28 k_24 q_26 (ix_tb_at tb_X10_init 12 rfl) (pc1 := 25) rfl ?_
  refine ix_aload_n (i := 1) (j := 1) X (ix_tb_at tb_X10_init 13 rfl) rfl rfl (pc1 := 26) rfl ?_
  refine iz_getI X fl_RX10_32 k_24 (ix_tb_at tb_X10_init 14 rfl) (pc1 := 29) rfl ?_
  obtain ⟨r_30, z_29, d_27, h_28, h⟩ := ix_bd3_ex h
  refine ix_callS (As := [.ref (K.2.2.1 + b_25), .int (d_15.1 a1 7)]) (rest := [.ref (K.2.2.1 + a0)]) X mf_J7_copyOf_59c91 st_J7_copyOf_59c91 ml_RX10_36 ⟨Nat.le_of_ble_eq_true rfl, Nat.le_of_ble_eq_true rfl⟩ ⟨Nat.le_of_ble_eq_true rfl, Nat.le_of_ble_eq_true rfl⟩ rfl (Nat.le_of_ble_eq_true rfl) (ix_tb_at tb_X10_init 15 rfl) (c_J7_copyOf_59c91 hKp h_28) rfl (pc1 := 32) rfl ?_
  obtain ⟨b_31, q_32, h⟩ := ix_bd1_ex h
  refine ix_rvs q_32 ?_
  obtain ⟨k_33, h⟩ := ix_ck_some h
  obtain ⟨z_34, e_35, h⟩ := ix_lt_ex h
  refine iz_putR (ty := .array .int) X fp_RX10_39 (fun _ => ⟨rfl, hnm⟩) k_33 (by decide +kernel) (by decide +kernel) (Or.inr ⟨_, rfl⟩) (ix_tb_at tb_X10_init 16 rfl) e_35 (pc1 := 35) rfl ?_
  refine ix_aload_n (i := 0) (j := 0) X (ix_tb_at tb_X10_init 17 rfl) rfl rfl (pc1 := 36) rfl ?_
  refine ix_aload_n (i := 1) (j := 1) X (ix_tb_at tb_X10_init 18 rfl) rfl rfl (pc1 := 37) rfl ?_
  obtain ⟨k_36, h⟩ := ix_ck_some h
  refine iz_getI X fl_RX10_32 k_36 (ix_tb_at tb_X10_init 19 rfl) (pc1 := 40) rfl ?_
  refine ix_iconst (v := 1) X (ix_tb_at tb_X10_init 20 rfl) (by decide) (pc1 := 41) rfl ?_
  refine ix_iadd X (ix_tb_at tb_X10_init 21 rfl) (pc1 := 42) rfl ?_
  obtain ⟨k_37, h⟩ := ix_ck_some h
  obtain ⟨z_38, e_39, h⟩ := ix_lt_ex h
  obtain ⟨d_40, e_41, h⟩ := ix_lt_ex h
  refine iz_newa_int (pl := 98) X (by decide +kernel) k_37.1 (Nat.le_trans k_37.2 (by decide)) (Nat.le_of_ble_eq_true rfl) (Nat.le_trans (Nat.add_le_add_left k_37.2 _) (Nat.le_of_ble_eq_true rfl)) (ix_tb_at tb_X10_init 22 rfl) e_39 e_41 (pc1 := 44) rfl ?_
  refine ix_widen (k1 := 4) (n1 := 256) (Nat.le_of_ble_eq_true rfl) (Nat.le_trans (Nat.add_le_add_left k_37.2 _) (Nat.le_of_ble_eq_true rfl)) ?_
  obtain ⟨k_42, h⟩ := ix_ck_some h
  obtain ⟨z_43, e_44, h⟩ := ix_lt_ex h
  refine iz_putR (ty := .array .int) X fp_RX10_40 (fun _ => ⟨rfl, hnm⟩) k_42 (by decide +kernel) (by decide +kernel) (Or.inr ⟨_, rfl⟩) (ix_tb_at tb_X10_init 23 rfl) e_44 (pc1 := 47) rfl ?_
  exact ix_vret X hr hlk (ix_r2v (g := ix_w) h) (ix_tb_at tb_X10_init 24 rfl)
def tab_X11_init : List (Nat × Instr × Nat) := [(0, .aload_n 0, 1), (1, .invokespecial 1, 3), (4, .aload_n 0, 1), (5, .bipush 40, 2), (7, .bipush 12, 2), (9, .multianewarray 9 2, 4), (13, .putfield 11, 3), (16, .aload_n 0, 1), (17, .bipush 40, 2), (19, .newarray .int, 2), (21, .putfield 14, 3), (24, .aload_n 0, 1), (25, .new 18, 3), (28, .dup, 1), (29, .invokespecial 20, 3), (32, .putfield 21, 3), (35, .aload_n 0, 1), (36, .new 25, 3), (39, .dup, 1), (40, .invokespecial 27, 3), (43, .putfield 28, 3), (46, .aload_n 0, 1), (47, .bipush 60, 2), (49, .anewarray 32, 3), (52, .putfield 34, 3), (55, .aload_n 0, 1), (56, .new 38, 3), (59, .dup, 1), (60, .invokespecial 40, 3), (63, .putfield 41, 3), (66, .aload_n 0, 1), (67, .new 38, 3), (70, .dup, 1), (71, .invokespecial 40, 3), (74, .putfield 45, 3), (77, .aload_n 0, 1), (78, .new 48, 3), (81, .dup, 1), (82, .sipush 800, 3), (85, .sipush 8000, 3), (88, .invokespecial 50, 3), (91, .putfield 53, 3), (94, .aload_n 0, 1), (95, .sipush 500, 3), (98, .newarray .int, 2), (100, .putfield 57, 3), (103, .aload_n 0, 1), (104, .bipush 20, 2), (106, .newarray .int, 2), (108, .putfield 60, 3), (111, .aload_n 0, 1), (112, .sipush (-1005), 3), (115, .putfield 63, 3), (118, .aload_n 0, 1), (119, .getfield 14, 3), (122, .iconst (-1), 1), (123, .invokestatic 67, 3), (126, .return_, 1)]
theorem tb_X11_init : ix_tab cX11_init tab_X11_init := by
  unfold ix_tab
  decide +kernel
noncomputable def f_X11_init (n : Nat) (z : ix_Z) (a0 : Nat) (d : ix_D2) : Option (ix_Z × ix_D2) :=
  ix_lt (ix_zm z) (fun z_1 => ix_lt (ix_dm d z.2.2) (fun d_3 => ix_ck (ix_ok z_1 [10] a0) (ix_lt (ix_zr z_1 a0 0 (some (z.2.2))) (fun z_6 => ix_lt (ix_zn z_6 20 (ix_n 40)) (fun z_8 => ix_lt (ix_dn d_3 z_6.2.2) (fun d_10 => ix_ck (ix_ok z_8 [10] a0) (ix_lt (ix_zr z_8 a0 1 (some z_6.2.2)) (fun z_13 => ix_lt (ix_zn z_13 4 17) (fun z_15 => ix_lt (ix_dn d_10 z_13.2.2) (fun d_17 => ix_bd2 (f_X4_init n z_15 z_13.2.2 d_17) (fun z_21 d_19 => ix_ck (ix_ok z_21 [10] a0) (ix_lt (ix_zr z_21 a0 2 (some z_13.2.2)) (fun z_24 => ix_lt (ix_zn z_24 2 12) (fun z_26 => ix_lt (ix_dn d_19 z_24.2.2) (fun d_28 => ix_bd2 (f_X2_init n z_26 z_24.2.2 d_28) (fun z_32 d_30 => ix_ck (ix_ok z_32 [10] a0) (ix_lt (ix_zr z_32 a0 3 (some z_24.2.2)) (fun z_35 => ix_lt (ix_zn z_35 24 (ix_n 60)) (fun z_37 => ix_lt (ix_dn d_30 z_35.2.2) (fun d_39 => ix_ck (ix_ok z_37 [10] a0) (ix_lt (ix_zr z_37 a0 4 (some z_35.2.2)) (fun z_42 => ix_lt (ix_zn z_42 8 20) (fun z_44 => ix_lt (ix_dn d_39 z_42.2.2) (fun d_46 => ix_bd2 (f_X9_init n z_44 z_42.2.2 d_46) (fun z_50 d_48 => ix_ck (ix_ok z_50 [10] a0) (ix_lt (ix_zr z_50 a0 6 (some z_42.2.2)) (fun z_53 => ix_lt (ix_zn z_53 8 20) (fun z_55 => ix_lt (ix_dn d_48 z_53.2.2) (fun d_57 => ix_bd2 (f_X9_init n z_55 z_53.2.2 d_57) (fun z_61 d_59 => ix_ck (ix_ok z_61 [10] a0) (ix_lt (ix_zr z_61 a0 7 (some z_53.2.2)) (fun z_64 => ix_lt (ix_zn z_64 7 3) (fun z_66 => ix_lt (ix_dn d_59 z_64.2.2) (fun d_68 => ix_bd2 (f_X7_init n z_66 z_64.2.2 800 8000 d_68) (fun z_72 d_70 => ix_ck (ix_ok z_72 [10] a0) (ix_lt (ix_zr z_72 a0 8 (some z_64.2.2)) (fun z_75 => ix_lt (ix_zn z_75 20 (ix_n 500)) (fun z_77 => ix_lt (ix_dn d_70 z_75.2.2) (fun d_79 => ix_ck (ix_ok z_77 [10] a0) (ix_lt (ix_zr z_77 a0 9 (some z_75.2.2)) (fun z_82 => ix_lt (ix_zn z_82 20 (ix_n 20)) (fun z_84 => ix_lt (ix_dn d_79 z_82.2.2) (fun d_86 => ix_ck (ix_ok z_84 [10] a0) (ix_lt (ix_zr z_84 a0 11 (some z_82.2.2)) (fun z_89 => ix_ck (ix_ok z_89 [10] a0) (ix_lt (ix_di d_86 a0 16 ((-1005))) (fun d_92 => ix_bd1 (z_89.1 a0 1) (fun b_94 => ix_bd1 (f_J7_fill_53178 n z_89 b_94 ((-1)) d_92) (fun d_96 => some (z_89, d_96))))))))))))))))))))))))))))))))))))))))))))))))))
set_option maxRecDepth 20000 in
theorem c_X11_init {l : Launch} {K : ix_Cx} (hKp : ix_Kp K) (hF : ix_Fc K) {n : Nat} {z : ix_Z} {a0 : Nat} {d : ix_D2} {z1 : ix_Z} {d1 : ix_D2} (h : f_X11_init n z a0 d = some (z1, d1)) : ix_M l K yX11_init cX11_init 1 (none : Option Jvm.ClassFile.FieldType) 4 85 124 172895 [.ref (K.2.2.1 + a0)] (ix_w z d) none (ix_w z1 d1) := by
  refine ix_met mf_X11_init hKp (Nat.le_of_ble_eq_true rfl) ?_
  intro p e s m args below meth c hr hlk hnm X
  have X : ix_X p s m args c K cX11_init RX11 1 := X
  have hnm : meth.name = "<init>" := hnm
  show ix_G p l e (ix_rm 4 85 124 172895) s m args below meth c (MQ below (ix_Post K none (ix_w z1 d1)) args s 124 172895 (ix_A K)) K 1 0 0 0 [(0, .ref (K.2.2.1 + a0))] [] (ix_w z d)
  unfold f_X11_init at h
  refine ix_aload_n (i := 0) (j := 0) X (ix_tb_at tb_X11_init 0 rfl) rfl rfl (pc1 := 1) rfl ?_
  refine ix_objI (pl := 29) X (by decide +kernel) (Nat.le_of_ble_eq_true rfl) (Nat.le_of_ble_eq_true rfl) (ix_tb_at tb_X11_init 1 rfl) (pc1 := 4) rfl ?_
  refine ix_aload_n (i := 0) (j := 0) X (ix_tb_at tb_X11_init 2 rfl) rfl rfl (pc1 := 5) rfl ?_
  refine ix_bipush (v := 40) X (ix_tb_at tb_X11_init 3 rfl) (by decide) (pc1 := 7) rfl ?_
  refine ix_bipush (v := 12) X (ix_tb_at tb_X11_init 4 rfl) (by decide) (pc1 := 9) rfl ?_
  obtain ⟨z_1, e_2, h⟩ := ix_lt_ex h
  obtain ⟨d_3, e_4, h⟩ := ix_lt_ex h
  refine iz_mna (pl := 32) (pq := 98) X hF (by decide +kernel) (by decide +kernel) (Nat.le_of_ble_eq_true rfl) (Nat.le_of_ble_eq_true rfl) (ix_tb_at tb_X11_init 5 rfl) e_2 e_4 (pc1 := 13) rfl ?_
  obtain ⟨k_5, h⟩ := ix_ck_some h
  obtain ⟨z_6, e_7, h⟩ := ix_lt_ex h
  refine iz_putR (ty := .array (.array .int)) X fp_RX11_11 (fun _ => ⟨rfl, hnm⟩) k_5 (by decide +kernel) (by decide +kernel) (Or.inr ⟨_, rfl⟩) (ix_tb_at tb_X11_init 6 rfl) e_7 (pc1 := 16) rfl ?_
  refine ix_aload_n (i := 0) (j := 0) X (ix_tb_at tb_X11_init 7 rfl) rfl rfl (pc1 := 17) rfl ?_
  refine ix_bipush (v := 40) X (ix_tb_at tb_X11_init 8 rfl) (by decide) (pc1 := 19) rfl ?_
  obtain ⟨z_8, e_9, h⟩ := ix_lt_ex h
  obtain ⟨d_10, e_11, h⟩ := ix_lt_ex h
  refine iz_newa_int (pl := 98) X (by decide +kernel) (by decide) (by decide) (Nat.le_of_ble_eq_true rfl) (Nat.le_of_ble_eq_true rfl) (ix_tb_at tb_X11_init 9 rfl) e_9 e_11 (pc1 := 21) rfl ?_
  refine ix_widen (k1 := 42) (n1 := 560) (Nat.le_of_ble_eq_true rfl) (Nat.le_of_ble_eq_true rfl) ?_
  obtain ⟨k_12, h⟩ := ix_ck_some h
  obtain ⟨z_13, e_14, h⟩ := ix_lt_ex h
  refine iz_putR (ty := .array .int) X fp_RX11_14 (fun _ => ⟨rfl, hnm⟩) k_12 (by decide +kernel) (by decide +kernel) (Or.inr ⟨_, rfl⟩) (ix_tb_at tb_X11_init 10 rfl) e_14 (pc1 := 24) rfl ?_
  refine ix_aload_n (i := 0) (j := 0) X (ix_tb_at tb_X11_init 11 rfl) rfl rfl (pc1 := 25) rfl ?_
  obtain ⟨z_15, e_16, h⟩ := ix_lt_ex h
  obtain ⟨d_17, e_18, h⟩ := ix_lt_ex h
  refine iz_new (ci := 4) (pl := 34) (pi := 35) (pj := 2) (N := 17) (C := RX4) (T := TX4) X rfl (by decide) (by decide +kernel) (by decide +kernel) (by decide +kernel) (Nat.le_of_ble_eq_true rfl) (Nat.le_of_ble_eq_true rfl) (ix_tb_at tb_X11_init 12 rfl) e_16 e_18 (pc1 := 28) rfl ?_
  refine ix_dup X (ix_tb_at tb_X11_init 13 rfl) rfl (pc1 := 29) rfl ?_
  obtain ⟨z_21, d_19, h_20, h⟩ := ix_bd2_ex h
  refine ix_callIN (As := []) (rest := [.ref (K.2.2.1 + z_13.2.2), .ref (K.2.2.1 + a0)]) X mf_X4_init mi_X4_init rfl ml_RX11_20 ⟨Nat.le_of_ble_eq_true rfl, Nat.le_of_ble_eq_true rfl⟩ ⟨Nat.le_of_ble_eq_true rfl, Nat.le_of_ble_eq_true rfl⟩ rfl (Nat.le_of_ble_eq_true rfl) (ix_tb_at tb_X11_init 14 rfl) (c_X4_init hKp h_20) rfl (pc1 := 32) rfl ?_
  obtain ⟨k_23, h⟩ := ix_ck_some h
  obtain ⟨z_24, e_25, h⟩ := ix_lt_ex h
  refine iz_putR (ty := .object "ClauseCourt$Desk") X fp_RX11_21 (fun _ => ⟨rfl, hnm⟩) k_23 (by decide +kernel) (by decide +kernel) (Or.inl ⟨_, rfl⟩) (ix_tb_at tb_X11_init 15 rfl) e_25 (pc1 := 35) rfl ?_
  refine ix_aload_n (i := 0) (j := 0) X (ix_tb_at tb_X11_init 16 rfl) rfl rfl (pc1 := 36) rfl ?_
  obtain ⟨z_26, e_27, h⟩ := ix_lt_ex h
  obtain ⟨d_28, e_29, h⟩ := ix_lt_ex h
  refine iz_new (ci := 2) (pl := 100) (pi := 101) (pj := 3) (N := 12) (C := RX2) (T := TX2) X rfl (by decide) (by decide +kernel) (by decide +kernel) (by decide +kernel) (Nat.le_of_ble_eq_true rfl) (Nat.le_of_ble_eq_true rfl) (ix_tb_at tb_X11_init 17 rfl) e_27 e_29 (pc1 := 39) rfl ?_
  refine ix_dup X (ix_tb_at tb_X11_init 18 rfl) rfl (pc1 := 40) rfl ?_
  obtain ⟨z_32, d_30, h_31, h⟩ := ix_bd2_ex h
  refine ix_callIN (As := []) (rest := [.ref (K.2.2.1 + z_24.2.2), .ref (K.2.2.1 + a0)]) X mf_X2_init mi_X2_init rfl ml_RX11_27 ⟨Nat.le_of_ble_eq_true rfl, Nat.le_of_ble_eq_true rfl⟩ ⟨Nat.le_of_ble_eq_true rfl, Nat.le_of_ble_eq_true rfl⟩ rfl (Nat.le_of_ble_eq_true rfl) (ix_tb_at tb_X11_init 19 rfl) (c_X2_init hKp h_31) rfl (pc1 := 43) rfl ?_
  obtain ⟨k_34, h⟩ := ix_ck_some h
  obtain ⟨z_35, e_36, h⟩ := ix_lt_ex h
  refine iz_putR (ty := .object "ClauseCourt$Case") X fp_RX11_28 (fun _ => ⟨rfl, hnm⟩) k_34 (by decide +kernel) (by decide +kernel) (Or.inl ⟨_, rfl⟩) (ix_tb_at tb_X11_init 20 rfl) e_36 (pc1 := 46) rfl ?_
  refine ix_aload_n (i := 0) (j := 0) X (ix_tb_at tb_X11_init 21 rfl) rfl rfl (pc1 := 47) rfl ?_
  refine ix_bipush (v := 60) X (ix_tb_at tb_X11_init 22 rfl) (by decide) (pc1 := 49) rfl ?_
  obtain ⟨z_37, e_38, h⟩ := ix_lt_ex h
  obtain ⟨d_39, e_40, h⟩ := ix_lt_ex h
  refine iz_anew (pl := 184) (pq := 0) X (by decide +kernel) (hF s X.2.2.2.2.2.1.2.2).1 (by decide) (by decide) (Nat.le_of_ble_eq_true rfl) (Nat.le_of_ble_eq_true rfl) (ix_tb_at tb_X11_init 23 rfl) e_38 e_40 (pc1 := 52) rfl ?_
  refine ix_widen (k1 := 59) (n1 := 28430) (Nat.le_of_ble_eq_true rfl) (Nat.le_of_ble_eq_true rfl) ?_
  obtain ⟨k_41, h⟩ := ix_ck_some h
  obtain ⟨z_42, e_43, h⟩ := ix_lt_ex h
  refine iz_putR (ty := .array (.object "ClauseCourt$Rule")) X fp_RX11_34 (fun _ => ⟨rfl, hnm⟩) k_41 (by decide +kernel) (by decide +kernel) (Or.inr ⟨_, rfl⟩) (ix_tb_at tb_X11_init 24 rfl) e_43 (pc1 := 55) rfl ?_
  refine ix_aload_n (i := 0) (j := 0) X (ix_tb_at tb_X11_init 25 rfl) rfl rfl (pc1 := 56) rfl ?_
  obtain ⟨z_44, e_45, h⟩ := ix_lt_ex h
  obtain ⟨d_46, e_47, h⟩ := ix_lt_ex h
  refine iz_new (ci := 8) (pl := 186) (pi := 187) (pj := 5) (N := 20) (C := RX9) (T := TX9) X rfl (by decide) (by decide +kernel) (by decide +kernel) (by decide +kernel) (Nat.le_of_ble_eq_true rfl) (Nat.le_of_ble_eq_true rfl) (ix_tb_at tb_X11_init 26 rfl) e_45 e_47 (pc1 := 59) rfl ?_
  refine ix_dup X (ix_tb_at tb_X11_init 27 rfl) rfl (pc1 := 60) rfl ?_
  obtain ⟨z_50, d_48, h_49, h⟩ := ix_bd2_ex h
  refine ix_callI (As := []) (rest := [.ref (K.2.2.1 + z_42.2.2), .ref (K.2.2.1 + a0)]) X mf_X9_init mi_X9_init rfl ml_RX11_40 ⟨Nat.le_of_ble_eq_true rfl, Nat.le_of_ble_eq_true rfl⟩ ⟨Nat.le_of_ble_eq_true rfl, Nat.le_of_ble_eq_true rfl⟩ rfl (Nat.le_of_ble_eq_true rfl) (ix_tb_at tb_X11_init 28 rfl) (c_X9_init hKp h_49) rfl (pc1 := 63) rfl ?_
  obtain ⟨k_52, h⟩ := ix_ck_some h
  obtain ⟨z_53, e_54, h⟩ := ix_lt_ex h
  refine iz_putR (ty := .object "ClauseCourt$Solver") X fp_RX11_41 (fun _ => ⟨rfl, hnm⟩) k_52 (by decide +kernel) (by decide +kernel) (Or.inl ⟨_, rfl⟩) (ix_tb_at tb_X11_init 29 rfl) e_54 (pc1 := 66) rfl ?_
  refine ix_aload_n (i := 0) (j := 0) X (ix_tb_at tb_X11_init 30 rfl) rfl rfl (pc1 := 67) rfl ?_
  obtain ⟨z_55, e_56, h⟩ := ix_lt_ex h
  obtain ⟨d_57, e_58, h⟩ := ix_lt_ex h
  refine iz_new (ci := 8) (pl := 186) (pi := 187) (pj := 5) (N := 20) (C := RX9) (T := TX9) X rfl (by decide) (by decide +kernel) (by decide +kernel) (by decide +kernel) (Nat.le_of_ble_eq_true rfl) (Nat.le_of_ble_eq_true rfl) (ix_tb_at tb_X11_init 31 rfl) e_56 e_58 (pc1 := 70) rfl ?_
  refine ix_dup X (ix_tb_at tb_X11_init 32 rfl) rfl (pc1 := 71) rfl ?_
  obtain ⟨z_61, d_59, h_60, h⟩ := ix_bd2_ex h
  refine ix_callI (As := []) (rest := [.ref (K.2.2.1 + z_53.2.2), .ref (K.2.2.1 + a0)]) X mf_X9_init mi_X9_init rfl ml_RX11_40 ⟨Nat.le_of_ble_eq_true rfl, Nat.le_of_ble_eq_true rfl⟩ ⟨Nat.le_of_ble_eq_true rfl, Nat.le_of_ble_eq_true rfl⟩ rfl (Nat.le_of_ble_eq_true rfl) (ix_tb_at tb_X11_init 33 rfl) (c_X9_init hKp h_60) rfl (pc1 := 74) rfl ?_
  obtain ⟨k_63, h⟩ := ix_ck_some h
  obtain ⟨z_64, e_65, h⟩ := ix_lt_ex h
  refine iz_putR (ty := .object "ClauseCourt$Solver") X fp_RX11_45 (fun _ => ⟨rfl, hnm⟩) k_63 (by decide +kernel) (by decide +kernel) (Or.inl ⟨_, rfl⟩) (ix_tb_at tb_X11_init 34 rfl) e_65 (pc1 := 77) rfl ?_
  refine ix_aload_n (i := 0) (j := 0) X (ix_tb_at tb_X11_init 35 rfl) rfl rfl (pc1 := 78) rfl ?_
  obtain ⟨z_66, e_67, h⟩ := ix_lt_ex h
  obtain ⟨d_68, e_69, h⟩ := ix_lt_ex h
  refine iz_new (ci := 7) (pl := 342) (pi := 107) (pj := 4) (N := 3) (C := RX7) (T := TX7) X rfl (by decide) (by decide +kernel) (by decide +kernel) (by decide +kernel) (Nat.le_of_ble_eq_true rfl) (Nat.le_of_ble_eq_true rfl) (ix_tb_at tb_X11_init 36 rfl) e_67 e_69 (pc1 := 81) rfl ?_
  refine ix_dup X (ix_tb_at tb_X11_init 37 rfl) rfl (pc1 := 82) rfl ?_
  refine ix_sipush (v := 800) X (ix_tb_at tb_X11_init 38 rfl) (by decide) (pc1 := 85) rfl ?_
  refine ix_sipush (v := 8000) X (ix_tb_at tb_X11_init 39 rfl) (by decide) (pc1 := 88) rfl ?_
  obtain ⟨z_72, d_70, h_71, h⟩ := ix_bd2_ex h
  refine ix_callI (As := [.int 800, .int 8000]) (rest := [.ref (K.2.2.1 + z_64.2.2), .ref (K.2.2.1 + a0)]) X mf_X7_init mi_X7_init rfl ml_RX11_50 ⟨Nat.le_of_ble_eq_true rfl, Nat.le_of_ble_eq_true rfl⟩ ⟨Nat.le_of_ble_eq_true rfl, Nat.le_of_ble_eq_true rfl⟩ rfl (Nat.le_of_ble_eq_true rfl) (ix_tb_at tb_X11_init 40 rfl) (c_X7_init hKp h_71) rfl (pc1 := 91) rfl ?_
  obtain ⟨k_74, h⟩ := ix_ck_some h
  obtain ⟨z_75, e_76, h⟩ := ix_lt_ex h
  refine iz_putR (ty := .object "ClauseCourt$Rows") X fp_RX11_53 (fun _ => ⟨rfl, hnm⟩) k_74 (by decide +kernel) (by decide +kernel) (Or.inl ⟨_, rfl⟩) (ix_tb_at tb_X11_init 41 rfl) e_76 (pc1 := 94) rfl ?_
  refine ix_aload_n (i := 0) (j := 0) X (ix_tb_at tb_X11_init 42 rfl) rfl rfl (pc1 := 95) rfl ?_
  refine ix_sipush (v := 500) X (ix_tb_at tb_X11_init 43 rfl) (by decide) (pc1 := 98) rfl ?_
  obtain ⟨z_77, e_78, h⟩ := ix_lt_ex h
  obtain ⟨d_79, e_80, h⟩ := ix_lt_ex h
  refine iz_newa_int (pl := 98) X (by decide +kernel) (by decide) (by decide) (Nat.le_of_ble_eq_true rfl) (Nat.le_of_ble_eq_true rfl) (ix_tb_at tb_X11_init 44 rfl) e_78 e_80 (pc1 := 100) rfl ?_
  refine ix_widen (k1 := 123) (n1 := 172875) (Nat.le_of_ble_eq_true rfl) (Nat.le_of_ble_eq_true rfl) ?_
  obtain ⟨k_81, h⟩ := ix_ck_some h
  obtain ⟨z_82, e_83, h⟩ := ix_lt_ex h
  refine iz_putR (ty := .array .int) X fp_RX11_57 (fun _ => ⟨rfl, hnm⟩) k_81 (by decide +kernel) (by decide +kernel) (Or.inr ⟨_, rfl⟩) (ix_tb_at tb_X11_init 45 rfl) e_83 (pc1 := 103) rfl ?_
  refine ix_aload_n (i := 0) (j := 0) X (ix_tb_at tb_X11_init 46 rfl) rfl rfl (pc1 := 104) rfl ?_
  refine ix_bipush (v := 20) X (ix_tb_at tb_X11_init 47 rfl) (by decide) (pc1 := 106) rfl ?_
  obtain ⟨z_84, e_85, h⟩ := ix_lt_ex h
  obtain ⟨d_86, e_87, h⟩ := ix_lt_ex h
  refine iz_newa_int (pl := 98) X (by decide +kernel) (by decide) (by decide) (Nat.le_of_ble_eq_true rfl) (Nat.le_of_ble_eq_true rfl) (ix_tb_at tb_X11_init 48 rfl) e_85 e_87 (pc1 := 108) rfl ?_
  refine ix_widen (k1 := 124) (n1 := 172895) (Nat.le_of_ble_eq_true rfl) (Nat.le_of_ble_eq_true rfl) ?_
  obtain ⟨k_88, h⟩ := ix_ck_some h
  obtain ⟨z_89, e_90, h⟩ := ix_lt_ex h
  refine iz_putR (ty := .array .int) X fp_RX11_60 (fun _ => ⟨rfl, hnm⟩) k_88 (by decide +kernel) (by decide +kernel) (Or.inr ⟨_, rfl⟩) (ix_tb_at tb_X11_init 49 rfl) e_90 (pc1 := 111) rfl ?_
  refine ix_aload_n (i := 0) (j := 0) X (ix_tb_at tb_X11_init 50 rfl) rfl rfl (pc1 := 112) rfl ?_
  refine ix_sipush (v := (-1005)) X (ix_tb_at tb_X11_init 51 rfl) (by decide) (pc1 := 115) rfl ?_
  obtain ⟨k_91, h⟩ := ix_ck_some h
  obtain ⟨d_92, e_93, h⟩ := ix_lt_ex h
  refine iz_putI X fp_RX11_63 k_91 (ix_tb_at tb_X11_init 52 rfl) e_93 (pc1 := 118) rfl ?_
  refine ix_aload_n (i := 0) (j := 0) X (ix_tb_at tb_X11_init 53 rfl) rfl rfl (pc1 := 119) rfl ?_
  obtain ⟨b_94, q_95, h⟩ := ix_bd1_ex h
  refine iz_getR X fl_RX11_14 k_91 q_95 (ix_tb_at tb_X11_init 54 rfl) (pc1 := 122) rfl ?_
  refine ix_iconst (v := (-1)) X (ix_tb_at tb_X11_init 55 rfl) (by decide) (pc1 := 123) rfl ?_
  obtain ⟨d_96, h_97, h⟩ := ix_bd1_ex h
  refine ix_callS (As := [.ref (K.2.2.1 + b_94), .int ((-1))]) (rest := []) X mf_J7_fill_53178 st_J7_fill_53178 ml_RX11_67 ⟨Nat.le_of_ble_eq_true rfl, Nat.le_of_ble_eq_true rfl⟩ ⟨Nat.le_of_ble_eq_true rfl, Nat.le_of_ble_eq_true rfl⟩ rfl (Nat.le_of_ble_eq_true rfl) (ix_tb_at tb_X11_init 56 rfl) (c_J7_fill_53178 hKp h_97) rfl (pc1 := 126) rfl ?_
  exact ix_vret X hr hlk (ix_r2v (g := ix_w) h) (ix_tb_at tb_X11_init 57 rfl)
def tab_X11_itemsOf : List (Nat × Instr × Nat) := [(0, .aload_n 0, 1), (1, .getfield 11, 3), (4, .iload_n 1, 1), (5, .aaload, 1), (6, .aload_n 0, 1), (7, .getfield 14, 3), (10, .iload_n 1, 1), (11, .iaload, 1), (12, .invokestatic 411, 3), (15, .areturn, 1)]
theorem tb_X11_itemsOf : ix_tab cX11_itemsOf tab_X11_itemsOf := by
  unfold ix_tab
  decide +kernel
noncomputable def f_X11_itemsOf (n : Nat) (z : ix_Z) (a0 : Nat) (x1 : Int32) (d : ix_D2) : Option (Option Nat × ix_Z × ix_D2) :=
  ix_ck (ix_ok z [10] a0) (ix_bd1 (z.1 a0 0) (fun b_2 => ix_ck (ix_ix z 25 b_2 x1) (ix_bd1 (z.1 b_2 (ix_n x1)) (fun b_5 => ix_bd1 (z.1 a0 1) (fun b_7 => ix_ck (ix_ix z 20 b_7 x1) (ix_bd3 (f_J7_copyOf_59c91 n z b_5 (d.1 b_7 (ix_n x1)) d) (fun r_13 z_12 d_10 => ix_bd1 r_13 (fun b_14 => some ((some b_14), z_12, d_10)))))))))
set_option maxRecDepth 20000 in
theorem c_X11_itemsOf {l : Launch} {K : ix_Cx} (hKp : ix_Kp K) {n : Nat} {z : ix_Z} {a0 : Nat} {x1 : Int32} {d : ix_D2} {r : Option Nat} {z1 : ix_Z} {d1 : ix_D2} (h : f_X11_itemsOf n z a0 x1 d = some (r, z1, d1)) : ix_M l K yX11_itemsOf cX11_itemsOf 2 (some (.array .int)) 2 48 1 64 [.ref (K.2.2.1 + a0), .int x1] (ix_w z d) (some (ix_rv K r)) (ix_w z1 d1) := by
  refine ix_met mf_X11_itemsOf hKp (Nat.le_of_ble_eq_true rfl) ?_
  intro p e s m args below meth c hr hlk hnm X
  have X : ix_X p s m args c K cX11_itemsOf RX11 2 := X
  show ix_G p l e (ix_rm 2 48 1 64) s m args below meth c (MQ below (ix_Post K (some (ix_rv K r)) (ix_w z1 d1)) args s 1 64 (ix_A K)) K 2 0 0 0 [(0, .ref (K.2.2.1 + a0)), (1, .int x1)] [] (ix_w z d)
  unfold f_X11_itemsOf at h
  refine ix_aload_n (i := 0) (j := 0) X (ix_tb_at tb_X11_itemsOf 0 rfl) rfl rfl (pc1 := 1) rfl ?_
  obtain ⟨k_1, h⟩ := ix_ck_some h
  obtain ⟨b_2, q_3, h⟩ := ix_bd1_ex h
  refine iz_getR X fl_RX11_11 k_1 q_3 (ix_tb_at tb_X11_itemsOf 1 rfl) (pc1 := 4) rfl ?_
  refine ix_iload_n (i := 1) (j := 1) X (ix_tb_at tb_X11_itemsOf 2 rfl) rfl rfl (pc1 := 5) rfl ?_
  obtain ⟨k_4, h⟩ := ix_ck_some h
  refine iz_aald X (Or.inr rfl) k_4 (ix_tb_at tb_X11_itemsOf 3 rfl) (pc1 := 6) rfl ?_
  obtain ⟨b_5, q_6, h⟩ := ix_bd1_ex h
  refine ix_rvs q_6 ?_
  refine ix_aload_n (i := 0) (j := 0) X (ix_tb_at tb_X11_itemsOf 4 rfl) rfl rfl (pc1 := 7) rfl ?_
  obtain ⟨b_7, q_8, h⟩ := ix_bd1_ex h
  refine iz_getR X fl_RX11_14 k_1 q_8 (ix_tb_at tb_X11_itemsOf 5 rfl) (pc1 := 10) rfl ?_
  refine ix_iload_n (i := 1) (j := 1) X (ix_tb_at tb_X11_itemsOf 6 rfl) rfl rfl (pc1 := 11) rfl ?_
  obtain ⟨k_9, h⟩ := ix_ck_some h
  refine iz_iald X k_9 (ix_tb_at tb_X11_itemsOf 7 rfl) (pc1 := 12) rfl ?_
  obtain ⟨r_13, z_12, d_10, h_11, h⟩ := ix_bd3_ex h
  refine ix_callS (As := [.ref (K.2.2.1 + b_5), .int (d.1 b_7 (ix_n x1))]) (rest := []) X mf_J7_copyOf_59c91 st_J7_copyOf_59c91 ml_RX11_411 ⟨Nat.le_of_ble_eq_true rfl, Nat.le_of_ble_eq_true rfl⟩ ⟨Nat.le_of_ble_eq_true rfl, Nat.le_of_ble_eq_true rfl⟩ rfl (Nat.le_of_ble_eq_true rfl) (ix_tb_at tb_X11_itemsOf 8 rfl) (c_J7_copyOf_59c91 hKp h_11) rfl (pc1 := 15) rfl ?_
  obtain ⟨b_14, q_15, h⟩ := ix_bd1_ex h
  refine ix_rvs q_15 ?_
  exact ix_aret (v := (some b_14)) X hr (Or.inr ⟨_, rfl⟩) hlk (ix_r3 (f := fun r => some (ix_rv K r)) (g := ix_w) h) (ix_tb_at tb_X11_itemsOf 9 rfl)
def tab_X11_admit : List (Nat × Instr × Nat) := [(0, .aload_n 0, 1), (1, .getfield 28, 3), (4, .getfield 195, 3), (7, .getfield 224, 3), (10, .istore_n 2, 1), (11, .aload_n 0, 1), (12, .getfield 28, 3), (15, .getfield 77, 3), (18, .istore_n 3, 1), (19, .aload_n 0, 1), (20, .getfield 28, 3), (23, .aload_n 0, 1), (24, .getfield 281, 3), (27, .bipush 60, 2), (29, .if_icmp .lt 7, 3), (32, .iconst 1, 1), (33, .goto 4, 3), (36, .iconst 0, 1), (37, .putfield 415, 3), (40, .aload_n 1, 1), (41, .aload_n 0, 1), (42, .getfield 28, 3), (45, .invokevirtual 418, 3), (48, .aload_n 0, 1), (49, .getfield 28, 3), (52, .getfield 415, 3), (55, .ifCond .eq 30, 3), (58, .aload_n 0, 1), (59, .getfield 28, 3), (62, .getfield 195, 3), (65, .iload_n 2, 1), (66, .invokevirtual 328, 3), (69, .aload_n 0, 1), (70, .getfield 28, 3), (73, .iload_n 3, 1), (74, .putfield 77, 3), (77, .aload_n 0, 1), (78, .sipush (-1003), 3), (81, .invokevirtual 73, 3), (84, .ireturn, 1), (85, .aload_n 1, 1), (86, .iload_n 2, 1), (87, .putfield 171, 3), (90, .aload_n 1, 1), (91, .aload_n 0, 1), (92, .getfield 28, 3), (95, .getfield 195, 3), (98, .getfield 224, 3), (101, .iload_n 2, 1), (102, .isub, 1), (103, .putfield 168, 3), (106, .aload_n 0, 1), (107, .getfield 34, 3), (110, .aload_n 0, 1), (111, .getfield 281, 3), (114, .aload_n 1, 1), (115, .aastore, 1), (116, .aload_n 0, 1), (117, .dup, 1), (118, .getfield 281, 3), (121, .iconst 1, 1), (122, .iadd, 1), (123, .putfield 281, 3), (126, .aload_n 0, 1), (127, .iconst 0, 1), (128, .putfield 80, 3), (131, .aload_n 0, 1), (132, .getfield 281, 3), (135, .iconst 1, 1), (136, .isub, 1), (137, .ireturn, 1)]
theorem tb_X11_admit : ix_tab cX11_admit tab_X11_admit := by
  unfold ix_tab
  decide +kernel
noncomputable def v_RX11_418 (n : Nat) (z : ix_Z) (b : Nat) (p0 : Nat) (d : ix_D2) : Option (ix_Z × ix_D2) := ix_if ((z.2.1 b).1 = 0) (f_X0_layInto n z b p0 d) (ix_if ((z.2.1 b).1 = 3) (ix_lf z (f_X3_layInto n z b p0 d)) (ix_if ((z.2.1 b).1 = 5) (f_X5_layInto n z b p0 d) (ix_if ((z.2.1 b).1 = 6) (ix_lf z (f_X6_layInto n z b p0 d)) (ix_lf z (f_X10_layInto n z b p0 d)))))
theorem tv_RX11_418 {l : Launch} {p : Program} {e : Env} {s : State} {m : MethodId} {args : Array Value} {below : List Frame} {meth : Method} {c : Code} {K : ix_Cx} {R : Room} {Q : State → Prop} {nL k n pc : Nat} {cc : ByteArray} {L : List (Nat × Value)} {rest : List Value} (hKp : ix_Kp K) (X : ix_X p s m args c K cc RX11 nL) {N : Nat} {z : ix_Z} {b : Nat} {p0 : Nat} {d : ix_D2} {z1 : ix_Z} {d1 : ix_D2} (hk : ix_ok z [0, 3, 5, 6, 9] b) (hcall : v_RX11_418 N z b p0 d = some (z1, d1)) (hfr : 6 ≤ R.frames) (hlo : 146 ≤ R.locals) (hcs : k + 1 ≤ R.cells ∧ n + 14 ≤ R.slots) (hrm : (rest.map fun v => v.category).sum ≤ 8) (hd : decode cc pc = .ok (.invokevirtual 418, 3)) {pc1 : Nat} (hp : pc + 3 = pc1) (kk : ix_G p l e R s m args below meth c Q K nL (k + 1) (n + 14) pc1 L (rest) (ix_w z1 d1)) : ix_G p l e R s m args below meth c Q K nL k n pc L (.ref (K.2.2.1 + p0) :: .ref (K.2.2.1 + b) :: rest) (ix_w z d) := by
  unfold v_RX11_418 at hcall
  have h2 := hk.2
  simp only [List.mem_cons, List.not_mem_nil, or_false] at h2
  rcases h2 with h2 | h2 | h2 | h2 | h2
  · have hcall := ix_ift h2 hcall
    exact ix_callU (As := [.ref (K.2.2.1 + p0)]) (rest := rest) (x := (⟨"ClauseCourt$Rule", "layInto", "(LClauseCourt$Case;)V"⟩ : MethodName)) (owner := "ClauseCourt$Rule") (C := RX0) (T := TX0) (nf := 4) (ci := 0) X mf_X0_layInto mi_X0_layInto (ix_wm (i := 536) (by decide +kernel)) (ix_wm (i := 535) (by decide +kernel)) (Or.inl (ix_wm (i := 534) (by decide +kernel))) ⟨by decide, by decide⟩ (by decide +kernel) rfl (by decide) ml_RX11_418 ⟨Nat.le_trans (Nat.le_of_ble_eq_true rfl) hfr, Nat.le_trans (Nat.le_of_ble_eq_true rfl) hlo⟩ ⟨Nat.le_trans (Nat.add_le_add_left (by decide) _) hcs.1, Nat.le_trans (Nat.add_le_add_left (by decide) _) hcs.2⟩ rfl hrm hd ⟨hk.1, h2⟩ (c_X0_layInto hKp hcall) rfl hp (ix_widen (Nat.add_le_add_left (by decide) _) (Nat.add_le_add_left (by decide) _) kk)
  · have hcall := ix_iff (by rw [h2]; decide) hcall
    have hcall := ix_ift h2 hcall
    obtain ⟨hcall, rfl⟩ := ix_lf_ex hcall
    exact ix_callU (As := [.ref (K.2.2.1 + p0)]) (rest := rest) (x := (⟨"ClauseCourt$Rule", "layInto", "(LClauseCourt$Case;)V"⟩ : MethodName)) (owner := "ClauseCourt$Rule") (C := RX3) (T := TX3) (nf := 3) (ci := 3) X mf_X3_layInto mi_X3_layInto (ix_wm (i := 566) (by decide +kernel)) (ix_wm (i := 535) (by decide +kernel)) (Or.inl (ix_wm (i := 534) (by decide +kernel))) ⟨by decide, by decide⟩ (by decide +kernel) rfl (by decide) ml_RX11_418 ⟨Nat.le_trans (Nat.le_of_ble_eq_true rfl) hfr, Nat.le_trans (Nat.le_of_ble_eq_true rfl) hlo⟩ ⟨Nat.le_trans (Nat.add_le_add_left (by decide) _) hcs.1, Nat.le_trans (Nat.add_le_add_left (by decide) _) hcs.2⟩ rfl hrm hd ⟨hk.1, h2⟩ (c_X3_layInto hKp hcall) rfl hp (ix_widen (Nat.add_le_add_left (by decide) _) (Nat.add_le_add_left (by decide) _) kk)
  · have hcall := ix_iff (by rw [h2]; decide) hcall
    have hcall := ix_iff (by rw [h2]; decide) hcall
    have hcall := ix_ift h2 hcall
    exact ix_callU (As := [.ref (K.2.2.1 + p0)]) (rest := rest) (x := (⟨"ClauseCourt$Rule", "layInto", "(LClauseCourt$Case;)V"⟩ : MethodName)) (owner := "ClauseCourt$Rule") (C := RX5) (T := TX5) (nf := 4) (ci := 5) X mf_X5_layInto mi_X5_layInto (ix_wm (i := 571) (by decide +kernel)) (ix_wm (i := 535) (by decide +kernel)) (Or.inl (ix_wm (i := 534) (by decide +kernel))) ⟨by decide, by decide⟩ (by decide +kernel) rfl (by decide) ml_RX11_418 ⟨Nat.le_trans (Nat.le_of_ble_eq_true rfl) hfr, Nat.le_trans (Nat.le_of_ble_eq_true rfl) hlo⟩ ⟨Nat.le_trans (Nat.add_le_add_left (by decide) _) hcs.1, Nat.le_trans (Nat.add_le_add_left (by decide) _) hcs.2⟩ rfl hrm hd ⟨hk.1, h2⟩ (c_X5_layInto hKp hcall) rfl hp (ix_widen (Nat.add_le_add_left (by decide) _) (Nat.add_le_add_left (by decide) _) kk)
  · have hcall := ix_iff (by rw [h2]; decide) hcall
    have hcall := ix_iff (by rw [h2]; decide) hcall
    have hcall := ix_iff (by rw [h2]; decide) hcall
    have hcall := ix_ift h2 hcall
    obtain ⟨hcall, rfl⟩ := ix_lf_ex hcall
    exact ix_callU (As := [.ref (K.2.2.1 + p0)]) (rest := rest) (x := (⟨"ClauseCourt$Rule", "layInto", "(LClauseCourt$Case;)V"⟩ : MethodName)) (owner := "ClauseCourt$Rule") (C := RX6) (T := TX6) (nf := 4) (ci := 6) X mf_X6_layInto mi_X6_layInto (ix_wm (i := 580) (by decide +kernel)) (ix_wm (i := 535) (by decide +kernel)) (Or.inl (ix_wm (i := 534) (by decide +kernel))) ⟨by decide, by decide⟩ (by decide +kernel) rfl (by decide) ml_RX11_418 ⟨Nat.le_trans (Nat.le_of_ble_eq_true rfl) hfr, Nat.le_trans (Nat.le_of_ble_eq_true rfl) hlo⟩ ⟨Nat.le_trans (Nat.add_le_add_left (by decide) _) hcs.1, Nat.le_trans (Nat.add_le_add_left (by decide) _) hcs.2⟩ rfl hrm hd ⟨hk.1, h2⟩ (c_X6_layInto hKp hcall) rfl hp (ix_widen (Nat.add_le_add_left (by decide) _) (Nat.add_le_add_left (by decide) _) kk)
  · have hcall := ix_iff (by rw [h2]; decide) hcall
    have hcall := ix_iff (by rw [h2]; decide) hcall
    have hcall := ix_iff (by rw [h2]; decide) hcall
    have hcall := ix_iff (by rw [h2]; decide) hcall
    obtain ⟨hcall, rfl⟩ := ix_lf_ex hcall
    exact ix_callU (As := [.ref (K.2.2.1 + p0)]) (rest := rest) (x := (⟨"ClauseCourt$Rule", "layInto", "(LClauseCourt$Case;)V"⟩ : MethodName)) (owner := "ClauseCourt$Rule") (C := RX10) (T := TX10) (nf := 6) (ci := 9) X mf_X10_layInto mi_X10_layInto (ix_wm (i := 588) (by decide +kernel)) (ix_wm (i := 535) (by decide +kernel)) (Or.inl (ix_wm (i := 534) (by decide +kernel))) ⟨by decide, by decide⟩ (by decide +kernel) rfl (by decide) ml_RX11_418 ⟨Nat.le_trans (Nat.le_of_ble_eq_true rfl) hfr, Nat.le_trans (Nat.le_of_ble_eq_true rfl) hlo⟩ ⟨Nat.le_trans (Nat.add_le_add_left (by decide) _) hcs.1, Nat.le_trans (Nat.add_le_add_left (by decide) _) hcs.2⟩ rfl hrm hd ⟨hk.1, h2⟩ (c_X10_layInto hKp hcall) rfl hp (ix_widen (Nat.add_le_add_left (by decide) _) (Nat.add_le_add_left (by decide) _) kk)
noncomputable def f_X11_admit_37 (n : Nat) (z : ix_Z)  (a0 : Nat) (a1 : Nat) (x2 : Int32) (x3 : Int32) (s0 : Int32) (s1 : Nat) (d : ix_D2) : Option (Int32 × ix_Z × ix_D2) :=
  ix_ck (ix_ok z [2] s1) (ix_ck (s0 = 0 ∨ s0 = 1) (ix_lt (ix_di d s1 11 s0) (fun d_15 => ix_ck (ix_ok z [10] a0) (ix_bd1 (z.1 a0 3) (fun b_18 => ix_ck (ix_ok z [0, 3, 5, 6, 9] a1) (ix_bd2 (v_RX11_418 n z a1 b_18 d_15) (fun z_22 d_21 => ix_ck (ix_ok z_22 [10] a0) (ix_bd1 (z_22.1 a0 3) (fun b_26 => ix_ck (ix_ok z_22 [2] b_26) (ix_if (d_21.1 b_26 11 = 0) (ix_ck (ix_ok z_22 [0, 3, 5, 6, 9] a1) (ix_lt (ix_di d_21 a1 1 x2) (fun d_31 => ix_bd1 (z_22.1 b_26 0) (fun b_33 => ix_ck (ix_ok z_22 [7] b_33) (ix_lt (ix_di d_31 a1 2 ((d_31.1 b_33 2) - x2)) (fun d_36 => ix_bd1 (z_22.1 a0 4) (fun b_38 => ix_ck (ix_ix z_22 24 b_38 (d_36.1 a0 5)) (ix_lt (ix_zr z_22 b_38 (ix_n (d_36.1 a0 5)) (some a1)) (fun z_41 => ix_ck (ix_ok z_41 [10] a0) (ix_lt (ix_di d_36 a0 5 ((d_36.1 a0 5) + 1)) (fun d_44 => ix_lt (ix_di d_44 a0 14 0) (fun d_46 => some ((d_46.1 a0 5) - 1, z_41, d_46))))))))))))) (ix_bd1 (z_22.1 b_26 0) (fun b_48 => ix_ck (ix_ok z_22 [7] b_48) (ix_bd1 (f_X7_shortenTo n z_22 b_48 x2 d_21) (fun d_50 => ix_lt (ix_di d_50 b_26 5 x3) (fun d_53 => ix_bd2 (f_X11_refuse n z_22 a0 ((-1003)) d_53) (fun r_57 d_55 => some (r_57, z_22, d_55)))))))))))))))))
noncomputable def f_X11_admit (n : Nat) (z : ix_Z) (a0 : Nat) (a1 : Nat) (d : ix_D2) : Option (Int32 × ix_Z × ix_D2) :=
  ix_ck (ix_ok z [10] a0) (ix_bd1 (z.1 a0 3) (fun b_2 => ix_ck (ix_ok z [2] b_2) (ix_bd1 (z.1 b_2 0) (fun b_5 => ix_ck (ix_ok z [7] b_5) (ix_lt (d.1 b_5 2) (fun x2_8 => ix_lt (d.1 b_2 5) (fun x3_10 => ix_if (d.1 a0 5 < 60) (f_X11_admit_37 n z  a0 a1 x2_8 x3_10 0 b_2 d) (f_X11_admit_37 n z  a0 a1 x2_8 x3_10 1 b_2 d))))))))
set_option maxRecDepth 20000 in
theorem t_X11_admit_37 {l : Launch} {p : Program} {e : Env} {s : State} {m : MethodId} {args : Array Value} {below : List Frame} {meth : Method} {c : Code} {K : ix_Cx} (hKp : ix_Kp K) {n : Nat} {z : ix_Z} (X : ix_X p s m args c K cX11_admit RX11 4) (hr : meth.sig.returnType = (some .int)) (hlk : meth.locks = false)  {a0 : Nat} {a1 : Nat} {x2 : Int32} {x3 : Int32} {s0 : Int32} {s1 : Nat} {r : Int32} {z1 : ix_Z} {d1 : ix_D2}  {d : ix_D2} (h : f_X11_admit_37 n z  a0 a1 x2 x3 s0 s1 d = some (r, z1, d1)) : ix_G p l e (ix_rm 6 146 1 14) s m args below meth c (MQ below (ix_Post K (some (.int r)) (ix_w z1 d1)) args s 1 14 (ix_A K)) K 4 0 0 37 [(0, .ref (K.2.2.1 + a0)), (1, .ref (K.2.2.1 + a1)), (2, .int x2), (3, .int x3)] [.int s0, .ref (K.2.2.1 + s1)] (ix_w z d) := by
  unfold f_X11_admit_37 at h
  obtain ⟨k_13, h⟩ := ix_ck_some h
  obtain ⟨k_14, h⟩ := ix_ck_some h
  obtain ⟨d_15, e_16, h⟩ := ix_lt_ex h
  refine iz_putZ X fp_RX11_415 k_13 (ix_tb_at tb_X11_admit 18 rfl) k_14 e_16 (pc1 := 40) rfl ?_
  refine ix_aload_n (i := 1) (j := 1) X (ix_tb_at tb_X11_admit 19 rfl) rfl rfl (pc1 := 41) rfl ?_
  refine ix_aload_n (i := 0) (j := 0) X (ix_tb_at tb_X11_admit 20 rfl) rfl rfl (pc1 := 42) rfl ?_
  obtain ⟨k_17, h⟩ := ix_ck_some h
  obtain ⟨b_18, q_19, h⟩ := ix_bd1_ex h
  refine iz_getR X fl_RX11_28 k_17 q_19 (ix_tb_at tb_X11_admit 21 rfl) (pc1 := 45) rfl ?_
  obtain ⟨k_20, h⟩ := ix_ck_some h
  obtain ⟨z_22, d_21, h_23, h⟩ := ix_bd2_ex h
  refine tv_RX11_418 (rest := []) hKp X k_20 h_23 (Nat.le_of_ble_eq_true rfl) (Nat.le_of_ble_eq_true rfl) ⟨Nat.le_of_ble_eq_true rfl, Nat.le_of_ble_eq_true rfl⟩ (Nat.le_of_ble_eq_true rfl) (ix_tb_at tb_X11_admit 22 rfl) (pc1 := 48) rfl ?_
  refine ix_aload_n (i := 0) (j := 0) X (ix_tb_at tb_X11_admit 23 rfl) rfl rfl (pc1 := 49) rfl ?_
  obtain ⟨k_25, h⟩ := ix_ck_some h
  obtain ⟨b_26, q_27, h⟩ := ix_bd1_ex h
  refine iz_getR X fl_RX11_28 k_25 q_27 (ix_tb_at tb_X11_admit 24 rfl) (pc1 := 52) rfl ?_
  obtain ⟨k_28, h⟩ := ix_ck_some h
  refine iz_getI X fl_RX11_415 k_28 (ix_tb_at tb_X11_admit 25 rfl) (pc1 := 55) rfl ?_
  refine ix_if_eq (tgt := 85) X (ix_tb_at tb_X11_admit 26 rfl) (by decide) (pc1 := 58) rfl (fun q_29 => ?_) (fun q_29 => ?_)
  · have h := ix_ift q_29 h
    refine ix_aload_n (i := 1) (j := 1) X (ix_tb_at tb_X11_admit 40 rfl) rfl rfl (pc1 := 86) rfl ?_
    refine ix_iload_n (i := 2) (j := 2) X (ix_tb_at tb_X11_admit 41 rfl) rfl rfl (pc1 := 87) rfl ?_
    obtain ⟨k_30, h⟩ := ix_ck_some h
    obtain ⟨d_31, e_32, h⟩ := ix_lt_ex h
    refine iz_putI X fp_RX11_171 k_30 (ix_tb_at tb_X11_admit 42 rfl) e_32 (pc1 := 90) rfl ?_
    refine ix_aload_n (i := 1) (j := 1) X (ix_tb_at tb_X11_admit 43 rfl) rfl rfl (pc1 := 91) rfl ?_
    refine ix_aload_n (i := 0) (j := 0) X (ix_tb_at tb_X11_admit 44 rfl) rfl rfl (pc1 := 92) rfl ?_
    refine iz_getR X fl_RX11_28 k_25 q_27 (ix_tb_at tb_X11_admit 45 rfl) (pc1 := 95) rfl ?_
    obtain ⟨b_33, q_34, h⟩ := ix_bd1_ex h
    refine iz_getR X fl_RX11_195 k_28 q_34 (ix_tb_at tb_X11_admit 46 rfl) (pc1 := 98) rfl ?_
    obtain ⟨k_35, h⟩ := ix_ck_some h
    refine iz_getI X fl_RX11_224 k_35 (ix_tb_at tb_X11_admit 47 rfl) (pc1 := 101) rfl ?_
    refine ix_iload_n (i := 2) (j := 2) X (ix_tb_at tb_X11_admit 48 rfl) rfl rfl (pc1 := 102) rfl ?_
    refine ix_isub X (ix_tb_at tb_X11_admit 49 rfl) (pc1 := 103) rfl ?_
    obtain ⟨d_36, e_37, h⟩ := ix_lt_ex h
    refine iz_putI X fp_RX11_168 k_30 (ix_tb_at tb_X11_admit 50 rfl) e_37 (pc1 := 106) rfl ?_
    refine ix_aload_n (i := 0) (j := 0) X (ix_tb_at tb_X11_admit 51 rfl) rfl rfl (pc1 := 107) rfl ?_
    obtain ⟨b_38, q_39, h⟩ := ix_bd1_ex h
    refine iz_getR X fl_RX11_34 k_25 q_39 (ix_tb_at tb_X11_admit 52 rfl) (pc1 := 110) rfl ?_
    refine ix_aload_n (i := 0) (j := 0) X (ix_tb_at tb_X11_admit 53 rfl) rfl rfl (pc1 := 111) rfl ?_
    refine iz_getI X fl_RX11_281 k_25 (ix_tb_at tb_X11_admit 54 rfl) (pc1 := 114) rfl ?_
    refine ix_aload_n (i := 1) (j := 1) X (ix_tb_at tb_X11_admit 55 rfl) rfl rfl (pc1 := 115) rfl ?_
    obtain ⟨k_40, h⟩ := ix_ck_some h
    obtain ⟨z_41, e_42, h⟩ := ix_lt_ex h
    refine iz_aast X k_40 k_30 (ix_tb_at tb_X11_admit 56 rfl) e_42 (pc1 := 116) rfl ?_
    refine ix_aload_n (i := 0) (j := 0) X (ix_tb_at tb_X11_admit 57 rfl) rfl rfl (pc1 := 117) rfl ?_
    refine ix_dup X (ix_tb_at tb_X11_admit 58 rfl) rfl (pc1 := 118) rfl ?_
    obtain ⟨k_43, h⟩ := ix_ck_some h
    refine iz_getI X fl_RX11_281 k_43 (ix_tb_at tb_X11_admit 59 rfl) (pc1 := 121) rfl ?_
    refine ix_iconst (v := 1) X (ix_tb_at tb_X11_admit 60 rfl) (by decide) (pc1 := 122) rfl ?_
    refine ix_iadd X (ix_tb_at tb_X11_admit 61 rfl) (pc1 := 123) rfl ?_
    obtain ⟨d_44, e_45, h⟩ := ix_lt_ex h
    refine iz_putI X fp_RX11_281 k_43 (ix_tb_at tb_X11_admit 62 rfl) e_45 (pc1 := 126) rfl ?_
    refine ix_aload_n (i := 0) (j := 0) X (ix_tb_at tb_X11_admit 63 rfl) rfl rfl (pc1 := 127) rfl ?_
    refine ix_iconst (v := 0) X (ix_tb_at tb_X11_admit 64 rfl) (by decide) (pc1 := 128) rfl ?_
    obtain ⟨d_46, e_47, h⟩ := ix_lt_ex h
    refine iz_putZ X fp_RX11_80 k_43 (ix_tb_at tb_X11_admit 65 rfl) (by decide) e_47 (pc1 := 131) rfl ?_
    refine ix_aload_n (i := 0) (j := 0) X (ix_tb_at tb_X11_admit 66 rfl) rfl rfl (pc1 := 132) rfl ?_
    refine iz_getI X fl_RX11_281 k_43 (ix_tb_at tb_X11_admit 67 rfl) (pc1 := 135) rfl ?_
    refine ix_iconst (v := 1) X (ix_tb_at tb_X11_admit 68 rfl) (by decide) (pc1 := 136) rfl ?_
    refine ix_isub X (ix_tb_at tb_X11_admit 69 rfl) (pc1 := 137) rfl ?_
    exact ix_iret X hr hlk (ix_r3 (f := fun r => some (.int r)) (g := ix_w) h) (ix_tb_at tb_X11_admit 70 rfl)
  · have h := ix_iff q_29 h
    refine ix_aload_n (i := 0) (j := 0) X (ix_tb_at tb_X11_admit 27 rfl) rfl rfl (pc1 := 59) rfl ?_
    refine iz_getR X fl_RX11_28 k_25 q_27 (ix_tb_at tb_X11_admit 28 rfl) (pc1 := 62) rfl ?_
    obtain ⟨b_48, q_49, h⟩ := ix_bd1_ex h
    refine iz_getR X fl_RX11_195 k_28 q_49 (ix_tb_at tb_X11_admit 29 rfl) (pc1 := 65) rfl ?_
    refine ix_iload_n (i := 2) (j := 2) X (ix_tb_at tb_X11_admit 30 rfl) rfl rfl (pc1 := 66) rfl ?_
    obtain ⟨k_52, h⟩ := ix_ck_some h
    obtain ⟨d_50, h_51, h⟩ := ix_bd1_ex h
    refine ix_callV (As := [.int x2]) (rest := []) (ci := 7) (T := TX7) (nf := 3) X mf_X7_shortenTo mi_X7_shortenTo ms_X7_shortenTo rfl (Nat.le_of_ble_eq_true rfl) ml_RX11_328 ⟨Nat.le_of_ble_eq_true rfl, Nat.le_of_ble_eq_true rfl⟩ ⟨Nat.le_of_ble_eq_true rfl, Nat.le_of_ble_eq_true rfl⟩ rfl (Nat.le_of_ble_eq_true rfl) (ix_tb_at tb_X11_admit 31 rfl) ⟨k_52.1, List.mem_singleton.mp k_52.2⟩ (c_X7_shortenTo hKp h_51) rfl (pc1 := 69) rfl ?_
    refine ix_aload_n (i := 0) (j := 0) X (ix_tb_at tb_X11_admit 32 rfl) rfl rfl (pc1 := 70) rfl ?_
    refine iz_getR X fl_RX11_28 k_25 q_27 (ix_tb_at tb_X11_admit 33 rfl) (pc1 := 73) rfl ?_
    refine ix_iload_n (i := 3) (j := 3) X (ix_tb_at tb_X11_admit 34 rfl) rfl rfl (pc1 := 74) rfl ?_
    obtain ⟨d_53, e_54, h⟩ := ix_lt_ex h
    refine iz_putI X fp_RX11_77 k_28 (ix_tb_at tb_X11_admit 35 rfl) e_54 (pc1 := 77) rfl ?_
    refine ix_aload_n (i := 0) (j := 0) X (ix_tb_at tb_X11_admit 36 rfl) rfl rfl (pc1 := 78) rfl ?_
    refine ix_sipush (v := (-1003)) X (ix_tb_at tb_X11_admit 37 rfl) (by decide) (pc1 := 81) rfl ?_
    obtain ⟨r_57, d_55, h_56, h⟩ := ix_bd2_ex h
    refine ix_callV (As := [.int ((-1003))]) (rest := []) (ci := 10) (T := TX11) (nf := 18) X mf_X11_refuse mi_X11_refuse ms_X11_refuse rfl (Nat.le_of_ble_eq_true rfl) ml_RX11_73 ⟨Nat.le_of_ble_eq_true rfl, Nat.le_of_ble_eq_true rfl⟩ ⟨Nat.le_of_ble_eq_true rfl, Nat.le_of_ble_eq_true rfl⟩ rfl (Nat.le_of_ble_eq_true rfl) (ix_tb_at tb_X11_admit 38 rfl) ⟨k_25.1, List.mem_singleton.mp k_25.2⟩ (c_X11_refuse hKp h_56) rfl (pc1 := 84) rfl ?_
    exact ix_iret X hr hlk (ix_r3 (f := fun r => some (.int r)) (g := ix_w) h) (ix_tb_at tb_X11_admit 39 rfl)
set_option maxRecDepth 20000 in
theorem c_X11_admit {l : Launch} {K : ix_Cx} (hKp : ix_Kp K) {n : Nat} {z : ix_Z} {a0 : Nat} {a1 : Nat} {d : ix_D2} {r : Int32} {z1 : ix_Z} {d1 : ix_D2} (h : f_X11_admit n z a0 a1 d = some (r, z1, d1)) : ix_M l K yX11_admit cX11_admit 4 (some .int) 6 146 1 14 [.ref (K.2.2.1 + a0), .ref (K.2.2.1 + a1)] (ix_w z d) (some (.int r)) (ix_w z1 d1) := by
  refine ix_met mf_X11_admit hKp (Nat.le_of_ble_eq_true rfl) ?_
  intro p e s m args below meth c hr hlk hnm X
  have X : ix_X p s m args c K cX11_admit RX11 4 := X
  show ix_G p l e (ix_rm 6 146 1 14) s m args below meth c (MQ below (ix_Post K (some (.int r)) (ix_w z1 d1)) args s 1 14 (ix_A K)) K 4 0 0 0 [(0, .ref (K.2.2.1 + a0)), (1, .ref (K.2.2.1 + a1))] [] (ix_w z d)
  unfold f_X11_admit at h
  refine ix_aload_n (i := 0) (j := 0) X (ix_tb_at tb_X11_admit 0 rfl) rfl rfl (pc1 := 1) rfl ?_
  obtain ⟨k_1, h⟩ := ix_ck_some h
  obtain ⟨b_2, q_3, h⟩ := ix_bd1_ex h
  refine iz_getR X fl_RX11_28 k_1 q_3 (ix_tb_at tb_X11_admit 1 rfl) (pc1 := 4) rfl ?_
  obtain ⟨k_4, h⟩ := ix_ck_some h
  obtain ⟨b_5, q_6, h⟩ := ix_bd1_ex h
  refine iz_getR X fl_RX11_195 k_4 q_6 (ix_tb_at tb_X11_admit 2 rfl) (pc1 := 7) rfl ?_
  obtain ⟨k_7, h⟩ := ix_ck_some h
  refine iz_getI X fl_RX11_224 k_7 (ix_tb_at tb_X11_admit 3 rfl) (pc1 := 10) rfl ?_
  obtain ⟨x2_8, e_9, h⟩ := ix_lt_ex h
  refine ix_nmi e_9 ?_
  refine ix_istore_n (i := 2) (L1 := [(2, .int x2_8), (0, .ref (K.2.2.1 + a0)), (1, .ref (K.2.2.1 + a1))]) X (ix_tb_at tb_X11_admit 4 rfl) rfl (Nat.le_of_ble_eq_true rfl) rfl (pc1 := 11) rfl ?_
  refine ix_aload_n (i := 0) (j := 1) X (ix_tb_at tb_X11_admit 5 rfl) rfl rfl (pc1 := 12) rfl ?_
  refine iz_getR X fl_RX11_28 k_1 q_3 (ix_tb_at tb_X11_admit 6 rfl) (pc1 := 15) rfl ?_
  refine iz_getI X fl_RX11_77 k_4 (ix_tb_at tb_X11_admit 7 rfl) (pc1 := 18) rfl ?_
  obtain ⟨x3_10, e_11, h⟩ := ix_lt_ex h
  refine ix_nmi e_11 ?_
  refine ix_istore_n (i := 3) (L1 := [(3, .int x3_10), (2, .int x2_8), (0, .ref (K.2.2.1 + a0)), (1, .ref (K.2.2.1 + a1))]) X (ix_tb_at tb_X11_admit 8 rfl) rfl (Nat.le_of_ble_eq_true rfl) rfl (pc1 := 19) rfl ?_
  refine ix_aload_n (i := 0) (j := 2) X (ix_tb_at tb_X11_admit 9 rfl) rfl rfl (pc1 := 20) rfl ?_
  refine iz_getR X fl_RX11_28 k_1 q_3 (ix_tb_at tb_X11_admit 10 rfl) (pc1 := 23) rfl ?_
  refine ix_aload_n (i := 0) (j := 2) X (ix_tb_at tb_X11_admit 11 rfl) rfl rfl (pc1 := 24) rfl ?_
  refine iz_getI X fl_RX11_281 k_1 (ix_tb_at tb_X11_admit 12 rfl) (pc1 := 27) rfl ?_
  refine ix_bipush (v := 60) X (ix_tb_at tb_X11_admit 13 rfl) (by decide) (pc1 := 29) rfl ?_
  refine ix_icmp_lt (tgt := 36) X (ix_tb_at tb_X11_admit 14 rfl) (by decide) (pc1 := 32) rfl (fun q_12 => ?_) (fun q_12 => ?_)
  · have h := ix_ift q_12 h
    refine ix_iconst (v := 0) X (ix_tb_at tb_X11_admit 17 rfl) (by decide) (pc1 := 37) rfl ?_
    refine ix_sub (L1 := [(0, .ref (K.2.2.1 + a0)), (1, .ref (K.2.2.1 + a1)), (2, .int x2_8), (3, .int x3_10)]) [2, 3, 1, 0] rfl ?_
    exact t_X11_admit_37 hKp X hr hlk  h
  · have h := ix_iff q_12 h
    refine ix_iconst (v := 1) X (ix_tb_at tb_X11_admit 15 rfl) (by decide) (pc1 := 33) rfl ?_
    refine ix_goto (tgt := 37) X (ix_tb_at tb_X11_admit 16 rfl) (by decide) ?_
    refine ix_sub (L1 := [(0, .ref (K.2.2.1 + a0)), (1, .ref (K.2.2.1 + a1)), (2, .int x2_8), (3, .int x3_10)]) [2, 3, 1, 0] rfl ?_
    exact t_X11_admit_37 hKp X hr hlk  h
def tab_X11_clause : List (Nat × Instr × Nat) := [(0, .aload_n 0, 1), (1, .iload_n 1, 1), (2, .invokevirtual 114, 3), (5, .istore_n 2, 1), (6, .iload_n 2, 1), (7, .ifCond .eq 11, 3), (10, .aload_n 0, 1), (11, .iload_n 2, 1), (12, .invokevirtual 73, 3), (15, .goto 19, 3), (18, .aload_n 0, 1), (19, .new 117, 3), (22, .dup, 1), (23, .aload_n 0, 1), (24, .iload_n 1, 1), (25, .invokevirtual 119, 3), (28, .invokespecial 123, 3), (31, .invokevirtual 126, 3), (34, .ireturn, 1)]
theorem tb_X11_clause : ix_tab cX11_clause tab_X11_clause := by
  unfold ix_tab
  decide +kernel
noncomputable def f_X11_clause (n : Nat) (z : ix_Z) (a0 : Nat) (x1 : Int32) (d : ix_D2) : Option (Int32 × ix_Z × ix_D2) :=
  ix_ck (ix_ok z [10] a0) (ix_bd2 (f_X11_lookForItems n z a0 x1 d) (fun r_4 d_1 => ix_if (r_4 = 0) (ix_lt (ix_zn z 3 3) (fun z_6 => ix_lt (ix_dn d_1 z.2.2) (fun d_8 => ix_ck (ix_ok z_6 [10] a0) (ix_bd3 (f_X11_itemsOf n z_6 a0 x1 d_8) (fun r_14 z_13 d_10 => ix_bd1 r_14 (fun b_15 => ix_bd2 (f_X3_init n z_13 (z.2.2) b_15 d_10) (fun z_19 d_17 => ix_ck (ix_ok z_19 [10] a0) (ix_bd3 (f_X11_admit n z_19 a0 (z.2.2) d_17) (fun r_25 z_24 d_21 => some (r_25, z_24, d_21)))))))))) (ix_bd2 (f_X11_refuse n z a0 r_4 d_1) (fun r_28 d_26 => some (r_28, z, d_26)))))
set_option maxRecDepth 20000 in
theorem c_X11_clause {l : Launch} {K : ix_Cx} (hKp : ix_Kp K) {n : Nat} {z : ix_Z} {a0 : Nat} {x1 : Int32} {d : ix_D2} {r : Int32} {z1 : ix_Z} {d1 : ix_D2} (h : f_X11_clause n z a0 x1 d = some (r, z1, d1)) : ix_M l K yX11_clause cX11_clause 3 (some .int) 7 169 3 81 [.ref (K.2.2.1 + a0), .int x1] (ix_w z d) (some (.int r)) (ix_w z1 d1) := by
  refine ix_met mf_X11_clause hKp (Nat.le_of_ble_eq_true rfl) ?_
  intro p e s m args below meth c hr hlk hnm X
  have X : ix_X p s m args c K cX11_clause RX11 3 := X
  show ix_G p l e (ix_rm 7 169 3 81) s m args below meth c (MQ below (ix_Post K (some (.int r)) (ix_w z1 d1)) args s 3 81 (ix_A K)) K 3 0 0 0 [(0, .ref (K.2.2.1 + a0)), (1, .int x1)] [] (ix_w z d)
  unfold f_X11_clause at h
  refine ix_aload_n (i := 0) (j := 0) X (ix_tb_at tb_X11_clause 0 rfl) rfl rfl (pc1 := 1) rfl ?_
  refine ix_iload_n (i := 1) (j := 1) X (ix_tb_at tb_X11_clause 1 rfl) rfl rfl (pc1 := 2) rfl ?_
  obtain ⟨k_3, h⟩ := ix_ck_some h
  obtain ⟨r_4, d_1, h_2, h⟩ := ix_bd2_ex h
  refine ix_callV (As := [.int x1]) (rest := []) (ci := 10) (T := TX11) (nf := 18) X mf_X11_lookForItems mi_X11_lookForItems ms_X11_lookForItems rfl (Nat.le_of_ble_eq_true rfl) ml_RX11_114 ⟨Nat.le_of_ble_eq_true rfl, Nat.le_of_ble_eq_true rfl⟩ ⟨Nat.le_of_ble_eq_true rfl, Nat.le_of_ble_eq_true rfl⟩ rfl (Nat.le_of_ble_eq_true rfl) (ix_tb_at tb_X11_clause 2 rfl) ⟨k_3.1, List.mem_singleton.mp k_3.2⟩ (c_X11_lookForItems hKp h_2) rfl (pc1 := 5) rfl ?_
  refine ix_istore_n (i := 2) (L1 := [(2, .int r_4), (0, .ref (K.2.2.1 + a0)), (1, .int x1)]) X (ix_tb_at tb_X11_clause 3 rfl) rfl (Nat.le_of_ble_eq_true rfl) rfl (pc1 := 6) rfl ?_
  refine ix_iload_n (i := 2) (j := 0) X (ix_tb_at tb_X11_clause 4 rfl) rfl rfl (pc1 := 7) rfl ?_
  refine ix_if_eq (tgt := 18) X (ix_tb_at tb_X11_clause 5 rfl) (by decide) (pc1 := 10) rfl (fun q_5 => ?_) (fun q_5 => ?_)
  · have h := ix_ift q_5 h
    refine ix_aload_n (i := 0) (j := 1) X (ix_tb_at tb_X11_clause 10 rfl) rfl rfl (pc1 := 19) rfl ?_
    obtain ⟨z_6, e_7, h⟩ := ix_lt_ex h
    obtain ⟨d_8, e_9, h⟩ := ix_lt_ex h
    refine iz_new (ci := 3) (pl := 482) (pi := 483) (pj := 12) (N := 3) (C := RX3) (T := TX3) X rfl (by decide) (by decide +kernel) (by decide +kernel) (by decide +kernel) (Nat.le_of_ble_eq_true rfl) (Nat.le_of_ble_eq_true rfl) (ix_tb_at tb_X11_clause 11 rfl) e_7 e_9 (pc1 := 22) rfl ?_
    refine ix_dup X (ix_tb_at tb_X11_clause 12 rfl) rfl (pc1 := 23) rfl ?_
    refine ix_aload_n (i := 0) (j := 1) X (ix_tb_at tb_X11_clause 13 rfl) rfl rfl (pc1 := 24) rfl ?_
    refine ix_iload_n (i := 1) (j := 2) X (ix_tb_at tb_X11_clause 14 rfl) rfl rfl (pc1 := 25) rfl ?_
    obtain ⟨k_12, h⟩ := ix_ck_some h
    obtain ⟨r_14, z_13, d_10, h_11, h⟩ := ix_bd3_ex h
    refine ix_callV (As := [.int x1]) (rest := [.ref (K.2.2.1 + (z.2.2)), .ref (K.2.2.1 + (z.2.2)), .ref (K.2.2.1 + a0)]) (ci := 10) (T := TX11) (nf := 18) X mf_X11_itemsOf mi_X11_itemsOf ms_X11_itemsOf rfl (Nat.le_of_ble_eq_true rfl) ml_RX11_119 ⟨Nat.le_of_ble_eq_true rfl, Nat.le_of_ble_eq_true rfl⟩ ⟨Nat.le_of_ble_eq_true rfl, Nat.le_of_ble_eq_true rfl⟩ rfl (Nat.le_of_ble_eq_true rfl) (ix_tb_at tb_X11_clause 15 rfl) ⟨k_12.1, List.mem_singleton.mp k_12.2⟩ (c_X11_itemsOf hKp h_11) rfl (pc1 := 28) rfl ?_
    obtain ⟨b_15, q_16, h⟩ := ix_bd1_ex h
    refine ix_rvs q_16 ?_
    obtain ⟨z_19, d_17, h_18, h⟩ := ix_bd2_ex h
    refine ix_callI (As := [.ref (K.2.2.1 + b_15)]) (rest := [.ref (K.2.2.1 + (z.2.2)), .ref (K.2.2.1 + a0)]) X mf_X3_init mi_X3_init rfl ml_RX11_123 ⟨Nat.le_of_ble_eq_true rfl, Nat.le_of_ble_eq_true rfl⟩ ⟨Nat.le_of_ble_eq_true rfl, Nat.le_of_ble_eq_true rfl⟩ rfl (Nat.le_of_ble_eq_true rfl) (ix_tb_at tb_X11_clause 16 rfl) (c_X3_init hKp h_18) rfl (pc1 := 31) rfl ?_
    obtain ⟨k_23, h⟩ := ix_ck_some h
    obtain ⟨r_25, z_24, d_21, h_22, h⟩ := ix_bd3_ex h
    refine ix_callV (As := [.ref (K.2.2.1 + (z.2.2))]) (rest := []) (ci := 10) (T := TX11) (nf := 18) X mf_X11_admit mi_X11_admit ms_X11_admit rfl (Nat.le_of_ble_eq_true rfl) ml_RX11_126 ⟨Nat.le_of_ble_eq_true rfl, Nat.le_of_ble_eq_true rfl⟩ ⟨Nat.le_of_ble_eq_true rfl, Nat.le_of_ble_eq_true rfl⟩ rfl (Nat.le_of_ble_eq_true rfl) (ix_tb_at tb_X11_clause 17 rfl) ⟨k_23.1, List.mem_singleton.mp k_23.2⟩ (c_X11_admit hKp h_22) rfl (pc1 := 34) rfl ?_
    exact ix_iret X hr hlk (ix_r3 (f := fun r => some (.int r)) (g := ix_w) h) (ix_tb_at tb_X11_clause 18 rfl)
  · have h := ix_iff q_5 h
    refine ix_aload_n (i := 0) (j := 1) X (ix_tb_at tb_X11_clause 6 rfl) rfl rfl (pc1 := 11) rfl ?_
    refine ix_iload_n (i := 2) (j := 0) X (ix_tb_at tb_X11_clause 7 rfl) rfl rfl (pc1 := 12) rfl ?_
    obtain ⟨r_28, d_26, h_27, h⟩ := ix_bd2_ex h
    refine ix_callV (As := [.int r_4]) (rest := []) (ci := 10) (T := TX11) (nf := 18) X mf_X11_refuse mi_X11_refuse ms_X11_refuse rfl (Nat.le_of_ble_eq_true rfl) ml_RX11_73 ⟨Nat.le_of_ble_eq_true rfl, Nat.le_of_ble_eq_true rfl⟩ ⟨Nat.le_of_ble_eq_true rfl, Nat.le_of_ble_eq_true rfl⟩ rfl (Nat.le_of_ble_eq_true rfl) (ix_tb_at tb_X11_clause 8 rfl) ⟨k_3.1, List.mem_singleton.mp k_3.2⟩ (c_X11_refuse hKp h_27) rfl (pc1 := 15) rfl ?_
    refine ix_goto (tgt := 34) X (ix_tb_at tb_X11_clause 9 rfl) (by decide) ?_
    refine ix_widen (k1 := 3) (n1 := 81) (Nat.le_of_ble_eq_true rfl) (Nat.le_of_ble_eq_true rfl) ?_
    exact ix_iret X hr hlk (ix_r3 (f := fun r => some (.int r)) (g := ix_w) h) (ix_tb_at tb_X11_clause 18 rfl)
def tab_X11_atMost : List (Nat × Instr × Nat) := [(0, .iload_n 2, 1), (1, .ifCond .lt 9, 3), (4, .iload_n 2, 1), (5, .bipush 12, 2), (7, .if_icmp .le 11, 3), (10, .aload_n 0, 1), (11, .sipush (-1001), 3), (14, .invokevirtual 73, 3), (17, .ireturn, 1), (18, .aload_n 0, 1), (19, .iload_n 1, 1), (20, .invokevirtual 114, 3), (23, .istore_n 3, 1), (24, .iload_n 3, 1), (25, .ifCond .eq 11, 3), (28, .aload_n 0, 1), (29, .iload_n 3, 1), (30, .invokevirtual 73, 3), (33, .goto 20, 3), (36, .aload_n 0, 1), (37, .new 130, 3), (40, .dup, 1), (41, .aload_n 0, 1), (42, .iload_n 1, 1), (43, .invokevirtual 119, 3), (46, .iload_n 2, 1), (47, .invokespecial 132, 3), (50, .invokevirtual 126, 3), (53, .ireturn, 1)]
theorem tb_X11_atMost : ix_tab cX11_atMost tab_X11_atMost := by
  unfold ix_tab
  decide +kernel
noncomputable def f_X11_atMost_10 (n : Nat) (z : ix_Z)  (a0 : Nat) (d : ix_D2) : Option (Int32 × ix_Z × ix_D2) :=
  ix_ck (ix_ok z [10] a0) (ix_bd2 (f_X11_refuse n z a0 ((-1001)) d) (fun r_5 d_2 => some (r_5, z, d_2)))
noncomputable def f_X11_atMost (n : Nat) (z : ix_Z) (a0 : Nat) (x1 : Int32) (x2 : Int32) (d : ix_D2) : Option (Int32 × ix_Z × ix_D2) :=
  ix_if (x2 < 0) (f_X11_atMost_10 n z  a0 d) (ix_if (x2 ≤ 12) (ix_ck (ix_ok z [10] a0) (ix_bd2 (f_X11_lookForItems n z a0 x1 d) (fun r_10 d_7 => ix_if (r_10 = 0) (ix_lt (ix_zn z 0 4) (fun z_12 => ix_lt (ix_dn d_7 z.2.2) (fun d_14 => ix_ck (ix_ok z_12 [10] a0) (ix_bd3 (f_X11_itemsOf n z_12 a0 x1 d_14) (fun r_20 z_19 d_16 => ix_bd1 r_20 (fun b_21 => ix_bd2 (f_X0_init n z_19 (z.2.2) b_21 x2 d_16) (fun z_25 d_23 => ix_ck (ix_ok z_25 [10] a0) (ix_bd3 (f_X11_admit n z_25 a0 (z.2.2) d_23) (fun r_31 z_30 d_27 => some (r_31, z_30, d_27)))))))))) (ix_bd2 (f_X11_refuse n z a0 r_10 d_7) (fun r_34 d_32 => some (r_34, z, d_32)))))) (f_X11_atMost_10 n z  a0 d))
set_option maxRecDepth 20000 in
theorem t_X11_atMost_10 {l : Launch} {p : Program} {e : Env} {s : State} {m : MethodId} {args : Array Value} {below : List Frame} {meth : Method} {c : Code} {K : ix_Cx} (hKp : ix_Kp K) {n : Nat} {z : ix_Z} (X : ix_X p s m args c K cX11_atMost RX11 4) (hr : meth.sig.returnType = (some .int)) (hlk : meth.locks = false)  {a0 : Nat} {r : Int32} {z1 : ix_Z} {d1 : ix_D2}  {d : ix_D2} (h : f_X11_atMost_10 n z  a0 d = some (r, z1, d1)) : ix_G p l e (ix_rm 7 169 3 82) s m args below meth c (MQ below (ix_Post K (some (.int r)) (ix_w z1 d1)) args s 3 82 (ix_A K)) K 4 0 0 10 [(0, .ref (K.2.2.1 + a0))] [] (ix_w z d) := by
  unfold f_X11_atMost_10 at h
  refine ix_aload_n (i := 0) (j := 0) X (ix_tb_at tb_X11_atMost 5 rfl) rfl rfl (pc1 := 11) rfl ?_
  refine ix_sipush (v := (-1001)) X (ix_tb_at tb_X11_atMost 6 rfl) (by decide) (pc1 := 14) rfl ?_
  obtain ⟨k_4, h⟩ := ix_ck_some h
  obtain ⟨r_5, d_2, h_3, h⟩ := ix_bd2_ex h
  refine ix_callV (As := [.int ((-1001))]) (rest := []) (ci := 10) (T := TX11) (nf := 18) X mf_X11_refuse mi_X11_refuse ms_X11_refuse rfl (Nat.le_of_ble_eq_true rfl) ml_RX11_73 ⟨Nat.le_of_ble_eq_true rfl, Nat.le_of_ble_eq_true rfl⟩ ⟨Nat.le_of_ble_eq_true rfl, Nat.le_of_ble_eq_true rfl⟩ rfl (Nat.le_of_ble_eq_true rfl) (ix_tb_at tb_X11_atMost 7 rfl) ⟨k_4.1, List.mem_singleton.mp k_4.2⟩ (c_X11_refuse hKp h_3) rfl (pc1 := 17) rfl ?_
  refine ix_widen (k1 := 3) (n1 := 82) (Nat.le_of_ble_eq_true rfl) (Nat.le_of_ble_eq_true rfl) ?_
  exact ix_iret X hr hlk (ix_r3 (f := fun r => some (.int r)) (g := ix_w) h) (ix_tb_at tb_X11_atMost 8 rfl)
set_option maxRecDepth 20000 in
theorem c_X11_atMost {l : Launch} {K : ix_Cx} (hKp : ix_Kp K) {n : Nat} {z : ix_Z} {a0 : Nat} {x1 : Int32} {x2 : Int32} {d : ix_D2} {r : Int32} {z1 : ix_Z} {d1 : ix_D2} (h : f_X11_atMost n z a0 x1 x2 d = some (r, z1, d1)) : ix_M l K yX11_atMost cX11_atMost 4 (some .int) 7 169 3 82 [.ref (K.2.2.1 + a0), .int x1, .int x2] (ix_w z d) (some (.int r)) (ix_w z1 d1) := by
  refine ix_met mf_X11_atMost hKp (Nat.le_of_ble_eq_true rfl) ?_
  intro p e s m args below meth c hr hlk hnm X
  have X : ix_X p s m args c K cX11_atMost RX11 4 := X
  show ix_G p l e (ix_rm 7 169 3 82) s m args below meth c (MQ below (ix_Post K (some (.int r)) (ix_w z1 d1)) args s 3 82 (ix_A K)) K 4 0 0 0 [(0, .ref (K.2.2.1 + a0)), (1, .int x1), (2, .int x2)] [] (ix_w z d)
  unfold f_X11_atMost at h
  refine ix_iload_n (i := 2) (j := 2) X (ix_tb_at tb_X11_atMost 0 rfl) rfl rfl (pc1 := 1) rfl ?_
  refine ix_if_lt (tgt := 10) X (ix_tb_at tb_X11_atMost 1 rfl) (by decide) (pc1 := 4) rfl (fun q_1 => ?_) (fun q_1 => ?_)
  · have h := ix_ift q_1 h
    refine ix_sub (L1 := [(0, .ref (K.2.2.1 + a0))]) [0] rfl ?_
    exact t_X11_atMost_10 hKp X hr hlk  h
  · have h := ix_iff q_1 h
    refine ix_iload_n (i := 2) (j := 2) X (ix_tb_at tb_X11_atMost 2 rfl) rfl rfl (pc1 := 5) rfl ?_
    refine ix_bipush (v := 12) X (ix_tb_at tb_X11_atMost 3 rfl) (by decide) (pc1 := 7) rfl ?_
    refine ix_icmp_le (tgt := 18) X (ix_tb_at tb_X11_atMost 4 rfl) (by decide) (pc1 := 10) rfl (fun q_6 => ?_) (fun q_6 => ?_)
    · have h := ix_ift q_6 h
      refine ix_aload_n (i := 0) (j := 0) X (ix_tb_at tb_X11_atMost 9 rfl) rfl rfl (pc1 := 19) rfl ?_
      refine ix_iload_n (i := 1) (j := 1) X (ix_tb_at tb_X11_atMost 10 rfl) rfl rfl (pc1 := 20) rfl ?_
      obtain ⟨k_9, h⟩ := ix_ck_some h
      obtain ⟨r_10, d_7, h_8, h⟩ := ix_bd2_ex h
      refine ix_callV (As := [.int x1]) (rest := []) (ci := 10) (T := TX11) (nf := 18) X mf_X11_lookForItems mi_X11_lookForItems ms_X11_lookForItems rfl (Nat.le_of_ble_eq_true rfl) ml_RX11_114 ⟨Nat.le_of_ble_eq_true rfl, Nat.le_of_ble_eq_true rfl⟩ ⟨Nat.le_of_ble_eq_true rfl, Nat.le_of_ble_eq_true rfl⟩ rfl (Nat.le_of_ble_eq_true rfl) (ix_tb_at tb_X11_atMost 11 rfl) ⟨k_9.1, List.mem_singleton.mp k_9.2⟩ (c_X11_lookForItems hKp h_8) rfl (pc1 := 23) rfl ?_
      refine ix_istore_n (i := 3) (L1 := [(3, .int r_10), (0, .ref (K.2.2.1 + a0)), (1, .int x1), (2, .int x2)]) X (ix_tb_at tb_X11_atMost 12 rfl) rfl (Nat.le_of_ble_eq_true rfl) rfl (pc1 := 24) rfl ?_
      refine ix_iload_n (i := 3) (j := 0) X (ix_tb_at tb_X11_atMost 13 rfl) rfl rfl (pc1 := 25) rfl ?_
      refine ix_if_eq (tgt := 36) X (ix_tb_at tb_X11_atMost 14 rfl) (by decide) (pc1 := 28) rfl (fun q_11 => ?_) (fun q_11 => ?_)
      · have h := ix_ift q_11 h
        refine ix_aload_n (i := 0) (j := 1) X (ix_tb_at tb_X11_atMost 19 rfl) rfl rfl (pc1 := 37) rfl ?_
        obtain ⟨z_12, e_13, h⟩ := ix_lt_ex h
        obtain ⟨d_14, e_15, h⟩ := ix_lt_ex h
        refine iz_new (ci := 0) (pl := 632) (pi := 633) (pj := 15) (N := 4) (C := RX0) (T := TX0) X rfl (by decide) (by decide +kernel) (by decide +kernel) (by decide +kernel) (Nat.le_of_ble_eq_true rfl) (Nat.le_of_ble_eq_true rfl) (ix_tb_at tb_X11_atMost 20 rfl) e_13 e_15 (pc1 := 40) rfl ?_
        refine ix_dup X (ix_tb_at tb_X11_atMost 21 rfl) rfl (pc1 := 41) rfl ?_
        refine ix_aload_n (i := 0) (j := 1) X (ix_tb_at tb_X11_atMost 22 rfl) rfl rfl (pc1 := 42) rfl ?_
        refine ix_iload_n (i := 1) (j := 2) X (ix_tb_at tb_X11_atMost 23 rfl) rfl rfl (pc1 := 43) rfl ?_
        obtain ⟨k_18, h⟩ := ix_ck_some h
        obtain ⟨r_20, z_19, d_16, h_17, h⟩ := ix_bd3_ex h
        refine ix_callV (As := [.int x1]) (rest := [.ref (K.2.2.1 + (z.2.2)), .ref (K.2.2.1 + (z.2.2)), .ref (K.2.2.1 + a0)]) (ci := 10) (T := TX11) (nf := 18) X mf_X11_itemsOf mi_X11_itemsOf ms_X11_itemsOf rfl (Nat.le_of_ble_eq_true rfl) ml_RX11_119 ⟨Nat.le_of_ble_eq_true rfl, Nat.le_of_ble_eq_true rfl⟩ ⟨Nat.le_of_ble_eq_true rfl, Nat.le_of_ble_eq_true rfl⟩ rfl (Nat.le_of_ble_eq_true rfl) (ix_tb_at tb_X11_atMost 24 rfl) ⟨k_18.1, List.mem_singleton.mp k_18.2⟩ (c_X11_itemsOf hKp h_17) rfl (pc1 := 46) rfl ?_
        obtain ⟨b_21, q_22, h⟩ := ix_bd1_ex h
        refine ix_rvs q_22 ?_
        refine ix_iload_n (i := 2) (j := 3) X (ix_tb_at tb_X11_atMost 25 rfl) rfl rfl (pc1 := 47) rfl ?_
        obtain ⟨z_25, d_23, h_24, h⟩ := ix_bd2_ex h
        refine ix_callI (As := [.ref (K.2.2.1 + b_21), .int x2]) (rest := [.ref (K.2.2.1 + (z.2.2)), .ref (K.2.2.1 + a0)]) X mf_X0_init mi_X0_init rfl ml_RX11_132 ⟨Nat.le_of_ble_eq_true rfl, Nat.le_of_ble_eq_true rfl⟩ ⟨Nat.le_of_ble_eq_true rfl, Nat.le_of_ble_eq_true rfl⟩ rfl (Nat.le_of_ble_eq_true rfl) (ix_tb_at tb_X11_atMost 26 rfl) (c_X0_init hKp h_24) rfl (pc1 := 50) rfl ?_
        obtain ⟨k_29, h⟩ := ix_ck_some h
        obtain ⟨r_31, z_30, d_27, h_28, h⟩ := ix_bd3_ex h
        refine ix_callV (As := [.ref (K.2.2.1 + (z.2.2))]) (rest := []) (ci := 10) (T := TX11) (nf := 18) X mf_X11_admit mi_X11_admit ms_X11_admit rfl (Nat.le_of_ble_eq_true rfl) ml_RX11_126 ⟨Nat.le_of_ble_eq_true rfl, Nat.le_of_ble_eq_true rfl⟩ ⟨Nat.le_of_ble_eq_true rfl, Nat.le_of_ble_eq_true rfl⟩ rfl (Nat.le_of_ble_eq_true rfl) (ix_tb_at tb_X11_atMost 27 rfl) ⟨k_29.1, List.mem_singleton.mp k_29.2⟩ (c_X11_admit hKp h_28) rfl (pc1 := 53) rfl ?_
        exact ix_iret X hr hlk (ix_r3 (f := fun r => some (.int r)) (g := ix_w) h) (ix_tb_at tb_X11_atMost 28 rfl)
      · have h := ix_iff q_11 h
        refine ix_aload_n (i := 0) (j := 1) X (ix_tb_at tb_X11_atMost 15 rfl) rfl rfl (pc1 := 29) rfl ?_
        refine ix_iload_n (i := 3) (j := 0) X (ix_tb_at tb_X11_atMost 16 rfl) rfl rfl (pc1 := 30) rfl ?_
        obtain ⟨r_34, d_32, h_33, h⟩ := ix_bd2_ex h
        refine ix_callV (As := [.int r_10]) (rest := []) (ci := 10) (T := TX11) (nf := 18) X mf_X11_refuse mi_X11_refuse ms_X11_refuse rfl (Nat.le_of_ble_eq_true rfl) ml_RX11_73 ⟨Nat.le_of_ble_eq_true rfl, Nat.le_of_ble_eq_true rfl⟩ ⟨Nat.le_of_ble_eq_true rfl, Nat.le_of_ble_eq_true rfl⟩ rfl (Nat.le_of_ble_eq_true rfl) (ix_tb_at tb_X11_atMost 17 rfl) ⟨k_9.1, List.mem_singleton.mp k_9.2⟩ (c_X11_refuse hKp h_33) rfl (pc1 := 33) rfl ?_
        refine ix_goto (tgt := 53) X (ix_tb_at tb_X11_atMost 18 rfl) (by decide) ?_
        refine ix_widen (k1 := 3) (n1 := 82) (Nat.le_of_ble_eq_true rfl) (Nat.le_of_ble_eq_true rfl) ?_
        exact ix_iret X hr hlk (ix_r3 (f := fun r => some (.int r)) (g := ix_w) h) (ix_tb_at tb_X11_atMost 28 rfl)
    · have h := ix_iff q_6 h
      refine ix_sub (L1 := [(0, .ref (K.2.2.1 + a0))]) [0] rfl ?_
      exact t_X11_atMost_10 hKp X hr hlk  h
def tab_X11_group : List (Nat × Instr × Nat) := [(0, .iload_n 2, 1), (1, .ifCond .lt 9, 3), (4, .iload_n 2, 1), (5, .bipush 12, 2), (7, .if_icmp .le 11, 3), (10, .aload_n 0, 1), (11, .sipush (-1001), 3), (14, .invokevirtual 73, 3), (17, .ireturn, 1), (18, .aload_n 0, 1), (19, .iload_n 1, 1), (20, .invokevirtual 114, 3), (23, .istore_n 3, 1), (24, .iload_n 3, 1), (25, .ifCond .eq 11, 3), (28, .aload_n 0, 1), (29, .iload_n 3, 1), (30, .invokevirtual 73, 3), (33, .goto 20, 3), (36, .aload_n 0, 1), (37, .new 134, 3), (40, .dup, 1), (41, .aload_n 0, 1), (42, .iload_n 1, 1), (43, .invokevirtual 119, 3), (46, .iload_n 2, 1), (47, .invokespecial 136, 3), (50, .invokevirtual 126, 3), (53, .ireturn, 1)]
theorem tb_X11_group : ix_tab cX11_group tab_X11_group := by
  unfold ix_tab
  decide +kernel
noncomputable def f_X11_group_10 (n : Nat) (z : ix_Z)  (a0 : Nat) (d : ix_D2) : Option (Int32 × ix_Z × ix_D2) :=
  ix_ck (ix_ok z [10] a0) (ix_bd2 (f_X11_refuse n z a0 ((-1001)) d) (fun r_5 d_2 => some (r_5, z, d_2)))
noncomputable def f_X11_group (n : Nat) (z : ix_Z) (a0 : Nat) (x1 : Int32) (x2 : Int32) (d : ix_D2) : Option (Int32 × ix_Z × ix_D2) :=
  ix_if (x2 < 0) (f_X11_group_10 n z  a0 d) (ix_if (x2 ≤ 12) (ix_ck (ix_ok z [10] a0) (ix_bd2 (f_X11_lookForItems n z a0 x1 d) (fun r_10 d_7 => ix_if (r_10 = 0) (ix_lt (ix_zn z 5 4) (fun z_12 => ix_lt (ix_dn d_7 z.2.2) (fun d_14 => ix_ck (ix_ok z_12 [10] a0) (ix_bd3 (f_X11_itemsOf n z_12 a0 x1 d_14) (fun r_20 z_19 d_16 => ix_bd1 r_20 (fun b_21 => ix_bd2 (f_X5_init n z_19 (z.2.2) b_21 x2 d_16) (fun z_25 d_23 => ix_ck (ix_ok z_25 [10] a0) (ix_bd3 (f_X11_admit n z_25 a0 (z.2.2) d_23) (fun r_31 z_30 d_27 => some (r_31, z_30, d_27)))))))))) (ix_bd2 (f_X11_refuse n z a0 r_10 d_7) (fun r_34 d_32 => some (r_34, z, d_32)))))) (f_X11_group_10 n z  a0 d))
set_option maxRecDepth 20000 in
theorem t_X11_group_10 {l : Launch} {p : Program} {e : Env} {s : State} {m : MethodId} {args : Array Value} {below : List Frame} {meth : Method} {c : Code} {K : ix_Cx} (hKp : ix_Kp K) {n : Nat} {z : ix_Z} (X : ix_X p s m args c K cX11_group RX11 4) (hr : meth.sig.returnType = (some .int)) (hlk : meth.locks = false)  {a0 : Nat} {r : Int32} {z1 : ix_Z} {d1 : ix_D2}  {d : ix_D2} (h : f_X11_group_10 n z  a0 d = some (r, z1, d1)) : ix_G p l e (ix_rm 7 169 3 82) s m args below meth c (MQ below (ix_Post K (some (.int r)) (ix_w z1 d1)) args s 3 82 (ix_A K)) K 4 0 0 10 [(0, .ref (K.2.2.1 + a0))] [] (ix_w z d) := by
  unfold f_X11_group_10 at h
  refine ix_aload_n (i := 0) (j := 0) X (ix_tb_at tb_X11_group 5 rfl) rfl rfl (pc1 := 11) rfl ?_
  refine ix_sipush (v := (-1001)) X (ix_tb_at tb_X11_group 6 rfl) (by decide) (pc1 := 14) rfl ?_
  obtain ⟨k_4, h⟩ := ix_ck_some h
  obtain ⟨r_5, d_2, h_3, h⟩ := ix_bd2_ex h
  refine ix_callV (As := [.int ((-1001))]) (rest := []) (ci := 10) (T := TX11) (nf := 18) X mf_X11_refuse mi_X11_refuse ms_X11_refuse rfl (Nat.le_of_ble_eq_true rfl) ml_RX11_73 ⟨Nat.le_of_ble_eq_true rfl, Nat.le_of_ble_eq_true rfl⟩ ⟨Nat.le_of_ble_eq_true rfl, Nat.le_of_ble_eq_true rfl⟩ rfl (Nat.le_of_ble_eq_true rfl) (ix_tb_at tb_X11_group 7 rfl) ⟨k_4.1, List.mem_singleton.mp k_4.2⟩ (c_X11_refuse hKp h_3) rfl (pc1 := 17) rfl ?_
  refine ix_widen (k1 := 3) (n1 := 82) (Nat.le_of_ble_eq_true rfl) (Nat.le_of_ble_eq_true rfl) ?_
  exact ix_iret X hr hlk (ix_r3 (f := fun r => some (.int r)) (g := ix_w) h) (ix_tb_at tb_X11_group 8 rfl)
set_option maxRecDepth 20000 in
theorem c_X11_group {l : Launch} {K : ix_Cx} (hKp : ix_Kp K) {n : Nat} {z : ix_Z} {a0 : Nat} {x1 : Int32} {x2 : Int32} {d : ix_D2} {r : Int32} {z1 : ix_Z} {d1 : ix_D2} (h : f_X11_group n z a0 x1 x2 d = some (r, z1, d1)) : ix_M l K yX11_group cX11_group 4 (some .int) 7 169 3 82 [.ref (K.2.2.1 + a0), .int x1, .int x2] (ix_w z d) (some (.int r)) (ix_w z1 d1) := by
  refine ix_met mf_X11_group hKp (Nat.le_of_ble_eq_true rfl) ?_
  intro p e s m args below meth c hr hlk hnm X
  have X : ix_X p s m args c K cX11_group RX11 4 := X
  show ix_G p l e (ix_rm 7 169 3 82) s m args below meth c (MQ below (ix_Post K (some (.int r)) (ix_w z1 d1)) args s 3 82 (ix_A K)) K 4 0 0 0 [(0, .ref (K.2.2.1 + a0)), (1, .int x1), (2, .int x2)] [] (ix_w z d)
  unfold f_X11_group at h
  refine ix_iload_n (i := 2) (j := 2) X (ix_tb_at tb_X11_group 0 rfl) rfl rfl (pc1 := 1) rfl ?_
  refine ix_if_lt (tgt := 10) X (ix_tb_at tb_X11_group 1 rfl) (by decide) (pc1 := 4) rfl (fun q_1 => ?_) (fun q_1 => ?_)
  · have h := ix_ift q_1 h
    refine ix_sub (L1 := [(0, .ref (K.2.2.1 + a0))]) [0] rfl ?_
    exact t_X11_group_10 hKp X hr hlk  h
  · have h := ix_iff q_1 h
    refine ix_iload_n (i := 2) (j := 2) X (ix_tb_at tb_X11_group 2 rfl) rfl rfl (pc1 := 5) rfl ?_
    refine ix_bipush (v := 12) X (ix_tb_at tb_X11_group 3 rfl) (by decide) (pc1 := 7) rfl ?_
    refine ix_icmp_le (tgt := 18) X (ix_tb_at tb_X11_group 4 rfl) (by decide) (pc1 := 10) rfl (fun q_6 => ?_) (fun q_6 => ?_)
    · have h := ix_ift q_6 h
      refine ix_aload_n (i := 0) (j := 0) X (ix_tb_at tb_X11_group 9 rfl) rfl rfl (pc1 := 19) rfl ?_
      refine ix_iload_n (i := 1) (j := 1) X (ix_tb_at tb_X11_group 10 rfl) rfl rfl (pc1 := 20) rfl ?_
      obtain ⟨k_9, h⟩ := ix_ck_some h
      obtain ⟨r_10, d_7, h_8, h⟩ := ix_bd2_ex h
      refine ix_callV (As := [.int x1]) (rest := []) (ci := 10) (T := TX11) (nf := 18) X mf_X11_lookForItems mi_X11_lookForItems ms_X11_lookForItems rfl (Nat.le_of_ble_eq_true rfl) ml_RX11_114 ⟨Nat.le_of_ble_eq_true rfl, Nat.le_of_ble_eq_true rfl⟩ ⟨Nat.le_of_ble_eq_true rfl, Nat.le_of_ble_eq_true rfl⟩ rfl (Nat.le_of_ble_eq_true rfl) (ix_tb_at tb_X11_group 11 rfl) ⟨k_9.1, List.mem_singleton.mp k_9.2⟩ (c_X11_lookForItems hKp h_8) rfl (pc1 := 23) rfl ?_
      refine ix_istore_n (i := 3) (L1 := [(3, .int r_10), (0, .ref (K.2.2.1 + a0)), (1, .int x1), (2, .int x2)]) X (ix_tb_at tb_X11_group 12 rfl) rfl (Nat.le_of_ble_eq_true rfl) rfl (pc1 := 24) rfl ?_
      refine ix_iload_n (i := 3) (j := 0) X (ix_tb_at tb_X11_group 13 rfl) rfl rfl (pc1 := 25) rfl ?_
      refine ix_if_eq (tgt := 36) X (ix_tb_at tb_X11_group 14 rfl) (by decide) (pc1 := 28) rfl (fun q_11 => ?_) (fun q_11 => ?_)
      · have h := ix_ift q_11 h
        refine ix_aload_n (i := 0) (j := 1) X (ix_tb_at tb_X11_group 19 rfl) rfl rfl (pc1 := 37) rfl ?_
        obtain ⟨z_12, e_13, h⟩ := ix_lt_ex h
        obtain ⟨d_14, e_15, h⟩ := ix_lt_ex h
        refine iz_new (ci := 5) (pl := 651) (pi := 652) (pj := 16) (N := 4) (C := RX5) (T := TX5) X rfl (by decide) (by decide +kernel) (by decide +kernel) (by decide +kernel) (Nat.le_of_ble_eq_true rfl) (Nat.le_of_ble_eq_true rfl) (ix_tb_at tb_X11_group 20 rfl) e_13 e_15 (pc1 := 40) rfl ?_
        refine ix_dup X (ix_tb_at tb_X11_group 21 rfl) rfl (pc1 := 41) rfl ?_
        refine ix_aload_n (i := 0) (j := 1) X (ix_tb_at tb_X11_group 22 rfl) rfl rfl (pc1 := 42) rfl ?_
        refine ix_iload_n (i := 1) (j := 2) X (ix_tb_at tb_X11_group 23 rfl) rfl rfl (pc1 := 43) rfl ?_
        obtain ⟨k_18, h⟩ := ix_ck_some h
        obtain ⟨r_20, z_19, d_16, h_17, h⟩ := ix_bd3_ex h
        refine ix_callV (As := [.int x1]) (rest := [.ref (K.2.2.1 + (z.2.2)), .ref (K.2.2.1 + (z.2.2)), .ref (K.2.2.1 + a0)]) (ci := 10) (T := TX11) (nf := 18) X mf_X11_itemsOf mi_X11_itemsOf ms_X11_itemsOf rfl (Nat.le_of_ble_eq_true rfl) ml_RX11_119 ⟨Nat.le_of_ble_eq_true rfl, Nat.le_of_ble_eq_true rfl⟩ ⟨Nat.le_of_ble_eq_true rfl, Nat.le_of_ble_eq_true rfl⟩ rfl (Nat.le_of_ble_eq_true rfl) (ix_tb_at tb_X11_group 24 rfl) ⟨k_18.1, List.mem_singleton.mp k_18.2⟩ (c_X11_itemsOf hKp h_17) rfl (pc1 := 46) rfl ?_
        obtain ⟨b_21, q_22, h⟩ := ix_bd1_ex h
        refine ix_rvs q_22 ?_
        refine ix_iload_n (i := 2) (j := 3) X (ix_tb_at tb_X11_group 25 rfl) rfl rfl (pc1 := 47) rfl ?_
        obtain ⟨z_25, d_23, h_24, h⟩ := ix_bd2_ex h
        refine ix_callI (As := [.ref (K.2.2.1 + b_21), .int x2]) (rest := [.ref (K.2.2.1 + (z.2.2)), .ref (K.2.2.1 + a0)]) X mf_X5_init mi_X5_init rfl ml_RX11_136 ⟨Nat.le_of_ble_eq_true rfl, Nat.le_of_ble_eq_true rfl⟩ ⟨Nat.le_of_ble_eq_true rfl, Nat.le_of_ble_eq_true rfl⟩ rfl (Nat.le_of_ble_eq_true rfl) (ix_tb_at tb_X11_group 26 rfl) (c_X5_init hKp h_24) rfl (pc1 := 50) rfl ?_
        obtain ⟨k_29, h⟩ := ix_ck_some h
        obtain ⟨r_31, z_30, d_27, h_28, h⟩ := ix_bd3_ex h
        refine ix_callV (As := [.ref (K.2.2.1 + (z.2.2))]) (rest := []) (ci := 10) (T := TX11) (nf := 18) X mf_X11_admit mi_X11_admit ms_X11_admit rfl (Nat.le_of_ble_eq_true rfl) ml_RX11_126 ⟨Nat.le_of_ble_eq_true rfl, Nat.le_of_ble_eq_true rfl⟩ ⟨Nat.le_of_ble_eq_true rfl, Nat.le_of_ble_eq_true rfl⟩ rfl (Nat.le_of_ble_eq_true rfl) (ix_tb_at tb_X11_group 27 rfl) ⟨k_29.1, List.mem_singleton.mp k_29.2⟩ (c_X11_admit hKp h_28) rfl (pc1 := 53) rfl ?_
        exact ix_iret X hr hlk (ix_r3 (f := fun r => some (.int r)) (g := ix_w) h) (ix_tb_at tb_X11_group 28 rfl)
      · have h := ix_iff q_11 h
        refine ix_aload_n (i := 0) (j := 1) X (ix_tb_at tb_X11_group 15 rfl) rfl rfl (pc1 := 29) rfl ?_
        refine ix_iload_n (i := 3) (j := 0) X (ix_tb_at tb_X11_group 16 rfl) rfl rfl (pc1 := 30) rfl ?_
        obtain ⟨r_34, d_32, h_33, h⟩ := ix_bd2_ex h
        refine ix_callV (As := [.int r_10]) (rest := []) (ci := 10) (T := TX11) (nf := 18) X mf_X11_refuse mi_X11_refuse ms_X11_refuse rfl (Nat.le_of_ble_eq_true rfl) ml_RX11_73 ⟨Nat.le_of_ble_eq_true rfl, Nat.le_of_ble_eq_true rfl⟩ ⟨Nat.le_of_ble_eq_true rfl, Nat.le_of_ble_eq_true rfl⟩ rfl (Nat.le_of_ble_eq_true rfl) (ix_tb_at tb_X11_group 17 rfl) ⟨k_9.1, List.mem_singleton.mp k_9.2⟩ (c_X11_refuse hKp h_33) rfl (pc1 := 33) rfl ?_
        refine ix_goto (tgt := 53) X (ix_tb_at tb_X11_group 18 rfl) (by decide) ?_
        refine ix_widen (k1 := 3) (n1 := 82) (Nat.le_of_ble_eq_true rfl) (Nat.le_of_ble_eq_true rfl) ?_
        exact ix_iret X hr hlk (ix_r3 (f := fun r => some (.int r)) (g := ix_w) h) (ix_tb_at tb_X11_group 28 rfl)
    · have h := ix_iff q_6 h
      refine ix_sub (L1 := [(0, .ref (K.2.2.1 + a0))]) [0] rfl ?_
      exact t_X11_group_10 hKp X hr hlk  h
def tab_X11_parity : List (Nat × Instr × Nat) := [(0, .aload_n 0, 1), (1, .iload_n 1, 1), (2, .invokevirtual 114, 3), (5, .istore_n 3, 1), (6, .iload_n 3, 1), (7, .ifCond .eq 11, 3), (10, .aload_n 0, 1), (11, .iload_n 3, 1), (12, .invokevirtual 73, 3), (15, .goto 20, 3), (18, .aload_n 0, 1), (19, .new 137, 3), (22, .dup, 1), (23, .aload_n 0, 1), (24, .iload_n 1, 1), (25, .invokevirtual 119, 3), (28, .iload_n 2, 1), (29, .invokespecial 139, 3), (32, .invokevirtual 126, 3), (35, .ireturn, 1)]
theorem tb_X11_parity : ix_tab cX11_parity tab_X11_parity := by
  unfold ix_tab
  decide +kernel
noncomputable def f_X11_parity (n : Nat) (z : ix_Z) (a0 : Nat) (x1 : Int32) (x2 : Int32) (d : ix_D2) : Option (Int32 × ix_Z × ix_D2) :=
  ix_ck (ix_ok z [10] a0) (ix_bd2 (f_X11_lookForItems n z a0 x1 d) (fun r_4 d_1 => ix_if (r_4 = 0) (ix_lt (ix_zn z 6 4) (fun z_6 => ix_lt (ix_dn d_1 z.2.2) (fun d_8 => ix_ck (ix_ok z_6 [10] a0) (ix_bd3 (f_X11_itemsOf n z_6 a0 x1 d_8) (fun r_14 z_13 d_10 => ix_bd1 r_14 (fun b_15 => ix_bd2 (f_X6_init n z_13 (z.2.2) b_15 x2 d_10) (fun z_19 d_17 => ix_ck (ix_ok z_19 [10] a0) (ix_bd3 (f_X11_admit n z_19 a0 (z.2.2) d_17) (fun r_25 z_24 d_21 => some (r_25, z_24, d_21)))))))))) (ix_bd2 (f_X11_refuse n z a0 r_4 d_1) (fun r_28 d_26 => some (r_28, z, d_26)))))
set_option maxRecDepth 20000 in
theorem c_X11_parity {l : Launch} {K : ix_Cx} (hKp : ix_Kp K) {n : Nat} {z : ix_Z} {a0 : Nat} {x1 : Int32} {x2 : Int32} {d : ix_D2} {r : Int32} {z1 : ix_Z} {d1 : ix_D2} (h : f_X11_parity n z a0 x1 x2 d = some (r, z1, d1)) : ix_M l K yX11_parity cX11_parity 4 (some .int) 7 169 3 82 [.ref (K.2.2.1 + a0), .int x1, .int x2] (ix_w z d) (some (.int r)) (ix_w z1 d1) := by
  refine ix_met mf_X11_parity hKp (Nat.le_of_ble_eq_true rfl) ?_
  intro p e s m args below meth c hr hlk hnm X
  have X : ix_X p s m args c K cX11_parity RX11 4 := X
  show ix_G p l e (ix_rm 7 169 3 82) s m args below meth c (MQ below (ix_Post K (some (.int r)) (ix_w z1 d1)) args s 3 82 (ix_A K)) K 4 0 0 0 [(0, .ref (K.2.2.1 + a0)), (1, .int x1), (2, .int x2)] [] (ix_w z d)
  unfold f_X11_parity at h
  refine ix_aload_n (i := 0) (j := 0) X (ix_tb_at tb_X11_parity 0 rfl) rfl rfl (pc1 := 1) rfl ?_
  refine ix_iload_n (i := 1) (j := 1) X (ix_tb_at tb_X11_parity 1 rfl) rfl rfl (pc1 := 2) rfl ?_
  obtain ⟨k_3, h⟩ := ix_ck_some h
  obtain ⟨r_4, d_1, h_2, h⟩ := ix_bd2_ex h
  refine ix_callV (As := [.int x1]) (rest := []) (ci := 10) (T := TX11) (nf := 18) X mf_X11_lookForItems mi_X11_lookForItems ms_X11_lookForItems rfl (Nat.le_of_ble_eq_true rfl) ml_RX11_114 ⟨Nat.le_of_ble_eq_true rfl, Nat.le_of_ble_eq_true rfl⟩ ⟨Nat.le_of_ble_eq_true rfl, Nat.le_of_ble_eq_true rfl⟩ rfl (Nat.le_of_ble_eq_true rfl) (ix_tb_at tb_X11_parity 2 rfl) ⟨k_3.1, List.mem_singleton.mp k_3.2⟩ (c_X11_lookForItems hKp h_2) rfl (pc1 := 5) rfl ?_
  refine ix_istore_n (i := 3) (L1 := [(3, .int r_4), (0, .ref (K.2.2.1 + a0)), (1, .int x1), (2, .int x2)]) X (ix_tb_at tb_X11_parity 3 rfl) rfl (Nat.le_of_ble_eq_true rfl) rfl (pc1 := 6) rfl ?_
  refine ix_iload_n (i := 3) (j := 0) X (ix_tb_at tb_X11_parity 4 rfl) rfl rfl (pc1 := 7) rfl ?_
  refine ix_if_eq (tgt := 18) X (ix_tb_at tb_X11_parity 5 rfl) (by decide) (pc1 := 10) rfl (fun q_5 => ?_) (fun q_5 => ?_)
  · have h := ix_ift q_5 h
    refine ix_aload_n (i := 0) (j := 1) X (ix_tb_at tb_X11_parity 10 rfl) rfl rfl (pc1 := 19) rfl ?_
    obtain ⟨z_6, e_7, h⟩ := ix_lt_ex h
    obtain ⟨d_8, e_9, h⟩ := ix_lt_ex h
    refine iz_new (ci := 6) (pl := 666) (pi := 667) (pj := 13) (N := 4) (C := RX6) (T := TX6) X rfl (by decide) (by decide +kernel) (by decide +kernel) (by decide +kernel) (Nat.le_of_ble_eq_true rfl) (Nat.le_of_ble_eq_true rfl) (ix_tb_at tb_X11_parity 11 rfl) e_7 e_9 (pc1 := 22) rfl ?_
    refine ix_dup X (ix_tb_at tb_X11_parity 12 rfl) rfl (pc1 := 23) rfl ?_
    refine ix_aload_n (i := 0) (j := 1) X (ix_tb_at tb_X11_parity 13 rfl) rfl rfl (pc1 := 24) rfl ?_
    refine ix_iload_n (i := 1) (j := 2) X (ix_tb_at tb_X11_parity 14 rfl) rfl rfl (pc1 := 25) rfl ?_
    obtain ⟨k_12, h⟩ := ix_ck_some h
    obtain ⟨r_14, z_13, d_10, h_11, h⟩ := ix_bd3_ex h
    refine ix_callV (As := [.int x1]) (rest := [.ref (K.2.2.1 + (z.2.2)), .ref (K.2.2.1 + (z.2.2)), .ref (K.2.2.1 + a0)]) (ci := 10) (T := TX11) (nf := 18) X mf_X11_itemsOf mi_X11_itemsOf ms_X11_itemsOf rfl (Nat.le_of_ble_eq_true rfl) ml_RX11_119 ⟨Nat.le_of_ble_eq_true rfl, Nat.le_of_ble_eq_true rfl⟩ ⟨Nat.le_of_ble_eq_true rfl, Nat.le_of_ble_eq_true rfl⟩ rfl (Nat.le_of_ble_eq_true rfl) (ix_tb_at tb_X11_parity 15 rfl) ⟨k_12.1, List.mem_singleton.mp k_12.2⟩ (c_X11_itemsOf hKp h_11) rfl (pc1 := 28) rfl ?_
    obtain ⟨b_15, q_16, h⟩ := ix_bd1_ex h
    refine ix_rvs q_16 ?_
    refine ix_iload_n (i := 2) (j := 3) X (ix_tb_at tb_X11_parity 16 rfl) rfl rfl (pc1 := 29) rfl ?_
    obtain ⟨z_19, d_17, h_18, h⟩ := ix_bd2_ex h
    refine ix_callI (As := [.ref (K.2.2.1 + b_15), .int x2]) (rest := [.ref (K.2.2.1 + (z.2.2)), .ref (K.2.2.1 + a0)]) X mf_X6_init mi_X6_init rfl ml_RX11_139 ⟨Nat.le_of_ble_eq_true rfl, Nat.le_of_ble_eq_true rfl⟩ ⟨Nat.le_of_ble_eq_true rfl, Nat.le_of_ble_eq_true rfl⟩ rfl (Nat.le_of_ble_eq_true rfl) (ix_tb_at tb_X11_parity 17 rfl) (c_X6_init hKp h_18) rfl (pc1 := 32) rfl ?_
    obtain ⟨k_23, h⟩ := ix_ck_some h
    obtain ⟨r_25, z_24, d_21, h_22, h⟩ := ix_bd3_ex h
    refine ix_callV (As := [.ref (K.2.2.1 + (z.2.2))]) (rest := []) (ci := 10) (T := TX11) (nf := 18) X mf_X11_admit mi_X11_admit ms_X11_admit rfl (Nat.le_of_ble_eq_true rfl) ml_RX11_126 ⟨Nat.le_of_ble_eq_true rfl, Nat.le_of_ble_eq_true rfl⟩ ⟨Nat.le_of_ble_eq_true rfl, Nat.le_of_ble_eq_true rfl⟩ rfl (Nat.le_of_ble_eq_true rfl) (ix_tb_at tb_X11_parity 18 rfl) ⟨k_23.1, List.mem_singleton.mp k_23.2⟩ (c_X11_admit hKp h_22) rfl (pc1 := 35) rfl ?_
    exact ix_iret X hr hlk (ix_r3 (f := fun r => some (.int r)) (g := ix_w) h) (ix_tb_at tb_X11_parity 19 rfl)
  · have h := ix_iff q_5 h
    refine ix_aload_n (i := 0) (j := 1) X (ix_tb_at tb_X11_parity 6 rfl) rfl rfl (pc1 := 11) rfl ?_
    refine ix_iload_n (i := 3) (j := 0) X (ix_tb_at tb_X11_parity 7 rfl) rfl rfl (pc1 := 12) rfl ?_
    obtain ⟨r_28, d_26, h_27, h⟩ := ix_bd2_ex h
    refine ix_callV (As := [.int r_4]) (rest := []) (ci := 10) (T := TX11) (nf := 18) X mf_X11_refuse mi_X11_refuse ms_X11_refuse rfl (Nat.le_of_ble_eq_true rfl) ml_RX11_73 ⟨Nat.le_of_ble_eq_true rfl, Nat.le_of_ble_eq_true rfl⟩ ⟨Nat.le_of_ble_eq_true rfl, Nat.le_of_ble_eq_true rfl⟩ rfl (Nat.le_of_ble_eq_true rfl) (ix_tb_at tb_X11_parity 8 rfl) ⟨k_3.1, List.mem_singleton.mp k_3.2⟩ (c_X11_refuse hKp h_27) rfl (pc1 := 15) rfl ?_
    refine ix_goto (tgt := 35) X (ix_tb_at tb_X11_parity 9 rfl) (by decide) ?_
    refine ix_widen (k1 := 3) (n1 := 82) (Nat.le_of_ble_eq_true rfl) (Nat.le_of_ble_eq_true rfl) ?_
    exact ix_iret X hr hlk (ix_r3 (f := fun r => some (.int r)) (g := ix_w) h) (ix_tb_at tb_X11_parity 19 rfl)
def tab_X11_told : List (Nat × Instr × Nat) := [(0, .aload_n 0, 1), (1, .getfield 21, 3), (4, .invokevirtual 142, 3), (7, .istore_n 1, 1), (8, .aload_n 0, 1), (9, .getfield 21, 3), (12, .invokevirtual 110, 3), (15, .istore_n 2, 1), (16, .iload_n 1, 1), (17, .ifCond .lt 13, 3), (20, .aload_n 0, 1), (21, .sipush (-2000), 3), (24, .iload_n 1, 1), (25, .isub, 1), (26, .invokevirtual 73, 3), (29, .ireturn, 1), (30, .aload_n 0, 1), (31, .getfield 21, 3), (34, .aload_n 0, 1), (35, .getfield 28, 3), (38, .invokevirtual 145, 3), (41, .istore_n 3, 1), (42, .iload_n 3, 1), (43, .ifCond .eq 11, 3), (46, .aload_n 0, 1), (47, .iload_n 3, 1), (48, .invokevirtual 73, 3), (51, .goto 19, 3), (54, .aload_n 0, 1), (55, .new 149, 3), (58, .dup, 1), (59, .aload_n 0, 1), (60, .getfield 21, 3), (63, .iload_n 2, 1), (64, .invokespecial 151, 3), (67, .invokevirtual 126, 3), (70, .ireturn, 1)]
theorem tb_X11_told : ix_tab cX11_told tab_X11_told := by
  unfold ix_tab
  decide +kernel
noncomputable def f_X11_told (n : Nat) (z : ix_Z) (a0 : Nat) (d : ix_D2) : Option (Int32 × ix_Z × ix_D2) :=
  ix_ck (ix_ok z [10] a0) (ix_bd1 (z.1 a0 2) (fun b_2 => ix_ck (ix_ok z [4] b_2) (ix_bd2 (f_X4_readTape n z b_2 d) (fun r_7 d_4 => ix_bd2 (f_X4_emptyTape n z b_2 d_4) (fun r_10 d_8 => ix_if (r_7 < 0) (ix_bd1 (z.1 a0 3) (fun b_12 => ix_bd2 (f_X4_lookForNames n z b_2 b_12 d_8) (fun r_16 d_14 => ix_if (r_16 = 0) (ix_lt (ix_zn z 9 6) (fun z_18 => ix_lt (ix_dn d_14 z.2.2) (fun d_20 => ix_ck (ix_ok z_18 [10] a0) (ix_bd1 (z_18.1 a0 2) (fun b_23 => ix_bd2 (f_X10_init n z_18 (z.2.2) b_23 r_10 d_20) (fun z_27 d_25 => ix_ck (ix_ok z_27 [10] a0) (ix_bd3 (f_X11_admit n z_27 a0 (z.2.2) d_25) (fun r_33 z_32 d_29 => some (r_33, z_32, d_29))))))))) (ix_bd2 (f_X11_refuse n z a0 r_16 d_14) (fun r_36 d_34 => some (r_36, z, d_34)))))) (ix_bd2 (f_X11_refuse n z a0 (((-2000)) - r_7) d_8) (fun r_39 d_37 => some (r_39, z, d_37))))))))
set_option maxRecDepth 20000 in
theorem c_X11_told {l : Launch} {K : ix_Cx} (hKp : ix_Kp K) (hT : ix_Tc K) {n : Nat} {z : ix_Z} {a0 : Nat} {d : ix_D2} {r : Int32} {z1 : ix_Z} {d1 : ix_D2} (h : f_X11_told n z a0 d = some (r, z1, d1)) : ix_M l K yX11_told cX11_told 4 (some .int) 7 169 6 276 [.ref (K.2.2.1 + a0)] (ix_w z d) (some (.int r)) (ix_w z1 d1) := by
  refine ix_met mf_X11_told hKp (Nat.le_of_ble_eq_true rfl) ?_
  intro p e s m args below meth c hr hlk hnm X
  have X : ix_X p s m args c K cX11_told RX11 4 := X
  show ix_G p l e (ix_rm 7 169 6 276) s m args below meth c (MQ below (ix_Post K (some (.int r)) (ix_w z1 d1)) args s 6 276 (ix_A K)) K 4 0 0 0 [(0, .ref (K.2.2.1 + a0))] [] (ix_w z d)
  unfold f_X11_told at h
  refine ix_aload_n (i := 0) (j := 0) X (ix_tb_at tb_X11_told 0 rfl) rfl rfl (pc1 := 1) rfl ?_
  obtain ⟨k_1, h⟩ := ix_ck_some h
  obtain ⟨b_2, q_3, h⟩ := ix_bd1_ex h
  refine iz_getR X fl_RX11_21 k_1 q_3 (ix_tb_at tb_X11_told 1 rfl) (pc1 := 4) rfl ?_
  obtain ⟨k_6, h⟩ := ix_ck_some h
  obtain ⟨r_7, d_4, h_5, h⟩ := ix_bd2_ex h
  refine ix_callV (As := []) (rest := []) (ci := 4) (T := TX4) (nf := 17) X mf_X4_readTape mi_X4_readTape ms_X4_readTape rfl (Nat.le_of_ble_eq_true rfl) ml_RX11_142 ⟨Nat.le_of_ble_eq_true rfl, Nat.le_of_ble_eq_true rfl⟩ ⟨Nat.le_of_ble_eq_true rfl, Nat.le_of_ble_eq_true rfl⟩ rfl (Nat.le_of_ble_eq_true rfl) (ix_tb_at tb_X11_told 2 rfl) ⟨k_6.1, List.mem_singleton.mp k_6.2⟩ (c_X4_readTape hKp hT h_5) rfl (pc1 := 7) rfl ?_
  refine ix_istore_n (i := 1) (L1 := [(1, .int r_7), (0, .ref (K.2.2.1 + a0))]) X (ix_tb_at tb_X11_told 3 rfl) rfl (Nat.le_of_ble_eq_true rfl) rfl (pc1 := 8) rfl ?_
  refine ix_aload_n (i := 0) (j := 1) X (ix_tb_at tb_X11_told 4 rfl) rfl rfl (pc1 := 9) rfl ?_
  refine iz_getR X fl_RX11_21 k_1 q_3 (ix_tb_at tb_X11_told 5 rfl) (pc1 := 12) rfl ?_
  obtain ⟨r_10, d_8, h_9, h⟩ := ix_bd2_ex h
  refine ix_callV (As := []) (rest := []) (ci := 4) (T := TX4) (nf := 17) X mf_X4_emptyTape mi_X4_emptyTape ms_X4_emptyTape rfl (Nat.le_of_ble_eq_true rfl) ml_RX11_110 ⟨Nat.le_of_ble_eq_true rfl, Nat.le_of_ble_eq_true rfl⟩ ⟨Nat.le_of_ble_eq_true rfl, Nat.le_of_ble_eq_true rfl⟩ rfl (Nat.le_of_ble_eq_true rfl) (ix_tb_at tb_X11_told 6 rfl) ⟨k_6.1, List.mem_singleton.mp k_6.2⟩ (c_X4_emptyTape hKp h_9) rfl (pc1 := 15) rfl ?_
  refine ix_istore_n (i := 2) (L1 := [(2, .int r_10), (1, .int r_7), (0, .ref (K.2.2.1 + a0))]) X (ix_tb_at tb_X11_told 7 rfl) rfl (Nat.le_of_ble_eq_true rfl) rfl (pc1 := 16) rfl ?_
  refine ix_iload_n (i := 1) (j := 1) X (ix_tb_at tb_X11_told 8 rfl) rfl rfl (pc1 := 17) rfl ?_
  refine ix_if_lt (tgt := 30) X (ix_tb_at tb_X11_told 9 rfl) (by decide) (pc1 := 20) rfl (fun q_11 => ?_) (fun q_11 => ?_)
  · have h := ix_ift q_11 h
    refine ix_aload_n (i := 0) (j := 2) X (ix_tb_at tb_X11_told 16 rfl) rfl rfl (pc1 := 31) rfl ?_
    refine iz_getR X fl_RX11_21 k_1 q_3 (ix_tb_at tb_X11_told 17 rfl) (pc1 := 34) rfl ?_
    refine ix_aload_n (i := 0) (j := 2) X (ix_tb_at tb_X11_told 18 rfl) rfl rfl (pc1 := 35) rfl ?_
    obtain ⟨b_12, q_13, h⟩ := ix_bd1_ex h
    refine iz_getR X fl_RX11_28 k_1 q_13 (ix_tb_at tb_X11_told 19 rfl) (pc1 := 38) rfl ?_
    obtain ⟨r_16, d_14, h_15, h⟩ := ix_bd2_ex h
    refine ix_callV (As := [.ref (K.2.2.1 + b_12)]) (rest := []) (ci := 4) (T := TX4) (nf := 17) X mf_X4_lookForNames mi_X4_lookForNames ms_X4_lookForNames rfl (Nat.le_of_ble_eq_true rfl) ml_RX11_145 ⟨Nat.le_of_ble_eq_true rfl, Nat.le_of_ble_eq_true rfl⟩ ⟨Nat.le_of_ble_eq_true rfl, Nat.le_of_ble_eq_true rfl⟩ rfl (Nat.le_of_ble_eq_true rfl) (ix_tb_at tb_X11_told 20 rfl) ⟨k_6.1, List.mem_singleton.mp k_6.2⟩ (c_X4_lookForNames hKp h_15) rfl (pc1 := 41) rfl ?_
    refine ix_istore_n (i := 3) (L1 := [(3, .int r_16), (2, .int r_10), (1, .int r_7), (0, .ref (K.2.2.1 + a0))]) X (ix_tb_at tb_X11_told 21 rfl) rfl (Nat.le_of_ble_eq_true rfl) rfl (pc1 := 42) rfl ?_
    refine ix_iload_n (i := 3) (j := 0) X (ix_tb_at tb_X11_told 22 rfl) rfl rfl (pc1 := 43) rfl ?_
    refine ix_if_eq (tgt := 54) X (ix_tb_at tb_X11_told 23 rfl) (by decide) (pc1 := 46) rfl (fun q_17 => ?_) (fun q_17 => ?_)
    · have h := ix_ift q_17 h
      refine ix_aload_n (i := 0) (j := 3) X (ix_tb_at tb_X11_told 28 rfl) rfl rfl (pc1 := 55) rfl ?_
      obtain ⟨z_18, e_19, h⟩ := ix_lt_ex h
      obtain ⟨d_20, e_21, h⟩ := ix_lt_ex h
      refine iz_new (ci := 9) (pl := 806) (pi := 604) (pj := 14) (N := 6) (C := RX10) (T := TX10) X rfl (by decide) (by decide +kernel) (by decide +kernel) (by decide +kernel) (Nat.le_of_ble_eq_true rfl) (Nat.le_of_ble_eq_true rfl) (ix_tb_at tb_X11_told 29 rfl) e_19 e_21 (pc1 := 58) rfl ?_
      refine ix_dup X (ix_tb_at tb_X11_told 30 rfl) rfl (pc1 := 59) rfl ?_
      refine ix_aload_n (i := 0) (j := 3) X (ix_tb_at tb_X11_told 31 rfl) rfl rfl (pc1 := 60) rfl ?_
      obtain ⟨k_22, h⟩ := ix_ck_some h
      obtain ⟨b_23, q_24, h⟩ := ix_bd1_ex h
      refine iz_getR X fl_RX11_21 k_22 q_24 (ix_tb_at tb_X11_told 32 rfl) (pc1 := 63) rfl ?_
      refine ix_iload_n (i := 2) (j := 1) X (ix_tb_at tb_X11_told 33 rfl) rfl rfl (pc1 := 64) rfl ?_
      obtain ⟨z_27, d_25, h_26, h⟩ := ix_bd2_ex h
      refine ix_callI (As := [.ref (K.2.2.1 + b_23), .int r_10]) (rest := [.ref (K.2.2.1 + (z.2.2)), .ref (K.2.2.1 + a0)]) X mf_X10_init mi_X10_init rfl ml_RX11_151 ⟨Nat.le_of_ble_eq_true rfl, Nat.le_of_ble_eq_true rfl⟩ ⟨Nat.le_of_ble_eq_true rfl, Nat.le_of_ble_eq_true rfl⟩ rfl (Nat.le_of_ble_eq_true rfl) (ix_tb_at tb_X11_told 34 rfl) (c_X10_init hKp h_26) rfl (pc1 := 67) rfl ?_
      obtain ⟨k_31, h⟩ := ix_ck_some h
      obtain ⟨r_33, z_32, d_29, h_30, h⟩ := ix_bd3_ex h
      refine ix_callV (As := [.ref (K.2.2.1 + (z.2.2))]) (rest := []) (ci := 10) (T := TX11) (nf := 18) X mf_X11_admit mi_X11_admit ms_X11_admit rfl (Nat.le_of_ble_eq_true rfl) ml_RX11_126 ⟨Nat.le_of_ble_eq_true rfl, Nat.le_of_ble_eq_true rfl⟩ ⟨Nat.le_of_ble_eq_true rfl, Nat.le_of_ble_eq_true rfl⟩ rfl (Nat.le_of_ble_eq_true rfl) (ix_tb_at tb_X11_told 35 rfl) ⟨k_31.1, List.mem_singleton.mp k_31.2⟩ (c_X11_admit hKp h_30) rfl (pc1 := 70) rfl ?_
      exact ix_iret X hr hlk (ix_r3 (f := fun r => some (.int r)) (g := ix_w) h) (ix_tb_at tb_X11_told 36 rfl)
    · have h := ix_iff q_17 h
      refine ix_aload_n (i := 0) (j := 3) X (ix_tb_at tb_X11_told 24 rfl) rfl rfl (pc1 := 47) rfl ?_
      refine ix_iload_n (i := 3) (j := 0) X (ix_tb_at tb_X11_told 25 rfl) rfl rfl (pc1 := 48) rfl ?_
      obtain ⟨r_36, d_34, h_35, h⟩ := ix_bd2_ex h
      refine ix_callV (As := [.int r_16]) (rest := []) (ci := 10) (T := TX11) (nf := 18) X mf_X11_refuse mi_X11_refuse ms_X11_refuse rfl (Nat.le_of_ble_eq_true rfl) ml_RX11_73 ⟨Nat.le_of_ble_eq_true rfl, Nat.le_of_ble_eq_true rfl⟩ ⟨Nat.le_of_ble_eq_true rfl, Nat.le_of_ble_eq_true rfl⟩ rfl (Nat.le_of_ble_eq_true rfl) (ix_tb_at tb_X11_told 26 rfl) ⟨k_1.1, List.mem_singleton.mp k_1.2⟩ (c_X11_refuse hKp h_35) rfl (pc1 := 51) rfl ?_
      refine ix_goto (tgt := 70) X (ix_tb_at tb_X11_told 27 rfl) (by decide) ?_
      refine ix_widen (k1 := 6) (n1 := 276) (Nat.le_of_ble_eq_true rfl) (Nat.le_of_ble_eq_true rfl) ?_
      exact ix_iret X hr hlk (ix_r3 (f := fun r => some (.int r)) (g := ix_w) h) (ix_tb_at tb_X11_told 36 rfl)
  · have h := ix_iff q_11 h
    refine ix_aload_n (i := 0) (j := 2) X (ix_tb_at tb_X11_told 10 rfl) rfl rfl (pc1 := 21) rfl ?_
    refine ix_sipush (v := (-2000)) X (ix_tb_at tb_X11_told 11 rfl) (by decide) (pc1 := 24) rfl ?_
    refine ix_iload_n (i := 1) (j := 1) X (ix_tb_at tb_X11_told 12 rfl) rfl rfl (pc1 := 25) rfl ?_
    refine ix_isub X (ix_tb_at tb_X11_told 13 rfl) (pc1 := 26) rfl ?_
    obtain ⟨r_39, d_37, h_38, h⟩ := ix_bd2_ex h
    refine ix_callV (As := [.int (((-2000)) - r_7)]) (rest := []) (ci := 10) (T := TX11) (nf := 18) X mf_X11_refuse mi_X11_refuse ms_X11_refuse rfl (Nat.le_of_ble_eq_true rfl) ml_RX11_73 ⟨Nat.le_of_ble_eq_true rfl, Nat.le_of_ble_eq_true rfl⟩ ⟨Nat.le_of_ble_eq_true rfl, Nat.le_of_ble_eq_true rfl⟩ rfl (Nat.le_of_ble_eq_true rfl) (ix_tb_at tb_X11_told 14 rfl) ⟨k_1.1, List.mem_singleton.mp k_1.2⟩ (c_X11_refuse hKp h_38) rfl (pc1 := 29) rfl ?_
    refine ix_widen (k1 := 6) (n1 := 276) (Nat.le_of_ble_eq_true rfl) (Nat.le_of_ble_eq_true rfl) ?_
    exact ix_iret X hr hlk (ix_r3 (f := fun r => some (.int r)) (g := ix_w) h) (ix_tb_at tb_X11_told 15 rfl)

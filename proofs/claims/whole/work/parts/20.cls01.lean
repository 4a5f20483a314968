theorem mf_X1_isReason : ix_mf yX1_isReason cX1_isReason 4 (some .boolean) 1 := ⟨ix_wm (i := 1304) (by decide +kernel), ix_wm (i := 6) (by decide +kernel), ⟨by decide +kernel, by decide +kernel⟩, by decide +kernel, by decide +kernel⟩
theorem mi_X1_isReason : Cond.instanceMethod yX1_isReason ∈ lw_tbl := ix_wm (i := 1302) (by decide +kernel)
theorem fl_RX1_153 : ix_flb 233 0 false RX1 153 "ClauseCourt$Board" [1] 16 0 = true := by decide +kernel
theorem fl_RX1_156 : ix_flb 231 0 false RX1 156 "ClauseCourt$Board" [1] 15 0 = true := by decide +kernel
theorem mf_X1_numberOf : ix_mf yX1_numberOf cX1_numberOf 2 (some .int) 1 := ⟨ix_wm (i := 1243) (by decide +kernel), ix_wm (i := 6) (by decide +kernel), ⟨by decide +kernel, by decide +kernel⟩, by decide +kernel, by decide +kernel⟩
theorem mi_X1_numberOf : Cond.instanceMethod yX1_numberOf ∈ lw_tbl := ix_wm (i := 1241) (by decide +kernel)
theorem mf_X7_itemTotal : ix_mf yX7_itemTotal cX7_itemTotal 1 (some .int) 0 := ⟨ix_wm (i := 1233) (by decide +kernel), ix_wm (i := 4) (by decide +kernel), ⟨by decide +kernel, by decide +kernel⟩, by decide +kernel, by decide +kernel⟩
theorem mi_X7_itemTotal : Cond.instanceMethod yX7_itemTotal ∈ lw_tbl := ix_wm (i := 1231) (by decide +kernel)
theorem ms_X7_itemTotal : Cond.selects yX7_itemTotal.cls yX7_itemTotal yX7_itemTotal ∈ lw_tbl := ix_wm (i := 1232) (by decide +kernel)
theorem ml_RX1_159 : tables_1[1230]? = some (Cond.methodLink RX1 159 yX7_itemTotal) := by decide +kernel
theorem mf_X1_recordTakes : ix_mf yX1_recordTakes cX1_recordTakes 3 (some .boolean) 1 := ⟨ix_wm (i := 1229) (by decide +kernel), ix_wm (i := 6) (by decide +kernel), ⟨by decide +kernel, by decide +kernel⟩, by decide +kernel, by decide +kernel⟩
theorem mi_X1_recordTakes : Cond.instanceMethod yX1_recordTakes ∈ lw_tbl := ix_wm (i := 1227) (by decide +kernel)
theorem ml_RX2_34 : tables_1[479]? = some (Cond.methodLink RX2 34 Lib.Math.abs.name) := by decide +kernel
theorem mf_X2_look : ix_mf yX2_look cX2_look 2 (some .int) 1 := ⟨ix_wm (i := 478) (by decide +kernel), ix_wm (i := 3) (by decide +kernel), ⟨by decide +kernel, by decide +kernel⟩, by decide +kernel, by decide +kernel⟩
theorem mi_X2_look : Cond.instanceMethod yX2_look ∈ lw_tbl := ix_wm (i := 476) (by decide +kernel)
theorem fl_RX2_44 : ix_flb 148 0 false RX2 44 "ClauseCourt$Case" [2] 7 0 = true := by decide +kernel
theorem fl_RX2_28 : ix_flb 140 0 false RX2 28 "ClauseCourt$Case" [2] 3 2 = true := by decide +kernel
theorem mf_X2_isAssumed : ix_mf yX2_isAssumed cX2_isAssumed 3 (some .boolean) 1 := ⟨ix_wm (i := 1106) (by decide +kernel), ix_wm (i := 3) (by decide +kernel), ⟨by decide +kernel, by decide +kernel⟩, by decide +kernel, by decide +kernel⟩
theorem mi_X2_isAssumed : Cond.instanceMethod yX2_isAssumed ∈ lw_tbl := ix_wm (i := 1104) (by decide +kernel)
theorem mf_X3_kindNumber : ix_mf yX3_kindNumber cX3_kindNumber 1 (some .int) 0 := ⟨ix_wm (i := 854) (by decide +kernel), ix_wm (i := 12) (by decide +kernel), ⟨by decide +kernel, by decide +kernel⟩, by decide +kernel, by decide +kernel⟩
theorem mi_X3_kindNumber : Cond.instanceMethod yX3_kindNumber ∈ lw_tbl := ix_wm (i := 853) (by decide +kernel)
theorem fl_RX3_7 : ix_flb 512 513 false RX3 7 "ClauseCourt$Clause" [0, 3, 5, 9] 0 2 = true := by decide +kernel
theorem ml_RX3_19 : tables_1[570]? = some (Cond.methodLink RX3 19 yX2_layDraft) := by decide +kernel
theorem ml_RX3_13 : tables_1[569]? = some (Cond.methodLink RX3 13 yX2_add) := by decide +kernel
theorem mf_X3_layInto : ix_mf yX3_layInto cX3_layInto 3 (none : Option Jvm.ClassFile.FieldType) 1 := ⟨ix_wm (i := 568) (by decide +kernel), ix_wm (i := 12) (by decide +kernel), ⟨by decide +kernel, by decide +kernel⟩, by decide +kernel, by decide +kernel⟩
theorem mi_X3_layInto : Cond.instanceMethod yX3_layInto ∈ lw_tbl := ix_wm (i := 567) (by decide +kernel)
theorem ml_RX3_28 : tables_1[932]? = some (Cond.methodLink RX3 28 (⟨"ClauseCourt$Clause", "trueOnes", "(LClauseCourt$Board;)I"⟩ : MethodName)) := by decide +kernel
theorem mf_X3_holds : ix_mf yX3_holds cX3_holds 3 (some .boolean) 2 := ⟨ix_wm (i := 930) (by decide +kernel), ix_wm (i := 12) (by decide +kernel), ⟨by decide +kernel, by decide +kernel⟩, by decide +kernel, by decide +kernel⟩
theorem mi_X3_holds : Cond.instanceMethod yX3_holds ∈ lw_tbl := ix_wm (i := 929) (by decide +kernel)
theorem fl_RX4_34 : ix_flb 42 0 false RX4 34 "ClauseCourt$Desk" [4] 1 0 = true := by decide +kernel
theorem mf_X4_takesBytes : ix_mf yX4_takesBytes cX4_takesBytes 2 (some .boolean) 1 := ⟨ix_wm (i := 454) (by decide +kernel), ix_wm (i := 2) (by decide +kernel), ⟨by decide +kernel, by decide +kernel⟩, by decide +kernel, by decide +kernel⟩
theorem mi_X4_takesBytes : Cond.instanceMethod yX4_takesBytes ∈ lw_tbl := ix_wm (i := 452) (by decide +kernel)
theorem fl_RX4_11 : ix_flb 40 0 false RX4 11 "ClauseCourt$Desk" [4] 0 2 = true := by decide +kernel
theorem fp_RX4_34 : ix_fpb 42 0 false RX4 34 "ClauseCourt$Desk" [4] 1 "I" false = true := by decide +kernel
theorem mf_X4_takeBytes : ix_mf yX4_takeBytes cX4_takeBytes 5 (some .int) 2 := ⟨ix_wm (i := 458) (by decide +kernel), ix_wm (i := 2) (by decide +kernel), ⟨by decide +kernel, by decide +kernel⟩, by decide +kernel, by decide +kernel⟩
theorem mi_X4_takeBytes : Cond.instanceMethod yX4_takeBytes ∈ lw_tbl := ix_wm (i := 456) (by decide +kernel)
theorem mf_X4_emptyTape : ix_mf yX4_emptyTape cX4_emptyTape 2 (some .int) 0 := ⟨ix_wm (i := 466) (by decide +kernel), ix_wm (i := 2) (by decide +kernel), ⟨by decide +kernel, by decide +kernel⟩, by decide +kernel, by decide +kernel⟩
theorem mi_X4_emptyTape : Cond.instanceMethod yX4_emptyTape ∈ lw_tbl := ix_wm (i := 464) (by decide +kernel)
theorem mf_X4_isDigit : ix_mf yX4_isDigit cX4_isDigit 1 (some .boolean) 1 := ⟨ix_wm (i := 693) (by decide +kernel), ix_wm (i := 2) (by decide +kernel), ⟨by decide +kernel, by decide +kernel⟩, by decide +kernel, by decide +kernel⟩
theorem st_X4_isDigit : Cond.static yX4_isDigit ∈ lw_tbl := ix_wm (i := 692) (by decide +kernel)
theorem fl_RX4_69 : ix_flb 61 0 false RX4 69 "ClauseCourt$Desk" [4] 15 0 = true := by decide +kernel
theorem fp_RX4_69 : ix_fpb 61 0 false RX4 69 "ClauseCourt$Desk" [4] 15 "I" false = true := by decide +kernel
theorem fl_RX4_72 : ix_flb 62 0 false RX4 72 "ClauseCourt$Desk" [4] 16 0 = true := by decide +kernel
theorem fp_RX4_72 : ix_fpb 62 0 false RX4 72 "ClauseCourt$Desk" [4] 16 "I" false = true := by decide +kernel
theorem mf_X4_acceptsDigit : ix_mf yX4_acceptsDigit cX4_acceptsDigit 2 (some .boolean) 1 := ⟨ix_wm (i := 697) (by decide +kernel), ix_wm (i := 2) (by decide +kernel), ⟨by decide +kernel, by decide +kernel⟩, by decide +kernel, by decide +kernel⟩
theorem mi_X4_acceptsDigit : Cond.instanceMethod yX4_acceptsDigit ∈ lw_tbl := ix_wm (i := 696) (by decide +kernel)
theorem fl_RX4_38 : ix_flb 53 0 false RX4 38 "ClauseCourt$Desk" [4] 7 0 = true := by decide +kernel
theorem fl_RX4_22 : ix_flb 51 0 false RX4 22 "ClauseCourt$Desk" [4] 6 2 = true := by decide +kernel
theorem fl_RX4_41 : ix_flb 57 0 false RX4 41 "ClauseCourt$Desk" [4] 11 0 = true := by decide +kernel
theorem fp_RX4_47 : ix_fpb 58 0 false RX4 47 "ClauseCourt$Desk" [4] 12 "I" false = true := by decide +kernel
theorem fl_RX4_28 : ix_flb 55 0 false RX4 28 "ClauseCourt$Desk" [4] 9 2 = true := by decide +kernel
theorem fp_RX4_38 : ix_fpb 53 0 false RX4 38 "ClauseCourt$Desk" [4] 7 "I" false = true := by decide +kernel
theorem mf_X4_endPart : ix_mf yX4_endPart cX4_endPart 2 (none : Option Jvm.ClassFile.FieldType) 1 := ⟨ix_wm (i := 705) (by decide +kernel), ix_wm (i := 2) (by decide +kernel), ⟨by decide +kernel, by decide +kernel⟩, by decide +kernel, by decide +kernel⟩
theorem mi_X4_endPart : Cond.instanceMethod yX4_endPart ∈ lw_tbl := ix_wm (i := 704) (by decide +kernel)
theorem fl_RX4_44 : ix_flb 60 0 false RX4 44 "ClauseCourt$Desk" [4] 14 0 = true := by decide +kernel
theorem ms_X4_endPart : Cond.selects yX4_endPart.cls yX4_endPart yX4_endPart ∈ lw_tbl := List.mem_append_left _ (List.mem_of_getElem? (i := 13) (by decide +kernel))
theorem ml_RX4_89 : tables_1[702]? = some (Cond.methodLink RX4 89 yX4_endPart) := by decide +kernel
theorem fp_RX4_44 : ix_fpb 60 0 false RX4 44 "ClauseCourt$Desk" [4] 14 "I" false = true := by decide +kernel
theorem mf_X4_endNumber : ix_mf yX4_endNumber cX4_endNumber 1 (none : Option Jvm.ClassFile.FieldType) 0 := ⟨ix_wm (i := 701) (by decide +kernel), ix_wm (i := 2) (by decide +kernel), ⟨by decide +kernel, by decide +kernel⟩, by decide +kernel, by decide +kernel⟩
theorem mi_X4_endNumber : Cond.instanceMethod yX4_endNumber ∈ lw_tbl := ix_wm (i := 700) (by decide +kernel)
theorem fl_RX4_25 : ix_flb 54 0 false RX4 25 "ClauseCourt$Desk" [4] 8 2 = true := by decide +kernel
theorem fl_RX4_86 : ix_flb 59 0 false RX4 86 "ClauseCourt$Desk" [4] 13 0 = true := by decide +kernel
theorem fl_RX4_31 : ix_flb 56 0 false RX4 31 "ClauseCourt$Desk" [4] 10 2 = true := by decide +kernel
theorem fp_RX4_41 : ix_fpb 57 0 false RX4 41 "ClauseCourt$Desk" [4] 11 "I" false = true := by decide +kernel
theorem mf_X4_acceptsParen : ix_mf yX4_acceptsParen cX4_acceptsParen 2 (some .boolean) 1 := ⟨ix_wm (i := 796) (by decide +kernel), ix_wm (i := 2) (by decide +kernel), ⟨by decide +kernel, by decide +kernel⟩, by decide +kernel, by decide +kernel⟩
theorem mi_X4_acceptsParen : Cond.instanceMethod yX4_acceptsParen ∈ lw_tbl := ix_wm (i := 795) (by decide +kernel)
theorem mf_X4_acceptsBehind : ix_mf yX4_acceptsBehind cX4_acceptsBehind 4 (some .boolean) 1 := ⟨ix_wm (i := 800) (by decide +kernel), ix_wm (i := 2) (by decide +kernel), ⟨by decide +kernel, by decide +kernel⟩, by decide +kernel, by decide +kernel⟩
theorem mi_X4_acceptsBehind : Cond.instanceMethod yX4_acceptsBehind ∈ lw_tbl := ix_wm (i := 799) (by decide +kernel)
theorem ms_X2_look : Cond.selects yX2_look.cls yX2_look yX2_look ∈ lw_tbl := ix_wm (i := 477) (by decide +kernel)
theorem ml_RX4_93 : tables_1[805]? = some (Cond.methodLink RX4 93 yX2_look) := by decide +kernel
theorem mf_X4_lookForNames : ix_mf yX4_lookForNames cX4_lookForNames 4 (some .int) 1 := ⟨ix_wm (i := 804) (by decide +kernel), ix_wm (i := 2) (by decide +kernel), ⟨by decide +kernel, by decide +kernel⟩, by decide +kernel, by decide +kernel⟩
theorem mi_X4_lookForNames : Cond.instanceMethod yX4_lookForNames ∈ lw_tbl := ix_wm (i := 802) (by decide +kernel)
theorem ml_RX4_123 : tables_1[1093]? = some (Cond.methodLink RX4 123 yX7_size) := by decide +kernel
theorem ml_RX4_128 : tables_1[1094]? = some (Cond.methodLink RX4 128 yX7_tell) := by decide +kernel
theorem mf_X4_writeRow : ix_mf yX4_writeRow cX4_writeRow 4 (none : Option Jvm.ClassFile.FieldType) 2 := ⟨ix_wm (i := 1092) (by decide +kernel), ix_wm (i := 2) (by decide +kernel), ⟨by decide +kernel, by decide +kernel⟩, by decide +kernel, by decide +kernel⟩
theorem mi_X4_writeRow : Cond.instanceMethod yX4_writeRow ∈ lw_tbl := ix_wm (i := 1090) (by decide +kernel)
theorem mf_X4_noted : ix_mf yX4_noted cX4_noted 2 (some .int) 1 := ⟨ix_wm (i := 1539) (by decide +kernel), ix_wm (i := 2) (by decide +kernel), ⟨by decide +kernel, by decide +kernel⟩, by decide +kernel, by decide +kernel⟩
theorem mi_X4_noted : Cond.instanceMethod yX4_noted ∈ lw_tbl := ix_wm (i := 1537) (by decide +kernel)
theorem mf_X5_kindNumber : ix_mf yX5_kindNumber cX5_kindNumber 1 (some .int) 0 := ⟨ix_wm (i := 857) (by decide +kernel), ix_wm (i := 16) (by decide +kernel), ⟨by decide +kernel, by decide +kernel⟩, by decide +kernel, by decide +kernel⟩
theorem mi_X5_kindNumber : Cond.instanceMethod yX5_kindNumber ∈ lw_tbl := ix_wm (i := 856) (by decide +kernel)
theorem ml_RX5_31 : tables_1[941]? = some (Cond.methodLink RX5 31 yX4_note) := by decide +kernel
theorem ml_RX5_37 : tables_1[942]? = some (Cond.methodLink RX5 37 (⟨"ClauseCourt$AtMost", "holds", "(LClauseCourt$Board;LClauseCourt$Desk;)Z"⟩ : MethodName)) := by decide +kernel
theorem ml_RX5_41 : tables_1[943]? = some (Cond.methodLink RX5 41 (⟨"ClauseCourt$Group", "trueOnes", "(LClauseCourt$Board;)I"⟩ : MethodName)) := by decide +kernel
theorem fl_RX5_17 : ix_flb 639 640 false RX5 17 "ClauseCourt$Group" [5] 3 0 = true := by decide +kernel
theorem mf_X5_holds : ix_mf yX5_holds cX5_holds 3 (some .boolean) 2 := ⟨ix_wm (i := 940) (by decide +kernel), ix_wm (i := 16) (by decide +kernel), ⟨by decide +kernel, by decide +kernel⟩, by decide +kernel, by decide +kernel⟩
theorem mi_X5_holds : Cond.instanceMethod yX5_holds ∈ lw_tbl := ix_wm (i := 939) (by decide +kernel)
theorem mf_X5_fewest : ix_mf yX5_fewest cX5_fewest 2 (some .int) 1 := ⟨ix_wm (i := 975) (by decide +kernel), ix_wm (i := 16) (by decide +kernel), ⟨by decide +kernel, by decide +kernel⟩, by decide +kernel, by decide +kernel⟩
theorem mi_X5_fewest : Cond.instanceMethod yX5_fewest ∈ lw_tbl := ix_wm (i := 974) (by decide +kernel)
theorem mf_X6_kindNumber : ix_mf yX6_kindNumber cX6_kindNumber 1 (some .int) 0 := ⟨ix_wm (i := 860) (by decide +kernel), ix_wm (i := 13) (by decide +kernel), ⟨by decide +kernel, by decide +kernel⟩, by decide +kernel, by decide +kernel⟩
theorem mi_X6_kindNumber : Cond.instanceMethod yX6_kindNumber ∈ lw_tbl := ix_wm (i := 859) (by decide +kernel)
theorem ms_X2_makeName : Cond.selects yX2_makeName.cls yX2_makeName yX2_makeName ∈ lw_tbl := ix_wm (i := 547) (by decide +kernel)
theorem ml_RX6_27 : tables_1[586]? = some (Cond.methodLink RX6 27 yX2_makeName) := by decide +kernel
theorem ms_X2_lay : Cond.selects yX2_lay.cls yX2_lay yX2_lay ∈ lw_tbl := ix_wm (i := 551) (by decide +kernel)
theorem ml_RX6_21 : tables_1[587]? = some (Cond.methodLink RX6 21 yX2_lay) := by decide +kernel
theorem mf_X6_layPair : ix_mf yX6_layPair cX6_layPair 4 (some .int) 3 := ⟨ix_wm (i := 585) (by decide +kernel), ix_wm (i := 13) (by decide +kernel), ⟨by decide +kernel, by decide +kernel⟩, by decide +kernel, by decide +kernel⟩
theorem st_X6_layPair : Cond.static yX6_layPair ∈ lw_tbl := ix_wm (i := 584) (by decide +kernel)
theorem fl_RX6_13 : ix_flb 510 511 false RX6 13 "ClauseCourt$Parity" [6] 0 2 = true := by decide +kernel
theorem fl_RX6_7 : ix_flb 672 0 false RX6 7 "ClauseCourt$Parity" [6] 3 0 = true := by decide +kernel
theorem ml_RX6_17 : tables_1[583]? = some (Cond.methodLink RX6 17 yX6_layPair) := by decide +kernel
theorem mf_X6_layInto : ix_mf yX6_layInto cX6_layInto 4 (none : Option Jvm.ClassFile.FieldType) 1 := ⟨ix_wm (i := 582) (by decide +kernel), ix_wm (i := 13) (by decide +kernel), ⟨by decide +kernel, by decide +kernel⟩, by decide +kernel, by decide +kernel⟩
theorem mi_X6_layInto : Cond.instanceMethod yX6_layInto ∈ lw_tbl := ix_wm (i := 581) (by decide +kernel)
theorem ml_RX6_31 : tables_1[949]? = some (Cond.methodLink RX6 31 yX4_note) := by decide +kernel
theorem ml_RX6_37 : tables_1[950]? = some (Cond.methodLink RX6 37 (⟨"ClauseCourt$Parity", "trueOnes", "(LClauseCourt$Board;)I"⟩ : MethodName)) := by decide +kernel
theorem mf_X6_holds : ix_mf yX6_holds cX6_holds 3 (some .boolean) 2 := ⟨ix_wm (i := 948) (by decide +kernel), ix_wm (i := 13) (by decide +kernel), ⟨by decide +kernel, by decide +kernel⟩, by decide +kernel, by decide +kernel⟩
theorem mi_X6_holds : Cond.instanceMethod yX6_holds ∈ lw_tbl := ix_wm (i := 947) (by decide +kernel)
theorem ml_RX6_41 : tables_1[979]? = some (Cond.methodLink RX6 41 (⟨"ClauseCourt$Rule", "fewest", "(LClauseCourt$Desk;)I"⟩ : MethodName)) := by decide +kernel
theorem mf_X6_fewest : ix_mf yX6_fewest cX6_fewest 2 (some .int) 1 := ⟨ix_wm (i := 978) (by decide +kernel), ix_wm (i := 13) (by decide +kernel), ⟨by decide +kernel, by decide +kernel⟩, by decide +kernel, by decide +kernel⟩
theorem mi_X6_fewest : Cond.instanceMethod yX6_fewest ∈ lw_tbl := ix_wm (i := 977) (by decide +kernel)
theorem mf_X8_greatest : ix_mf yX8_greatest cX8_greatest 2 (some .int) 1 := ⟨ix_wm (i := 1002) (by decide +kernel), ix_wm (i := 11) (by decide +kernel), ⟨by decide +kernel, by decide +kernel⟩, by decide +kernel, by decide +kernel⟩
theorem mi_X8_greatest : Cond.instanceMethod yX8_greatest ∈ lw_tbl := ix_wm (i := 984) (by decide +kernel)
theorem ml_RX6_45 : tables_1[998]? = some (Cond.methodLink RX6 45 (⟨"ClauseCourt$Rule", "greatest", "(LClauseCourt$Desk;)I"⟩ : MethodName)) := by decide +kernel
theorem mf_X6_greatest : ix_mf yX6_greatest cX6_greatest 3 (some .int) 1 := ⟨ix_wm (i := 997) (by decide +kernel), ix_wm (i := 13) (by decide +kernel), ⟨by decide +kernel, by decide +kernel⟩, by decide +kernel, by decide +kernel⟩
theorem mi_X6_greatest : Cond.instanceMethod yX6_greatest ∈ lw_tbl := ix_wm (i := 996) (by decide +kernel)
theorem mf_X7_remove : ix_mf yX7_remove cX7_remove 4 (none : Option Jvm.ClassFile.FieldType) 1 := ⟨ix_wm (i := 1451) (by decide +kernel), ix_wm (i := 4) (by decide +kernel), ⟨by decide +kernel, by decide +kernel⟩, by decide +kernel, by decide +kernel⟩
theorem mi_X7_remove : Cond.instanceMethod yX7_remove ∈ lw_tbl := ix_wm (i := 1449) (by decide +kernel)
theorem fl_RX8_19 : ix_flb 520 0 false RX8 19 "ClauseCourt$Rule" [0, 3, 5, 6, 9] 2 0 = true := by decide +kernel
theorem mf_X8_laid : ix_mf yX8_laid cX8_laid 2 (some .int) 1 := ⟨ix_wm (i := 1011) (by decide +kernel), ix_wm (i := 11) (by decide +kernel), ⟨by decide +kernel, by decide +kernel⟩, by decide +kernel, by decide +kernel⟩
theorem mi_X8_laid : Cond.instanceMethod yX8_laid ∈ lw_tbl := ix_wm (i := 1004) (by decide +kernel)
theorem fl_RX9_12 : ix_flb 276 0 false RX9 12 "ClauseCourt$Solver" [8] 0 2 = true := by decide +kernel
theorem fl_RX9_68 : ix_flb 144 0 true RX9 68 "ClauseCourt$Case" [2] 5 0 = true := by decide +kernel
theorem ms_X1_clear : Cond.selects yX1_clear.cls yX1_clear yX1_clear ∈ lw_tbl := ix_wm (i := 1144) (by decide +kernel)
theorem ml_RX9_74 : tables_1[1142]? = some (Cond.methodLink RX9 74 yX1_clear) := by decide +kernel
theorem fp_RX9_82 : ix_fpb 282 0 false RX9 82 "ClauseCourt$Solver" [8] 3 "J" false = true := by decide +kernel
theorem fp_RX9_86 : ix_fpb 284 0 false RX9 86 "ClauseCourt$Solver" [8] 5 "I" false = true := by decide +kernel
theorem fl_RX9_89 : ix_flb 150 0 true RX9 89 "ClauseCourt$Case" [2] 8 0 = true := by decide +kernel
theorem fp_RX9_92 : ix_fpb 298 0 false RX9 92 "ClauseCourt$Solver" [8] 17 "I" false = true := by decide +kernel
theorem fl_RX9_93 : ix_flb 152 0 true RX9 93 "ClauseCourt$Case" [2] 9 0 = true := by decide +kernel
theorem fp_RX9_96 : ix_fpb 299 0 false RX9 96 "ClauseCourt$Solver" [8] 18 "I" false = true := by decide +kernel
theorem fp_RX9_97 : ix_fpb 300 0 false RX9 97 "ClauseCourt$Solver" [8] 19 "I" false = true := by decide +kernel
theorem fl_RX9_47 : ix_flb 289 0 false RX9 47 "ClauseCourt$Solver" [8] 10 2 = true := by decide +kernel
theorem ml_RX9_62 : tables_1[273]? = some (Cond.methodLink RX9 62 yJ7_fill_53178) := by decide +kernel
theorem fl_RX9_50 : ix_flb 291 0 false RX9 50 "ClauseCourt$Solver" [8] 11 2 = true := by decide +kernel
theorem fl_RX9_27 : ix_flb 280 0 false RX9 27 "ClauseCourt$Solver" [8] 2 2 = true := by decide +kernel
theorem fl_RX9_78 : ix_flb 135 0 true RX9 78 "ClauseCourt$Case" [2] 1 2 = true := by decide +kernel
theorem mf_X9_openBoard : ix_mf yX9_openBoard cX9_openBoard 3 (none : Option Jvm.ClassFile.FieldType) 1 := ⟨ix_wm (i := 1141) (by decide +kernel), ix_wm (i := 5) (by decide +kernel), ⟨by decide +kernel, by decide +kernel⟩, by decide +kernel, by decide +kernel⟩
theorem mi_X9_openBoard : Cond.instanceMethod yX9_openBoard ∈ lw_tbl := ix_wm (i := 1139) (by decide +kernel)
theorem fl_RX9_100 : ix_flb 121 0 true RX9 100 "ClauseCourt$Rows" [7] 2 0 = true := by decide +kernel
theorem ms_X1_layRow : Cond.selects yX1_layRow.cls yX1_layRow yX1_layRow ∈ lw_tbl := ix_wm (i := 1158) (by decide +kernel)
theorem ml_RX9_103 : tables_1[1156]? = some (Cond.methodLink RX9 103 yX1_layRow) := by decide +kernel
theorem mf_X9_layAll : ix_mf yX9_layAll cX9_layAll 3 (none : Option Jvm.ClassFile.FieldType) 1 := ⟨ix_wm (i := 1155) (by decide +kernel), ix_wm (i := 5) (by decide +kernel), ⟨by decide +kernel, by decide +kernel⟩, by decide +kernel, by decide +kernel⟩
theorem mi_X9_layAll : Cond.instanceMethod yX9_layAll ∈ lw_tbl := ix_wm (i := 1153) (by decide +kernel)
theorem fl_RX9_86 : ix_flb 284 0 false RX9 86 "ClauseCourt$Solver" [8] 5 0 = true := by decide +kernel
theorem fl_RX9_31 : ix_flb 283 0 false RX9 31 "ClauseCourt$Solver" [8] 4 2 = true := by decide +kernel
theorem mf_X9_suppose : ix_mf yX9_suppose cX9_suppose 2 (none : Option Jvm.ClassFile.FieldType) 1 := ⟨ix_wm (i := 1174) (by decide +kernel), ix_wm (i := 5) (by decide +kernel), ⟨by decide +kernel, by decide +kernel⟩, by decide +kernel, by decide +kernel⟩
theorem mi_X9_suppose : Cond.instanceMethod yX9_suppose ∈ lw_tbl := ix_wm (i := 1172) (by decide +kernel)
theorem fl_RX9_107 : ix_flb 201 0 true RX9 107 "ClauseCourt$Board" [1] 0 2 = true := by decide +kernel
theorem fp_RX9_110 : ix_fpb 230 0 true RX9 110 "ClauseCourt$Board" [1] 15 "I" false = true := by decide +kernel
theorem fp_RX9_113 : ix_fpb 232 0 true RX9 113 "ClauseCourt$Board" [1] 16 "I" false = true := by decide +kernel
theorem mf_X9_closeBoard : ix_mf yX9_closeBoard cX9_closeBoard 1 (none : Option Jvm.ClassFile.FieldType) 0 := ⟨ix_wm (i := 1178) (by decide +kernel), ix_wm (i := 5) (by decide +kernel), ⟨by decide +kernel, by decide +kernel⟩, by decide +kernel, by decide +kernel⟩
theorem mi_X9_closeBoard : Cond.instanceMethod yX9_closeBoard ∈ lw_tbl := ix_wm (i := 1176) (by decide +kernel)
theorem ms_X9_openBoard : Cond.selects yX9_openBoard.cls yX9_openBoard yX9_openBoard ∈ lw_tbl := ix_wm (i := 1140) (by decide +kernel)
theorem ml_RX9_116 : tables_1[1499]? = some (Cond.methodLink RX9 116 yX9_openBoard) := by decide +kernel
theorem fl_RX9_120 : ix_flb 132 0 true RX9 120 "ClauseCourt$Case" [2] 0 2 = true := by decide +kernel
theorem ms_X9_layAll : Cond.selects yX9_layAll.cls yX9_layAll yX9_layAll ∈ lw_tbl := ix_wm (i := 1154) (by decide +kernel)
theorem ml_RX9_121 : tables_1[1500]? = some (Cond.methodLink RX9 121 yX9_layAll) := by decide +kernel
theorem ms_X9_closeBoard : Cond.selects yX9_closeBoard.cls yX9_closeBoard yX9_closeBoard ∈ lw_tbl := ix_wm (i := 1177) (by decide +kernel)
theorem ml_RX9_125 : tables_1[1501]? = some (Cond.methodLink RX9 125 yX9_closeBoard) := by decide +kernel
theorem fl_RX9_23 : ix_flb 278 0 false RX9 23 "ClauseCourt$Solver" [8] 1 2 = true := by decide +kernel
theorem mf_X9_openNext : ix_mf yX9_openNext cX9_openNext 2 (none : Option Jvm.ClassFile.FieldType) 1 := ⟨ix_wm (i := 1498) (by decide +kernel), ix_wm (i := 5) (by decide +kernel), ⟨by decide +kernel, by decide +kernel⟩, by decide +kernel, by decide +kernel⟩
theorem mi_X9_openNext : Cond.instanceMethod yX9_openNext ∈ lw_tbl := ix_wm (i := 1496) (by decide +kernel)
theorem fl_RX9_128 : ix_flb 295 0 false RX9 128 "ClauseCourt$Solver" [8] 14 0 = true := by decide +kernel
theorem fl_RX9_56 : ix_flb 294 0 false RX9 56 "ClauseCourt$Solver" [8] 13 2 = true := by decide +kernel
theorem fp_RX9_128 : ix_fpb 295 0 false RX9 128 "ClauseCourt$Solver" [8] 14 "I" false = true := by decide +kernel
theorem mf_X9_pushFresh : ix_mf yX9_pushFresh cX9_pushFresh 2 (none : Option Jvm.ClassFile.FieldType) 1 := ⟨ix_wm (i := 1263) (by decide +kernel), ix_wm (i := 5) (by decide +kernel), ⟨by decide +kernel, by decide +kernel⟩, by decide +kernel, by decide +kernel⟩
theorem mi_X9_pushFresh : Cond.instanceMethod yX9_pushFresh ∈ lw_tbl := ix_wm (i := 1262) (by decide +kernel)
theorem ml_RX9_142 : tables_1[1234]? = some (Cond.methodLink RX9 142 yX7_push) := by decide +kernel
theorem fl_RX9_131 : ix_flb 138 0 true RX9 131 "ClauseCourt$Case" [2] 2 2 = true := by decide +kernel
theorem ml_RX9_135 : tables_1[1345]? = some (Cond.methodLink RX9 135 yX1_isTrue) := by decide +kernel
theorem ms_X9_pushFresh : Cond.selects yX9_pushFresh.cls yX9_pushFresh yX9_pushFresh ∈ lw_tbl := List.mem_append_left _ (List.mem_of_getElem? (i := 33) (by decide +kernel))
theorem ml_RX9_139 : tables_1[1260]? = some (Cond.methodLink RX9 139 yX9_pushFresh) := by decide +kernel
theorem mf_X9_barTruth : ix_mf yX9_barTruth cX9_barTruth 3 (none : Option Jvm.ClassFile.FieldType) 1 := ⟨ix_wm (i := 1505) (by decide +kernel), ix_wm (i := 5) (by decide +kernel), ⟨by decide +kernel, by decide +kernel⟩, by decide +kernel, by decide +kernel⟩
theorem mi_X9_barTruth : Cond.instanceMethod yX9_barTruth ∈ lw_tbl := ix_wm (i := 1503) (by decide +kernel)
theorem fl_RX9_44 : ix_flb 288 0 false RX9 44 "ClauseCourt$Solver" [8] 9 2 = true := by decide +kernel
theorem mf_X9_gatherFrom : ix_mf yX9_gatherFrom cX9_gatherFrom 4 (none : Option Jvm.ClassFile.FieldType) 2 := ⟨ix_wm (i := 1216) (by decide +kernel), ix_wm (i := 5) (by decide +kernel), ⟨by decide +kernel, by decide +kernel⟩, by decide +kernel, by decide +kernel⟩
theorem mi_X9_gatherFrom : Cond.instanceMethod yX9_gatherFrom ∈ lw_tbl := ix_wm (i := 1215) (by decide +kernel)
theorem fl_RX9_110 : ix_flb 230 0 true RX9 110 "ClauseCourt$Board" [1] 15 0 = true := by decide +kernel
theorem fl_RX9_113 : ix_flb 232 0 true RX9 113 "ClauseCourt$Board" [1] 16 0 = true := by decide +kernel
theorem fl_RX9_38 : ix_flb 286 0 false RX9 38 "ClauseCourt$Solver" [8] 7 2 = true := by decide +kernel
theorem ms_X9_gatherFrom : Cond.selects yX9_gatherFrom.cls yX9_gatherFrom yX9_gatherFrom ∈ lw_tbl := List.mem_append_left _ (List.mem_of_getElem? (i := 25) (by decide +kernel))
theorem ml_RX9_312 : tables_1[1213]? = some (Cond.methodLink RX9 312 yX9_gatherFrom) := by decide +kernel
theorem mf_X9_gatherRow : ix_mf yX9_gatherRow cX9_gatherRow 2 (none : Option Jvm.ClassFile.FieldType) 1 := ⟨ix_wm (i := 1212) (by decide +kernel), ix_wm (i := 5) (by decide +kernel), ⟨by decide +kernel, by decide +kernel⟩, by decide +kernel, by decide +kernel⟩
theorem mi_X9_gatherRow : Cond.instanceMethod yX9_gatherRow ∈ lw_tbl := ix_wm (i := 1211) (by decide +kernel)
theorem fl_RX9_41 : ix_flb 287 0 false RX9 41 "ClauseCourt$Solver" [8] 8 2 = true := by decide +kernel
theorem mf_X9_gatherName : ix_mf yX9_gatherName cX9_gatherName 2 (none : Option Jvm.ClassFile.FieldType) 1 := ⟨ix_wm (i := 1221) (by decide +kernel), ix_wm (i := 5) (by decide +kernel), ⟨by decide +kernel, by decide +kernel⟩, by decide +kernel, by decide +kernel⟩
theorem mi_X9_gatherName : Cond.instanceMethod yX9_gatherName ∈ lw_tbl := ix_wm (i := 1220) (by decide +kernel)
def tab_X1_isReason : List (Nat × Instr × Nat) := [(0, .aload_n 0, 1), (1, .getfield 16, 3), (4, .getfield 85, 3), (7, .iload_n 1, 1), (8, .iaload, 1), (9, .istore_n 2, 1), (10, .iload_n 2, 1), (11, .aload_n 0, 1), (12, .getfield 16, 3), (15, .getfield 85, 3), (18, .iload_n 1, 1), (19, .iconst 1, 1), (20, .iadd, 1), (21, .iaload, 1), (22, .if_icmp .ge 42, 3), (25, .aload_n 0, 1), (26, .getfield 16, 3), (29, .getfield 82, 3), (32, .iload_n 2, 1), (33, .iaload, 1), (34, .istore_n 3, 1), (35, .aload_n 0, 1), (36, .iload_n 3, 1), (37, .invokevirtual 146, 3), (40, .ifCond .eq 18, 3), (43, .aload_n 0, 1), (44, .getfield 49, 3), (47, .iload_n 3, 1), (48, .invokestatic 108, 3), (51, .iaload, 1), (52, .iload_n 1, 1), (53, .if_icmp .ne 5, 3), (56, .iconst 1, 1), (57, .ireturn, 1), (58, .iinc 2 1, 3), (61, .goto (-51), 3), (64, .iconst 0, 1), (65, .ireturn, 1)]
theorem tb_X1_isReason : ix_tab cX1_isReason tab_X1_isReason := by
  unfold ix_tab
  decide +kernel
noncomputable def f_X1_isReason_58 (n : Nat) (z : ix_Z) (rec10 : Int32 → ix_D2 → Option (Int32 × ix_D2)) (a0 : Nat) (x1 : Int32) (x2 : Int32) (d : ix_D2) : Option (Int32 × ix_D2) :=
  ix_lt (x2 + 1) (fun x2_27 => rec10 x2_27 d)
noncomputable def b_X1_isReason_10 (n : Nat) (z : ix_Z)  (a0 : Nat) (x1 : Int32) (rec10 : Int32 → ix_D2 → Option (Int32 × ix_D2)) (x2 : Int32) (d : ix_D2) : Option (Int32 × ix_D2) :=
  ix_ck (ix_ok z [1] a0) (ix_bd1 (z.1 a0 0) (fun b_11 => ix_ck (ix_ok z [7] b_11) (ix_bd1 (z.1 b_11 1) (fun b_14 => ix_ck (ix_ix z 20 b_14 (x1 + 1)) (ix_if (d.1 b_14 (ix_n (x1 + 1)) ≤ x2) (some (0, d)) (ix_bd1 (z.1 b_11 0) (fun b_18 => ix_ck (ix_ix z 20 b_18 x2) (ix_lt (d.1 b_18 (ix_n x2)) (fun x3_21 => ix_bd2 (f_X1_isTrue n z a0 x3_21 d) (fun r_25 d_23 => ix_if (r_25 = 0) (f_X1_isReason_58 n z rec10 a0 x1 x2 d_23) (ix_bd1 (z.1 a0 10) (fun b_29 => ix_ck (ix_ix z 20 b_29 (ix_abs x3_21)) (ix_if (d_23.1 b_29 (ix_n (ix_abs x3_21)) = x1) (some (1, d_23)) (f_X1_isReason_58 n z rec10 a0 x1 x2 d_23))))))))))))))
noncomputable def f_X1_isReason_10 (n : Nat) (z : ix_Z)  (a0 : Nat) (x1 : Int32) (x2 : Int32) (d : ix_D2) : Option (Int32 × ix_D2) := ix_fix (b_X1_isReason_10 n z  a0 x1) (fun _ _ => none) n x2 d
noncomputable def f_X1_isReason (n : Nat) (z : ix_Z) (a0 : Nat) (x1 : Int32) (d : ix_D2) : Option (Int32 × ix_D2) :=
  ix_ck (ix_ok z [1] a0) (ix_bd1 (z.1 a0 0) (fun b_2 => ix_ck (ix_ok z [7] b_2) (ix_bd1 (z.1 b_2 1) (fun b_5 => ix_ck (ix_ix z 20 b_5 x1) (ix_lt (d.1 b_5 (ix_n x1)) (fun x2_8 => f_X1_isReason_10 n z  a0 x1 x2_8 d))))))
set_option maxRecDepth 20000 in
theorem t_X1_isReason_58 {l : Launch} {p : Program} {e : Env} {s : State} {m : MethodId} {args : Array Value} {below : List Frame} {meth : Method} {c : Code} {K : ix_Cx} (hKp : ix_Kp K) {n : Nat} {z : ix_Z} (X : ix_X p s m args c K cX1_isReason RX1 4) (hr : meth.sig.returnType = (some .boolean)) (hlk : meth.locks = false) {rec10 : Int32 → ix_D2 → Option (Int32 × ix_D2)} {a0 : Nat} {x1 : Int32} {x2 : Int32} {r : Int32} {d1 : ix_D2} (hrec10 : ∀ (x2 : Int32) (d : ix_D2), rec10 x2 d = some (r, d1) → ix_G p l e (ix_rm 2 42 0 0) s m args below meth c (MQ below (ix_Post K (some (.int r)) (ix_w z d1)) args s 0 0 (ix_A K)) K 4 0 0 10 [(0, .ref (K.2.2.1 + a0)), (1, .int x1), (2, .int x2)] [] (ix_w z d)) {d : ix_D2} (h : f_X1_isReason_58 n z rec10 a0 x1 x2 d = some (r, d1)) : ix_G p l e (ix_rm 2 42 0 0) s m args below meth c (MQ below (ix_Post K (some (.int r)) (ix_w z d1)) args s 0 0 (ix_A K)) K 4 0 0 58 [(0, .ref (K.2.2.1 + a0)), (1, .int x1), (2, .int x2)] [] (ix_w z d) := by
  unfold f_X1_isReason_58 at h
  obtain ⟨x2_27, e_28, h⟩ := ix_lt_ex h
  refine ix_iinc (i := 2) (j := 2) (v := x2_27) (L1 := [(2, .int x2_27), (0, .ref (K.2.2.1 + a0)), (1, .int x1)]) X (ix_tb_at tb_X1_isReason 34 rfl) rfl (by rw [oi_1]; exact e_28.symm) (Nat.le_of_ble_eq_true rfl) rfl (pc1 := 61) rfl ?_
  refine ix_goto (tgt := 10) X (ix_tb_at tb_X1_isReason 35 rfl) (by decide) ?_
  refine ix_sub (L1 := [(0, .ref (K.2.2.1 + a0)), (1, .int x1), (2, .int x2_27)]) [1, 2, 0] rfl ?_
  exact hrec10 x2_27 d h
set_option maxRecDepth 20000 in
theorem tb_X1_isReason_10 {l : Launch} {p : Program} {e : Env} {s : State} {m : MethodId} {args : Array Value} {below : List Frame} {meth : Method} {c : Code} {K : ix_Cx} (hKp : ix_Kp K) {n : Nat} {z : ix_Z} (X : ix_X p s m args c K cX1_isReason RX1 4) (hr : meth.sig.returnType = (some .boolean)) (hlk : meth.locks = false)  {a0 : Nat} {x1 : Int32} {rec10 : Int32 → ix_D2 → Option (Int32 × ix_D2)} {r : Int32} {d1 : ix_D2} (hrec10 : ∀ (x2 : Int32) (d : ix_D2), rec10 x2 d = some (r, d1) → ix_G p l e (ix_rm 2 42 0 0) s m args below meth c (MQ below (ix_Post K (some (.int r)) (ix_w z d1)) args s 0 0 (ix_A K)) K 4 0 0 10 [(0, .ref (K.2.2.1 + a0)), (1, .int x1), (2, .int x2)] [] (ix_w z d)) {x2 : Int32} {d : ix_D2} (h : b_X1_isReason_10 n z  a0 x1 rec10 x2 d = some (r, d1)) : ix_G p l e (ix_rm 2 42 0 0) s m args below meth c (MQ below (ix_Post K (some (.int r)) (ix_w z d1)) args s 0 0 (ix_A K)) K 4 0 0 10 [(0, .ref (K.2.2.1 + a0)), (1, .int x1), (2, .int x2)] [] (ix_w z d) := by
  unfold b_X1_isReason_10 at h
  refine ix_iload_n (i := 2) (j := 2) X (ix_tb_at tb_X1_isReason 6 rfl) rfl rfl (pc1 := 11) rfl ?_
  refine ix_aload_n (i := 0) (j := 0) X (ix_tb_at tb_X1_isReason 7 rfl) rfl rfl (pc1 := 12) rfl ?_
  obtain ⟨k_10, h⟩ := ix_ck_some h
  obtain ⟨b_11, q_12, h⟩ := ix_bd1_ex h
  refine iz_getR X fl_RX1_16 k_10 q_12 (ix_tb_at tb_X1_isReason 8 rfl) (pc1 := 15) rfl ?_
  obtain ⟨k_13, h⟩ := ix_ck_some h
  obtain ⟨b_14, q_15, h⟩ := ix_bd1_ex h
  refine iz_getR X fl_RX1_85 k_13 q_15 (ix_tb_at tb_X1_isReason 9 rfl) (pc1 := 18) rfl ?_
  refine ix_iload_n (i := 1) (j := 1) X (ix_tb_at tb_X1_isReason 10 rfl) rfl rfl (pc1 := 19) rfl ?_
  refine ix_iconst (v := 1) X (ix_tb_at tb_X1_isReason 11 rfl) (by decide) (pc1 := 20) rfl ?_
  refine ix_iadd X (ix_tb_at tb_X1_isReason 12 rfl) (pc1 := 21) rfl ?_
  obtain ⟨k_16, h⟩ := ix_ck_some h
  refine iz_iald X k_16 (ix_tb_at tb_X1_isReason 13 rfl) (pc1 := 22) rfl ?_
  refine ix_icmp_ge (tgt := 64) X (ix_tb_at tb_X1_isReason 14 rfl) (by decide) (pc1 := 25) rfl (fun q_17 => ?_) (fun q_17 => ?_)
  · have h := ix_ift q_17 h
    refine ix_iconst (v := 0) X (ix_tb_at tb_X1_isReason 36 rfl) (by decide) (pc1 := 65) rfl ?_
    exact ix_zret X hr hlk (by decide) (ix_r2 (f := fun r => some (.int r)) (g := ix_w z) h) (ix_tb_at tb_X1_isReason 37 rfl)
  · have h := ix_iff q_17 h
    refine ix_aload_n (i := 0) (j := 0) X (ix_tb_at tb_X1_isReason 15 rfl) rfl rfl (pc1 := 26) rfl ?_
    refine iz_getR X fl_RX1_16 k_10 q_12 (ix_tb_at tb_X1_isReason 16 rfl) (pc1 := 29) rfl ?_
    obtain ⟨b_18, q_19, h⟩ := ix_bd1_ex h
    refine iz_getR X fl_RX1_82 k_13 q_19 (ix_tb_at tb_X1_isReason 17 rfl) (pc1 := 32) rfl ?_
    refine ix_iload_n (i := 2) (j := 2) X (ix_tb_at tb_X1_isReason 18 rfl) rfl rfl (pc1 := 33) rfl ?_
    obtain ⟨k_20, h⟩ := ix_ck_some h
    refine iz_iald X k_20 (ix_tb_at tb_X1_isReason 19 rfl) (pc1 := 34) rfl ?_
    obtain ⟨x3_21, e_22, h⟩ := ix_lt_ex h
    refine ix_nmi e_22 ?_
    refine ix_istore_n (i := 3) (L1 := [(3, .int x3_21), (0, .ref (K.2.2.1 + a0)), (1, .int x1), (2, .int x2)]) X (ix_tb_at tb_X1_isReason 20 rfl) rfl (Nat.le_of_ble_eq_true rfl) rfl (pc1 := 35) rfl ?_
    refine ix_aload_n (i := 0) (j := 1) X (ix_tb_at tb_X1_isReason 21 rfl) rfl rfl (pc1 := 36) rfl ?_
    refine ix_iload_n (i := 3) (j := 0) X (ix_tb_at tb_X1_isReason 22 rfl) rfl rfl (pc1 := 37) rfl ?_
    obtain ⟨r_25, d_23, h_24, h⟩ := ix_bd2_ex h
    refine ix_callV (As := [.int x3_21]) (rest := []) (ci := 1) (T := TX1) (nf := 17) X mf_X1_isTrue mi_X1_isTrue ms_X1_isTrue rfl (Nat.le_of_ble_eq_true rfl) ml_RX1_146 ⟨Nat.le_of_ble_eq_true rfl, Nat.le_of_ble_eq_true rfl⟩ ⟨Nat.le_of_ble_eq_true rfl, Nat.le_of_ble_eq_true rfl⟩ rfl (Nat.le_of_ble_eq_true rfl) (ix_tb_at tb_X1_isReason 23 rfl) ⟨k_10.1, List.mem_singleton.mp k_10.2⟩ (c_X1_isTrue hKp h_24) rfl (pc1 := 40) rfl ?_
    refine ix_if_eq (tgt := 58) X (ix_tb_at tb_X1_isReason 24 rfl) (by decide) (pc1 := 43) rfl (fun q_26 => ?_) (fun q_26 => ?_)
    · have h := ix_ift q_26 h
      refine ix_sub (L1 := [(0, .ref (K.2.2.1 + a0)), (1, .int x1), (2, .int x2)]) [1, 2, 3] rfl ?_
      exact t_X1_isReason_58 hKp X hr hlk hrec10 h
    · have h := ix_iff q_26 h
      refine ix_aload_n (i := 0) (j := 1) X (ix_tb_at tb_X1_isReason 25 rfl) rfl rfl (pc1 := 44) rfl ?_
      obtain ⟨b_29, q_30, h⟩ := ix_bd1_ex h
      refine iz_getR X fl_RX1_49 k_10 q_30 (ix_tb_at tb_X1_isReason 26 rfl) (pc1 := 47) rfl ?_
      refine ix_iload_n (i := 3) (j := 0) X (ix_tb_at tb_X1_isReason 27 rfl) rfl rfl (pc1 := 48) rfl ?_
      refine ix_mabs X ml_RX1_108 (Nat.le_of_ble_eq_true rfl) (Nat.le_of_ble_eq_true rfl) ⟨Nat.le_of_ble_eq_true rfl, Nat.le_of_ble_eq_true rfl⟩ (ix_tb_at tb_X1_isReason 28 rfl) (pc1 := 51) rfl ?_
      obtain ⟨k_31, h⟩ := ix_ck_some h
      refine iz_iald X k_31 (ix_tb_at tb_X1_isReason 29 rfl) (pc1 := 52) rfl ?_
      refine ix_iload_n (i := 1) (j := 2) X (ix_tb_at tb_X1_isReason 30 rfl) rfl rfl (pc1 := 53) rfl ?_
      refine ix_icmp_ne (tgt := 58) X (ix_tb_at tb_X1_isReason 31 rfl) (by decide) (pc1 := 56) rfl (fun q_32 => ?_) (fun q_32 => ?_)
      · have h := ix_iff q_32 h
        refine ix_sub (L1 := [(0, .ref (K.2.2.1 + a0)), (1, .int x1), (2, .int x2)]) [1, 2, 3] rfl ?_
        exact t_X1_isReason_58 hKp X hr hlk hrec10 h
      · have h := ix_ift q_32 h
        refine ix_iconst (v := 1) X (ix_tb_at tb_X1_isReason 32 rfl) (by decide) (pc1 := 57) rfl ?_
        exact ix_zret X hr hlk (by decide) (ix_r2 (f := fun r => some (.int r)) (g := ix_w z) h) (ix_tb_at tb_X1_isReason 33 rfl)
theorem t_X1_isReason_10 {l : Launch} {p : Program} {e : Env} {s : State} {m : MethodId} {args : Array Value} {below : List Frame} {meth : Method} {c : Code} {K : ix_Cx} (hKp : ix_Kp K) {n : Nat} {z : ix_Z} (X : ix_X p s m args c K cX1_isReason RX1 4) (hr : meth.sig.returnType = (some .boolean)) (hlk : meth.locks = false)  {a0 : Nat} {x1 : Int32} {r : Int32} {d1 : ix_D2}  {x2 : Int32} {d : ix_D2} (h : f_X1_isReason_10 n z  a0 x1 x2 d = some (r, d1)) : ix_G p l e (ix_rm 2 42 0 0) s m args below meth c (MQ below (ix_Post K (some (.int r)) (ix_w z d1)) args s 0 0 (ix_A K)) K 4 0 0 10 [(0, .ref (K.2.2.1 + a0)), (1, .int x1), (2, .int x2)] [] (ix_w z d) := by
  have key : ∀ (f : Nat) (x2 : Int32) (d : ix_D2), ix_fix (b_X1_isReason_10 n z  a0 x1) (fun _ _ => none) f x2 d = some (r, d1) → ix_G p l e (ix_rm 2 42 0 0) s m args below meth c (MQ below (ix_Post K (some (.int r)) (ix_w z d1)) args s 0 0 (ix_A K)) K 4 0 0 10 [(0, .ref (K.2.2.1 + a0)), (1, .int x1), (2, .int x2)] [] (ix_w z d) := by
    intro f
    induction f with
    | zero =>
      intro x2 d h
      have h : (none : Option (Int32 × ix_D2)) = some (r, d1) := h
      cases h
    | succ f ih =>
      intro x2 d h
      exact tb_X1_isReason_10 hKp X hr hlk (rec10 := ix_fix (b_X1_isReason_10 n z  a0 x1) (fun _ _ => none) f)  ih h
  exact key n x2 d h
set_option maxRecDepth 20000 in
theorem c_X1_isReason {l : Launch} {K : ix_Cx} (hKp : ix_Kp K) {n : Nat} {z : ix_Z} {a0 : Nat} {x1 : Int32} {d : ix_D2} {r : Int32} {d1 : ix_D2} (h : f_X1_isReason n z a0 x1 d = some (r, d1)) : ix_M l K yX1_isReason cX1_isReason 4 (some .boolean) 2 42 0 0 [.ref (K.2.2.1 + a0), .int x1] (ix_w z d) (some (.int r)) (ix_w z d1) := by
  refine ix_met mf_X1_isReason hKp (Nat.le_of_ble_eq_true rfl) ?_
  intro p e s m args below meth c hr hlk hnm X
  have X : ix_X p s m args c K cX1_isReason RX1 4 := X
  show ix_G p l e (ix_rm 2 42 0 0) s m args below meth c (MQ below (ix_Post K (some (.int r)) (ix_w z d1)) args s 0 0 (ix_A K)) K 4 0 0 0 [(0, .ref (K.2.2.1 + a0)), (1, .int x1)] [] (ix_w z d)
  unfold f_X1_isReason at h
  refine ix_aload_n (i := 0) (j := 0) X (ix_tb_at tb_X1_isReason 0 rfl) rfl rfl (pc1 := 1) rfl ?_
  obtain ⟨k_1, h⟩ := ix_ck_some h
  obtain ⟨b_2, q_3, h⟩ := ix_bd1_ex h
  refine iz_getR X fl_RX1_16 k_1 q_3 (ix_tb_at tb_X1_isReason 1 rfl) (pc1 := 4) rfl ?_
  obtain ⟨k_4, h⟩ := ix_ck_some h
  obtain ⟨b_5, q_6, h⟩ := ix_bd1_ex h
  refine iz_getR X fl_RX1_85 k_4 q_6 (ix_tb_at tb_X1_isReason 2 rfl) (pc1 := 7) rfl ?_
  refine ix_iload_n (i := 1) (j := 1) X (ix_tb_at tb_X1_isReason 3 rfl) rfl rfl (pc1 := 8) rfl ?_
  obtain ⟨k_7, h⟩ := ix_ck_some h
  refine iz_iald X k_7 (ix_tb_at tb_X1_isReason 4 rfl) (pc1 := 9) rfl ?_
  obtain ⟨x2_8, e_9, h⟩ := ix_lt_ex h
  refine ix_nmi e_9 ?_
  refine ix_istore_n (i := 2) (L1 := [(2, .int x2_8), (0, .ref (K.2.2.1 + a0)), (1, .int x1)]) X (ix_tb_at tb_X1_isReason 5 rfl) rfl (Nat.le_of_ble_eq_true rfl) rfl (pc1 := 10) rfl ?_
  refine ix_sub (L1 := [(0, .ref (K.2.2.1 + a0)), (1, .int x1), (2, .int x2_8)]) [1, 2, 0] rfl ?_
  exact t_X1_isReason_10 hKp X hr hlk  h
def tab_X1_numberOf : List (Nat × Instr × Nat) := [(0, .iload_n 1, 1), (1, .aload_n 0, 1), (2, .getfield 153, 3), (5, .if_icmp .lt 14, 3), (8, .sipush 2000, 3), (11, .iload_n 1, 1), (12, .iadd, 1), (13, .aload_n 0, 1), (14, .getfield 153, 3), (17, .isub, 1), (18, .ireturn, 1), (19, .iload_n 1, 1), (20, .aload_n 0, 1), (21, .getfield 156, 3), (24, .if_icmp .lt 16, 3), (27, .sipush 1000, 3), (30, .iload_n 1, 1), (31, .iadd, 1), (32, .aload_n 0, 1), (33, .getfield 156, 3), (36, .isub, 1), (37, .goto 4, 3), (40, .iload_n 1, 1), (41, .ireturn, 1)]
theorem tb_X1_numberOf : ix_tab cX1_numberOf tab_X1_numberOf := by
  unfold ix_tab
  decide +kernel
noncomputable def f_X1_numberOf (n : Nat) (z : ix_Z) (a0 : Nat) (x1 : Int32) (d : ix_D2) : Option (Int32 × ix_D2) :=
  ix_ck (ix_ok z [1] a0) (ix_if (x1 < d.1 a0 16) (ix_if (x1 < d.1 a0 15) (some (x1, d)) (some ((1000 + x1) - (d.1 a0 15), d))) (some ((2000 + x1) - (d.1 a0 16), d)))
set_option maxRecDepth 20000 in
theorem c_X1_numberOf {l : Launch} {K : ix_Cx} (hKp : ix_Kp K) {n : Nat} {z : ix_Z} {a0 : Nat} {x1 : Int32} {d : ix_D2} {r : Int32} {d1 : ix_D2} (h : f_X1_numberOf n z a0 x1 d = some (r, d1)) : ix_M l K yX1_numberOf cX1_numberOf 2 (some .int) 0 0 0 0 [.ref (K.2.2.1 + a0), .int x1] (ix_w z d) (some (.int r)) (ix_w z d1) := by
  refine ix_met mf_X1_numberOf hKp (Nat.le_of_ble_eq_true rfl) ?_
  intro p e s m args below meth c hr hlk hnm X
  have X : ix_X p s m args c K cX1_numberOf RX1 2 := X
  show ix_G p l e (ix_rm 0 0 0 0) s m args below meth c (MQ below (ix_Post K (some (.int r)) (ix_w z d1)) args s 0 0 (ix_A K)) K 2 0 0 0 [(0, .ref (K.2.2.1 + a0)), (1, .int x1)] [] (ix_w z d)
  unfold f_X1_numberOf at h
  refine ix_iload_n (i := 1) (j := 1) X (ix_tb_at tb_X1_numberOf 0 rfl) rfl rfl (pc1 := 1) rfl ?_
  refine ix_aload_n (i := 0) (j := 0) X (ix_tb_at tb_X1_numberOf 1 rfl) rfl rfl (pc1 := 2) rfl ?_
  obtain ⟨k_1, h⟩ := ix_ck_some h
  refine iz_getI X fl_RX1_153 k_1 (ix_tb_at tb_X1_numberOf 2 rfl) (pc1 := 5) rfl ?_
  refine ix_icmp_lt (tgt := 19) X (ix_tb_at tb_X1_numberOf 3 rfl) (by decide) (pc1 := 8) rfl (fun q_2 => ?_) (fun q_2 => ?_)
  · have h := ix_ift q_2 h
    refine ix_iload_n (i := 1) (j := 1) X (ix_tb_at tb_X1_numberOf 11 rfl) rfl rfl (pc1 := 20) rfl ?_
    refine ix_aload_n (i := 0) (j := 0) X (ix_tb_at tb_X1_numberOf 12 rfl) rfl rfl (pc1 := 21) rfl ?_
    refine iz_getI X fl_RX1_156 k_1 (ix_tb_at tb_X1_numberOf 13 rfl) (pc1 := 24) rfl ?_
    refine ix_icmp_lt (tgt := 40) X (ix_tb_at tb_X1_numberOf 14 rfl) (by decide) (pc1 := 27) rfl (fun q_3 => ?_) (fun q_3 => ?_)
    · have h := ix_ift q_3 h
      refine ix_iload_n (i := 1) (j := 1) X (ix_tb_at tb_X1_numberOf 22 rfl) rfl rfl (pc1 := 41) rfl ?_
      exact ix_iret X hr hlk (ix_r2 (f := fun r => some (.int r)) (g := ix_w z) h) (ix_tb_at tb_X1_numberOf 23 rfl)
    · have h := ix_iff q_3 h
      refine ix_sipush (v := 1000) X (ix_tb_at tb_X1_numberOf 15 rfl) (by decide) (pc1 := 30) rfl ?_
      refine ix_iload_n (i := 1) (j := 1) X (ix_tb_at tb_X1_numberOf 16 rfl) rfl rfl (pc1 := 31) rfl ?_
      refine ix_iadd X (ix_tb_at tb_X1_numberOf 17 rfl) (pc1 := 32) rfl ?_
      refine ix_aload_n (i := 0) (j := 0) X (ix_tb_at tb_X1_numberOf 18 rfl) rfl rfl (pc1 := 33) rfl ?_
      refine iz_getI X fl_RX1_156 k_1 (ix_tb_at tb_X1_numberOf 19 rfl) (pc1 := 36) rfl ?_
      refine ix_isub X (ix_tb_at tb_X1_numberOf 20 rfl) (pc1 := 37) rfl ?_
      refine ix_goto (tgt := 41) X (ix_tb_at tb_X1_numberOf 21 rfl) (by decide) ?_
      exact ix_iret X hr hlk (ix_r2 (f := fun r => some (.int r)) (g := ix_w z) h) (ix_tb_at tb_X1_numberOf 23 rfl)
  · have h := ix_iff q_2 h
    refine ix_sipush (v := 2000) X (ix_tb_at tb_X1_numberOf 4 rfl) (by decide) (pc1 := 11) rfl ?_
    refine ix_iload_n (i := 1) (j := 1) X (ix_tb_at tb_X1_numberOf 5 rfl) rfl rfl (pc1 := 12) rfl ?_
    refine ix_iadd X (ix_tb_at tb_X1_numberOf 6 rfl) (pc1 := 13) rfl ?_
    refine ix_aload_n (i := 0) (j := 0) X (ix_tb_at tb_X1_numberOf 7 rfl) rfl rfl (pc1 := 14) rfl ?_
    refine iz_getI X fl_RX1_153 k_1 (ix_tb_at tb_X1_numberOf 8 rfl) (pc1 := 17) rfl ?_
    refine ix_isub X (ix_tb_at tb_X1_numberOf 9 rfl) (pc1 := 18) rfl ?_
    exact ix_iret X hr hlk (ix_r2 (f := fun r => some (.int r)) (g := ix_w z) h) (ix_tb_at tb_X1_numberOf 10 rfl)
def tab_X7_itemTotal : List (Nat × Instr × Nat) := [(0, .aload_n 0, 1), (1, .getfield 15, 3), (4, .aload_n 0, 1), (5, .getfield 18, 3), (8, .iaload, 1), (9, .ireturn, 1)]
theorem tb_X7_itemTotal : ix_tab cX7_itemTotal tab_X7_itemTotal := by
  unfold ix_tab
  decide +kernel
noncomputable def f_X7_itemTotal (n : Nat) (z : ix_Z) (a0 : Nat) (d : ix_D2) : Option (Int32 × ix_D2) :=
  ix_ck (ix_ok z [7] a0) (ix_bd1 (z.1 a0 1) (fun b_2 => ix_ck (ix_ix z 20 b_2 (d.1 a0 2)) (some (d.1 b_2 (ix_n (d.1 a0 2)), d))))
set_option maxRecDepth 20000 in
theorem c_X7_itemTotal {l : Launch} {K : ix_Cx} (hKp : ix_Kp K) {n : Nat} {z : ix_Z} {a0 : Nat} {d : ix_D2} {r : Int32} {d1 : ix_D2} (h : f_X7_itemTotal n z a0 d = some (r, d1)) : ix_M l K yX7_itemTotal cX7_itemTotal 1 (some .int) 0 0 0 0 [.ref (K.2.2.1 + a0)] (ix_w z d) (some (.int r)) (ix_w z d1) := by
  refine ix_met mf_X7_itemTotal hKp (Nat.le_of_ble_eq_true rfl) ?_
  intro p e s m args below meth c hr hlk hnm X
  have X : ix_X p s m args c K cX7_itemTotal RX7 1 := X
  show ix_G p l e (ix_rm 0 0 0 0) s m args below meth c (MQ below (ix_Post K (some (.int r)) (ix_w z d1)) args s 0 0 (ix_A K)) K 1 0 0 0 [(0, .ref (K.2.2.1 + a0))] [] (ix_w z d)
  unfold f_X7_itemTotal at h
  refine ix_aload_n (i := 0) (j := 0) X (ix_tb_at tb_X7_itemTotal 0 rfl) rfl rfl (pc1 := 1) rfl ?_
  obtain ⟨k_1, h⟩ := ix_ck_some h
  obtain ⟨b_2, q_3, h⟩ := ix_bd1_ex h
  refine iz_getR X fl_RX7_15 k_1 q_3 (ix_tb_at tb_X7_itemTotal 1 rfl) (pc1 := 4) rfl ?_
  refine ix_aload_n (i := 0) (j := 0) X (ix_tb_at tb_X7_itemTotal 2 rfl) rfl rfl (pc1 := 5) rfl ?_
  refine iz_getI X fl_RX7_18 k_1 (ix_tb_at tb_X7_itemTotal 3 rfl) (pc1 := 8) rfl ?_
  obtain ⟨k_4, h⟩ := ix_ck_some h
  refine iz_iald X k_4 (ix_tb_at tb_X7_itemTotal 4 rfl) (pc1 := 9) rfl ?_
  exact ix_iret X hr hlk (ix_r2 (f := fun r => some (.int r)) (g := ix_w z) h) (ix_tb_at tb_X7_itemTotal 5 rfl)
def tab_X1_recordTakes : List (Nat × Instr × Nat) := [(0, .aload_n 0, 1), (1, .getfield 16, 3), (4, .getfield 85, 3), (7, .aload_n 0, 1), (8, .getfield 153, 3), (11, .iaload, 1), (12, .istore_n 2, 1), (13, .aload_n 0, 1), (14, .getfield 16, 3), (17, .getfield 95, 3), (20, .aload_n 0, 1), (21, .getfield 153, 3), (24, .isub, 1), (25, .sipush 800, 3), (28, .if_icmp .ge 24, 3), (31, .iload_n 1, 1), (32, .sipush 8000, 3), (35, .aload_n 0, 1), (36, .getfield 16, 3), (39, .invokevirtual 159, 3), (42, .iload_n 2, 1), (43, .isub, 1), (44, .isub, 1), (45, .if_icmp .gt 7, 3), (48, .iconst 1, 1), (49, .goto 4, 3), (52, .iconst 0, 1), (53, .ireturn, 1)]
theorem tb_X1_recordTakes : ix_tab cX1_recordTakes tab_X1_recordTakes := by
  unfold ix_tab
  decide +kernel
noncomputable def f_X1_recordTakes (n : Nat) (z : ix_Z) (a0 : Nat) (x1 : Int32) (d : ix_D2) : Option (Int32 × ix_D2) :=
  ix_ck (ix_ok z [1] a0) (ix_bd1 (z.1 a0 0) (fun b_2 => ix_ck (ix_ok z [7] b_2) (ix_bd1 (z.1 b_2 1) (fun b_5 => ix_ck (ix_ix z 20 b_5 (d.1 a0 16)) (ix_lt (d.1 b_5 (ix_n (d.1 a0 16))) (fun x2_8 => ix_if (800 ≤ (d.1 b_2 2) - (d.1 a0 16)) (some (0, d)) (ix_bd2 (f_X7_itemTotal n z b_2 d) (fun r_13 d_11 => ix_if (8000 - (r_13 - x2_8) < x1) (some (0, d_11)) (some (1, d_11))))))))))
set_option maxRecDepth 20000 in
theorem c_X1_recordTakes {l : Launch} {K : ix_Cx} (hKp : ix_Kp K) {n : Nat} {z : ix_Z} {a0 : Nat} {x1 : Int32} {d : ix_D2} {r : Int32} {d1 : ix_D2} (h : f_X1_recordTakes n z a0 x1 d = some (r, d1)) : ix_M l K yX1_recordTakes cX1_recordTakes 3 (some .boolean) 1 20 0 0 [.ref (K.2.2.1 + a0), .int x1] (ix_w z d) (some (.int r)) (ix_w z d1) := by
  refine ix_met mf_X1_recordTakes hKp (Nat.le_of_ble_eq_true rfl) ?_
  intro p e s m args below meth c hr hlk hnm X
  have X : ix_X p s m args c K cX1_recordTakes RX1 3 := X
  show ix_G p l e (ix_rm 1 20 0 0) s m args below meth c (MQ below (ix_Post K (some (.int r)) (ix_w z d1)) args s 0 0 (ix_A K)) K 3 0 0 0 [(0, .ref (K.2.2.1 + a0)), (1, .int x1)] [] (ix_w z d)
  unfold f_X1_recordTakes at h
  refine ix_aload_n (i := 0) (j := 0) X (ix_tb_at tb_X1_recordTakes 0 rfl) rfl rfl (pc1 := 1) rfl ?_
  obtain ⟨k_1, h⟩ := ix_ck_some h
  obtain ⟨b_2, q_3, h⟩ := ix_bd1_ex h
  refine iz_getR X fl_RX1_16 k_1 q_3 (ix_tb_at tb_X1_recordTakes 1 rfl) (pc1 := 4) rfl ?_
  obtain ⟨k_4, h⟩ := ix_ck_some h
  obtain ⟨b_5, q_6, h⟩ := ix_bd1_ex h
  refine iz_getR X fl_RX1_85 k_4 q_6 (ix_tb_at tb_X1_recordTakes 2 rfl) (pc1 := 7) rfl ?_
  refine ix_aload_n (i := 0) (j := 0) X (ix_tb_at tb_X1_recordTakes 3 rfl) rfl rfl (pc1 := 8) rfl ?_
  refine iz_getI X fl_RX1_153 k_1 (ix_tb_at tb_X1_recordTakes 4 rfl) (pc1 := 11) rfl ?_
  obtain ⟨k_7, h⟩ := ix_ck_some h
  refine iz_iald X k_7 (ix_tb_at tb_X1_recordTakes 5 rfl) (pc1 := 12) rfl ?_
  obtain ⟨x2_8, e_9, h⟩ := ix_lt_ex h
  refine ix_nmi e_9 ?_
  refine ix_istore_n (i := 2) (L1 := [(2, .int x2_8), (0, .ref (K.2.2.1 + a0)), (1, .int x1)]) X (ix_tb_at tb_X1_recordTakes 6 rfl) rfl (Nat.le_of_ble_eq_true rfl) rfl (pc1 := 13) rfl ?_
  refine ix_aload_n (i := 0) (j := 1) X (ix_tb_at tb_X1_recordTakes 7 rfl) rfl rfl (pc1 := 14) rfl ?_
  refine iz_getR X fl_RX1_16 k_1 q_3 (ix_tb_at tb_X1_recordTakes 8 rfl) (pc1 := 17) rfl ?_
  refine iz_getI X fl_RX1_95 k_4 (ix_tb_at tb_X1_recordTakes 9 rfl) (pc1 := 20) rfl ?_
  refine ix_aload_n (i := 0) (j := 1) X (ix_tb_at tb_X1_recordTakes 10 rfl) rfl rfl (pc1 := 21) rfl ?_
  refine iz_getI X fl_RX1_153 k_1 (ix_tb_at tb_X1_recordTakes 11 rfl) (pc1 := 24) rfl ?_
  refine ix_isub X (ix_tb_at tb_X1_recordTakes 12 rfl) (pc1 := 25) rfl ?_
  refine ix_sipush (v := 800) X (ix_tb_at tb_X1_recordTakes 13 rfl) (by decide) (pc1 := 28) rfl ?_
  refine ix_icmp_ge (tgt := 52) X (ix_tb_at tb_X1_recordTakes 14 rfl) (by decide) (pc1 := 31) rfl (fun q_10 => ?_) (fun q_10 => ?_)
  · have h := ix_ift q_10 h
    refine ix_iconst (v := 0) X (ix_tb_at tb_X1_recordTakes 26 rfl) (by decide) (pc1 := 53) rfl ?_
    exact ix_zret X hr hlk (by decide) (ix_r2 (f := fun r => some (.int r)) (g := ix_w z) h) (ix_tb_at tb_X1_recordTakes 27 rfl)
  · have h := ix_iff q_10 h
    refine ix_iload_n (i := 1) (j := 2) X (ix_tb_at tb_X1_recordTakes 15 rfl) rfl rfl (pc1 := 32) rfl ?_
    refine ix_sipush (v := 8000) X (ix_tb_at tb_X1_recordTakes 16 rfl) (by decide) (pc1 := 35) rfl ?_
    refine ix_aload_n (i := 0) (j := 1) X (ix_tb_at tb_X1_recordTakes 17 rfl) rfl rfl (pc1 := 36) rfl ?_
    refine iz_getR X fl_RX1_16 k_1 q_3 (ix_tb_at tb_X1_recordTakes 18 rfl) (pc1 := 39) rfl ?_
    obtain ⟨r_13, d_11, h_12, h⟩ := ix_bd2_ex h
    refine ix_callV (As := []) (rest := [.int 8000, .int x1]) (ci := 7) (T := TX7) (nf := 3) X mf_X7_itemTotal mi_X7_itemTotal ms_X7_itemTotal rfl (Nat.le_of_ble_eq_true rfl) ml_RX1_159 ⟨Nat.le_of_ble_eq_true rfl, Nat.le_of_ble_eq_true rfl⟩ ⟨Nat.le_of_ble_eq_true rfl, Nat.le_of_ble_eq_true rfl⟩ rfl (Nat.le_of_ble_eq_true rfl) (ix_tb_at tb_X1_recordTakes 19 rfl) ⟨k_4.1, List.mem_singleton.mp k_4.2⟩ (c_X7_itemTotal hKp h_12) rfl (pc1 := 42) rfl ?_
    refine ix_iload_n (i := 2) (j := 0) X (ix_tb_at tb_X1_recordTakes 20 rfl) rfl rfl (pc1 := 43) rfl ?_
    refine ix_isub X (ix_tb_at tb_X1_recordTakes 21 rfl) (pc1 := 44) rfl ?_
    refine ix_isub X (ix_tb_at tb_X1_recordTakes 22 rfl) (pc1 := 45) rfl ?_
    refine ix_icmp_gt (tgt := 52) X (ix_tb_at tb_X1_recordTakes 23 rfl) (by decide) (pc1 := 48) rfl (fun q_14 => ?_) (fun q_14 => ?_)
    · have h := ix_ift q_14 h
      refine ix_iconst (v := 0) X (ix_tb_at tb_X1_recordTakes 26 rfl) (by decide) (pc1 := 53) rfl ?_
      exact ix_zret X hr hlk (by decide) (ix_r2 (f := fun r => some (.int r)) (g := ix_w z) h) (ix_tb_at tb_X1_recordTakes 27 rfl)
    · have h := ix_iff q_14 h
      refine ix_iconst (v := 1) X (ix_tb_at tb_X1_recordTakes 24 rfl) (by decide) (pc1 := 49) rfl ?_
      refine ix_goto (tgt := 53) X (ix_tb_at tb_X1_recordTakes 25 rfl) (by decide) ?_
      exact ix_zret X hr hlk (by decide) (ix_r2 (f := fun r => some (.int r)) (g := ix_w z) h) (ix_tb_at tb_X1_recordTakes 27 rfl)
def tab_X2_look : List (Nat × Instr × Nat) := [(0, .iload_n 1, 1), (1, .ifCond .eq 17, 3), (4, .iload_n 1, 1), (5, .sipush 300, 3), (8, .if_icmp .gt 10, 3), (11, .iload_n 1, 1), (12, .sipush (-300), 3), (15, .if_icmp .ge 7, 3), (18, .sipush (-1012), 3), (21, .ireturn, 1), (22, .iload_n 1, 1), (23, .invokestatic 34, 3), (26, .aload_n 0, 1), (27, .getfield 40, 3), (30, .if_icmp .le 9, 3), (33, .sipush (-1011), 3), (36, .goto 4, 3), (39, .iconst 0, 1), (40, .ireturn, 1)]
theorem tb_X2_look : ix_tab cX2_look tab_X2_look := by
  unfold ix_tab
  decide +kernel
noncomputable def f_X2_look_18 (n : Nat) (z : ix_Z)   (d : ix_D2) : Option (Int32 × ix_D2) :=
  some ((-1012), d)
noncomputable def f_X2_look (n : Nat) (z : ix_Z) (a0 : Nat) (x1 : Int32) (d : ix_D2) : Option (Int32 × ix_D2) :=
  ix_if (x1 = 0) (f_X2_look_18 n z   d) (ix_if (300 < x1) (f_X2_look_18 n z   d) (ix_if ((-300) ≤ x1) (ix_ck (ix_ok z [2] a0) (ix_if (ix_abs x1 ≤ d.1 a0 5) (some (0, d)) (some ((-1011), d)))) (f_X2_look_18 n z   d)))
set_option maxRecDepth 20000 in
theorem t_X2_look_18 {l : Launch} {p : Program} {e : Env} {s : State} {m : MethodId} {args : Array Value} {below : List Frame} {meth : Method} {c : Code} {K : ix_Cx} (hKp : ix_Kp K) {n : Nat} {z : ix_Z} (X : ix_X p s m args c K cX2_look RX2 2) (hr : meth.sig.returnType = (some .int)) (hlk : meth.locks = false)   {r : Int32} {d1 : ix_D2}  {d : ix_D2} (h : f_X2_look_18 n z   d = some (r, d1)) : ix_G p l e (ix_rm 1 23 0 0) s m args below meth c (MQ below (ix_Post K (some (.int r)) (ix_w z d1)) args s 0 0 (ix_A K)) K 2 0 0 18 [] [] (ix_w z d) := by
  unfold f_X2_look_18 at h
  refine ix_sipush (v := (-1012)) X (ix_tb_at tb_X2_look 8 rfl) (by decide) (pc1 := 21) rfl ?_
  exact ix_iret X hr hlk (ix_r2 (f := fun r => some (.int r)) (g := ix_w z) h) (ix_tb_at tb_X2_look 9 rfl)
set_option maxRecDepth 20000 in
theorem c_X2_look {l : Launch} {K : ix_Cx} (hKp : ix_Kp K) {n : Nat} {z : ix_Z} {a0 : Nat} {x1 : Int32} {d : ix_D2} {r : Int32} {d1 : ix_D2} (h : f_X2_look n z a0 x1 d = some (r, d1)) : ix_M l K yX2_look cX2_look 2 (some .int) 1 23 0 0 [.ref (K.2.2.1 + a0), .int x1] (ix_w z d) (some (.int r)) (ix_w z d1) := by
  refine ix_met mf_X2_look hKp (Nat.le_of_ble_eq_true rfl) ?_
  intro p e s m args below meth c hr hlk hnm X
  have X : ix_X p s m args c K cX2_look RX2 2 := X
  show ix_G p l e (ix_rm 1 23 0 0) s m args below meth c (MQ below (ix_Post K (some (.int r)) (ix_w z d1)) args s 0 0 (ix_A K)) K 2 0 0 0 [(0, .ref (K.2.2.1 + a0)), (1, .int x1)] [] (ix_w z d)
  unfold f_X2_look at h
  refine ix_iload_n (i := 1) (j := 1) X (ix_tb_at tb_X2_look 0 rfl) rfl rfl (pc1 := 1) rfl ?_
  refine ix_if_eq (tgt := 18) X (ix_tb_at tb_X2_look 1 rfl) (by decide) (pc1 := 4) rfl (fun q_1 => ?_) (fun q_1 => ?_)
  · have h := ix_ift q_1 h
    refine ix_sub (L1 := []) [] rfl ?_
    exact t_X2_look_18 hKp X hr hlk  h
  · have h := ix_iff q_1 h
    refine ix_iload_n (i := 1) (j := 1) X (ix_tb_at tb_X2_look 2 rfl) rfl rfl (pc1 := 5) rfl ?_
    refine ix_sipush (v := 300) X (ix_tb_at tb_X2_look 3 rfl) (by decide) (pc1 := 8) rfl ?_
    refine ix_icmp_gt (tgt := 18) X (ix_tb_at tb_X2_look 4 rfl) (by decide) (pc1 := 11) rfl (fun q_2 => ?_) (fun q_2 => ?_)
    · have h := ix_ift q_2 h
      refine ix_sub (L1 := []) [] rfl ?_
      exact t_X2_look_18 hKp X hr hlk  h
    · have h := ix_iff q_2 h
      refine ix_iload_n (i := 1) (j := 1) X (ix_tb_at tb_X2_look 5 rfl) rfl rfl (pc1 := 12) rfl ?_
      refine ix_sipush (v := (-300)) X (ix_tb_at tb_X2_look 6 rfl) (by decide) (pc1 := 15) rfl ?_
      refine ix_icmp_ge (tgt := 22) X (ix_tb_at tb_X2_look 7 rfl) (by decide) (pc1 := 18) rfl (fun q_3 => ?_) (fun q_3 => ?_)
      · have h := ix_ift q_3 h
        refine ix_iload_n (i := 1) (j := 1) X (ix_tb_at tb_X2_look 10 rfl) rfl rfl (pc1 := 23) rfl ?_
        refine ix_mabs X ml_RX2_34 (Nat.le_of_ble_eq_true rfl) (Nat.le_of_ble_eq_true rfl) ⟨Nat.le_of_ble_eq_true rfl, Nat.le_of_ble_eq_true rfl⟩ (ix_tb_at tb_X2_look 11 rfl) (pc1 := 26) rfl ?_
        refine ix_aload_n (i := 0) (j := 0) X (ix_tb_at tb_X2_look 12 rfl) rfl rfl (pc1 := 27) rfl ?_
        obtain ⟨k_4, h⟩ := ix_ck_some h
        refine iz_getI X fl_RX2_40 k_4 (ix_tb_at tb_X2_look 13 rfl) (pc1 := 30) rfl ?_
        refine ix_icmp_le (tgt := 39) X (ix_tb_at tb_X2_look 14 rfl) (by decide) (pc1 := 33) rfl (fun q_5 => ?_) (fun q_5 => ?_)
        · have h := ix_ift q_5 h
          refine ix_iconst (v := 0) X (ix_tb_at tb_X2_look 17 rfl) (by decide) (pc1 := 40) rfl ?_
          exact ix_iret X hr hlk (ix_r2 (f := fun r => some (.int r)) (g := ix_w z) h) (ix_tb_at tb_X2_look 18 rfl)
        · have h := ix_iff q_5 h
          refine ix_sipush (v := (-1011)) X (ix_tb_at tb_X2_look 15 rfl) (by decide) (pc1 := 36) rfl ?_
          refine ix_goto (tgt := 40) X (ix_tb_at tb_X2_look 16 rfl) (by decide) ?_
          exact ix_iret X hr hlk (ix_r2 (f := fun r => some (.int r)) (g := ix_w z) h) (ix_tb_at tb_X2_look 18 rfl)
      · have h := ix_iff q_3 h
        refine ix_sub (L1 := []) [] rfl ?_
        exact t_X2_look_18 hKp X hr hlk  h
def tab_X2_isAssumed : List (Nat × Instr × Nat) := [(0, .iconst 0, 1), (1, .istore_n 2, 1), (2, .iload_n 2, 1), (3, .aload_n 0, 1), (4, .getfield 44, 3), (7, .if_icmp .ge 21, 3), (10, .aload_n 0, 1), (11, .getfield 28, 3), (14, .iload_n 2, 1), (15, .iaload, 1), (16, .iload_n 1, 1), (17, .if_icmp .ne 5, 3), (20, .iconst 1, 1), (21, .ireturn, 1), (22, .iinc 2 1, 3), (25, .goto (-23), 3), (28, .iconst 0, 1), (29, .ireturn, 1)]
theorem tb_X2_isAssumed : ix_tab cX2_isAssumed tab_X2_isAssumed := by
  unfold ix_tab
  decide +kernel
noncomputable def b_X2_isAssumed_2 (n : Nat) (z : ix_Z)  (a0 : Nat) (x1 : Int32) (rec2 : Int32 → ix_D2 → Option (Int32 × ix_D2)) (x2 : Int32) (d : ix_D2) : Option (Int32 × ix_D2) :=
  ix_ck (ix_ok z [2] a0) (ix_if (d.1 a0 7 ≤ x2) (some (0, d)) (ix_bd1 (z.1 a0 3) (fun b_3 => ix_ck (ix_ix z 20 b_3 x2) (ix_if (d.1 b_3 (ix_n x2) = x1) (some (1, d)) (ix_lt (x2 + 1) (fun x2_7 => rec2 x2_7 d))))))
noncomputable def f_X2_isAssumed_2 (n : Nat) (z : ix_Z)  (a0 : Nat) (x1 : Int32) (x2 : Int32) (d : ix_D2) : Option (Int32 × ix_D2) := ix_fix (b_X2_isAssumed_2 n z  a0 x1) (fun _ _ => none) n x2 d
noncomputable def f_X2_isAssumed (n : Nat) (z : ix_Z) (a0 : Nat) (x1 : Int32) (d : ix_D2) : Option (Int32 × ix_D2) :=
  f_X2_isAssumed_2 n z  a0 x1 0 d
set_option maxRecDepth 20000 in
theorem tb_X2_isAssumed_2 {l : Launch} {p : Program} {e : Env} {s : State} {m : MethodId} {args : Array Value} {below : List Frame} {meth : Method} {c : Code} {K : ix_Cx} (hKp : ix_Kp K) {n : Nat} {z : ix_Z} (X : ix_X p s m args c K cX2_isAssumed RX2 3) (hr : meth.sig.returnType = (some .boolean)) (hlk : meth.locks = false)  {a0 : Nat} {x1 : Int32} {rec2 : Int32 → ix_D2 → Option (Int32 × ix_D2)} {r : Int32} {d1 : ix_D2} (hrec2 : ∀ (x2 : Int32) (d : ix_D2), rec2 x2 d = some (r, d1) → ix_G p l e (ix_rm 0 0 0 0) s m args below meth c (MQ below (ix_Post K (some (.int r)) (ix_w z d1)) args s 0 0 (ix_A K)) K 3 0 0 2 [(0, .ref (K.2.2.1 + a0)), (1, .int x1), (2, .int x2)] [] (ix_w z d)) {x2 : Int32} {d : ix_D2} (h : b_X2_isAssumed_2 n z  a0 x1 rec2 x2 d = some (r, d1)) : ix_G p l e (ix_rm 0 0 0 0) s m args below meth c (MQ below (ix_Post K (some (.int r)) (ix_w z d1)) args s 0 0 (ix_A K)) K 3 0 0 2 [(0, .ref (K.2.2.1 + a0)), (1, .int x1), (2, .int x2)] [] (ix_w z d) := by
  unfold b_X2_isAssumed_2 at h
  refine ix_iload_n (i := 2) (j := 2) X (ix_tb_at tb_X2_isAssumed 2 rfl) rfl rfl (pc1 := 3) rfl ?_
  refine ix_aload_n (i := 0) (j := 0) X (ix_tb_at tb_X2_isAssumed 3 rfl) rfl rfl (pc1 := 4) rfl ?_
  obtain ⟨k_1, h⟩ := ix_ck_some h
  refine iz_getI X fl_RX2_44 k_1 (ix_tb_at tb_X2_isAssumed 4 rfl) (pc1 := 7) rfl ?_
  refine ix_icmp_ge (tgt := 28) X (ix_tb_at tb_X2_isAssumed 5 rfl) (by decide) (pc1 := 10) rfl (fun q_2 => ?_) (fun q_2 => ?_)
  · have h := ix_ift q_2 h
    refine ix_iconst (v := 0) X (ix_tb_at tb_X2_isAssumed 16 rfl) (by decide) (pc1 := 29) rfl ?_
    exact ix_zret X hr hlk (by decide) (ix_r2 (f := fun r => some (.int r)) (g := ix_w z) h) (ix_tb_at tb_X2_isAssumed 17 rfl)
  · have h := ix_iff q_2 h
    refine ix_aload_n (i := 0) (j := 0) X (ix_tb_at tb_X2_isAssumed 6 rfl) rfl rfl (pc1 := 11) rfl ?_
    obtain ⟨b_3, q_4, h⟩ := ix_bd1_ex h
    refine iz_getR X fl_RX2_28 k_1 q_4 (ix_tb_at tb_X2_isAssumed 7 rfl) (pc1 := 14) rfl ?_
    refine ix_iload_n (i := 2) (j := 2) X (ix_tb_at tb_X2_isAssumed 8 rfl) rfl rfl (pc1 := 15) rfl ?_
    obtain ⟨k_5, h⟩ := ix_ck_some h
    refine iz_iald X k_5 (ix_tb_at tb_X2_isAssumed 9 rfl) (pc1 := 16) rfl ?_
    refine ix_iload_n (i := 1) (j := 1) X (ix_tb_at tb_X2_isAssumed 10 rfl) rfl rfl (pc1 := 17) rfl ?_
    refine ix_icmp_ne (tgt := 22) X (ix_tb_at tb_X2_isAssumed 11 rfl) (by decide) (pc1 := 20) rfl (fun q_6 => ?_) (fun q_6 => ?_)
    · have h := ix_iff q_6 h
      obtain ⟨x2_7, e_8, h⟩ := ix_lt_ex h
      refine ix_iinc (i := 2) (j := 2) (v := x2_7) (L1 := [(2, .int x2_7), (0, .ref (K.2.2.1 + a0)), (1, .int x1)]) X (ix_tb_at tb_X2_isAssumed 14 rfl) rfl (by rw [oi_1]; exact e_8.symm) (Nat.le_of_ble_eq_true rfl) rfl (pc1 := 25) rfl ?_
      refine ix_goto (tgt := 2) X (ix_tb_at tb_X2_isAssumed 15 rfl) (by decide) ?_
      refine ix_sub (L1 := [(0, .ref (K.2.2.1 + a0)), (1, .int x1), (2, .int x2_7)]) [1, 2, 0] rfl ?_
      exact hrec2 x2_7 d h
    · have h := ix_ift q_6 h
      refine ix_iconst (v := 1) X (ix_tb_at tb_X2_isAssumed 12 rfl) (by decide) (pc1 := 21) rfl ?_
      exact ix_zret X hr hlk (by decide) (ix_r2 (f := fun r => some (.int r)) (g := ix_w z) h) (ix_tb_at tb_X2_isAssumed 13 rfl)
theorem t_X2_isAssumed_2 {l : Launch} {p : Program} {e : Env} {s : State} {m : MethodId} {args : Array Value} {below : List Frame} {meth : Method} {c : Code} {K : ix_Cx} (hKp : ix_Kp K) {n : Nat} {z : ix_Z} (X : ix_X p s m args c K cX2_isAssumed RX2 3) (hr : meth.sig.returnType = (some .boolean)) (hlk : meth.locks = false)  {a0 : Nat} {x1 : Int32} {r : Int32} {d1 : ix_D2}  {x2 : Int32} {d : ix_D2} (h : f_X2_isAssumed_2 n z  a0 x1 x2 d = some (r, d1)) : ix_G p l e (ix_rm 0 0 0 0) s m args below meth c (MQ below (ix_Post K (some (.int r)) (ix_w z d1)) args s 0 0 (ix_A K)) K 3 0 0 2 [(0, .ref (K.2.2.1 + a0)), (1, .int x1), (2, .int x2)] [] (ix_w z d) := by
  have key : ∀ (f : Nat) (x2 : Int32) (d : ix_D2), ix_fix (b_X2_isAssumed_2 n z  a0 x1) (fun _ _ => none) f x2 d = some (r, d1) → ix_G p l e (ix_rm 0 0 0 0) s m args below meth c (MQ below (ix_Post K (some (.int r)) (ix_w z d1)) args s 0 0 (ix_A K)) K 3 0 0 2 [(0, .ref (K.2.2.1 + a0)), (1, .int x1), (2, .int x2)] [] (ix_w z d) := by
    intro f
    induction f with
    | zero =>
      intro x2 d h
      have h : (none : Option (Int32 × ix_D2)) = some (r, d1) := h
      cases h
    | succ f ih =>
      intro x2 d h
      exact tb_X2_isAssumed_2 hKp X hr hlk (rec2 := ix_fix (b_X2_isAssumed_2 n z  a0 x1) (fun _ _ => none) f)  ih h
  exact key n x2 d h
set_option maxRecDepth 20000 in
theorem c_X2_isAssumed {l : Launch} {K : ix_Cx} (hKp : ix_Kp K) {n : Nat} {z : ix_Z} {a0 : Nat} {x1 : Int32} {d : ix_D2} {r : Int32} {d1 : ix_D2} (h : f_X2_isAssumed n z a0 x1 d = some (r, d1)) : ix_M l K yX2_isAssumed cX2_isAssumed 3 (some .boolean) 0 0 0 0 [.ref (K.2.2.1 + a0), .int x1] (ix_w z d) (some (.int r)) (ix_w z d1) := by
  refine ix_met mf_X2_isAssumed hKp (Nat.le_of_ble_eq_true rfl) ?_
  intro p e s m args below meth c hr hlk hnm X
  have X : ix_X p s m args c K cX2_isAssumed RX2 3 := X
  show ix_G p l e (ix_rm 0 0 0 0) s m args below meth c (MQ below (ix_Post K (some (.int r)) (ix_w z d1)) args s 0 0 (ix_A K)) K 3 0 0 0 [(0, .ref (K.2.2.1 + a0)), (1, .int x1)] [] (ix_w z d)
  unfold f_X2_isAssumed at h
  refine ix_iconst (v := 0) X (ix_tb_at tb_X2_isAssumed 0 rfl) (by decide) (pc1 := 1) rfl ?_
  refine ix_istore_n (i := 2) (L1 := [(2, .int 0), (0, .ref (K.2.2.1 + a0)), (1, .int x1)]) X (ix_tb_at tb_X2_isAssumed 1 rfl) rfl (Nat.le_of_ble_eq_true rfl) rfl (pc1 := 2) rfl ?_
  refine ix_sub (L1 := [(0, .ref (K.2.2.1 + a0)), (1, .int x1), (2, .int 0)]) [1, 2, 0] rfl ?_
  exact t_X2_isAssumed_2 hKp X hr hlk  h
def tab_X3_kindNumber : List (Nat × Instr × Nat) := [(0, .iconst 0, 1), (1, .ireturn, 1)]
theorem tb_X3_kindNumber : ix_tab cX3_kindNumber tab_X3_kindNumber := by
  unfold ix_tab
  decide +kernel
noncomputable def f_X3_kindNumber (n : Nat) (z : ix_Z) (a0 : Nat) (d : ix_D2) : Option (Int32 × ix_D2) :=
  some (0, d)
set_option maxRecDepth 20000 in
theorem c_X3_kindNumber {l : Launch} {K : ix_Cx} (hKp : ix_Kp K) {n : Nat} {z : ix_Z} {a0 : Nat} {d : ix_D2} {r : Int32} {d1 : ix_D2} (h : f_X3_kindNumber n z a0 d = some (r, d1)) : ix_M l K yX3_kindNumber cX3_kindNumber 1 (some .int) 0 0 0 0 [.ref (K.2.2.1 + a0)] (ix_w z d) (some (.int r)) (ix_w z d1) := by
  refine ix_met mf_X3_kindNumber hKp (Nat.le_of_ble_eq_true rfl) ?_
  intro p e s m args below meth c hr hlk hnm X
  have X : ix_X p s m args c K cX3_kindNumber RX3 1 := X
  show ix_G p l e (ix_rm 0 0 0 0) s m args below meth c (MQ below (ix_Post K (some (.int r)) (ix_w z d1)) args s 0 0 (ix_A K)) K 1 0 0 0 [(0, .ref (K.2.2.1 + a0))] [] (ix_w z d)
  unfold f_X3_kindNumber at h
  refine ix_iconst (v := 0) X (ix_tb_at tb_X3_kindNumber 0 rfl) (by decide) (pc1 := 1) rfl ?_
  exact ix_iret X hr hlk (ix_r2 (f := fun r => some (.int r)) (g := ix_w z) h) (ix_tb_at tb_X3_kindNumber 1 rfl)
def tab_X3_layInto : List (Nat × Instr × Nat) := [(0, .iconst 0, 1), (1, .istore_n 2, 1), (2, .iload_n 2, 1), (3, .aload_n 0, 1), (4, .getfield 7, 3), (7, .arraylength, 1), (8, .if_icmp .ge 19, 3), (11, .aload_n 1, 1), (12, .aload_n 0, 1), (13, .getfield 7, 3), (16, .iload_n 2, 1), (17, .iaload, 1), (18, .invokevirtual 13, 3), (21, .iinc 2 1, 3), (24, .goto (-22), 3), (27, .aload_n 1, 1), (28, .invokevirtual 19, 3), (31, .return_, 1)]
theorem tb_X3_layInto : ix_tab cX3_layInto tab_X3_layInto := by
  unfold ix_tab
  decide +kernel
noncomputable def b_X3_layInto_2 (n : Nat) (z : ix_Z)  (a0 : Nat) (a1 : Nat) (rec2 : Int32 → ix_D2 → Option (ix_D2)) (x2 : Int32) (d : ix_D2) : Option (ix_D2) :=
  ix_ck (ix_ok z [0, 3, 5, 9] a0) (ix_bd1 (z.1 a0 0) (fun b_2 => ix_ck (b_2 < z.2.2 ∧ 20 ≤ (z.2.1 b_2).1 ∧ (z.2.1 b_2).1 < 26) (ix_if (nI (z.2.1 b_2).2 ≤ x2) (ix_ck (ix_ok z [2] a1) (ix_bd1 (f_X2_layDraft n z a1 d) (fun d_6 => some d_6))) (ix_ck (ix_ix z 20 b_2 x2) (ix_ck (ix_ok z [2] a1) (ix_bd1 (f_X2_add n z a1 (d.1 b_2 (ix_n x2)) d) (fun d_10 => ix_lt (x2 + 1) (fun x2_13 => rec2 x2_13 d_10))))))))
noncomputable def f_X3_layInto_2 (n : Nat) (z : ix_Z)  (a0 : Nat) (a1 : Nat) (x2 : Int32) (d : ix_D2) : Option (ix_D2) := ix_fix (b_X3_layInto_2 n z  a0 a1) (fun _ _ => none) n x2 d
noncomputable def f_X3_layInto (n : Nat) (z : ix_Z) (a0 : Nat) (a1 : Nat) (d : ix_D2) : Option (ix_D2) :=
  f_X3_layInto_2 n z  a0 a1 0 d
set_option maxRecDepth 20000 in
theorem tb_X3_layInto_2 {l : Launch} {p : Program} {e : Env} {s : State} {m : MethodId} {args : Array Value} {below : List Frame} {meth : Method} {c : Code} {K : ix_Cx} (hKp : ix_Kp K) {n : Nat} {z : ix_Z} (X : ix_X p s m args c K cX3_layInto RX3 3) (hr : meth.sig.returnType = (none : Option Jvm.ClassFile.FieldType)) (hlk : meth.locks = false)  {a0 : Nat} {a1 : Nat} {rec2 : Int32 → ix_D2 → Option (ix_D2)} {d1 : ix_D2} (hrec2 : ∀ (x2 : Int32) (d : ix_D2), rec2 x2 d = some d1 → ix_G p l e (ix_rm 3 71 0 0) s m args below meth c (MQ below (ix_Post K none (ix_w z d1)) args s 0 0 (ix_A K)) K 3 0 0 2 [(0, .ref (K.2.2.1 + a0)), (1, .ref (K.2.2.1 + a1)), (2, .int x2)] [] (ix_w z d)) {x2 : Int32} {d : ix_D2} (h : b_X3_layInto_2 n z  a0 a1 rec2 x2 d = some d1) : ix_G p l e (ix_rm 3 71 0 0) s m args below meth c (MQ below (ix_Post K none (ix_w z d1)) args s 0 0 (ix_A K)) K 3 0 0 2 [(0, .ref (K.2.2.1 + a0)), (1, .ref (K.2.2.1 + a1)), (2, .int x2)] [] (ix_w z d) := by
  unfold b_X3_layInto_2 at h
  refine ix_iload_n (i := 2) (j := 2) X (ix_tb_at tb_X3_layInto 2 rfl) rfl rfl (pc1 := 3) rfl ?_
  refine ix_aload_n (i := 0) (j := 0) X (ix_tb_at tb_X3_layInto 3 rfl) rfl rfl (pc1 := 4) rfl ?_
  obtain ⟨k_1, h⟩ := ix_ck_some h
  obtain ⟨b_2, q_3, h⟩ := ix_bd1_ex h
  refine iz_getR X fl_RX3_7 k_1 q_3 (ix_tb_at tb_X3_layInto 4 rfl) (pc1 := 7) rfl ?_
  obtain ⟨k_4, h⟩ := ix_ck_some h
  refine iz_alen X k_4 (ix_tb_at tb_X3_layInto 5 rfl) (pc1 := 8) rfl ?_
  refine ix_icmp_ge (tgt := 27) X (ix_tb_at tb_X3_layInto 6 rfl) (by decide) (pc1 := 11) rfl (fun q_5 => ?_) (fun q_5 => ?_)
  · have h := ix_ift q_5 h
    refine ix_aload_n (i := 1) (j := 1) X (ix_tb_at tb_X3_layInto 15 rfl) rfl rfl (pc1 := 28) rfl ?_
    obtain ⟨k_8, h⟩ := ix_ck_some h
    obtain ⟨d_6, h_7, h⟩ := ix_bd1_ex h
    refine ix_callV (As := []) (rest := []) (ci := 2) (T := TX2) (nf := 12) X mf_X2_layDraft mi_X2_layDraft ms_X2_layDraft rfl (Nat.le_of_ble_eq_true rfl) ml_RX3_19 ⟨Nat.le_of_ble_eq_true rfl, Nat.le_of_ble_eq_true rfl⟩ ⟨Nat.le_of_ble_eq_true rfl, Nat.le_of_ble_eq_true rfl⟩ rfl (Nat.le_of_ble_eq_true rfl) (ix_tb_at tb_X3_layInto 16 rfl) ⟨k_8.1, List.mem_singleton.mp k_8.2⟩ (c_X2_layDraft hKp h_7) rfl (pc1 := 31) rfl ?_
    exact ix_vret X hr hlk (ix_r1 (g := ix_w z) h) (ix_tb_at tb_X3_layInto 17 rfl)
  · have h := ix_iff q_5 h
    refine ix_aload_n (i := 1) (j := 1) X (ix_tb_at tb_X3_layInto 7 rfl) rfl rfl (pc1 := 12) rfl ?_
    refine ix_aload_n (i := 0) (j := 0) X (ix_tb_at tb_X3_layInto 8 rfl) rfl rfl (pc1 := 13) rfl ?_
    refine iz_getR X fl_RX3_7 k_1 q_3 (ix_tb_at tb_X3_layInto 9 rfl) (pc1 := 16) rfl ?_
    refine ix_iload_n (i := 2) (j := 2) X (ix_tb_at tb_X3_layInto 10 rfl) rfl rfl (pc1 := 17) rfl ?_
    obtain ⟨k_9, h⟩ := ix_ck_some h
    refine iz_iald X k_9 (ix_tb_at tb_X3_layInto 11 rfl) (pc1 := 18) rfl ?_
    obtain ⟨k_12, h⟩ := ix_ck_some h
    obtain ⟨d_10, h_11, h⟩ := ix_bd1_ex h
    refine ix_callV (As := [.int (d.1 b_2 (ix_n x2))]) (rest := []) (ci := 2) (T := TX2) (nf := 12) X mf_X2_add mi_X2_add ms_X2_add rfl (Nat.le_of_ble_eq_true rfl) ml_RX3_13 ⟨Nat.le_of_ble_eq_true rfl, Nat.le_of_ble_eq_true rfl⟩ ⟨Nat.le_of_ble_eq_true rfl, Nat.le_of_ble_eq_true rfl⟩ rfl (Nat.le_of_ble_eq_true rfl) (ix_tb_at tb_X3_layInto 12 rfl) ⟨k_12.1, List.mem_singleton.mp k_12.2⟩ (c_X2_add hKp h_11) rfl (pc1 := 21) rfl ?_
    obtain ⟨x2_13, e_14, h⟩ := ix_lt_ex h
    refine ix_iinc (i := 2) (j := 2) (v := x2_13) (L1 := [(2, .int x2_13), (0, .ref (K.2.2.1 + a0)), (1, .ref (K.2.2.1 + a1))]) X (ix_tb_at tb_X3_layInto 13 rfl) rfl (by rw [oi_1]; exact e_14.symm) (Nat.le_of_ble_eq_true rfl) rfl (pc1 := 24) rfl ?_
    refine ix_goto (tgt := 2) X (ix_tb_at tb_X3_layInto 14 rfl) (by decide) ?_
    refine ix_sub (L1 := [(0, .ref (K.2.2.1 + a0)), (1, .ref (K.2.2.1 + a1)), (2, .int x2_13)]) [1, 2, 0] rfl ?_
    exact hrec2 x2_13 d_10 h
theorem t_X3_layInto_2 {l : Launch} {p : Program} {e : Env} {s : State} {m : MethodId} {args : Array Value} {below : List Frame} {meth : Method} {c : Code} {K : ix_Cx} (hKp : ix_Kp K) {n : Nat} {z : ix_Z} (X : ix_X p s m args c K cX3_layInto RX3 3) (hr : meth.sig.returnType = (none : Option Jvm.ClassFile.FieldType)) (hlk : meth.locks = false)  {a0 : Nat} {a1 : Nat} {d1 : ix_D2}  {x2 : Int32} {d : ix_D2} (h : f_X3_layInto_2 n z  a0 a1 x2 d = some d1) : ix_G p l e (ix_rm 3 71 0 0) s m args below meth c (MQ below (ix_Post K none (ix_w z d1)) args s 0 0 (ix_A K)) K 3 0 0 2 [(0, .ref (K.2.2.1 + a0)), (1, .ref (K.2.2.1 + a1)), (2, .int x2)] [] (ix_w z d) := by
  have key : ∀ (f : Nat) (x2 : Int32) (d : ix_D2), ix_fix (b_X3_layInto_2 n z  a0 a1) (fun _ _ => none) f x2 d = some d1 → ix_G p l e (ix_rm 3 71 0 0) s m args below meth c (MQ below (ix_Post K none (ix_w z d1)) args s 0 0 (ix_A K)) K 3 0 0 2 [(0, .ref (K.2.2.1 + a0)), (1, .ref (K.2.2.1 + a1)), (2, .int x2)] [] (ix_w z d) := by
    intro f
    induction f with
    | zero =>
      intro x2 d h
      have h : (none : Option (ix_D2)) = some d1 := h
      cases h
    | succ f ih =>
      intro x2 d h
      exact tb_X3_layInto_2 hKp X hr hlk (rec2 := ix_fix (b_X3_layInto_2 n z  a0 a1) (fun _ _ => none) f)  ih h
  exact key n x2 d h
set_option maxRecDepth 20000 in
theorem c_X3_layInto {l : Launch} {K : ix_Cx} (hKp : ix_Kp K) {n : Nat} {z : ix_Z} {a0 : Nat} {a1 : Nat} {d : ix_D2} {d1 : ix_D2} (h : f_X3_layInto n z a0 a1 d = some d1) : ix_M l K yX3_layInto cX3_layInto 3 (none : Option Jvm.ClassFile.FieldType) 3 71 0 0 [.ref (K.2.2.1 + a0), .ref (K.2.2.1 + a1)] (ix_w z d) none (ix_w z d1) := by
  refine ix_met mf_X3_layInto hKp (Nat.le_of_ble_eq_true rfl) ?_
  intro p e s m args below meth c hr hlk hnm X
  have X : ix_X p s m args c K cX3_layInto RX3 3 := X
  show ix_G p l e (ix_rm 3 71 0 0) s m args below meth c (MQ below (ix_Post K none (ix_w z d1)) args s 0 0 (ix_A K)) K 3 0 0 0 [(0, .ref (K.2.2.1 + a0)), (1, .ref (K.2.2.1 + a1))] [] (ix_w z d)
  unfold f_X3_layInto at h
  refine ix_iconst (v := 0) X (ix_tb_at tb_X3_layInto 0 rfl) (by decide) (pc1 := 1) rfl ?_
  refine ix_istore_n (i := 2) (L1 := [(2, .int 0), (0, .ref (K.2.2.1 + a0)), (1, .ref (K.2.2.1 + a1))]) X (ix_tb_at tb_X3_layInto 1 rfl) rfl (Nat.le_of_ble_eq_true rfl) rfl (pc1 := 2) rfl ?_
  refine ix_sub (L1 := [(0, .ref (K.2.2.1 + a0)), (1, .ref (K.2.2.1 + a1)), (2, .int 0)]) [1, 2, 0] rfl ?_
  exact t_X3_layInto_2 hKp X hr hlk  h
def tab_X3_holds : List (Nat × Instr × Nat) := [(0, .aload_n 2, 1), (1, .iconst 0, 1), (2, .invokevirtual 23, 3), (5, .aload_n 0, 1), (6, .aload_n 1, 1), (7, .invokevirtual 28, 3), (10, .ifCond .le 7, 3), (13, .iconst 1, 1), (14, .goto 4, 3), (17, .iconst 0, 1), (18, .ireturn, 1)]
theorem tb_X3_holds : ix_tab cX3_holds tab_X3_holds := by
  unfold ix_tab
  decide +kernel
noncomputable def v_RX3_28 (n : Nat) (z : ix_Z) (b : Nat) (p0 : Nat) (d : ix_D2) : Option (Int32 × ix_D2) := ix_if ((z.2.1 b).1 = 0) (f_X8_trueOnes n z b p0 d) (ix_if ((z.2.1 b).1 = 3) (f_X8_trueOnes n z b p0 d) (ix_if ((z.2.1 b).1 = 5) (f_X8_trueOnes n z b p0 d) (f_X8_trueOnes n z b p0 d)))
theorem tv_RX3_28 {l : Launch} {p : Program} {e : Env} {s : State} {m : MethodId} {args : Array Value} {below : List Frame} {meth : Method} {c : Code} {K : ix_Cx} {R : Room} {Q : State → Prop} {nL k n pc : Nat} {cc : ByteArray} {L : List (Nat × Value)} {rest : List Value} (hKp : ix_Kp K) (X : ix_X p s m args c K cc RX3 nL) {N : Nat} {z : ix_Z} {b : Nat} {p0 : Nat} {d : ix_D2} {r : Int32} {d1 : ix_D2} (hk : ix_ok z [0, 3, 5, 9] b) (hcall : v_RX3_28 N z b p0 d = some (r, d1)) (hfr : 3 ≤ R.frames) (hlo : 65 ≤ R.locals) (hcs : k + 0 ≤ R.cells ∧ n + 0 ≤ R.slots) (hrm : (rest.map fun v => v.category).sum ≤ 8) (hd : decode cc pc = .ok (.invokevirtual 28, 3)) {pc1 : Nat} (hp : pc + 3 = pc1) (kk : ix_G p l e R s m args below meth c Q K nL k n pc1 L (.int r :: rest) (ix_w z d1)) : ix_G p l e R s m args below meth c Q K nL k n pc L (.ref (K.2.2.1 + p0) :: .ref (K.2.2.1 + b) :: rest) (ix_w z d) := by
  unfold v_RX3_28 at hcall
  have h2 := hk.2
  simp only [List.mem_cons, List.not_mem_nil, or_false] at h2
  rcases h2 with h2 | h2 | h2 | h2
  · have hcall := ix_ift h2 hcall
    exact ix_callU (As := [.ref (K.2.2.1 + p0)]) (rest := rest) (x := (⟨"ClauseCourt$Clause", "trueOnes", "(LClauseCourt$Board;)I"⟩ : MethodName)) (owner := "ClauseCourt$Rule") (C := RX0) (T := TX0) (nf := 4) (ci := 0) X mf_X8_trueOnes mi_X8_trueOnes (ix_wm (i := 934) (by decide +kernel)) (ix_wm (i := 933) (by decide +kernel)) (Or.inl (ix_wm (i := 915) (by decide +kernel))) ⟨by decide, by decide⟩ (by decide +kernel) rfl (by decide) ml_RX3_28 ⟨Nat.le_trans (Nat.le_of_ble_eq_true rfl) hfr, Nat.le_trans (Nat.le_of_ble_eq_true rfl) hlo⟩ hcs rfl hrm hd ⟨hk.1, h2⟩ (c_X8_trueOnes hKp hcall) rfl hp kk
  · have hcall := ix_iff (by rw [h2]; decide) hcall
    have hcall := ix_ift h2 hcall
    exact ix_callU (As := [.ref (K.2.2.1 + p0)]) (rest := rest) (x := (⟨"ClauseCourt$Clause", "trueOnes", "(LClauseCourt$Board;)I"⟩ : MethodName)) (owner := "ClauseCourt$Rule") (C := RX3) (T := TX3) (nf := 3) (ci := 3) X mf_X8_trueOnes mi_X8_trueOnes (ix_wm (i := 935) (by decide +kernel)) (ix_wm (i := 933) (by decide +kernel)) (Or.inl (ix_wm (i := 915) (by decide +kernel))) ⟨by decide, by decide⟩ (by decide +kernel) rfl (by decide) ml_RX3_28 ⟨Nat.le_trans (Nat.le_of_ble_eq_true rfl) hfr, Nat.le_trans (Nat.le_of_ble_eq_true rfl) hlo⟩ hcs rfl hrm hd ⟨hk.1, h2⟩ (c_X8_trueOnes hKp hcall) rfl hp kk
  · have hcall := ix_iff (by rw [h2]; decide) hcall
    have hcall := ix_iff (by rw [h2]; decide) hcall
    have hcall := ix_ift h2 hcall
    exact ix_callU (As := [.ref (K.2.2.1 + p0)]) (rest := rest) (x := (⟨"ClauseCourt$Clause", "trueOnes", "(LClauseCourt$Board;)I"⟩ : MethodName)) (owner := "ClauseCourt$Rule") (C := RX5) (T := TX5) (nf := 4) (ci := 5) X mf_X8_trueOnes mi_X8_trueOnes (ix_wm (i := 936) (by decide +kernel)) (ix_wm (i := 933) (by decide +kernel)) (Or.inl (ix_wm (i := 915) (by decide +kernel))) ⟨by decide, by decide⟩ (by decide +kernel) rfl (by decide) ml_RX3_28 ⟨Nat.le_trans (Nat.le_of_ble_eq_true rfl) hfr, Nat.le_trans (Nat.le_of_ble_eq_true rfl) hlo⟩ hcs rfl hrm hd ⟨hk.1, h2⟩ (c_X8_trueOnes hKp hcall) rfl hp kk
  · have hcall := ix_iff (by rw [h2]; decide) hcall
    have hcall := ix_iff (by rw [h2]; decide) hcall
    have hcall := ix_iff (by rw [h2]; decide) hcall
    exact ix_callU (As := [.ref (K.2.2.1 + p0)]) (rest := rest) (x := (⟨"ClauseCourt$Clause", "trueOnes", "(LClauseCourt$Board;)I"⟩ : MethodName)) (owner := "ClauseCourt$Rule") (C := RX10) (T := TX10) (nf := 6) (ci := 9) X mf_X8_trueOnes mi_X8_trueOnes (ix_wm (i := 937) (by decide +kernel)) (ix_wm (i := 933) (by decide +kernel)) (Or.inl (ix_wm (i := 915) (by decide +kernel))) ⟨by decide, by decide⟩ (by decide +kernel) rfl (by decide) ml_RX3_28 ⟨Nat.le_trans (Nat.le_of_ble_eq_true rfl) hfr, Nat.le_trans (Nat.le_of_ble_eq_true rfl) hlo⟩ hcs rfl hrm hd ⟨hk.1, h2⟩ (c_X8_trueOnes hKp hcall) rfl hp kk
noncomputable def f_X3_holds (n : Nat) (z : ix_Z) (a0 : Nat) (a1 : Nat) (a2 : Nat) (d : ix_D2) : Option (Int32 × ix_D2) :=
  ix_ck (ix_ok z [4] a2) (ix_bd1 (f_X4_note n z a2 0 d) (fun d_1 => ix_ck (ix_ok z [0, 3, 5, 9] a0) (ix_bd2 (v_RX3_28 n z a0 a1 d_1) (fun r_7 d_5 => ix_if (r_7 ≤ 0) (some (0, d_5)) (some (1, d_5))))))
set_option maxRecDepth 20000 in
theorem c_X3_holds {l : Launch} {K : ix_Cx} (hKp : ix_Kp K) {n : Nat} {z : ix_Z} {a0 : Nat} {a1 : Nat} {a2 : Nat} {d : ix_D2} {r : Int32} {d1 : ix_D2} (h : f_X3_holds n z a0 a1 a2 d = some (r, d1)) : ix_M l K yX3_holds cX3_holds 3 (some .boolean) 3 65 0 0 [.ref (K.2.2.1 + a0), .ref (K.2.2.1 + a1), .ref (K.2.2.1 + a2)] (ix_w z d) (some (.int r)) (ix_w z d1) := by
  refine ix_met mf_X3_holds hKp (Nat.le_of_ble_eq_true rfl) ?_
  intro p e s m args below meth c hr hlk hnm X
  have X : ix_X p s m args c K cX3_holds RX3 3 := X
  show ix_G p l e (ix_rm 3 65 0 0) s m args below meth c (MQ below (ix_Post K (some (.int r)) (ix_w z d1)) args s 0 0 (ix_A K)) K 3 0 0 0 [(0, .ref (K.2.2.1 + a0)), (1, .ref (K.2.2.1 + a1)), (2, .ref (K.2.2.1 + a2))] [] (ix_w z d)
  unfold f_X3_holds at h
  refine ix_aload_n (i := 2) (j := 2) X (ix_tb_at tb_X3_holds 0 rfl) rfl rfl (pc1 := 1) rfl ?_
  refine ix_iconst (v := 0) X (ix_tb_at tb_X3_holds 1 rfl) (by decide) (pc1 := 2) rfl ?_
  obtain ⟨k_3, h⟩ := ix_ck_some h
  obtain ⟨d_1, h_2, h⟩ := ix_bd1_ex h
  refine ix_callV (As := [.int 0]) (rest := []) (ci := 4) (T := TX4) (nf := 17) X mf_X4_note mi_X4_note ms_X4_note rfl (Nat.le_of_ble_eq_true rfl) ml_RX3_23 ⟨Nat.le_of_ble_eq_true rfl, Nat.le_of_ble_eq_true rfl⟩ ⟨Nat.le_of_ble_eq_true rfl, Nat.le_of_ble_eq_true rfl⟩ rfl (Nat.le_of_ble_eq_true rfl) (ix_tb_at tb_X3_holds 2 rfl) ⟨k_3.1, List.mem_singleton.mp k_3.2⟩ (c_X4_note hKp h_2) rfl (pc1 := 5) rfl ?_
  refine ix_aload_n (i := 0) (j := 0) X (ix_tb_at tb_X3_holds 3 rfl) rfl rfl (pc1 := 6) rfl ?_
  refine ix_aload_n (i := 1) (j := 1) X (ix_tb_at tb_X3_holds 4 rfl) rfl rfl (pc1 := 7) rfl ?_
  obtain ⟨k_4, h⟩ := ix_ck_some h
  obtain ⟨r_7, d_5, h_6, h⟩ := ix_bd2_ex h
  refine tv_RX3_28 (rest := []) hKp X k_4 h_6 (Nat.le_of_ble_eq_true rfl) (Nat.le_of_ble_eq_true rfl) ⟨Nat.le_of_ble_eq_true rfl, Nat.le_of_ble_eq_true rfl⟩ (Nat.le_of_ble_eq_true rfl) (ix_tb_at tb_X3_holds 5 rfl) (pc1 := 10) rfl ?_
  refine ix_if_le (tgt := 17) X (ix_tb_at tb_X3_holds 6 rfl) (by decide) (pc1 := 13) rfl (fun q_8 => ?_) (fun q_8 => ?_)
  · have h := ix_ift q_8 h
    refine ix_iconst (v := 0) X (ix_tb_at tb_X3_holds 9 rfl) (by decide) (pc1 := 18) rfl ?_
    exact ix_zret X hr hlk (by decide) (ix_r2 (f := fun r => some (.int r)) (g := ix_w z) h) (ix_tb_at tb_X3_holds 10 rfl)
  · have h := ix_iff q_8 h
    refine ix_iconst (v := 1) X (ix_tb_at tb_X3_holds 7 rfl) (by decide) (pc1 := 14) rfl ?_
    refine ix_goto (tgt := 18) X (ix_tb_at tb_X3_holds 8 rfl) (by decide) ?_
    exact ix_zret X hr hlk (by decide) (ix_r2 (f := fun r => some (.int r)) (g := ix_w z) h) (ix_tb_at tb_X3_holds 10 rfl)
def tab_X4_takesBytes : List (Nat × Instr × Nat) := [(0, .iload_n 1, 1), (1, .ifCond .lt 18, 3), (4, .iload_n 1, 1), (5, .bipush 60, 2), (7, .aload_n 0, 1), (8, .getfield 34, 3), (11, .isub, 1), (12, .if_icmp .gt 7, 3), (15, .iconst 1, 1), (16, .goto 4, 3), (19, .iconst 0, 1), (20, .ireturn, 1)]
theorem tb_X4_takesBytes : ix_tab cX4_takesBytes tab_X4_takesBytes := by
  unfold ix_tab
  decide +kernel
noncomputable def f_X4_takesBytes (n : Nat) (z : ix_Z) (a0 : Nat) (x1 : Int32) (d : ix_D2) : Option (Int32 × ix_D2) :=
  ix_if (x1 < 0) (some (0, d)) (ix_ck (ix_ok z [4] a0) (ix_if (60 - (d.1 a0 1) < x1) (some (0, d)) (some (1, d))))
set_option maxRecDepth 20000 in
theorem c_X4_takesBytes {l : Launch} {K : ix_Cx} (hKp : ix_Kp K) {n : Nat} {z : ix_Z} {a0 : Nat} {x1 : Int32} {d : ix_D2} {r : Int32} {d1 : ix_D2} (h : f_X4_takesBytes n z a0 x1 d = some (r, d1)) : ix_M l K yX4_takesBytes cX4_takesBytes 2 (some .boolean) 0 0 0 0 [.ref (K.2.2.1 + a0), .int x1] (ix_w z d) (some (.int r)) (ix_w z d1) := by
  refine ix_met mf_X4_takesBytes hKp (Nat.le_of_ble_eq_true rfl) ?_
  intro p e s m args below meth c hr hlk hnm X
  have X : ix_X p s m args c K cX4_takesBytes RX4 2 := X
  show ix_G p l e (ix_rm 0 0 0 0) s m args below meth c (MQ below (ix_Post K (some (.int r)) (ix_w z d1)) args s 0 0 (ix_A K)) K 2 0 0 0 [(0, .ref (K.2.2.1 + a0)), (1, .int x1)] [] (ix_w z d)
  unfold f_X4_takesBytes at h
  refine ix_iload_n (i := 1) (j := 1) X (ix_tb_at tb_X4_takesBytes 0 rfl) rfl rfl (pc1 := 1) rfl ?_
  refine ix_if_lt (tgt := 19) X (ix_tb_at tb_X4_takesBytes 1 rfl) (by decide) (pc1 := 4) rfl (fun q_1 => ?_) (fun q_1 => ?_)
  · have h := ix_ift q_1 h
    refine ix_iconst (v := 0) X (ix_tb_at tb_X4_takesBytes 10 rfl) (by decide) (pc1 := 20) rfl ?_
    exact ix_zret X hr hlk (by decide) (ix_r2 (f := fun r => some (.int r)) (g := ix_w z) h) (ix_tb_at tb_X4_takesBytes 11 rfl)
  · have h := ix_iff q_1 h
    refine ix_iload_n (i := 1) (j := 1) X (ix_tb_at tb_X4_takesBytes 2 rfl) rfl rfl (pc1 := 5) rfl ?_
    refine ix_bipush (v := 60) X (ix_tb_at tb_X4_takesBytes 3 rfl) (by decide) (pc1 := 7) rfl ?_
    refine ix_aload_n (i := 0) (j := 0) X (ix_tb_at tb_X4_takesBytes 4 rfl) rfl rfl (pc1 := 8) rfl ?_
    obtain ⟨k_2, h⟩ := ix_ck_some h
    refine iz_getI X fl_RX4_34 k_2 (ix_tb_at tb_X4_takesBytes 5 rfl) (pc1 := 11) rfl ?_
    refine ix_isub X (ix_tb_at tb_X4_takesBytes 6 rfl) (pc1 := 12) rfl ?_
    refine ix_icmp_gt (tgt := 19) X (ix_tb_at tb_X4_takesBytes 7 rfl) (by decide) (pc1 := 15) rfl (fun q_3 => ?_) (fun q_3 => ?_)
    · have h := ix_ift q_3 h
      refine ix_iconst (v := 0) X (ix_tb_at tb_X4_takesBytes 10 rfl) (by decide) (pc1 := 20) rfl ?_
      exact ix_zret X hr hlk (by decide) (ix_r2 (f := fun r => some (.int r)) (g := ix_w z) h) (ix_tb_at tb_X4_takesBytes 11 rfl)
    · have h := ix_iff q_3 h
      refine ix_iconst (v := 1) X (ix_tb_at tb_X4_takesBytes 8 rfl) (by decide) (pc1 := 16) rfl ?_
      refine ix_goto (tgt := 20) X (ix_tb_at tb_X4_takesBytes 9 rfl) (by decide) ?_
      exact ix_zret X hr hlk (by decide) (ix_r2 (f := fun r => some (.int r)) (g := ix_w z) h) (ix_tb_at tb_X4_takesBytes 11 rfl)
def tab_X4_takeBytes : List (Nat × Instr × Nat) := [(0, .iload_n 3, 1), (1, .iconst 1, 1), (2, .isub, 1), (3, .istore 4, 2), (5, .iload 4, 2), (7, .ifCond .lt 46, 3), (10, .aload_n 0, 1), (11, .getfield 34, 3), (14, .bipush 60, 2), (16, .if_icmp .ge 37, 3), (19, .aload_n 0, 1), (20, .getfield 11, 3), (23, .aload_n 0, 1), (24, .getfield 34, 3), (27, .lload_n 1, 1), (28, .bipush 8, 2), (30, .iload 4, 2), (32, .imul, 1), (33, .lshr, 1), (34, .l2i, 1), (35, .i2b, 1), (36, .bastore, 1), (37, .aload_n 0, 1), (38, .dup, 1), (39, .getfield 34, 3), (42, .iconst 1, 1), (43, .iadd, 1), (44, .putfield 34, 3), (47, .iinc 4 (-1), 3), (50, .goto (-45), 3), (53, .aload_n 0, 1), (54, .getfield 34, 3), (57, .ireturn, 1)]
theorem tb_X4_takeBytes : ix_tab cX4_takeBytes tab_X4_takeBytes := by
  unfold ix_tab
  decide +kernel
noncomputable def f_X4_takeBytes_53 (n : Nat) (z : ix_Z)  (a0 : Nat) (d : ix_D2) : Option (Int32 × ix_D2) :=
  ix_ck (ix_ok z [4] a0) (some (d.1 a0 1, d))
noncomputable def b_X4_takeBytes_5 (n : Nat) (z : ix_Z)  (a0 : Nat) (y1 : Int64) (rec5 : Int32 → ix_D2 → Option (Int32 × ix_D2)) (x4 : Int32) (d : ix_D2) : Option (Int32 × ix_D2) :=
  ix_if (x4 < 0) (f_X4_takeBytes_53 n z  a0 d) (ix_ck (ix_ok z [4] a0) (ix_if (60 ≤ d.1 a0 1) (f_X4_takeBytes_53 n z  a0 d) (ix_bd1 (z.1 a0 0) (fun b_7 => ix_ck (ix_ix z 21 b_7 (d.1 a0 1)) (ix_lt (ix_di d b_7 (ix_n (d.1 a0 1)) (vp_nar .byte (((y1 >>> ((8 * x4).toInt64 &&& 63)).toInt32).toInt8.toInt32))) (fun d_10 => ix_lt (ix_di d_10 a0 1 ((d_10.1 a0 1) + 1)) (fun d_12 => ix_lt (x4 + (-1)) (fun x4_14 => rec5 x4_14 d_12))))))))
noncomputable def f_X4_takeBytes_5 (n : Nat) (z : ix_Z)  (a0 : Nat) (y1 : Int64) (x4 : Int32) (d : ix_D2) : Option (Int32 × ix_D2) := ix_fix (b_X4_takeBytes_5 n z  a0 y1) (fun _ _ => none) n x4 d
noncomputable def f_X4_takeBytes (n : Nat) (z : ix_Z) (a0 : Nat) (y1 : Int64) (x3 : Int32) (d : ix_D2) : Option (Int32 × ix_D2) :=
  ix_lt (x3 - 1) (fun x4_1 => f_X4_takeBytes_5 n z  a0 y1 x4_1 d)
set_option maxRecDepth 20000 in
theorem t_X4_takeBytes_53 {l : Launch} {p : Program} {e : Env} {s : State} {m : MethodId} {args : Array Value} {below : List Frame} {meth : Method} {c : Code} {K : ix_Cx} (hKp : ix_Kp K) {n : Nat} {z : ix_Z} (X : ix_X p s m args c K cX4_takeBytes RX4 5) (hr : meth.sig.returnType = (some .int)) (hlk : meth.locks = false)  {a0 : Nat} {r : Int32} {d1 : ix_D2}  {d : ix_D2} (h : f_X4_takeBytes_53 n z  a0 d = some (r, d1)) : ix_G p l e (ix_rm 0 0 0 0) s m args below meth c (MQ below (ix_Post K (some (.int r)) (ix_w z d1)) args s 0 0 (ix_A K)) K 5 0 0 53 [(0, .ref (K.2.2.1 + a0))] [] (ix_w z d) := by
  unfold f_X4_takeBytes_53 at h
  refine ix_aload_n (i := 0) (j := 0) X (ix_tb_at tb_X4_takeBytes 30 rfl) rfl rfl (pc1 := 54) rfl ?_
  obtain ⟨k_4, h⟩ := ix_ck_some h
  refine iz_getI X fl_RX4_34 k_4 (ix_tb_at tb_X4_takeBytes 31 rfl) (pc1 := 57) rfl ?_
  exact ix_iret X hr hlk (ix_r2 (f := fun r => some (.int r)) (g := ix_w z) h) (ix_tb_at tb_X4_takeBytes 32 rfl)
set_option maxRecDepth 20000 in
theorem tb_X4_takeBytes_5 {l : Launch} {p : Program} {e : Env} {s : State} {m : MethodId} {args : Array Value} {below : List Frame} {meth : Method} {c : Code} {K : ix_Cx} (hKp : ix_Kp K) {n : Nat} {z : ix_Z} (X : ix_X p s m args c K cX4_takeBytes RX4 5) (hr : meth.sig.returnType = (some .int)) (hlk : meth.locks = false)  {a0 : Nat} {y1 : Int64} {rec5 : Int32 → ix_D2 → Option (Int32 × ix_D2)} {r : Int32} {d1 : ix_D2} (hrec5 : ∀ (x4 : Int32) (d : ix_D2), rec5 x4 d = some (r, d1) → ix_G p l e (ix_rm 0 0 0 0) s m args below meth c (MQ below (ix_Post K (some (.int r)) (ix_w z d1)) args s 0 0 (ix_A K)) K 5 0 0 5 [(0, .ref (K.2.2.1 + a0)), (1, .long y1), (4, .int x4)] [] (ix_w z d)) {x4 : Int32} {d : ix_D2} (h : b_X4_takeBytes_5 n z  a0 y1 rec5 x4 d = some (r, d1)) : ix_G p l e (ix_rm 0 0 0 0) s m args below meth c (MQ below (ix_Post K (some (.int r)) (ix_w z d1)) args s 0 0 (ix_A K)) K 5 0 0 5 [(0, .ref (K.2.2.1 + a0)), (1, .long y1), (4, .int x4)] [] (ix_w z d) := by
  unfold b_X4_takeBytes_5 at h
  refine ix_iload (i := 4) (j := 2) X (ix_tb_at tb_X4_takeBytes 4 rfl) rfl (pc1 := 7) rfl ?_
  refine ix_if_lt (tgt := 53) X (ix_tb_at tb_X4_takeBytes 5 rfl) (by decide) (pc1 := 10) rfl (fun q_3 => ?_) (fun q_3 => ?_)
  · have h := ix_ift q_3 h
    refine ix_sub (L1 := [(0, .ref (K.2.2.1 + a0))]) [0] rfl ?_
    exact t_X4_takeBytes_53 hKp X hr hlk  h
  · have h := ix_iff q_3 h
    refine ix_aload_n (i := 0) (j := 0) X (ix_tb_at tb_X4_takeBytes 6 rfl) rfl rfl (pc1 := 11) rfl ?_
    obtain ⟨k_5, h⟩ := ix_ck_some h
    refine iz_getI X fl_RX4_34 k_5 (ix_tb_at tb_X4_takeBytes 7 rfl) (pc1 := 14) rfl ?_
    refine ix_bipush (v := 60) X (ix_tb_at tb_X4_takeBytes 8 rfl) (by decide) (pc1 := 16) rfl ?_
    refine ix_icmp_ge (tgt := 53) X (ix_tb_at tb_X4_takeBytes 9 rfl) (by decide) (pc1 := 19) rfl (fun q_6 => ?_) (fun q_6 => ?_)
    · have h := ix_ift q_6 h
      refine ix_sub (L1 := [(0, .ref (K.2.2.1 + a0))]) [0] rfl ?_
      exact t_X4_takeBytes_53 hKp X hr hlk  h
    · have h := ix_iff q_6 h
      refine ix_aload_n (i := 0) (j := 0) X (ix_tb_at tb_X4_takeBytes 10 rfl) rfl rfl (pc1 := 20) rfl ?_
      obtain ⟨b_7, q_8, h⟩ := ix_bd1_ex h
      refine iz_getR X fl_RX4_11 k_5 q_8 (ix_tb_at tb_X4_takeBytes 11 rfl) (pc1 := 23) rfl ?_
      refine ix_aload_n (i := 0) (j := 0) X (ix_tb_at tb_X4_takeBytes 12 rfl) rfl rfl (pc1 := 24) rfl ?_
      refine iz_getI X fl_RX4_34 k_5 (ix_tb_at tb_X4_takeBytes 13 rfl) (pc1 := 27) rfl ?_
      refine ix_lload_n (i := 1) (j := 1) X (ix_tb_at tb_X4_takeBytes 14 rfl) rfl rfl (pc1 := 28) rfl ?_
      refine ix_bipush (v := 8) X (ix_tb_at tb_X4_takeBytes 15 rfl) (by decide) (pc1 := 30) rfl ?_
      refine ix_iload (i := 4) (j := 2) X (ix_tb_at tb_X4_takeBytes 16 rfl) rfl (pc1 := 32) rfl ?_
      refine ix_imul X (ix_tb_at tb_X4_takeBytes 17 rfl) (pc1 := 33) rfl ?_
      refine ix_lshr X (ix_tb_at tb_X4_takeBytes 18 rfl) (pc1 := 34) rfl ?_
      refine ix_l2i X (ix_tb_at tb_X4_takeBytes 19 rfl) (pc1 := 35) rfl ?_
      refine ix_i2b X (ix_tb_at tb_X4_takeBytes 20 rfl) (pc1 := 36) rfl ?_
      obtain ⟨k_9, h⟩ := ix_ck_some h
      obtain ⟨d_10, e_11, h⟩ := ix_lt_ex h
      refine iz_bast X k_9 (ix_tb_at tb_X4_takeBytes 21 rfl) e_11 (pc1 := 37) rfl ?_
      refine ix_aload_n (i := 0) (j := 0) X (ix_tb_at tb_X4_takeBytes 22 rfl) rfl rfl (pc1 := 38) rfl ?_
      refine ix_dup X (ix_tb_at tb_X4_takeBytes 23 rfl) rfl (pc1 := 39) rfl ?_
      refine iz_getI X fl_RX4_34 k_5 (ix_tb_at tb_X4_takeBytes 24 rfl) (pc1 := 42) rfl ?_
      refine ix_iconst (v := 1) X (ix_tb_at tb_X4_takeBytes 25 rfl) (by decide) (pc1 := 43) rfl ?_
      refine ix_iadd X (ix_tb_at tb_X4_takeBytes 26 rfl) (pc1 := 44) rfl ?_
      obtain ⟨d_12, e_13, h⟩ := ix_lt_ex h
      refine iz_putI X fp_RX4_34 k_5 (ix_tb_at tb_X4_takeBytes 27 rfl) e_13 (pc1 := 47) rfl ?_
      obtain ⟨x4_14, e_15, h⟩ := ix_lt_ex h
      refine ix_iinc (i := 4) (j := 2) (v := x4_14) (L1 := [(4, .int x4_14), (0, .ref (K.2.2.1 + a0)), (1, .long y1)]) X (ix_tb_at tb_X4_takeBytes 28 rfl) rfl (by rw [oi_m1]; exact e_15.symm) (Nat.le_of_ble_eq_true rfl) rfl (pc1 := 50) rfl ?_
      refine ix_goto (tgt := 5) X (ix_tb_at tb_X4_takeBytes 29 rfl) (by decide) ?_
      refine ix_sub (L1 := [(0, .ref (K.2.2.1 + a0)), (1, .long y1), (4, .int x4_14)]) [1, 2, 0] rfl ?_
      exact hrec5 x4_14 d_12 h
theorem t_X4_takeBytes_5 {l : Launch} {p : Program} {e : Env} {s : State} {m : MethodId} {args : Array Value} {below : List Frame} {meth : Method} {c : Code} {K : ix_Cx} (hKp : ix_Kp K) {n : Nat} {z : ix_Z} (X : ix_X p s m args c K cX4_takeBytes RX4 5) (hr : meth.sig.returnType = (some .int)) (hlk : meth.locks = false)  {a0 : Nat} {y1 : Int64} {r : Int32} {d1 : ix_D2}  {x4 : Int32} {d : ix_D2} (h : f_X4_takeBytes_5 n z  a0 y1 x4 d = some (r, d1)) : ix_G p l e (ix_rm 0 0 0 0) s m args below meth c (MQ below (ix_Post K (some (.int r)) (ix_w z d1)) args s 0 0 (ix_A K)) K 5 0 0 5 [(0, .ref (K.2.2.1 + a0)), (1, .long y1), (4, .int x4)] [] (ix_w z d) := by
  have key : ∀ (f : Nat) (x4 : Int32) (d : ix_D2), ix_fix (b_X4_takeBytes_5 n z  a0 y1) (fun _ _ => none) f x4 d = some (r, d1) → ix_G p l e (ix_rm 0 0 0 0) s m args below meth c (MQ below (ix_Post K (some (.int r)) (ix_w z d1)) args s 0 0 (ix_A K)) K 5 0 0 5 [(0, .ref (K.2.2.1 + a0)), (1, .long y1), (4, .int x4)] [] (ix_w z d) := by
    intro f
    induction f with
    | zero =>
      intro x4 d h
      have h : (none : Option (Int32 × ix_D2)) = some (r, d1) := h
      cases h
    | succ f ih =>
      intro x4 d h
      exact tb_X4_takeBytes_5 hKp X hr hlk (rec5 := ix_fix (b_X4_takeBytes_5 n z  a0 y1) (fun _ _ => none) f)  ih h
  exact key n x4 d h
set_option maxRecDepth 20000 in
theorem c_X4_takeBytes {l : Launch} {K : ix_Cx} (hKp : ix_Kp K) {n : Nat} {z : ix_Z} {a0 : Nat} {y1 : Int64} {x3 : Int32} {d : ix_D2} {r : Int32} {d1 : ix_D2} (h : f_X4_takeBytes n z a0 y1 x3 d = some (r, d1)) : ix_M l K yX4_takeBytes cX4_takeBytes 5 (some .int) 0 0 0 0 [.ref (K.2.2.1 + a0), .long y1, .int x3] (ix_w z d) (some (.int r)) (ix_w z d1) := by
  refine ix_met mf_X4_takeBytes hKp (Nat.le_of_ble_eq_true rfl) ?_
  intro p e s m args below meth c hr hlk hnm X
  have X : ix_X p s m args c K cX4_takeBytes RX4 5 := X
  show ix_G p l e (ix_rm 0 0 0 0) s m args below meth c (MQ below (ix_Post K (some (.int r)) (ix_w z d1)) args s 0 0 (ix_A K)) K 5 0 0 0 [(0, .ref (K.2.2.1 + a0)), (1, .long y1), (3, .int x3)] [] (ix_w z d)
  unfold f_X4_takeBytes at h
  refine ix_iload_n (i := 3) (j := 2) X (ix_tb_at tb_X4_takeBytes 0 rfl) rfl rfl (pc1 := 1) rfl ?_
  refine ix_iconst (v := 1) X (ix_tb_at tb_X4_takeBytes 1 rfl) (by decide) (pc1 := 2) rfl ?_
  refine ix_isub X (ix_tb_at tb_X4_takeBytes 2 rfl) (pc1 := 3) rfl ?_
  obtain ⟨x4_1, e_2, h⟩ := ix_lt_ex h
  refine ix_nmi e_2 ?_
  refine ix_istore (i := 4) (L1 := [(4, .int x4_1), (0, .ref (K.2.2.1 + a0)), (1, .long y1), (3, .int x3)]) X (ix_tb_at tb_X4_takeBytes 3 rfl) (Nat.le_of_ble_eq_true rfl) rfl (pc1 := 5) rfl ?_
  refine ix_sub (L1 := [(0, .ref (K.2.2.1 + a0)), (1, .long y1), (4, .int x4_1)]) [1, 2, 0] rfl ?_
  exact t_X4_takeBytes_5 hKp X hr hlk  h
def tab_X4_emptyTape : List (Nat × Instr × Nat) := [(0, .aload_n 0, 1), (1, .getfield 34, 3), (4, .istore_n 1, 1), (5, .aload_n 0, 1), (6, .iconst 0, 1), (7, .putfield 34, 3), (10, .iload_n 1, 1), (11, .ireturn, 1)]
theorem tb_X4_emptyTape : ix_tab cX4_emptyTape tab_X4_emptyTape := by
  unfold ix_tab
  decide +kernel
noncomputable def f_X4_emptyTape (n : Nat) (z : ix_Z) (a0 : Nat) (d : ix_D2) : Option (Int32 × ix_D2) :=
  ix_ck (ix_ok z [4] a0) (ix_lt (d.1 a0 1) (fun x1_2 => ix_lt (ix_di d a0 1 0) (fun d_4 => some (x1_2, d_4))))
set_option maxRecDepth 20000 in
theorem c_X4_emptyTape {l : Launch} {K : ix_Cx} (hKp : ix_Kp K) {n : Nat} {z : ix_Z} {a0 : Nat} {d : ix_D2} {r : Int32} {d1 : ix_D2} (h : f_X4_emptyTape n z a0 d = some (r, d1)) : ix_M l K yX4_emptyTape cX4_emptyTape 2 (some .int) 0 0 0 0 [.ref (K.2.2.1 + a0)] (ix_w z d) (some (.int r)) (ix_w z d1) := by
  refine ix_met mf_X4_emptyTape hKp (Nat.le_of_ble_eq_true rfl) ?_
  intro p e s m args below meth c hr hlk hnm X
  have X : ix_X p s m args c K cX4_emptyTape RX4 2 := X
  show ix_G p l e (ix_rm 0 0 0 0) s m args below meth c (MQ below (ix_Post K (some (.int r)) (ix_w z d1)) args s 0 0 (ix_A K)) K 2 0 0 0 [(0, .ref (K.2.2.1 + a0))] [] (ix_w z d)
  unfold f_X4_emptyTape at h
  refine ix_aload_n (i := 0) (j := 0) X (ix_tb_at tb_X4_emptyTape 0 rfl) rfl rfl (pc1 := 1) rfl ?_
  obtain ⟨k_1, h⟩ := ix_ck_some h
  refine iz_getI X fl_RX4_34 k_1 (ix_tb_at tb_X4_emptyTape 1 rfl) (pc1 := 4) rfl ?_
  obtain ⟨x1_2, e_3, h⟩ := ix_lt_ex h
  refine ix_nmi e_3 ?_
  refine ix_istore_n (i := 1) (L1 := [(1, .int x1_2), (0, .ref (K.2.2.1 + a0))]) X (ix_tb_at tb_X4_emptyTape 2 rfl) rfl (Nat.le_of_ble_eq_true rfl) rfl (pc1 := 5) rfl ?_
  refine ix_aload_n (i := 0) (j := 1) X (ix_tb_at tb_X4_emptyTape 3 rfl) rfl rfl (pc1 := 6) rfl ?_
  refine ix_iconst (v := 0) X (ix_tb_at tb_X4_emptyTape 4 rfl) (by decide) (pc1 := 7) rfl ?_
  obtain ⟨d_4, e_5, h⟩ := ix_lt_ex h
  refine iz_putI X fp_RX4_34 k_1 (ix_tb_at tb_X4_emptyTape 5 rfl) e_5 (pc1 := 10) rfl ?_
  refine ix_iload_n (i := 1) (j := 0) X (ix_tb_at tb_X4_emptyTape 6 rfl) rfl rfl (pc1 := 11) rfl ?_
  exact ix_iret X hr hlk (ix_r2 (f := fun r => some (.int r)) (g := ix_w z) h) (ix_tb_at tb_X4_emptyTape 7 rfl)
def tab_X4_isDigit : List (Nat × Instr × Nat) := [(0, .iload_n 0, 1), (1, .bipush 48, 2), (3, .if_icmp .lt 13, 3), (6, .iload_n 0, 1), (7, .bipush 57, 2), (9, .if_icmp .gt 7, 3), (12, .iconst 1, 1), (13, .goto 4, 3), (16, .iconst 0, 1), (17, .ireturn, 1)]
theorem tb_X4_isDigit : ix_tab cX4_isDigit tab_X4_isDigit := by
  unfold ix_tab
  decide +kernel
noncomputable def f_X4_isDigit (n : Nat) (z : ix_Z) (x0 : Int32) (d : ix_D2) : Option (Int32 × ix_D2) :=
  ix_if (x0 < 48) (some (0, d)) (ix_if (57 < x0) (some (0, d)) (some (1, d)))
set_option maxRecDepth 20000 in
theorem c_X4_isDigit {l : Launch} {K : ix_Cx} (hKp : ix_Kp K) {n : Nat} {z : ix_Z} {x0 : Int32} {d : ix_D2} {r : Int32} {d1 : ix_D2} (h : f_X4_isDigit n z x0 d = some (r, d1)) : ix_M l K yX4_isDigit cX4_isDigit 1 (some .boolean) 0 0 0 0 [.int x0] (ix_w z d) (some (.int r)) (ix_w z d1) := by
  refine ix_met mf_X4_isDigit hKp (Nat.le_of_ble_eq_true rfl) ?_
  intro p e s m args below meth c hr hlk hnm X
  have X : ix_X p s m args c K cX4_isDigit RX4 1 := X
  show ix_G p l e (ix_rm 0 0 0 0) s m args below meth c (MQ below (ix_Post K (some (.int r)) (ix_w z d1)) args s 0 0 (ix_A K)) K 1 0 0 0 [(0, .int x0)] [] (ix_w z d)
  unfold f_X4_isDigit at h
  refine ix_iload_n (i := 0) (j := 0) X (ix_tb_at tb_X4_isDigit 0 rfl) rfl rfl (pc1 := 1) rfl ?_
  refine ix_bipush (v := 48) X (ix_tb_at tb_X4_isDigit 1 rfl) (by decide) (pc1 := 3) rfl ?_
  refine ix_icmp_lt (tgt := 16) X (ix_tb_at tb_X4_isDigit 2 rfl) (by decide) (pc1 := 6) rfl (fun q_1 => ?_) (fun q_1 => ?_)
  · have h := ix_ift q_1 h
    refine ix_iconst (v := 0) X (ix_tb_at tb_X4_isDigit 8 rfl) (by decide) (pc1 := 17) rfl ?_
    exact ix_zret X hr hlk (by decide) (ix_r2 (f := fun r => some (.int r)) (g := ix_w z) h) (ix_tb_at tb_X4_isDigit 9 rfl)
  · have h := ix_iff q_1 h
    refine ix_iload_n (i := 0) (j := 0) X (ix_tb_at tb_X4_isDigit 3 rfl) rfl rfl (pc1 := 7) rfl ?_
    refine ix_bipush (v := 57) X (ix_tb_at tb_X4_isDigit 4 rfl) (by decide) (pc1 := 9) rfl ?_
    refine ix_icmp_gt (tgt := 16) X (ix_tb_at tb_X4_isDigit 5 rfl) (by decide) (pc1 := 12) rfl (fun q_2 => ?_) (fun q_2 => ?_)
    · have h := ix_ift q_2 h
      refine ix_iconst (v := 0) X (ix_tb_at tb_X4_isDigit 8 rfl) (by decide) (pc1 := 17) rfl ?_
      exact ix_zret X hr hlk (by decide) (ix_r2 (f := fun r => some (.int r)) (g := ix_w z) h) (ix_tb_at tb_X4_isDigit 9 rfl)
    · have h := ix_iff q_2 h
      refine ix_iconst (v := 1) X (ix_tb_at tb_X4_isDigit 6 rfl) (by decide) (pc1 := 13) rfl ?_
      refine ix_goto (tgt := 17) X (ix_tb_at tb_X4_isDigit 7 rfl) (by decide) ?_
      exact ix_zret X hr hlk (by decide) (ix_r2 (f := fun r => some (.int r)) (g := ix_w z) h) (ix_tb_at tb_X4_isDigit 9 rfl)
def tab_X4_acceptsDigit : List (Nat × Instr × Nat) := [(0, .aload_n 0, 1), (1, .bipush 10, 2), (3, .aload_n 0, 1), (4, .getfield 69, 3), (7, .imul, 1), (8, .iload_n 1, 1), (9, .iadd, 1), (10, .bipush 48, 2), (12, .isub, 1), (13, .putfield 69, 3), (16, .aload_n 0, 1), (17, .dup, 1), (18, .getfield 72, 3), (21, .iconst 1, 1), (22, .iadd, 1), (23, .putfield 72, 3), (26, .aload_n 0, 1), (27, .getfield 72, 3), (30, .iconst 3, 1), (31, .if_icmp .gt 7, 3), (34, .iconst 1, 1), (35, .goto 4, 3), (38, .iconst 0, 1), (39, .ireturn, 1)]
theorem tb_X4_acceptsDigit : ix_tab cX4_acceptsDigit tab_X4_acceptsDigit := by
  unfold ix_tab
  decide +kernel
noncomputable def f_X4_acceptsDigit (n : Nat) (z : ix_Z) (a0 : Nat) (x1 : Int32) (d : ix_D2) : Option (Int32 × ix_D2) :=
  ix_ck (ix_ok z [4] a0) (ix_lt (ix_di d a0 15 (((10 * (d.1 a0 15)) + x1) - 48)) (fun d_2 => ix_lt (ix_di d_2 a0 16 ((d_2.1 a0 16) + 1)) (fun d_4 => ix_if (3 < d_4.1 a0 16) (some (0, d_4)) (some (1, d_4)))))
set_option maxRecDepth 20000 in
theorem c_X4_acceptsDigit {l : Launch} {K : ix_Cx} (hKp : ix_Kp K) {n : Nat} {z : ix_Z} {a0 : Nat} {x1 : Int32} {d : ix_D2} {r : Int32} {d1 : ix_D2} (h : f_X4_acceptsDigit n z a0 x1 d = some (r, d1)) : ix_M l K yX4_acceptsDigit cX4_acceptsDigit 2 (some .boolean) 0 0 0 0 [.ref (K.2.2.1 + a0), .int x1] (ix_w z d) (some (.int r)) (ix_w z d1) := by
  refine ix_met mf_X4_acceptsDigit hKp (Nat.le_of_ble_eq_true rfl) ?_
  intro p e s m args below meth c hr hlk hnm X
  have X : ix_X p s m args c K cX4_acceptsDigit RX4 2 := X
  show ix_G p l e (ix_rm 0 0 0 0) s m args below meth c (MQ below (ix_Post K (some (.int r)) (ix_w z d1)) args s 0 0 (ix_A K)) K 2 0 0 0 [(0, .ref (K.2.2.1 + a0)), (1, .int x1)] [] (ix_w z d)
  unfold f_X4_acceptsDigit at h
  refine ix_aload_n (i := 0) (j := 0) X (ix_tb_at tb_X4_acceptsDigit 0 rfl) rfl rfl (pc1 := 1) rfl ?_
  refine ix_bipush (v := 10) X (ix_tb_at tb_X4_acceptsDigit 1 rfl) (by decide) (pc1 := 3) rfl ?_
  refine ix_aload_n (i := 0) (j := 0) X (ix_tb_at tb_X4_acceptsDigit 2 rfl) rfl rfl (pc1 := 4) rfl ?_
  obtain ⟨k_1, h⟩ := ix_ck_some h
  refine iz_getI X fl_RX4_69 k_1 (ix_tb_at tb_X4_acceptsDigit 3 rfl) (pc1 := 7) rfl ?_
  refine ix_imul X (ix_tb_at tb_X4_acceptsDigit 4 rfl) (pc1 := 8) rfl ?_
  refine ix_iload_n (i := 1) (j := 1) X (ix_tb_at tb_X4_acceptsDigit 5 rfl) rfl rfl (pc1 := 9) rfl ?_
  refine ix_iadd X (ix_tb_at tb_X4_acceptsDigit 6 rfl) (pc1 := 10) rfl ?_
  refine ix_bipush (v := 48) X (ix_tb_at tb_X4_acceptsDigit 7 rfl) (by decide) (pc1 := 12) rfl ?_
  refine ix_isub X (ix_tb_at tb_X4_acceptsDigit 8 rfl) (pc1 := 13) rfl ?_
  obtain ⟨d_2, e_3, h⟩ := ix_lt_ex h
  refine iz_putI X fp_RX4_69 k_1 (ix_tb_at tb_X4_acceptsDigit 9 rfl) e_3 (pc1 := 16) rfl ?_
  refine ix_aload_n (i := 0) (j := 0) X (ix_tb_at tb_X4_acceptsDigit 10 rfl) rfl rfl (pc1 := 17) rfl ?_
  refine ix_dup X (ix_tb_at tb_X4_acceptsDigit 11 rfl) rfl (pc1 := 18) rfl ?_
  refine iz_getI X fl_RX4_72 k_1 (ix_tb_at tb_X4_acceptsDigit 12 rfl) (pc1 := 21) rfl ?_
  refine ix_iconst (v := 1) X (ix_tb_at tb_X4_acceptsDigit 13 rfl) (by decide) (pc1 := 22) rfl ?_
  refine ix_iadd X (ix_tb_at tb_X4_acceptsDigit 14 rfl) (pc1 := 23) rfl ?_
  obtain ⟨d_4, e_5, h⟩ := ix_lt_ex h
  refine iz_putI X fp_RX4_72 k_1 (ix_tb_at tb_X4_acceptsDigit 15 rfl) e_5 (pc1 := 26) rfl ?_
  refine ix_aload_n (i := 0) (j := 0) X (ix_tb_at tb_X4_acceptsDigit 16 rfl) rfl rfl (pc1 := 27) rfl ?_
  refine iz_getI X fl_RX4_72 k_1 (ix_tb_at tb_X4_acceptsDigit 17 rfl) (pc1 := 30) rfl ?_
  refine ix_iconst (v := 3) X (ix_tb_at tb_X4_acceptsDigit 18 rfl) (by decide) (pc1 := 31) rfl ?_
  refine ix_icmp_gt (tgt := 38) X (ix_tb_at tb_X4_acceptsDigit 19 rfl) (by decide) (pc1 := 34) rfl (fun q_6 => ?_) (fun q_6 => ?_)
  · have h := ix_ift q_6 h
    refine ix_iconst (v := 0) X (ix_tb_at tb_X4_acceptsDigit 22 rfl) (by decide) (pc1 := 39) rfl ?_
    exact ix_zret X hr hlk (by decide) (ix_r2 (f := fun r => some (.int r)) (g := ix_w z) h) (ix_tb_at tb_X4_acceptsDigit 23 rfl)
  · have h := ix_iff q_6 h
    refine ix_iconst (v := 1) X (ix_tb_at tb_X4_acceptsDigit 20 rfl) (by decide) (pc1 := 35) rfl ?_
    refine ix_goto (tgt := 39) X (ix_tb_at tb_X4_acceptsDigit 21 rfl) (by decide) ?_
    exact ix_zret X hr hlk (by decide) (ix_r2 (f := fun r => some (.int r)) (g := ix_w z) h) (ix_tb_at tb_X4_acceptsDigit 23 rfl)
def tab_X4_endPart : List (Nat × Instr × Nat) := [(0, .aload_n 0, 1), (1, .getfield 38, 3), (4, .aload_n 0, 1), (5, .getfield 22, 3), (8, .arraylength, 1), (9, .if_icmp .ge 23, 3), (12, .aload_n 0, 1), (13, .getfield 22, 3), (16, .aload_n 0, 1), (17, .getfield 38, 3), (20, .iload_n 1, 1), (21, .iastore, 1), (22, .aload_n 0, 1), (23, .dup, 1), (24, .getfield 38, 3), (27, .iconst 1, 1), (28, .iadd, 1), (29, .putfield 38, 3), (32, .aload_n 0, 1), (33, .getfield 41, 3), (36, .ifCond .le 18, 3), (39, .aload_n 0, 1), (40, .getfield 28, 3), (43, .aload_n 0, 1), (44, .getfield 41, 3), (47, .iconst 1, 1), (48, .isub, 1), (49, .dup2, 1), (50, .iaload, 1), (51, .iconst 1, 1), (52, .iadd, 1), (53, .iastore, 1), (54, .aload_n 0, 1), (55, .iconst 4, 1), (56, .putfield 47, 3), (59, .return_, 1)]
theorem tb_X4_endPart : ix_tab cX4_endPart tab_X4_endPart := by
  unfold ix_tab
  decide +kernel
noncomputable def f_X4_endPart_54 (n : Nat) (z : ix_Z)  (a0 : Nat) (d : ix_D2) : Option (ix_D2) :=
  ix_ck (ix_ok z [4] a0) (ix_lt (ix_di d a0 12 4) (fun d_9 => some d_9))
noncomputable def f_X4_endPart_32 (n : Nat) (z : ix_Z)  (a0 : Nat) (d : ix_D2) : Option (ix_D2) :=
  ix_ck (ix_ok z [4] a0) (ix_if (d.1 a0 11 ≤ 0) (f_X4_endPart_54 n z  a0 d) (ix_bd1 (z.1 a0 9) (fun b_11 => ix_ck (ix_ix z 20 b_11 ((d.1 a0 11) - 1)) (ix_lt (ix_di d b_11 (ix_n ((d.1 a0 11) - 1)) ((d.1 b_11 (ix_n ((d.1 a0 11) - 1))) + 1)) (fun d_14 => f_X4_endPart_54 n z  a0 d_14)))))
noncomputable def f_X4_endPart (n : Nat) (z : ix_Z) (a0 : Nat) (x1 : Int32) (d : ix_D2) : Option (ix_D2) :=
  ix_ck (ix_ok z [4] a0) (ix_bd1 (z.1 a0 6) (fun b_2 => ix_ck (b_2 < z.2.2 ∧ 20 ≤ (z.2.1 b_2).1 ∧ (z.2.1 b_2).1 < 26) (ix_if (nI (z.2.1 b_2).2 ≤ d.1 a0 7) (f_X4_endPart_32 n z  a0 d) (ix_ck (ix_ix z 20 b_2 (d.1 a0 7)) (ix_lt (ix_di d b_2 (ix_n (d.1 a0 7)) x1) (fun d_17 => ix_lt (ix_di d_17 a0 7 ((d_17.1 a0 7) + 1)) (fun d_19 => f_X4_endPart_32 n z  a0 d_19)))))))
set_option maxRecDepth 20000 in
theorem t_X4_endPart_54 {l : Launch} {p : Program} {e : Env} {s : State} {m : MethodId} {args : Array Value} {below : List Frame} {meth : Method} {c : Code} {K : ix_Cx} (hKp : ix_Kp K) {n : Nat} {z : ix_Z} (X : ix_X p s m args c K cX4_endPart RX4 2) (hr : meth.sig.returnType = (none : Option Jvm.ClassFile.FieldType)) (hlk : meth.locks = false)  {a0 : Nat} {d1 : ix_D2}  {d : ix_D2} (h : f_X4_endPart_54 n z  a0 d = some d1) : ix_G p l e (ix_rm 0 0 0 0) s m args below meth c (MQ below (ix_Post K none (ix_w z d1)) args s 0 0 (ix_A K)) K 2 0 0 54 [(0, .ref (K.2.2.1 + a0))] [] (ix_w z d) := by
  unfold f_X4_endPart_54 at h
  refine ix_aload_n (i := 0) (j := 0) X (ix_tb_at tb_X4_endPart 32 rfl) rfl rfl (pc1 := 55) rfl ?_
  refine ix_iconst (v := 4) X (ix_tb_at tb_X4_endPart 33 rfl) (by decide) (pc1 := 56) rfl ?_
  obtain ⟨k_8, h⟩ := ix_ck_some h
  obtain ⟨d_9, e_10, h⟩ := ix_lt_ex h
  refine iz_putI X fp_RX4_47 k_8 (ix_tb_at tb_X4_endPart 34 rfl) e_10 (pc1 := 59) rfl ?_
  exact ix_vret X hr hlk (ix_r1 (g := ix_w z) h) (ix_tb_at tb_X4_endPart 35 rfl)
set_option maxRecDepth 20000 in
theorem t_X4_endPart_32 {l : Launch} {p : Program} {e : Env} {s : State} {m : MethodId} {args : Array Value} {below : List Frame} {meth : Method} {c : Code} {K : ix_Cx} (hKp : ix_Kp K) {n : Nat} {z : ix_Z} (X : ix_X p s m args c K cX4_endPart RX4 2) (hr : meth.sig.returnType = (none : Option Jvm.ClassFile.FieldType)) (hlk : meth.locks = false)  {a0 : Nat} {d1 : ix_D2}  {d : ix_D2} (h : f_X4_endPart_32 n z  a0 d = some d1) : ix_G p l e (ix_rm 0 0 0 0) s m args below meth c (MQ below (ix_Post K none (ix_w z d1)) args s 0 0 (ix_A K)) K 2 0 0 32 [(0, .ref (K.2.2.1 + a0))] [] (ix_w z d) := by
  unfold f_X4_endPart_32 at h
  refine ix_aload_n (i := 0) (j := 0) X (ix_tb_at tb_X4_endPart 18 rfl) rfl rfl (pc1 := 33) rfl ?_
  obtain ⟨k_6, h⟩ := ix_ck_some h
  refine iz_getI X fl_RX4_41 k_6 (ix_tb_at tb_X4_endPart 19 rfl) (pc1 := 36) rfl ?_
  refine ix_if_le (tgt := 54) X (ix_tb_at tb_X4_endPart 20 rfl) (by decide) (pc1 := 39) rfl (fun q_7 => ?_) (fun q_7 => ?_)
  · have h := ix_ift q_7 h
    refine ix_sub (L1 := [(0, .ref (K.2.2.1 + a0))]) [0] rfl ?_
    exact t_X4_endPart_54 hKp X hr hlk  h
  · have h := ix_iff q_7 h
    refine ix_aload_n (i := 0) (j := 0) X (ix_tb_at tb_X4_endPart 21 rfl) rfl rfl (pc1 := 40) rfl ?_
    obtain ⟨b_11, q_12, h⟩ := ix_bd1_ex h
    refine iz_getR X fl_RX4_28 k_6 q_12 (ix_tb_at tb_X4_endPart 22 rfl) (pc1 := 43) rfl ?_
    refine ix_aload_n (i := 0) (j := 0) X (ix_tb_at tb_X4_endPart 23 rfl) rfl rfl (pc1 := 44) rfl ?_
    refine iz_getI X fl_RX4_41 k_6 (ix_tb_at tb_X4_endPart 24 rfl) (pc1 := 47) rfl ?_
    refine ix_iconst (v := 1) X (ix_tb_at tb_X4_endPart 25 rfl) (by decide) (pc1 := 48) rfl ?_
    refine ix_isub X (ix_tb_at tb_X4_endPart 26 rfl) (pc1 := 49) rfl ?_
    refine ix_dup2 X (ix_tb_at tb_X4_endPart 27 rfl) rfl rfl (pc1 := 50) rfl ?_
    obtain ⟨k_13, h⟩ := ix_ck_some h
    refine iz_iald X k_13 (ix_tb_at tb_X4_endPart 28 rfl) (pc1 := 51) rfl ?_
    refine ix_iconst (v := 1) X (ix_tb_at tb_X4_endPart 29 rfl) (by decide) (pc1 := 52) rfl ?_
    refine ix_iadd X (ix_tb_at tb_X4_endPart 30 rfl) (pc1 := 53) rfl ?_
    obtain ⟨d_14, e_15, h⟩ := ix_lt_ex h
    refine iz_iast X k_13 (ix_tb_at tb_X4_endPart 31 rfl) e_15 (pc1 := 54) rfl ?_
    refine ix_sub (L1 := [(0, .ref (K.2.2.1 + a0))]) [0] rfl ?_
    exact t_X4_endPart_54 hKp X hr hlk  h
set_option maxRecDepth 20000 in
theorem c_X4_endPart {l : Launch} {K : ix_Cx} (hKp : ix_Kp K) {n : Nat} {z : ix_Z} {a0 : Nat} {x1 : Int32} {d : ix_D2} {d1 : ix_D2} (h : f_X4_endPart n z a0 x1 d = some d1) : ix_M l K yX4_endPart cX4_endPart 2 (none : Option Jvm.ClassFile.FieldType) 0 0 0 0 [.ref (K.2.2.1 + a0), .int x1] (ix_w z d) none (ix_w z d1) := by
  refine ix_met mf_X4_endPart hKp (Nat.le_of_ble_eq_true rfl) ?_
  intro p e s m args below meth c hr hlk hnm X
  have X : ix_X p s m args c K cX4_endPart RX4 2 := X
  show ix_G p l e (ix_rm 0 0 0 0) s m args below meth c (MQ below (ix_Post K none (ix_w z d1)) args s 0 0 (ix_A K)) K 2 0 0 0 [(0, .ref (K.2.2.1 + a0)), (1, .int x1)] [] (ix_w z d)
  unfold f_X4_endPart at h
  refine ix_aload_n (i := 0) (j := 0) X (ix_tb_at tb_X4_endPart 0 rfl) rfl rfl (pc1 := 1) rfl ?_
  obtain ⟨k_1, h⟩ := ix_ck_some h
  refine iz_getI X fl_RX4_38 k_1 (ix_tb_at tb_X4_endPart 1 rfl) (pc1 := 4) rfl ?_
  refine ix_aload_n (i := 0) (j := 0) X (ix_tb_at tb_X4_endPart 2 rfl) rfl rfl (pc1 := 5) rfl ?_
  obtain ⟨b_2, q_3, h⟩ := ix_bd1_ex h
  refine iz_getR X fl_RX4_22 k_1 q_3 (ix_tb_at tb_X4_endPart 3 rfl) (pc1 := 8) rfl ?_
  obtain ⟨k_4, h⟩ := ix_ck_some h
  refine iz_alen X k_4 (ix_tb_at tb_X4_endPart 4 rfl) (pc1 := 9) rfl ?_
  refine ix_icmp_ge (tgt := 32) X (ix_tb_at tb_X4_endPart 5 rfl) (by decide) (pc1 := 12) rfl (fun q_5 => ?_) (fun q_5 => ?_)
  · have h := ix_ift q_5 h
    refine ix_sub (L1 := [(0, .ref (K.2.2.1 + a0))]) [0] rfl ?_
    exact t_X4_endPart_32 hKp X hr hlk  h
  · have h := ix_iff q_5 h
    refine ix_aload_n (i := 0) (j := 0) X (ix_tb_at tb_X4_endPart 6 rfl) rfl rfl (pc1 := 13) rfl ?_
    refine iz_getR X fl_RX4_22 k_1 q_3 (ix_tb_at tb_X4_endPart 7 rfl) (pc1 := 16) rfl ?_
    refine ix_aload_n (i := 0) (j := 0) X (ix_tb_at tb_X4_endPart 8 rfl) rfl rfl (pc1 := 17) rfl ?_
    refine iz_getI X fl_RX4_38 k_1 (ix_tb_at tb_X4_endPart 9 rfl) (pc1 := 20) rfl ?_
    refine ix_iload_n (i := 1) (j := 1) X (ix_tb_at tb_X4_endPart 10 rfl) rfl rfl (pc1 := 21) rfl ?_
    obtain ⟨k_16, h⟩ := ix_ck_some h
    obtain ⟨d_17, e_18, h⟩ := ix_lt_ex h
    refine iz_iast X k_16 (ix_tb_at tb_X4_endPart 11 rfl) e_18 (pc1 := 22) rfl ?_
    refine ix_aload_n (i := 0) (j := 0) X (ix_tb_at tb_X4_endPart 12 rfl) rfl rfl (pc1 := 23) rfl ?_
    refine ix_dup X (ix_tb_at tb_X4_endPart 13 rfl) rfl (pc1 := 24) rfl ?_
    refine iz_getI X fl_RX4_38 k_1 (ix_tb_at tb_X4_endPart 14 rfl) (pc1 := 27) rfl ?_
    refine ix_iconst (v := 1) X (ix_tb_at tb_X4_endPart 15 rfl) (by decide) (pc1 := 28) rfl ?_
    refine ix_iadd X (ix_tb_at tb_X4_endPart 16 rfl) (pc1 := 29) rfl ?_
    obtain ⟨d_19, e_20, h⟩ := ix_lt_ex h
    refine iz_putI X fp_RX4_38 k_1 (ix_tb_at tb_X4_endPart 17 rfl) e_20 (pc1 := 32) rfl ?_
    refine ix_sub (L1 := [(0, .ref (K.2.2.1 + a0))]) [0] rfl ?_
    exact t_X4_endPart_32 hKp X hr hlk  h
def tab_X4_endNumber : List (Nat × Instr × Nat) := [(0, .aload_n 0, 1), (1, .aload_n 0, 1), (2, .getfield 44, 3), (5, .iconst 1, 1), (6, .if_icmp .ne 11, 3), (9, .aload_n 0, 1), (10, .getfield 69, 3), (13, .ineg, 1), (14, .goto 7, 3), (17, .aload_n 0, 1), (18, .getfield 69, 3), (21, .invokevirtual 89, 3), (24, .aload_n 0, 1), (25, .iconst 0, 1), (26, .putfield 44, 3), (29, .return_, 1)]
theorem tb_X4_endNumber : ix_tab cX4_endNumber tab_X4_endNumber := by
  unfold ix_tab
  decide +kernel
noncomputable def f_X4_endNumber_21 (n : Nat) (z : ix_Z)  (a0 : Nat) (s0 : Int32) (s1 : Nat) (d : ix_D2) : Option (ix_D2) :=
  ix_ck (ix_ok z [4] s1) (ix_bd1 (f_X4_endPart n z s1 s0 d) (fun d_3 => ix_ck (ix_ok z [4] a0) (ix_lt (ix_di d_3 a0 14 0) (fun d_7 => some d_7))))
noncomputable def f_X4_endNumber (n : Nat) (z : ix_Z) (a0 : Nat) (d : ix_D2) : Option (ix_D2) :=
  ix_ck (ix_ok z [4] a0) (ix_if (d.1 a0 14 = 1) (f_X4_endNumber_21 n z  a0 (-(d.1 a0 15)) a0 d) (f_X4_endNumber_21 n z  a0 (d.1 a0 15) a0 d))
set_option maxRecDepth 20000 in
theorem t_X4_endNumber_21 {l : Launch} {p : Program} {e : Env} {s : State} {m : MethodId} {args : Array Value} {below : List Frame} {meth : Method} {c : Code} {K : ix_Cx} (hKp : ix_Kp K) {n : Nat} {z : ix_Z} (X : ix_X p s m args c K cX4_endNumber RX4 1) (hr : meth.sig.returnType = (none : Option Jvm.ClassFile.FieldType)) (hlk : meth.locks = false)  {a0 : Nat} {s0 : Int32} {s1 : Nat} {d1 : ix_D2}  {d : ix_D2} (h : f_X4_endNumber_21 n z  a0 s0 s1 d = some d1) : ix_G p l e (ix_rm 1 21 0 0) s m args below meth c (MQ below (ix_Post K none (ix_w z d1)) args s 0 0 (ix_A K)) K 1 0 0 21 [(0, .ref (K.2.2.1 + a0))] [.int s0, .ref (K.2.2.1 + s1)] (ix_w z d) := by
  unfold f_X4_endNumber_21 at h
  obtain ⟨k_5, h⟩ := ix_ck_some h
  obtain ⟨d_3, h_4, h⟩ := ix_bd1_ex h
  refine ix_callV (As := [.int s0]) (rest := []) (ci := 4) (T := TX4) (nf := 17) X mf_X4_endPart mi_X4_endPart ms_X4_endPart rfl (Nat.le_of_ble_eq_true rfl) ml_RX4_89 ⟨Nat.le_of_ble_eq_true rfl, Nat.le_of_ble_eq_true rfl⟩ ⟨Nat.le_of_ble_eq_true rfl, Nat.le_of_ble_eq_true rfl⟩ rfl (Nat.le_of_ble_eq_true rfl) (ix_tb_at tb_X4_endNumber 11 rfl) ⟨k_5.1, List.mem_singleton.mp k_5.2⟩ (c_X4_endPart hKp h_4) rfl (pc1 := 24) rfl ?_
  refine ix_aload_n (i := 0) (j := 0) X (ix_tb_at tb_X4_endNumber 12 rfl) rfl rfl (pc1 := 25) rfl ?_
  refine ix_iconst (v := 0) X (ix_tb_at tb_X4_endNumber 13 rfl) (by decide) (pc1 := 26) rfl ?_
  obtain ⟨k_6, h⟩ := ix_ck_some h
  obtain ⟨d_7, e_8, h⟩ := ix_lt_ex h
  refine iz_putI X fp_RX4_44 k_6 (ix_tb_at tb_X4_endNumber 14 rfl) e_8 (pc1 := 29) rfl ?_
  exact ix_vret X hr hlk (ix_r1 (g := ix_w z) h) (ix_tb_at tb_X4_endNumber 15 rfl)
set_option maxRecDepth 20000 in
theorem c_X4_endNumber {l : Launch} {K : ix_Cx} (hKp : ix_Kp K) {n : Nat} {z : ix_Z} {a0 : Nat} {d : ix_D2} {d1 : ix_D2} (h : f_X4_endNumber n z a0 d = some d1) : ix_M l K yX4_endNumber cX4_endNumber 1 (none : Option Jvm.ClassFile.FieldType) 1 21 0 0 [.ref (K.2.2.1 + a0)] (ix_w z d) none (ix_w z d1) := by
  refine ix_met mf_X4_endNumber hKp (Nat.le_of_ble_eq_true rfl) ?_
  intro p e s m args below meth c hr hlk hnm X
  have X : ix_X p s m args c K cX4_endNumber RX4 1 := X
  show ix_G p l e (ix_rm 1 21 0 0) s m args below meth c (MQ below (ix_Post K none (ix_w z d1)) args s 0 0 (ix_A K)) K 1 0 0 0 [(0, .ref (K.2.2.1 + a0))] [] (ix_w z d)
  unfold f_X4_endNumber at h
  refine ix_aload_n (i := 0) (j := 0) X (ix_tb_at tb_X4_endNumber 0 rfl) rfl rfl (pc1 := 1) rfl ?_
  refine ix_aload_n (i := 0) (j := 0) X (ix_tb_at tb_X4_endNumber 1 rfl) rfl rfl (pc1 := 2) rfl ?_
  obtain ⟨k_1, h⟩ := ix_ck_some h
  refine iz_getI X fl_RX4_44 k_1 (ix_tb_at tb_X4_endNumber 2 rfl) (pc1 := 5) rfl ?_
  refine ix_iconst (v := 1) X (ix_tb_at tb_X4_endNumber 3 rfl) (by decide) (pc1 := 6) rfl ?_
  refine ix_icmp_ne (tgt := 17) X (ix_tb_at tb_X4_endNumber 4 rfl) (by decide) (pc1 := 9) rfl (fun q_2 => ?_) (fun q_2 => ?_)
  · have h := ix_iff q_2 h
    refine ix_aload_n (i := 0) (j := 0) X (ix_tb_at tb_X4_endNumber 9 rfl) rfl rfl (pc1 := 18) rfl ?_
    refine iz_getI X fl_RX4_69 k_1 (ix_tb_at tb_X4_endNumber 10 rfl) (pc1 := 21) rfl ?_
    refine ix_sub (L1 := [(0, .ref (K.2.2.1 + a0))]) [0] rfl ?_
    exact t_X4_endNumber_21 hKp X hr hlk  h
  · have h := ix_ift q_2 h
    refine ix_aload_n (i := 0) (j := 0) X (ix_tb_at tb_X4_endNumber 5 rfl) rfl rfl (pc1 := 10) rfl ?_
    refine iz_getI X fl_RX4_69 k_1 (ix_tb_at tb_X4_endNumber 6 rfl) (pc1 := 13) rfl ?_
    refine ix_ineg X (ix_tb_at tb_X4_endNumber 7 rfl) (pc1 := 14) rfl ?_
    refine ix_goto (tgt := 21) X (ix_tb_at tb_X4_endNumber 8 rfl) (by decide) ?_
    refine ix_sub (L1 := [(0, .ref (K.2.2.1 + a0))]) [0] rfl ?_
    exact t_X4_endNumber_21 hKp X hr hlk  h
def tab_X4_acceptsParen : List (Nat × Instr × Nat) := [(0, .iload_n 1, 1), (1, .bipush 40, 2), (3, .if_icmp .ne 12, 3), (6, .aload_n 0, 1), (7, .getfield 41, 3), (10, .bipush 8, 2), (12, .if_icmp .lt 5, 3), (15, .iconst 0, 1), (16, .ireturn, 1), (17, .aload_n 0, 1), (18, .getfield 25, 3), (21, .aload_n 0, 1), (22, .getfield 41, 3), (25, .aload_n 0, 1), (26, .getfield 86, 3), (29, .iastore, 1), (30, .aload_n 0, 1), (31, .getfield 28, 3), (34, .aload_n 0, 1), (35, .getfield 41, 3), (38, .iconst 0, 1), (39, .iastore, 1), (40, .aload_n 0, 1), (41, .getfield 31, 3), (44, .aload_n 0, 1), (45, .getfield 41, 3), (48, .aload_n 0, 1), (49, .getfield 44, 3), (52, .iastore, 1), (53, .aload_n 0, 1), (54, .dup, 1), (55, .getfield 41, 3), (58, .iconst 1, 1), (59, .iadd, 1), (60, .putfield 41, 3), (63, .aload_n 0, 1), (64, .iconst 0, 1), (65, .putfield 44, 3), (68, .aload_n 0, 1), (69, .iconst 0, 1), (70, .putfield 47, 3), (73, .iconst 1, 1), (74, .ireturn, 1)]
theorem tb_X4_acceptsParen : ix_tab cX4_acceptsParen tab_X4_acceptsParen := by
  unfold ix_tab
  decide +kernel
noncomputable def f_X4_acceptsParen (n : Nat) (z : ix_Z) (a0 : Nat) (x1 : Int32) (d : ix_D2) : Option (Int32 × ix_D2) :=
  ix_if (x1 = 40) (ix_ck (ix_ok z [4] a0) (ix_if (d.1 a0 11 < 8) (ix_bd1 (z.1 a0 8) (fun b_4 => ix_ck (ix_ix z 20 b_4 (d.1 a0 11)) (ix_lt (ix_di d b_4 (ix_n (d.1 a0 11)) (d.1 a0 13)) (fun d_7 => ix_bd1 (z.1 a0 9) (fun b_9 => ix_ck (ix_ix z 20 b_9 (d_7.1 a0 11)) (ix_lt (ix_di d_7 b_9 (ix_n (d_7.1 a0 11)) 0) (fun d_12 => ix_bd1 (z.1 a0 10) (fun b_14 => ix_ck (ix_ix z 20 b_14 (d_12.1 a0 11)) (ix_lt (ix_di d_12 b_14 (ix_n (d_12.1 a0 11)) (d_12.1 a0 14)) (fun d_17 => ix_lt (ix_di d_17 a0 11 ((d_17.1 a0 11) + 1)) (fun d_19 => ix_lt (ix_di d_19 a0 14 0) (fun d_21 => ix_lt (ix_di d_21 a0 12 0) (fun d_23 => some (1, d_23)))))))))))))) (some (0, d)))) (some (0, d))
set_option maxRecDepth 20000 in
theorem c_X4_acceptsParen {l : Launch} {K : ix_Cx} (hKp : ix_Kp K) {n : Nat} {z : ix_Z} {a0 : Nat} {x1 : Int32} {d : ix_D2} {r : Int32} {d1 : ix_D2} (h : f_X4_acceptsParen n z a0 x1 d = some (r, d1)) : ix_M l K yX4_acceptsParen cX4_acceptsParen 2 (some .boolean) 0 0 0 0 [.ref (K.2.2.1 + a0), .int x1] (ix_w z d) (some (.int r)) (ix_w z d1) := by
  refine ix_met mf_X4_acceptsParen hKp (Nat.le_of_ble_eq_true rfl) ?_
  intro p e s m args below meth c hr hlk hnm X
  have X : ix_X p s m args c K cX4_acceptsParen RX4 2 := X
  show ix_G p l e (ix_rm 0 0 0 0) s m args below meth c (MQ below (ix_Post K (some (.int r)) (ix_w z d1)) args s 0 0 (ix_A K)) K 2 0 0 0 [(0, .ref (K.2.2.1 + a0)), (1, .int x1)] [] (ix_w z d)
  unfold f_X4_acceptsParen at h
  refine ix_iload_n (i := 1) (j := 1) X (ix_tb_at tb_X4_acceptsParen 0 rfl) rfl rfl (pc1 := 1) rfl ?_
  refine ix_bipush (v := 40) X (ix_tb_at tb_X4_acceptsParen 1 rfl) (by decide) (pc1 := 3) rfl ?_
  refine ix_icmp_ne (tgt := 15) X (ix_tb_at tb_X4_acceptsParen 2 rfl) (by decide) (pc1 := 6) rfl (fun q_1 => ?_) (fun q_1 => ?_)
  · have h := ix_iff q_1 h
    refine ix_iconst (v := 0) X (ix_tb_at tb_X4_acceptsParen 7 rfl) (by decide) (pc1 := 16) rfl ?_
    exact ix_zret X hr hlk (by decide) (ix_r2 (f := fun r => some (.int r)) (g := ix_w z) h) (ix_tb_at tb_X4_acceptsParen 8 rfl)
  · have h := ix_ift q_1 h
    refine ix_aload_n (i := 0) (j := 0) X (ix_tb_at tb_X4_acceptsParen 3 rfl) rfl rfl (pc1 := 7) rfl ?_
    obtain ⟨k_2, h⟩ := ix_ck_some h
    refine iz_getI X fl_RX4_41 k_2 (ix_tb_at tb_X4_acceptsParen 4 rfl) (pc1 := 10) rfl ?_
    refine ix_bipush (v := 8) X (ix_tb_at tb_X4_acceptsParen 5 rfl) (by decide) (pc1 := 12) rfl ?_
    refine ix_icmp_lt (tgt := 17) X (ix_tb_at tb_X4_acceptsParen 6 rfl) (by decide) (pc1 := 15) rfl (fun q_3 => ?_) (fun q_3 => ?_)
    · have h := ix_ift q_3 h
      refine ix_aload_n (i := 0) (j := 0) X (ix_tb_at tb_X4_acceptsParen 9 rfl) rfl rfl (pc1 := 18) rfl ?_
      obtain ⟨b_4, q_5, h⟩ := ix_bd1_ex h
      refine iz_getR X fl_RX4_25 k_2 q_5 (ix_tb_at tb_X4_acceptsParen 10 rfl) (pc1 := 21) rfl ?_
      refine ix_aload_n (i := 0) (j := 0) X (ix_tb_at tb_X4_acceptsParen 11 rfl) rfl rfl (pc1 := 22) rfl ?_
      refine iz_getI X fl_RX4_41 k_2 (ix_tb_at tb_X4_acceptsParen 12 rfl) (pc1 := 25) rfl ?_
      refine ix_aload_n (i := 0) (j := 0) X (ix_tb_at tb_X4_acceptsParen 13 rfl) rfl rfl (pc1 := 26) rfl ?_
      refine iz_getI X fl_RX4_86 k_2 (ix_tb_at tb_X4_acceptsParen 14 rfl) (pc1 := 29) rfl ?_
      obtain ⟨k_6, h⟩ := ix_ck_some h
      obtain ⟨d_7, e_8, h⟩ := ix_lt_ex h
      refine iz_iast X k_6 (ix_tb_at tb_X4_acceptsParen 15 rfl) e_8 (pc1 := 30) rfl ?_
      refine ix_aload_n (i := 0) (j := 0) X (ix_tb_at tb_X4_acceptsParen 16 rfl) rfl rfl (pc1 := 31) rfl ?_
      obtain ⟨b_9, q_10, h⟩ := ix_bd1_ex h
      refine iz_getR X fl_RX4_28 k_2 q_10 (ix_tb_at tb_X4_acceptsParen 17 rfl) (pc1 := 34) rfl ?_
      refine ix_aload_n (i := 0) (j := 0) X (ix_tb_at tb_X4_acceptsParen 18 rfl) rfl rfl (pc1 := 35) rfl ?_
      refine iz_getI X fl_RX4_41 k_2 (ix_tb_at tb_X4_acceptsParen 19 rfl) (pc1 := 38) rfl ?_
      refine ix_iconst (v := 0) X (ix_tb_at tb_X4_acceptsParen 20 rfl) (by decide) (pc1 := 39) rfl ?_
      obtain ⟨k_11, h⟩ := ix_ck_some h
      obtain ⟨d_12, e_13, h⟩ := ix_lt_ex h
      refine iz_iast X k_11 (ix_tb_at tb_X4_acceptsParen 21 rfl) e_13 (pc1 := 40) rfl ?_
      refine ix_aload_n (i := 0) (j := 0) X (ix_tb_at tb_X4_acceptsParen 22 rfl) rfl rfl (pc1 := 41) rfl ?_
      obtain ⟨b_14, q_15, h⟩ := ix_bd1_ex h
      refine iz_getR X fl_RX4_31 k_2 q_15 (ix_tb_at tb_X4_acceptsParen 23 rfl) (pc1 := 44) rfl ?_
      refine ix_aload_n (i := 0) (j := 0) X (ix_tb_at tb_X4_acceptsParen 24 rfl) rfl rfl (pc1 := 45) rfl ?_
      refine iz_getI X fl_RX4_41 k_2 (ix_tb_at tb_X4_acceptsParen 25 rfl) (pc1 := 48) rfl ?_
      refine ix_aload_n (i := 0) (j := 0) X (ix_tb_at tb_X4_acceptsParen 26 rfl) rfl rfl (pc1 := 49) rfl ?_
      refine iz_getI X fl_RX4_44 k_2 (ix_tb_at tb_X4_acceptsParen 27 rfl) (pc1 := 52) rfl ?_
      obtain ⟨k_16, h⟩ := ix_ck_some h
      obtain ⟨d_17, e_18, h⟩ := ix_lt_ex h
      refine iz_iast X k_16 (ix_tb_at tb_X4_acceptsParen 28 rfl) e_18 (pc1 := 53) rfl ?_
      refine ix_aload_n (i := 0) (j := 0) X (ix_tb_at tb_X4_acceptsParen 29 rfl) rfl rfl (pc1 := 54) rfl ?_
      refine ix_dup X (ix_tb_at tb_X4_acceptsParen 30 rfl) rfl (pc1 := 55) rfl ?_
      refine iz_getI X fl_RX4_41 k_2 (ix_tb_at tb_X4_acceptsParen 31 rfl) (pc1 := 58) rfl ?_
      refine ix_iconst (v := 1) X (ix_tb_at tb_X4_acceptsParen 32 rfl) (by decide) (pc1 := 59) rfl ?_
      refine ix_iadd X (ix_tb_at tb_X4_acceptsParen 33 rfl) (pc1 := 60) rfl ?_
      obtain ⟨d_19, e_20, h⟩ := ix_lt_ex h
      refine iz_putI X fp_RX4_41 k_2 (ix_tb_at tb_X4_acceptsParen 34 rfl) e_20 (pc1 := 63) rfl ?_
      refine ix_aload_n (i := 0) (j := 0) X (ix_tb_at tb_X4_acceptsParen 35 rfl) rfl rfl (pc1 := 64) rfl ?_
      refine ix_iconst (v := 0) X (ix_tb_at tb_X4_acceptsParen 36 rfl) (by decide) (pc1 := 65) rfl ?_
      obtain ⟨d_21, e_22, h⟩ := ix_lt_ex h
      refine iz_putI X fp_RX4_44 k_2 (ix_tb_at tb_X4_acceptsParen 37 rfl) e_22 (pc1 := 68) rfl ?_
      refine ix_aload_n (i := 0) (j := 0) X (ix_tb_at tb_X4_acceptsParen 38 rfl) rfl rfl (pc1 := 69) rfl ?_
      refine ix_iconst (v := 0) X (ix_tb_at tb_X4_acceptsParen 39 rfl) (by decide) (pc1 := 70) rfl ?_
      obtain ⟨d_23, e_24, h⟩ := ix_lt_ex h
      refine iz_putI X fp_RX4_47 k_2 (ix_tb_at tb_X4_acceptsParen 40 rfl) e_24 (pc1 := 73) rfl ?_
      refine ix_iconst (v := 1) X (ix_tb_at tb_X4_acceptsParen 41 rfl) (by decide) (pc1 := 74) rfl ?_
      exact ix_zret X hr hlk (by decide) (ix_r2 (f := fun r => some (.int r)) (g := ix_w z) h) (ix_tb_at tb_X4_acceptsParen 42 rfl)
    · have h := ix_iff q_3 h
      refine ix_iconst (v := 0) X (ix_tb_at tb_X4_acceptsParen 7 rfl) (by decide) (pc1 := 16) rfl ?_
      exact ix_zret X hr hlk (by decide) (ix_r2 (f := fun r => some (.int r)) (g := ix_w z) h) (ix_tb_at tb_X4_acceptsParen 8 rfl)
def tab_X4_acceptsBehind : List (Nat × Instr × Nat) := [(0, .aload_n 0, 1), (1, .getfield 41, 3), (4, .ifCond .ne 5, 3), (7, .iconst 0, 1), (8, .ireturn, 1), (9, .aload_n 0, 1), (10, .getfield 28, 3), (13, .aload_n 0, 1), (14, .getfield 41, 3), (17, .iconst 1, 1), (18, .isub, 1), (19, .iaload, 1), (20, .istore_n 2, 1), (21, .aload_n 0, 1), (22, .getfield 25, 3), (25, .aload_n 0, 1), (26, .getfield 41, 3), (29, .iconst 1, 1), (30, .isub, 1), (31, .iaload, 1), (32, .iconst 2, 1), (33, .if_icmp .ne 7, 3), (36, .iconst 1, 1), (37, .goto 4, 3), (40, .iconst 0, 1), (41, .istore_n 3, 1), (42, .iload_n 1, 1), (43, .bipush 44, 2), (45, .if_icmp .ne 23, 3), (48, .aload_n 0, 1), (49, .iconst 0, 1), (50, .putfield 47, 3), (53, .iload_n 3, 1), (54, .ifCond .eq 8, 3), (57, .iload_n 2, 1), (58, .iconst 2, 1), (59, .if_icmp .ge 7, 3), (62, .iconst 1, 1), (63, .goto 4, 3), (66, .iconst 0, 1), (67, .ireturn, 1), (68, .iload_n 1, 1), (69, .bipush 41, 2), (71, .if_icmp .ne 12, 3), (74, .iload_n 3, 1), (75, .ifCond .eq 10, 3), (78, .iload_n 2, 1), (79, .iconst 2, 1), (80, .if_icmp .ge 5, 3), (83, .iconst 0, 1), (84, .ireturn, 1), (85, .aload_n 0, 1), (86, .dup, 1), (87, .getfield 41, 3), (90, .iconst 1, 1), (91, .isub, 1), (92, .putfield 41, 3), (95, .aload_n 0, 1), (96, .sipush 10000, 3), (99, .sipush 1000, 3), (102, .aload_n 0, 1), (103, .getfield 25, 3), (106, .aload_n 0, 1), (107, .getfield 41, 3), (110, .iaload, 1), (111, .imul, 1), (112, .iadd, 1), (113, .bipush 10, 2), (115, .iload_n 2, 1), (116, .imul, 1), (117, .iadd, 1), (118, .aload_n 0, 1), (119, .getfield 31, 3), (122, .aload_n 0, 1), (123, .getfield 41, 3), (126, .iaload, 1), (127, .iadd, 1), (128, .invokevirtual 89, 3), (131, .iconst 1, 1), (132, .ireturn, 1)]
theorem tb_X4_acceptsBehind : ix_tab cX4_acceptsBehind tab_X4_acceptsBehind := by
  unfold ix_tab
  decide +kernel
noncomputable def f_X4_acceptsBehind_85 (n : Nat) (z : ix_Z)  (a0 : Nat) (x2 : Int32) (d : ix_D2) : Option (Int32 × ix_D2) :=
  ix_ck (ix_ok z [4] a0) (ix_lt (ix_di d a0 11 ((d.1 a0 11) - 1)) (fun d_16 => ix_bd1 (z.1 a0 8) (fun b_18 => ix_ck (ix_ix z 20 b_18 (d_16.1 a0 11)) (ix_bd1 (z.1 a0 10) (fun b_21 => ix_ck (ix_ix z 20 b_21 (d_16.1 a0 11)) (ix_bd1 (f_X4_endPart n z a0 (((10000 + (1000 * (d_16.1 b_18 (ix_n (d_16.1 a0 11))))) + (10 * x2)) + (d_16.1 b_21 (ix_n (d_16.1 a0 11)))) d_16) (fun d_24 => some (1, d_24))))))))
noncomputable def f_X4_acceptsBehind_62 (n : Nat) (z : ix_Z)   (d : ix_D2) : Option (Int32 × ix_D2) :=
  some (1, d)
noncomputable def f_X4_acceptsBehind_41 (n : Nat) (z : ix_Z)  (a0 : Nat) (x1 : Int32) (x2 : Int32) (s0 : Int32) (d : ix_D2) : Option (Int32 × ix_D2) :=
  ix_if (x1 = 44) (ix_ck (ix_ok z [4] a0) (ix_lt (ix_di d a0 12 0) (fun d_28 => ix_if (s0 = 0) (f_X4_acceptsBehind_62 n z   d_28) (ix_if (2 ≤ x2) (some (0, d_28)) (f_X4_acceptsBehind_62 n z   d_28))))) (ix_if (x1 = 41) (ix_if (s0 = 0) (f_X4_acceptsBehind_85 n z  a0 x2 d) (ix_if (2 ≤ x2) (f_X4_acceptsBehind_85 n z  a0 x2 d) (some (0, d)))) (some (0, d)))
noncomputable def f_X4_acceptsBehind (n : Nat) (z : ix_Z) (a0 : Nat) (x1 : Int32) (d : ix_D2) : Option (Int32 × ix_D2) :=
  ix_ck (ix_ok z [4] a0) (ix_if (d.1 a0 11 = 0) (some (0, d)) (ix_bd1 (z.1 a0 9) (fun b_3 => ix_ck (ix_ix z 20 b_3 ((d.1 a0 11) - 1)) (ix_lt (d.1 b_3 (ix_n ((d.1 a0 11) - 1))) (fun x2_6 => ix_bd1 (z.1 a0 8) (fun b_8 => ix_ck (ix_ix z 20 b_8 ((d.1 a0 11) - 1)) (ix_if (d.1 b_8 (ix_n ((d.1 a0 11) - 1)) = 2) (f_X4_acceptsBehind_41 n z  a0 x1 x2_6 1 d) (f_X4_acceptsBehind_41 n z  a0 x1 x2_6 0 d))))))))
set_option maxRecDepth 20000 in
theorem t_X4_acceptsBehind_85 {l : Launch} {p : Program} {e : Env} {s : State} {m : MethodId} {args : Array Value} {below : List Frame} {meth : Method} {c : Code} {K : ix_Cx} (hKp : ix_Kp K) {n : Nat} {z : ix_Z} (X : ix_X p s m args c K cX4_acceptsBehind RX4 4) (hr : meth.sig.returnType = (some .boolean)) (hlk : meth.locks = false)  {a0 : Nat} {x2 : Int32} {r : Int32} {d1 : ix_D2}  {d : ix_D2} (h : f_X4_acceptsBehind_85 n z  a0 x2 d = some (r, d1)) : ix_G p l e (ix_rm 1 21 0 0) s m args below meth c (MQ below (ix_Post K (some (.int r)) (ix_w z d1)) args s 0 0 (ix_A K)) K 4 0 0 85 [(0, .ref (K.2.2.1 + a0)), (2, .int x2)] [] (ix_w z d) := by
  unfold f_X4_acceptsBehind_85 at h
  refine ix_aload_n (i := 0) (j := 0) X (ix_tb_at tb_X4_acceptsBehind 51 rfl) rfl rfl (pc1 := 86) rfl ?_
  refine ix_dup X (ix_tb_at tb_X4_acceptsBehind 52 rfl) rfl (pc1 := 87) rfl ?_
  obtain ⟨k_15, h⟩ := ix_ck_some h
  refine iz_getI X fl_RX4_41 k_15 (ix_tb_at tb_X4_acceptsBehind 53 rfl) (pc1 := 90) rfl ?_
  refine ix_iconst (v := 1) X (ix_tb_at tb_X4_acceptsBehind 54 rfl) (by decide) (pc1 := 91) rfl ?_
  refine ix_isub X (ix_tb_at tb_X4_acceptsBehind 55 rfl) (pc1 := 92) rfl ?_
  obtain ⟨d_16, e_17, h⟩ := ix_lt_ex h
  refine iz_putI X fp_RX4_41 k_15 (ix_tb_at tb_X4_acceptsBehind 56 rfl) e_17 (pc1 := 95) rfl ?_
  refine ix_aload_n (i := 0) (j := 0) X (ix_tb_at tb_X4_acceptsBehind 57 rfl) rfl rfl (pc1 := 96) rfl ?_
  refine ix_sipush (v := 10000) X (ix_tb_at tb_X4_acceptsBehind 58 rfl) (by decide) (pc1 := 99) rfl ?_
  refine ix_sipush (v := 1000) X (ix_tb_at tb_X4_acceptsBehind 59 rfl) (by decide) (pc1 := 102) rfl ?_
  refine ix_aload_n (i := 0) (j := 0) X (ix_tb_at tb_X4_acceptsBehind 60 rfl) rfl rfl (pc1 := 103) rfl ?_
  obtain ⟨b_18, q_19, h⟩ := ix_bd1_ex h
  refine iz_getR X fl_RX4_25 k_15 q_19 (ix_tb_at tb_X4_acceptsBehind 61 rfl) (pc1 := 106) rfl ?_
  refine ix_aload_n (i := 0) (j := 0) X (ix_tb_at tb_X4_acceptsBehind 62 rfl) rfl rfl (pc1 := 107) rfl ?_
  refine iz_getI X fl_RX4_41 k_15 (ix_tb_at tb_X4_acceptsBehind 63 rfl) (pc1 := 110) rfl ?_
  obtain ⟨k_20, h⟩ := ix_ck_some h
  refine iz_iald X k_20 (ix_tb_at tb_X4_acceptsBehind 64 rfl) (pc1 := 111) rfl ?_
  refine ix_imul X (ix_tb_at tb_X4_acceptsBehind 65 rfl) (pc1 := 112) rfl ?_
  refine ix_iadd X (ix_tb_at tb_X4_acceptsBehind 66 rfl) (pc1 := 113) rfl ?_
  refine ix_bipush (v := 10) X (ix_tb_at tb_X4_acceptsBehind 67 rfl) (by decide) (pc1 := 115) rfl ?_
  refine ix_iload_n (i := 2) (j := 1) X (ix_tb_at tb_X4_acceptsBehind 68 rfl) rfl rfl (pc1 := 116) rfl ?_
  refine ix_imul X (ix_tb_at tb_X4_acceptsBehind 69 rfl) (pc1 := 117) rfl ?_
  refine ix_iadd X (ix_tb_at tb_X4_acceptsBehind 70 rfl) (pc1 := 118) rfl ?_
  refine ix_aload_n (i := 0) (j := 0) X (ix_tb_at tb_X4_acceptsBehind 71 rfl) rfl rfl (pc1 := 119) rfl ?_
  obtain ⟨b_21, q_22, h⟩ := ix_bd1_ex h
  refine iz_getR X fl_RX4_31 k_15 q_22 (ix_tb_at tb_X4_acceptsBehind 72 rfl) (pc1 := 122) rfl ?_
  refine ix_aload_n (i := 0) (j := 0) X (ix_tb_at tb_X4_acceptsBehind 73 rfl) rfl rfl (pc1 := 123) rfl ?_
  refine iz_getI X fl_RX4_41 k_15 (ix_tb_at tb_X4_acceptsBehind 74 rfl) (pc1 := 126) rfl ?_
  obtain ⟨k_23, h⟩ := ix_ck_some h
  refine iz_iald X k_23 (ix_tb_at tb_X4_acceptsBehind 75 rfl) (pc1 := 127) rfl ?_
  refine ix_iadd X (ix_tb_at tb_X4_acceptsBehind 76 rfl) (pc1 := 128) rfl ?_
  obtain ⟨d_24, h_25, h⟩ := ix_bd1_ex h
  refine ix_callV (As := [.int (((10000 + (1000 * (d_16.1 b_18 (ix_n (d_16.1 a0 11))))) + (10 * x2)) + (d_16.1 b_21 (ix_n (d_16.1 a0 11))))]) (rest := []) (ci := 4) (T := TX4) (nf := 17) X mf_X4_endPart mi_X4_endPart ms_X4_endPart rfl (Nat.le_of_ble_eq_true rfl) ml_RX4_89 ⟨Nat.le_of_ble_eq_true rfl, Nat.le_of_ble_eq_true rfl⟩ ⟨Nat.le_of_ble_eq_true rfl, Nat.le_of_ble_eq_true rfl⟩ rfl (Nat.le_of_ble_eq_true rfl) (ix_tb_at tb_X4_acceptsBehind 77 rfl) ⟨k_15.1, List.mem_singleton.mp k_15.2⟩ (c_X4_endPart hKp h_25) rfl (pc1 := 131) rfl ?_
  refine ix_iconst (v := 1) X (ix_tb_at tb_X4_acceptsBehind 78 rfl) (by decide) (pc1 := 132) rfl ?_
  exact ix_zret X hr hlk (by decide) (ix_r2 (f := fun r => some (.int r)) (g := ix_w z) h) (ix_tb_at tb_X4_acceptsBehind 79 rfl)
set_option maxRecDepth 20000 in
theorem t_X4_acceptsBehind_62 {l : Launch} {p : Program} {e : Env} {s : State} {m : MethodId} {args : Array Value} {below : List Frame} {meth : Method} {c : Code} {K : ix_Cx} (hKp : ix_Kp K) {n : Nat} {z : ix_Z} (X : ix_X p s m args c K cX4_acceptsBehind RX4 4) (hr : meth.sig.returnType = (some .boolean)) (hlk : meth.locks = false)   {r : Int32} {d1 : ix_D2}  {d : ix_D2} (h : f_X4_acceptsBehind_62 n z   d = some (r, d1)) : ix_G p l e (ix_rm 1 21 0 0) s m args below meth c (MQ below (ix_Post K (some (.int r)) (ix_w z d1)) args s 0 0 (ix_A K)) K 4 0 0 62 [] [] (ix_w z d) := by
  unfold f_X4_acceptsBehind_62 at h
  refine ix_iconst (v := 1) X (ix_tb_at tb_X4_acceptsBehind 37 rfl) (by decide) (pc1 := 63) rfl ?_
  refine ix_goto (tgt := 67) X (ix_tb_at tb_X4_acceptsBehind 38 rfl) (by decide) ?_
  exact ix_zret X hr hlk (by decide) (ix_r2 (f := fun r => some (.int r)) (g := ix_w z) h) (ix_tb_at tb_X4_acceptsBehind 40 rfl)
set_option maxRecDepth 20000 in
theorem t_X4_acceptsBehind_41 {l : Launch} {p : Program} {e : Env} {s : State} {m : MethodId} {args : Array Value} {below : List Frame} {meth : Method} {c : Code} {K : ix_Cx} (hKp : ix_Kp K) {n : Nat} {z : ix_Z} (X : ix_X p s m args c K cX4_acceptsBehind RX4 4) (hr : meth.sig.returnType = (some .boolean)) (hlk : meth.locks = false)  {a0 : Nat} {x1 : Int32} {x2 : Int32} {s0 : Int32} {r : Int32} {d1 : ix_D2}  {d : ix_D2} (h : f_X4_acceptsBehind_41 n z  a0 x1 x2 s0 d = some (r, d1)) : ix_G p l e (ix_rm 1 21 0 0) s m args below meth c (MQ below (ix_Post K (some (.int r)) (ix_w z d1)) args s 0 0 (ix_A K)) K 4 0 0 41 [(0, .ref (K.2.2.1 + a0)), (1, .int x1), (2, .int x2)] [.int s0] (ix_w z d) := by
  unfold f_X4_acceptsBehind_41 at h
  refine ix_istore_n (i := 3) (L1 := [(3, .int s0), (0, .ref (K.2.2.1 + a0)), (1, .int x1), (2, .int x2)]) X (ix_tb_at tb_X4_acceptsBehind 25 rfl) rfl (Nat.le_of_ble_eq_true rfl) rfl (pc1 := 42) rfl ?_
  refine ix_iload_n (i := 1) (j := 2) X (ix_tb_at tb_X4_acceptsBehind 26 rfl) rfl rfl (pc1 := 43) rfl ?_
  refine ix_bipush (v := 44) X (ix_tb_at tb_X4_acceptsBehind 27 rfl) (by decide) (pc1 := 45) rfl ?_
  refine ix_icmp_ne (tgt := 68) X (ix_tb_at tb_X4_acceptsBehind 28 rfl) (by decide) (pc1 := 48) rfl (fun q_12 => ?_) (fun q_12 => ?_)
  · have h := ix_iff q_12 h
    refine ix_iload_n (i := 1) (j := 2) X (ix_tb_at tb_X4_acceptsBehind 41 rfl) rfl rfl (pc1 := 69) rfl ?_
    refine ix_bipush (v := 41) X (ix_tb_at tb_X4_acceptsBehind 42 rfl) (by decide) (pc1 := 71) rfl ?_
    refine ix_icmp_ne (tgt := 83) X (ix_tb_at tb_X4_acceptsBehind 43 rfl) (by decide) (pc1 := 74) rfl (fun q_13 => ?_) (fun q_13 => ?_)
    · have h := ix_iff q_13 h
      refine ix_iconst (v := 0) X (ix_tb_at tb_X4_acceptsBehind 49 rfl) (by decide) (pc1 := 84) rfl ?_
      exact ix_zret X hr hlk (by decide) (ix_r2 (f := fun r => some (.int r)) (g := ix_w z) h) (ix_tb_at tb_X4_acceptsBehind 50 rfl)
    · have h := ix_ift q_13 h
      refine ix_iload_n (i := 3) (j := 0) X (ix_tb_at tb_X4_acceptsBehind 44 rfl) rfl rfl (pc1 := 75) rfl ?_
      refine ix_if_eq (tgt := 85) X (ix_tb_at tb_X4_acceptsBehind 45 rfl) (by decide) (pc1 := 78) rfl (fun q_14 => ?_) (fun q_14 => ?_)
      · have h := ix_ift q_14 h
        refine ix_sub (L1 := [(0, .ref (K.2.2.1 + a0)), (2, .int x2)]) [1, 3] rfl ?_
        exact t_X4_acceptsBehind_85 hKp X hr hlk  h
      · have h := ix_iff q_14 h
        refine ix_iload_n (i := 2) (j := 3) X (ix_tb_at tb_X4_acceptsBehind 46 rfl) rfl rfl (pc1 := 79) rfl ?_
        refine ix_iconst (v := 2) X (ix_tb_at tb_X4_acceptsBehind 47 rfl) (by decide) (pc1 := 80) rfl ?_
        refine ix_icmp_ge (tgt := 85) X (ix_tb_at tb_X4_acceptsBehind 48 rfl) (by decide) (pc1 := 83) rfl (fun q_26 => ?_) (fun q_26 => ?_)
        · have h := ix_ift q_26 h
          refine ix_sub (L1 := [(0, .ref (K.2.2.1 + a0)), (2, .int x2)]) [1, 3] rfl ?_
          exact t_X4_acceptsBehind_85 hKp X hr hlk  h
        · have h := ix_iff q_26 h
          refine ix_iconst (v := 0) X (ix_tb_at tb_X4_acceptsBehind 49 rfl) (by decide) (pc1 := 84) rfl ?_
          exact ix_zret X hr hlk (by decide) (ix_r2 (f := fun r => some (.int r)) (g := ix_w z) h) (ix_tb_at tb_X4_acceptsBehind 50 rfl)
  · have h := ix_ift q_12 h
    refine ix_aload_n (i := 0) (j := 1) X (ix_tb_at tb_X4_acceptsBehind 29 rfl) rfl rfl (pc1 := 49) rfl ?_
    refine ix_iconst (v := 0) X (ix_tb_at tb_X4_acceptsBehind 30 rfl) (by decide) (pc1 := 50) rfl ?_
    obtain ⟨k_27, h⟩ := ix_ck_some h
    obtain ⟨d_28, e_29, h⟩ := ix_lt_ex h
    refine iz_putI X fp_RX4_47 k_27 (ix_tb_at tb_X4_acceptsBehind 31 rfl) e_29 (pc1 := 53) rfl ?_
    refine ix_iload_n (i := 3) (j := 0) X (ix_tb_at tb_X4_acceptsBehind 32 rfl) rfl rfl (pc1 := 54) rfl ?_
    refine ix_if_eq (tgt := 62) X (ix_tb_at tb_X4_acceptsBehind 33 rfl) (by decide) (pc1 := 57) rfl (fun q_30 => ?_) (fun q_30 => ?_)
    · have h := ix_ift q_30 h
      refine ix_sub (L1 := []) [] rfl ?_
      exact t_X4_acceptsBehind_62 hKp X hr hlk  h
    · have h := ix_iff q_30 h
      refine ix_iload_n (i := 2) (j := 3) X (ix_tb_at tb_X4_acceptsBehind 34 rfl) rfl rfl (pc1 := 58) rfl ?_
      refine ix_iconst (v := 2) X (ix_tb_at tb_X4_acceptsBehind 35 rfl) (by decide) (pc1 := 59) rfl ?_
      refine ix_icmp_ge (tgt := 66) X (ix_tb_at tb_X4_acceptsBehind 36 rfl) (by decide) (pc1 := 62) rfl (fun q_31 => ?_) (fun q_31 => ?_)
      · have h := ix_ift q_31 h
        refine ix_iconst (v := 0) X (ix_tb_at tb_X4_acceptsBehind 39 rfl) (by decide) (pc1 := 67) rfl ?_
        exact ix_zret X hr hlk (by decide) (ix_r2 (f := fun r => some (.int r)) (g := ix_w z) h) (ix_tb_at tb_X4_acceptsBehind 40 rfl)
      · have h := ix_iff q_31 h
        refine ix_sub (L1 := []) [] rfl ?_
        exact t_X4_acceptsBehind_62 hKp X hr hlk  h
set_option maxRecDepth 20000 in
theorem c_X4_acceptsBehind {l : Launch} {K : ix_Cx} (hKp : ix_Kp K) {n : Nat} {z : ix_Z} {a0 : Nat} {x1 : Int32} {d : ix_D2} {r : Int32} {d1 : ix_D2} (h : f_X4_acceptsBehind n z a0 x1 d = some (r, d1)) : ix_M l K yX4_acceptsBehind cX4_acceptsBehind 4 (some .boolean) 1 21 0 0 [.ref (K.2.2.1 + a0), .int x1] (ix_w z d) (some (.int r)) (ix_w z d1) := by
  refine ix_met mf_X4_acceptsBehind hKp (Nat.le_of_ble_eq_true rfl) ?_
  intro p e s m args below meth c hr hlk hnm X
  have X : ix_X p s m args c K cX4_acceptsBehind RX4 4 := X
  show ix_G p l e (ix_rm 1 21 0 0) s m args below meth c (MQ below (ix_Post K (some (.int r)) (ix_w z d1)) args s 0 0 (ix_A K)) K 4 0 0 0 [(0, .ref (K.2.2.1 + a0)), (1, .int x1)] [] (ix_w z d)
  unfold f_X4_acceptsBehind at h
  refine ix_aload_n (i := 0) (j := 0) X (ix_tb_at tb_X4_acceptsBehind 0 rfl) rfl rfl (pc1 := 1) rfl ?_
  obtain ⟨k_1, h⟩ := ix_ck_some h
  refine iz_getI X fl_RX4_41 k_1 (ix_tb_at tb_X4_acceptsBehind 1 rfl) (pc1 := 4) rfl ?_
  refine ix_if_ne (tgt := 9) X (ix_tb_at tb_X4_acceptsBehind 2 rfl) (by decide) (pc1 := 7) rfl (fun q_2 => ?_) (fun q_2 => ?_)
  · have h := ix_iff q_2 h
    refine ix_aload_n (i := 0) (j := 0) X (ix_tb_at tb_X4_acceptsBehind 5 rfl) rfl rfl (pc1 := 10) rfl ?_
    obtain ⟨b_3, q_4, h⟩ := ix_bd1_ex h
    refine iz_getR X fl_RX4_28 k_1 q_4 (ix_tb_at tb_X4_acceptsBehind 6 rfl) (pc1 := 13) rfl ?_
    refine ix_aload_n (i := 0) (j := 0) X (ix_tb_at tb_X4_acceptsBehind 7 rfl) rfl rfl (pc1 := 14) rfl ?_
    refine iz_getI X fl_RX4_41 k_1 (ix_tb_at tb_X4_acceptsBehind 8 rfl) (pc1 := 17) rfl ?_
    refine ix_iconst (v := 1) X (ix_tb_at tb_X4_acceptsBehind 9 rfl) (by decide) (pc1 := 18) rfl ?_
    refine ix_isub X (ix_tb_at tb_X4_acceptsBehind 10 rfl) (pc1 := 19) rfl ?_
    obtain ⟨k_5, h⟩ := ix_ck_some h
    refine iz_iald X k_5 (ix_tb_at tb_X4_acceptsBehind 11 rfl) (pc1 := 20) rfl ?_
    obtain ⟨x2_6, e_7, h⟩ := ix_lt_ex h
    refine ix_nmi e_7 ?_
    refine ix_istore_n (i := 2) (L1 := [(2, .int x2_6), (0, .ref (K.2.2.1 + a0)), (1, .int x1)]) X (ix_tb_at tb_X4_acceptsBehind 12 rfl) rfl (Nat.le_of_ble_eq_true rfl) rfl (pc1 := 21) rfl ?_
    refine ix_aload_n (i := 0) (j := 1) X (ix_tb_at tb_X4_acceptsBehind 13 rfl) rfl rfl (pc1 := 22) rfl ?_
    obtain ⟨b_8, q_9, h⟩ := ix_bd1_ex h
    refine iz_getR X fl_RX4_25 k_1 q_9 (ix_tb_at tb_X4_acceptsBehind 14 rfl) (pc1 := 25) rfl ?_
    refine ix_aload_n (i := 0) (j := 1) X (ix_tb_at tb_X4_acceptsBehind 15 rfl) rfl rfl (pc1 := 26) rfl ?_
    refine iz_getI X fl_RX4_41 k_1 (ix_tb_at tb_X4_acceptsBehind 16 rfl) (pc1 := 29) rfl ?_
    refine ix_iconst (v := 1) X (ix_tb_at tb_X4_acceptsBehind 17 rfl) (by decide) (pc1 := 30) rfl ?_
    refine ix_isub X (ix_tb_at tb_X4_acceptsBehind 18 rfl) (pc1 := 31) rfl ?_
    obtain ⟨k_10, h⟩ := ix_ck_some h
    refine iz_iald X k_10 (ix_tb_at tb_X4_acceptsBehind 19 rfl) (pc1 := 32) rfl ?_
    refine ix_iconst (v := 2) X (ix_tb_at tb_X4_acceptsBehind 20 rfl) (by decide) (pc1 := 33) rfl ?_
    refine ix_icmp_ne (tgt := 40) X (ix_tb_at tb_X4_acceptsBehind 21 rfl) (by decide) (pc1 := 36) rfl (fun q_11 => ?_) (fun q_11 => ?_)
    · have h := ix_iff q_11 h
      refine ix_iconst (v := 0) X (ix_tb_at tb_X4_acceptsBehind 24 rfl) (by decide) (pc1 := 41) rfl ?_
      refine ix_sub (L1 := [(0, .ref (K.2.2.1 + a0)), (1, .int x1), (2, .int x2_6)]) [1, 2, 0] rfl ?_
      exact t_X4_acceptsBehind_41 hKp X hr hlk  h
    · have h := ix_ift q_11 h
      refine ix_iconst (v := 1) X (ix_tb_at tb_X4_acceptsBehind 22 rfl) (by decide) (pc1 := 37) rfl ?_
      refine ix_goto (tgt := 41) X (ix_tb_at tb_X4_acceptsBehind 23 rfl) (by decide) ?_
      refine ix_sub (L1 := [(0, .ref (K.2.2.1 + a0)), (1, .int x1), (2, .int x2_6)]) [1, 2, 0] rfl ?_
      exact t_X4_acceptsBehind_41 hKp X hr hlk  h
  · have h := ix_ift q_2 h
    refine ix_iconst (v := 0) X (ix_tb_at tb_X4_acceptsBehind 3 rfl) (by decide) (pc1 := 8) rfl ?_
    exact ix_zret X hr hlk (by decide) (ix_r2 (f := fun r => some (.int r)) (g := ix_w z) h) (ix_tb_at tb_X4_acceptsBehind 4 rfl)
def tab_X4_lookForNames : List (Nat × Instr × Nat) := [(0, .iconst 0, 1), (1, .istore_n 2, 1), (2, .iload_n 2, 1), (3, .aload_n 0, 1), (4, .getfield 38, 3), (7, .if_icmp .ge 42, 3), (10, .aload_n 0, 1), (11, .getfield 22, 3), (14, .iload_n 2, 1), (15, .iaload, 1), (16, .sipush 10000, 3), (19, .if_icmp .ge 16, 3), (22, .aload_n 1, 1), (23, .aload_n 0, 1), (24, .getfield 22, 3), (27, .iload_n 2, 1), (28, .iaload, 1), (29, .invokevirtual 93, 3), (32, .goto 4, 3), (35, .iconst 0, 1), (36, .istore_n 3, 1), (37, .iload_n 3, 1), (38, .ifCond .eq 5, 3), (41, .iload_n 3, 1), (42, .ireturn, 1), (43, .iinc 2 1, 3), (46, .goto (-44), 3), (49, .iconst 0, 1), (50, .ireturn, 1)]
theorem tb_X4_lookForNames : ix_tab cX4_lookForNames tab_X4_lookForNames := by
  unfold ix_tab
  decide +kernel
noncomputable def f_X4_lookForNames_36 (n : Nat) (z : ix_Z) (rec2 : Int32 → ix_D2 → Option (Int32 × ix_D2)) (a0 : Nat) (a1 : Nat) (x2 : Int32) (s0 : Int32) (d : ix_D2) : Option (Int32 × ix_D2) :=
  ix_if (s0 = 0) (ix_lt (x2 + 1) (fun x2_8 => rec2 x2_8 d)) (some (s0, d))
noncomputable def b_X4_lookForNames_2 (n : Nat) (z : ix_Z)  (a0 : Nat) (a1 : Nat) (rec2 : Int32 → ix_D2 → Option (Int32 × ix_D2)) (x2 : Int32) (d : ix_D2) : Option (Int32 × ix_D2) :=
  ix_ck (ix_ok z [4] a0) (ix_if (d.1 a0 7 ≤ x2) (some (0, d)) (ix_bd1 (z.1 a0 6) (fun b_3 => ix_ck (ix_ix z 20 b_3 x2) (ix_if (10000 ≤ d.1 b_3 (ix_n x2)) (f_X4_lookForNames_36 n z rec2 a0 a1 x2 0 d) (ix_ck (ix_ok z [2] a1) (ix_bd2 (f_X2_look n z a1 (d.1 b_3 (ix_n x2)) d) (fun r_13 d_10 => f_X4_lookForNames_36 n z rec2 a0 a1 x2 r_13 d_10)))))))
noncomputable def f_X4_lookForNames_2 (n : Nat) (z : ix_Z)  (a0 : Nat) (a1 : Nat) (x2 : Int32) (d : ix_D2) : Option (Int32 × ix_D2) := ix_fix (b_X4_lookForNames_2 n z  a0 a1) (fun _ _ => none) n x2 d
noncomputable def f_X4_lookForNames (n : Nat) (z : ix_Z) (a0 : Nat) (a1 : Nat) (d : ix_D2) : Option (Int32 × ix_D2) :=
  f_X4_lookForNames_2 n z  a0 a1 0 d
set_option maxRecDepth 20000 in
theorem t_X4_lookForNames_36 {l : Launch} {p : Program} {e : Env} {s : State} {m : MethodId} {args : Array Value} {below : List Frame} {meth : Method} {c : Code} {K : ix_Cx} (hKp : ix_Kp K) {n : Nat} {z : ix_Z} (X : ix_X p s m args c K cX4_lookForNames RX4 4) (hr : meth.sig.returnType = (some .int)) (hlk : meth.locks = false) {rec2 : Int32 → ix_D2 → Option (Int32 × ix_D2)} {a0 : Nat} {a1 : Nat} {x2 : Int32} {s0 : Int32} {r : Int32} {d1 : ix_D2} (hrec2 : ∀ (x2 : Int32) (d : ix_D2), rec2 x2 d = some (r, d1) → ix_G p l e (ix_rm 2 44 0 0) s m args below meth c (MQ below (ix_Post K (some (.int r)) (ix_w z d1)) args s 0 0 (ix_A K)) K 4 0 0 2 [(0, .ref (K.2.2.1 + a0)), (1, .ref (K.2.2.1 + a1)), (2, .int x2)] [] (ix_w z d)) {d : ix_D2} (h : f_X4_lookForNames_36 n z rec2 a0 a1 x2 s0 d = some (r, d1)) : ix_G p l e (ix_rm 2 44 0 0) s m args below meth c (MQ below (ix_Post K (some (.int r)) (ix_w z d1)) args s 0 0 (ix_A K)) K 4 0 0 36 [(0, .ref (K.2.2.1 + a0)), (1, .ref (K.2.2.1 + a1)), (2, .int x2)] [.int s0] (ix_w z d) := by
  unfold f_X4_lookForNames_36 at h
  refine ix_istore_n (i := 3) (L1 := [(3, .int s0), (0, .ref (K.2.2.1 + a0)), (1, .ref (K.2.2.1 + a1)), (2, .int x2)]) X (ix_tb_at tb_X4_lookForNames 20 rfl) rfl (Nat.le_of_ble_eq_true rfl) rfl (pc1 := 37) rfl ?_
  refine ix_iload_n (i := 3) (j := 0) X (ix_tb_at tb_X4_lookForNames 21 rfl) rfl rfl (pc1 := 38) rfl ?_
  refine ix_if_eq (tgt := 43) X (ix_tb_at tb_X4_lookForNames 22 rfl) (by decide) (pc1 := 41) rfl (fun q_7 => ?_) (fun q_7 => ?_)
  · have h := ix_ift q_7 h
    obtain ⟨x2_8, e_9, h⟩ := ix_lt_ex h
    refine ix_iinc (i := 2) (j := 3) (v := x2_8) (L1 := [(2, .int x2_8), (3, .int s0), (0, .ref (K.2.2.1 + a0)), (1, .ref (K.2.2.1 + a1))]) X (ix_tb_at tb_X4_lookForNames 25 rfl) rfl (by rw [oi_1]; exact e_9.symm) (Nat.le_of_ble_eq_true rfl) rfl (pc1 := 46) rfl ?_
    refine ix_goto (tgt := 2) X (ix_tb_at tb_X4_lookForNames 26 rfl) (by decide) ?_
    refine ix_sub (L1 := [(0, .ref (K.2.2.1 + a0)), (1, .ref (K.2.2.1 + a1)), (2, .int x2_8)]) [2, 3, 0] rfl ?_
    exact hrec2 x2_8 d h
  · have h := ix_iff q_7 h
    refine ix_iload_n (i := 3) (j := 0) X (ix_tb_at tb_X4_lookForNames 23 rfl) rfl rfl (pc1 := 42) rfl ?_
    exact ix_iret X hr hlk (ix_r2 (f := fun r => some (.int r)) (g := ix_w z) h) (ix_tb_at tb_X4_lookForNames 24 rfl)
set_option maxRecDepth 20000 in
theorem tb_X4_lookForNames_2 {l : Launch} {p : Program} {e : Env} {s : State} {m : MethodId} {args : Array Value} {below : List Frame} {meth : Method} {c : Code} {K : ix_Cx} (hKp : ix_Kp K) {n : Nat} {z : ix_Z} (X : ix_X p s m args c K cX4_lookForNames RX4 4) (hr : meth.sig.returnType = (some .int)) (hlk : meth.locks = false)  {a0 : Nat} {a1 : Nat} {rec2 : Int32 → ix_D2 → Option (Int32 × ix_D2)} {r : Int32} {d1 : ix_D2} (hrec2 : ∀ (x2 : Int32) (d : ix_D2), rec2 x2 d = some (r, d1) → ix_G p l e (ix_rm 2 44 0 0) s m args below meth c (MQ below (ix_Post K (some (.int r)) (ix_w z d1)) args s 0 0 (ix_A K)) K 4 0 0 2 [(0, .ref (K.2.2.1 + a0)), (1, .ref (K.2.2.1 + a1)), (2, .int x2)] [] (ix_w z d)) {x2 : Int32} {d : ix_D2} (h : b_X4_lookForNames_2 n z  a0 a1 rec2 x2 d = some (r, d1)) : ix_G p l e (ix_rm 2 44 0 0) s m args below meth c (MQ below (ix_Post K (some (.int r)) (ix_w z d1)) args s 0 0 (ix_A K)) K 4 0 0 2 [(0, .ref (K.2.2.1 + a0)), (1, .ref (K.2.2.1 + a1)), (2, .int x2)] [] (ix_w z d) := by
  unfold b_X4_lookForNames_2 at h
  refine ix_iload_n (i := 2) (j := 2) X (ix_tb_at tb_X4_lookForNames 2 rfl) rfl rfl (pc1 := 3) rfl ?_
  refine ix_aload_n (i := 0) (j := 0) X (ix_tb_at tb_X4_lookForNames 3 rfl) rfl rfl (pc1 := 4) rfl ?_
  obtain ⟨k_1, h⟩ := ix_ck_some h
  refine iz_getI X fl_RX4_38 k_1 (ix_tb_at tb_X4_lookForNames 4 rfl) (pc1 := 7) rfl ?_
  refine ix_icmp_ge (tgt := 49) X (ix_tb_at tb_X4_lookForNames 5 rfl) (by decide) (pc1 := 10) rfl (fun q_2 => ?_) (fun q_2 => ?_)
  · have h := ix_ift q_2 h
    refine ix_iconst (v := 0) X (ix_tb_at tb_X4_lookForNames 27 rfl) (by decide) (pc1 := 50) rfl ?_
    exact ix_iret X hr hlk (ix_r2 (f := fun r => some (.int r)) (g := ix_w z) h) (ix_tb_at tb_X4_lookForNames 28 rfl)
  · have h := ix_iff q_2 h
    refine ix_aload_n (i := 0) (j := 0) X (ix_tb_at tb_X4_lookForNames 6 rfl) rfl rfl (pc1 := 11) rfl ?_
    obtain ⟨b_3, q_4, h⟩ := ix_bd1_ex h
    refine iz_getR X fl_RX4_22 k_1 q_4 (ix_tb_at tb_X4_lookForNames 7 rfl) (pc1 := 14) rfl ?_
    refine ix_iload_n (i := 2) (j := 2) X (ix_tb_at tb_X4_lookForNames 8 rfl) rfl rfl (pc1 := 15) rfl ?_
    obtain ⟨k_5, h⟩ := ix_ck_some h
    refine iz_iald X k_5 (ix_tb_at tb_X4_lookForNames 9 rfl) (pc1 := 16) rfl ?_
    refine ix_sipush (v := 10000) X (ix_tb_at tb_X4_lookForNames 10 rfl) (by decide) (pc1 := 19) rfl ?_
    refine ix_icmp_ge (tgt := 35) X (ix_tb_at tb_X4_lookForNames 11 rfl) (by decide) (pc1 := 22) rfl (fun q_6 => ?_) (fun q_6 => ?_)
    · have h := ix_ift q_6 h
      refine ix_iconst (v := 0) X (ix_tb_at tb_X4_lookForNames 19 rfl) (by decide) (pc1 := 36) rfl ?_
      refine ix_sub (L1 := [(0, .ref (K.2.2.1 + a0)), (1, .ref (K.2.2.1 + a1)), (2, .int x2)]) [0, 1, 2] rfl ?_
      exact t_X4_lookForNames_36 hKp X hr hlk hrec2 h
    · have h := ix_iff q_6 h
      refine ix_aload_n (i := 1) (j := 1) X (ix_tb_at tb_X4_lookForNames 12 rfl) rfl rfl (pc1 := 23) rfl ?_
      refine ix_aload_n (i := 0) (j := 0) X (ix_tb_at tb_X4_lookForNames 13 rfl) rfl rfl (pc1 := 24) rfl ?_
      refine iz_getR X fl_RX4_22 k_1 q_4 (ix_tb_at tb_X4_lookForNames 14 rfl) (pc1 := 27) rfl ?_
      refine ix_iload_n (i := 2) (j := 2) X (ix_tb_at tb_X4_lookForNames 15 rfl) rfl rfl (pc1 := 28) rfl ?_
      refine iz_iald X k_5 (ix_tb_at tb_X4_lookForNames 16 rfl) (pc1 := 29) rfl ?_
      obtain ⟨k_12, h⟩ := ix_ck_some h
      obtain ⟨r_13, d_10, h_11, h⟩ := ix_bd2_ex h
      refine ix_callV (As := [.int (d.1 b_3 (ix_n x2))]) (rest := []) (ci := 2) (T := TX2) (nf := 12) X mf_X2_look mi_X2_look ms_X2_look rfl (Nat.le_of_ble_eq_true rfl) ml_RX4_93 ⟨Nat.le_of_ble_eq_true rfl, Nat.le_of_ble_eq_true rfl⟩ ⟨Nat.le_of_ble_eq_true rfl, Nat.le_of_ble_eq_true rfl⟩ rfl (Nat.le_of_ble_eq_true rfl) (ix_tb_at tb_X4_lookForNames 17 rfl) ⟨k_12.1, List.mem_singleton.mp k_12.2⟩ (c_X2_look hKp h_11) rfl (pc1 := 32) rfl ?_
      refine ix_goto (tgt := 36) X (ix_tb_at tb_X4_lookForNames 18 rfl) (by decide) ?_
      refine ix_sub (L1 := [(0, .ref (K.2.2.1 + a0)), (1, .ref (K.2.2.1 + a1)), (2, .int x2)]) [0, 1, 2] rfl ?_
      exact t_X4_lookForNames_36 hKp X hr hlk hrec2 h
theorem t_X4_lookForNames_2 {l : Launch} {p : Program} {e : Env} {s : State} {m : MethodId} {args : Array Value} {below : List Frame} {meth : Method} {c : Code} {K : ix_Cx} (hKp : ix_Kp K) {n : Nat} {z : ix_Z} (X : ix_X p s m args c K cX4_lookForNames RX4 4) (hr : meth.sig.returnType = (some .int)) (hlk : meth.locks = false)  {a0 : Nat} {a1 : Nat} {r : Int32} {d1 : ix_D2}  {x2 : Int32} {d : ix_D2} (h : f_X4_lookForNames_2 n z  a0 a1 x2 d = some (r, d1)) : ix_G p l e (ix_rm 2 44 0 0) s m args below meth c (MQ below (ix_Post K (some (.int r)) (ix_w z d1)) args s 0 0 (ix_A K)) K 4 0 0 2 [(0, .ref (K.2.2.1 + a0)), (1, .ref (K.2.2.1 + a1)), (2, .int x2)] [] (ix_w z d) := by
  have key : ∀ (f : Nat) (x2 : Int32) (d : ix_D2), ix_fix (b_X4_lookForNames_2 n z  a0 a1) (fun _ _ => none) f x2 d = some (r, d1) → ix_G p l e (ix_rm 2 44 0 0) s m args below meth c (MQ below (ix_Post K (some (.int r)) (ix_w z d1)) args s 0 0 (ix_A K)) K 4 0 0 2 [(0, .ref (K.2.2.1 + a0)), (1, .ref (K.2.2.1 + a1)), (2, .int x2)] [] (ix_w z d) := by
    intro f
    induction f with
    | zero =>
      intro x2 d h
      have h : (none : Option (Int32 × ix_D2)) = some (r, d1) := h
      cases h
    | succ f ih =>
      intro x2 d h
      exact tb_X4_lookForNames_2 hKp X hr hlk (rec2 := ix_fix (b_X4_lookForNames_2 n z  a0 a1) (fun _ _ => none) f)  ih h
  exact key n x2 d h
set_option maxRecDepth 20000 in
theorem c_X4_lookForNames {l : Launch} {K : ix_Cx} (hKp : ix_Kp K) {n : Nat} {z : ix_Z} {a0 : Nat} {a1 : Nat} {d : ix_D2} {r : Int32} {d1 : ix_D2} (h : f_X4_lookForNames n z a0 a1 d = some (r, d1)) : ix_M l K yX4_lookForNames cX4_lookForNames 4 (some .int) 2 44 0 0 [.ref (K.2.2.1 + a0), .ref (K.2.2.1 + a1)] (ix_w z d) (some (.int r)) (ix_w z d1) := by
  refine ix_met mf_X4_lookForNames hKp (Nat.le_of_ble_eq_true rfl) ?_
  intro p e s m args below meth c hr hlk hnm X
  have X : ix_X p s m args c K cX4_lookForNames RX4 4 := X
  show ix_G p l e (ix_rm 2 44 0 0) s m args below meth c (MQ below (ix_Post K (some (.int r)) (ix_w z d1)) args s 0 0 (ix_A K)) K 4 0 0 0 [(0, .ref (K.2.2.1 + a0)), (1, .ref (K.2.2.1 + a1))] [] (ix_w z d)
  unfold f_X4_lookForNames at h
  refine ix_iconst (v := 0) X (ix_tb_at tb_X4_lookForNames 0 rfl) (by decide) (pc1 := 1) rfl ?_
  refine ix_istore_n (i := 2) (L1 := [(2, .int 0), (0, .ref (K.2.2.1 + a0)), (1, .ref (K.2.2.1 + a1))]) X (ix_tb_at tb_X4_lookForNames 1 rfl) rfl (Nat.le_of_ble_eq_true rfl) rfl (pc1 := 2) rfl ?_
  refine ix_sub (L1 := [(0, .ref (K.2.2.1 + a0)), (1, .ref (K.2.2.1 + a1)), (2, .int 0)]) [1, 2, 0] rfl ?_
  exact t_X4_lookForNames_2 hKp X hr hlk  h
def tab_X4_writeRow : List (Nat × Instr × Nat) := [(0, .iconst 0, 1), (1, .istore_n 3, 1), (2, .iload_n 3, 1), (3, .aload_n 1, 1), (4, .iload_n 2, 1), (5, .invokevirtual 123, 3), (8, .if_icmp .ge 25, 3), (11, .aload_n 0, 1), (12, .aload_n 1, 1), (13, .iload_n 2, 1), (14, .iload_n 3, 1), (15, .invokevirtual 128, 3), (18, .invokevirtual 120, 3), (21, .aload_n 0, 1), (22, .bipush 32, 2), (24, .invokevirtual 114, 3), (27, .iinc 3 1, 3), (30, .goto (-28), 3), (33, .aload_n 0, 1), (34, .bipush 48, 2), (36, .invokevirtual 114, 3), (39, .aload_n 0, 1), (40, .bipush 10, 2), (42, .invokevirtual 114, 3), (45, .return_, 1)]
theorem tb_X4_writeRow : ix_tab cX4_writeRow tab_X4_writeRow := by
  unfold ix_tab
  decide +kernel
noncomputable def b_X4_writeRow_2 (n : Nat) (z : ix_Z)  (a0 : Nat) (a1 : Nat) (x2 : Int32) (rec2 : Int32 → ix_D2 → Option (ix_D2)) (x3 : Int32) (d : ix_D2) : Option (ix_D2) :=
  ix_ck (ix_ok z [7] a1) (ix_bd2 (f_X7_size n z a1 x2 d) (fun r_4 d_1 => ix_if (r_4 ≤ x3) (ix_ck (ix_ok z [4] a0) (ix_bd1 (f_X4_writeByte n z a0 48 d_1) (fun d_6 => ix_bd1 (f_X4_writeByte n z a0 10 d_6) (fun d_9 => some d_9)))) (ix_bd2 (f_X7_tell n z a1 x2 x3 d_1) (fun r_13 d_11 => ix_ck (ix_ok z [4] a0) (ix_bd1 (f_X4_writeNumber n z a0 r_13 d_11) (fun d_14 => ix_bd1 (f_X4_writeByte n z a0 32 d_14) (fun d_17 => ix_lt (x3 + 1) (fun x3_19 => rec2 x3_19 d_17))))))))
noncomputable def f_X4_writeRow_2 (n : Nat) (z : ix_Z)  (a0 : Nat) (a1 : Nat) (x2 : Int32) (x3 : Int32) (d : ix_D2) : Option (ix_D2) := ix_fix (b_X4_writeRow_2 n z  a0 a1 x2) (fun _ _ => none) n x3 d
noncomputable def f_X4_writeRow (n : Nat) (z : ix_Z) (a0 : Nat) (a1 : Nat) (x2 : Int32) (d : ix_D2) : Option (ix_D2) :=
  f_X4_writeRow_2 n z  a0 a1 x2 0 d
set_option maxRecDepth 20000 in
theorem tb_X4_writeRow_2 {l : Launch} {p : Program} {e : Env} {s : State} {m : MethodId} {args : Array Value} {below : List Frame} {meth : Method} {c : Code} {K : ix_Cx} (hKp : ix_Kp K) {n : Nat} {z : ix_Z} (X : ix_X p s m args c K cX4_writeRow RX4 4) (hr : meth.sig.returnType = (none : Option Jvm.ClassFile.FieldType)) (hlk : meth.locks = false)  {a0 : Nat} {a1 : Nat} {x2 : Int32} {rec2 : Int32 → ix_D2 → Option (ix_D2)} {d1 : ix_D2} (hrec2 : ∀ (x3 : Int32) (d : ix_D2), rec2 x3 d = some d1 → ix_G p l e (ix_rm 3 64 0 0) s m args below meth c (MQ below (ix_Post K none (ix_w z d1)) args s 0 0 (ix_A K)) K 4 0 0 2 [(0, .ref (K.2.2.1 + a0)), (1, .ref (K.2.2.1 + a1)), (2, .int x2), (3, .int x3)] [] (ix_w z d)) {x3 : Int32} {d : ix_D2} (h : b_X4_writeRow_2 n z  a0 a1 x2 rec2 x3 d = some d1) : ix_G p l e (ix_rm 3 64 0 0) s m args below meth c (MQ below (ix_Post K none (ix_w z d1)) args s 0 0 (ix_A K)) K 4 0 0 2 [(0, .ref (K.2.2.1 + a0)), (1, .ref (K.2.2.1 + a1)), (2, .int x2), (3, .int x3)] [] (ix_w z d) := by
  unfold b_X4_writeRow_2 at h
  refine ix_iload_n (i := 3) (j := 3) X (ix_tb_at tb_X4_writeRow 2 rfl) rfl rfl (pc1 := 3) rfl ?_
  refine ix_aload_n (i := 1) (j := 1) X (ix_tb_at tb_X4_writeRow 3 rfl) rfl rfl (pc1 := 4) rfl ?_
  refine ix_iload_n (i := 2) (j := 2) X (ix_tb_at tb_X4_writeRow 4 rfl) rfl rfl (pc1 := 5) rfl ?_
  obtain ⟨k_3, h⟩ := ix_ck_some h
  obtain ⟨r_4, d_1, h_2, h⟩ := ix_bd2_ex h
  refine ix_callV (As := [.int x2]) (rest := [.int x3]) (ci := 7) (T := TX7) (nf := 3) X mf_X7_size mi_X7_size ms_X7_size rfl (Nat.le_of_ble_eq_true rfl) ml_RX4_123 ⟨Nat.le_of_ble_eq_true rfl, Nat.le_of_ble_eq_true rfl⟩ ⟨Nat.le_of_ble_eq_true rfl, Nat.le_of_ble_eq_true rfl⟩ rfl (Nat.le_of_ble_eq_true rfl) (ix_tb_at tb_X4_writeRow 5 rfl) ⟨k_3.1, List.mem_singleton.mp k_3.2⟩ (c_X7_size hKp h_2) rfl (pc1 := 8) rfl ?_
  refine ix_icmp_ge (tgt := 33) X (ix_tb_at tb_X4_writeRow 6 rfl) (by decide) (pc1 := 11) rfl (fun q_5 => ?_) (fun q_5 => ?_)
  · have h := ix_ift q_5 h
    refine ix_aload_n (i := 0) (j := 0) X (ix_tb_at tb_X4_writeRow 18 rfl) rfl rfl (pc1 := 34) rfl ?_
    refine ix_bipush (v := 48) X (ix_tb_at tb_X4_writeRow 19 rfl) (by decide) (pc1 := 36) rfl ?_
    obtain ⟨k_8, h⟩ := ix_ck_some h
    obtain ⟨d_6, h_7, h⟩ := ix_bd1_ex h
    refine ix_callV (As := [.int 48]) (rest := []) (ci := 4) (T := TX4) (nf := 17) X mf_X4_writeByte mi_X4_writeByte ms_X4_writeByte rfl (Nat.le_of_ble_eq_true rfl) ml_RX4_114 ⟨Nat.le_of_ble_eq_true rfl, Nat.le_of_ble_eq_true rfl⟩ ⟨Nat.le_of_ble_eq_true rfl, Nat.le_of_ble_eq_true rfl⟩ rfl (Nat.le_of_ble_eq_true rfl) (ix_tb_at tb_X4_writeRow 20 rfl) ⟨k_8.1, List.mem_singleton.mp k_8.2⟩ (c_X4_writeByte hKp h_7) rfl (pc1 := 39) rfl ?_
    refine ix_aload_n (i := 0) (j := 0) X (ix_tb_at tb_X4_writeRow 21 rfl) rfl rfl (pc1 := 40) rfl ?_
    refine ix_bipush (v := 10) X (ix_tb_at tb_X4_writeRow 22 rfl) (by decide) (pc1 := 42) rfl ?_
    obtain ⟨d_9, h_10, h⟩ := ix_bd1_ex h
    refine ix_callV (As := [.int 10]) (rest := []) (ci := 4) (T := TX4) (nf := 17) X mf_X4_writeByte mi_X4_writeByte ms_X4_writeByte rfl (Nat.le_of_ble_eq_true rfl) ml_RX4_114 ⟨Nat.le_of_ble_eq_true rfl, Nat.le_of_ble_eq_true rfl⟩ ⟨Nat.le_of_ble_eq_true rfl, Nat.le_of_ble_eq_true rfl⟩ rfl (Nat.le_of_ble_eq_true rfl) (ix_tb_at tb_X4_writeRow 23 rfl) ⟨k_8.1, List.mem_singleton.mp k_8.2⟩ (c_X4_writeByte hKp h_10) rfl (pc1 := 45) rfl ?_
    exact ix_vret X hr hlk (ix_r1 (g := ix_w z) h) (ix_tb_at tb_X4_writeRow 24 rfl)
  · have h := ix_iff q_5 h
    refine ix_aload_n (i := 0) (j := 0) X (ix_tb_at tb_X4_writeRow 7 rfl) rfl rfl (pc1 := 12) rfl ?_
    refine ix_aload_n (i := 1) (j := 1) X (ix_tb_at tb_X4_writeRow 8 rfl) rfl rfl (pc1 := 13) rfl ?_
    refine ix_iload_n (i := 2) (j := 2) X (ix_tb_at tb_X4_writeRow 9 rfl) rfl rfl (pc1 := 14) rfl ?_
    refine ix_iload_n (i := 3) (j := 3) X (ix_tb_at tb_X4_writeRow 10 rfl) rfl rfl (pc1 := 15) rfl ?_
    obtain ⟨r_13, d_11, h_12, h⟩ := ix_bd2_ex h
    refine ix_callV (As := [.int x2, .int x3]) (rest := [.ref (K.2.2.1 + a0)]) (ci := 7) (T := TX7) (nf := 3) X mf_X7_tell mi_X7_tell ms_X7_tell rfl (Nat.le_of_ble_eq_true rfl) ml_RX4_128 ⟨Nat.le_of_ble_eq_true rfl, Nat.le_of_ble_eq_true rfl⟩ ⟨Nat.le_of_ble_eq_true rfl, Nat.le_of_ble_eq_true rfl⟩ rfl (Nat.le_of_ble_eq_true rfl) (ix_tb_at tb_X4_writeRow 11 rfl) ⟨k_3.1, List.mem_singleton.mp k_3.2⟩ (c_X7_tell hKp h_12) rfl (pc1 := 18) rfl ?_
    obtain ⟨k_16, h⟩ := ix_ck_some h
    obtain ⟨d_14, h_15, h⟩ := ix_bd1_ex h
    refine ix_callV (As := [.int r_13]) (rest := []) (ci := 4) (T := TX4) (nf := 17) X mf_X4_writeNumber mi_X4_writeNumber ms_X4_writeNumber rfl (Nat.le_of_ble_eq_true rfl) ml_RX4_120 ⟨Nat.le_of_ble_eq_true rfl, Nat.le_of_ble_eq_true rfl⟩ ⟨Nat.le_of_ble_eq_true rfl, Nat.le_of_ble_eq_true rfl⟩ rfl (Nat.le_of_ble_eq_true rfl) (ix_tb_at tb_X4_writeRow 12 rfl) ⟨k_16.1, List.mem_singleton.mp k_16.2⟩ (c_X4_writeNumber hKp h_15) rfl (pc1 := 21) rfl ?_
    refine ix_aload_n (i := 0) (j := 0) X (ix_tb_at tb_X4_writeRow 13 rfl) rfl rfl (pc1 := 22) rfl ?_
    refine ix_bipush (v := 32) X (ix_tb_at tb_X4_writeRow 14 rfl) (by decide) (pc1 := 24) rfl ?_
    obtain ⟨d_17, h_18, h⟩ := ix_bd1_ex h
    refine ix_callV (As := [.int 32]) (rest := []) (ci := 4) (T := TX4) (nf := 17) X mf_X4_writeByte mi_X4_writeByte ms_X4_writeByte rfl (Nat.le_of_ble_eq_true rfl) ml_RX4_114 ⟨Nat.le_of_ble_eq_true rfl, Nat.le_of_ble_eq_true rfl⟩ ⟨Nat.le_of_ble_eq_true rfl, Nat.le_of_ble_eq_true rfl⟩ rfl (Nat.le_of_ble_eq_true rfl) (ix_tb_at tb_X4_writeRow 15 rfl) ⟨k_16.1, List.mem_singleton.mp k_16.2⟩ (c_X4_writeByte hKp h_18) rfl (pc1 := 27) rfl ?_
    obtain ⟨x3_19, e_20, h⟩ := ix_lt_ex h
    refine ix_iinc (i := 3) (j := 3) (v := x3_19) (L1 := [(3, .int x3_19), (0, .ref (K.2.2.1 + a0)), (1, .ref (K.2.2.1 + a1)), (2, .int x2)]) X (ix_tb_at tb_X4_writeRow 16 rfl) rfl (by rw [oi_1]; exact e_20.symm) (Nat.le_of_ble_eq_true rfl) rfl (pc1 := 30) rfl ?_
    refine ix_goto (tgt := 2) X (ix_tb_at tb_X4_writeRow 17 rfl) (by decide) ?_
    refine ix_sub (L1 := [(0, .ref (K.2.2.1 + a0)), (1, .ref (K.2.2.1 + a1)), (2, .int x2), (3, .int x3_19)]) [1, 2, 3, 0] rfl ?_
    exact hrec2 x3_19 d_17 h
theorem t_X4_writeRow_2 {l : Launch} {p : Program} {e : Env} {s : State} {m : MethodId} {args : Array Value} {below : List Frame} {meth : Method} {c : Code} {K : ix_Cx} (hKp : ix_Kp K) {n : Nat} {z : ix_Z} (X : ix_X p s m args c K cX4_writeRow RX4 4) (hr : meth.sig.returnType = (none : Option Jvm.ClassFile.FieldType)) (hlk : meth.locks = false)  {a0 : Nat} {a1 : Nat} {x2 : Int32} {d1 : ix_D2}  {x3 : Int32} {d : ix_D2} (h : f_X4_writeRow_2 n z  a0 a1 x2 x3 d = some d1) : ix_G p l e (ix_rm 3 64 0 0) s m args below meth c (MQ below (ix_Post K none (ix_w z d1)) args s 0 0 (ix_A K)) K 4 0 0 2 [(0, .ref (K.2.2.1 + a0)), (1, .ref (K.2.2.1 + a1)), (2, .int x2), (3, .int x3)] [] (ix_w z d) := by
  have key : ∀ (f : Nat) (x3 : Int32) (d : ix_D2), ix_fix (b_X4_writeRow_2 n z  a0 a1 x2) (fun _ _ => none) f x3 d = some d1 → ix_G p l e (ix_rm 3 64 0 0) s m args below meth c (MQ below (ix_Post K none (ix_w z d1)) args s 0 0 (ix_A K)) K 4 0 0 2 [(0, .ref (K.2.2.1 + a0)), (1, .ref (K.2.2.1 + a1)), (2, .int x2), (3, .int x3)] [] (ix_w z d) := by
    intro f
    induction f with
    | zero =>
      intro x3 d h
      have h : (none : Option (ix_D2)) = some d1 := h
      cases h
    | succ f ih =>
      intro x3 d h
      exact tb_X4_writeRow_2 hKp X hr hlk (rec2 := ix_fix (b_X4_writeRow_2 n z  a0 a1 x2) (fun _ _ => none) f)  ih h
  exact key n x3 d h
set_option maxRecDepth 20000 in
theorem c_X4_writeRow {l : Launch} {K : ix_Cx} (hKp : ix_Kp K) {n : Nat} {z : ix_Z} {a0 : Nat} {a1 : Nat} {x2 : Int32} {d : ix_D2} {d1 : ix_D2} (h : f_X4_writeRow n z a0 a1 x2 d = some d1) : ix_M l K yX4_writeRow cX4_writeRow 4 (none : Option Jvm.ClassFile.FieldType) 3 64 0 0 [.ref (K.2.2.1 + a0), .ref (K.2.2.1 + a1), .int x2] (ix_w z d) none (ix_w z d1) := by
  refine ix_met mf_X4_writeRow hKp (Nat.le_of_ble_eq_true rfl) ?_
  intro p e s m args below meth c hr hlk hnm X
  have X : ix_X p s m args c K cX4_writeRow RX4 4 := X
  show ix_G p l e (ix_rm 3 64 0 0) s m args below meth c (MQ below (ix_Post K none (ix_w z d1)) args s 0 0 (ix_A K)) K 4 0 0 0 [(0, .ref (K.2.2.1 + a0)), (1, .ref (K.2.2.1 + a1)), (2, .int x2)] [] (ix_w z d)
  unfold f_X4_writeRow at h
  refine ix_iconst (v := 0) X (ix_tb_at tb_X4_writeRow 0 rfl) (by decide) (pc1 := 1) rfl ?_
  refine ix_istore_n (i := 3) (L1 := [(3, .int 0), (0, .ref (K.2.2.1 + a0)), (1, .ref (K.2.2.1 + a1)), (2, .int x2)]) X (ix_tb_at tb_X4_writeRow 1 rfl) rfl (Nat.le_of_ble_eq_true rfl) rfl (pc1 := 2) rfl ?_
  refine ix_sub (L1 := [(0, .ref (K.2.2.1 + a0)), (1, .ref (K.2.2.1 + a1)), (2, .int x2), (3, .int 0)]) [1, 2, 3, 0] rfl ?_
  exact t_X4_writeRow_2 hKp X hr hlk  h
def tab_X4_noted : List (Nat × Instr × Nat) := [(0, .iload_n 1, 1), (1, .ifCond .lt 36, 3), (4, .iload_n 1, 1), (5, .bipush 100, 2), (7, .if_icmp .ge 30, 3), (10, .iload_n 1, 1), (11, .aload_n 0, 1), (12, .getfield 132, 3), (15, .if_icmp .ge 22, 3), (18, .aload_n 0, 1), (19, .getfield 18, 3), (22, .aload_n 0, 1), (23, .getfield 132, 3), (26, .iconst 1, 1), (27, .isub, 1), (28, .iload_n 1, 1), (29, .isub, 1), (30, .bipush 100, 2), (32, .irem, 1), (33, .iaload, 1), (34, .goto 6, 3), (37, .sipush (-1005), 3), (40, .ireturn, 1)]
theorem tb_X4_noted : ix_tab cX4_noted tab_X4_noted := by
  unfold ix_tab
  decide +kernel
noncomputable def f_X4_noted_37 (n : Nat) (z : ix_Z)   (d : ix_D2) : Option (Int32 × ix_D2) :=
  some ((-1005), d)
noncomputable def f_X4_noted (n : Nat) (z : ix_Z) (a0 : Nat) (x1 : Int32) (d : ix_D2) : Option (Int32 × ix_D2) :=
  ix_if (x1 < 0) (f_X4_noted_37 n z   d) (ix_if (100 ≤ x1) (f_X4_noted_37 n z   d) (ix_ck (ix_ok z [4] a0) (ix_if (d.1 a0 5 ≤ x1) (f_X4_noted_37 n z   d) (ix_bd1 (z.1 a0 4) (fun b_5 => ix_ck (ix_ix z 20 b_5 ((((d.1 a0 5) - 1) - x1) - (((d.1 a0 5) - 1) - x1) / 100 * 100)) (some (d.1 b_5 (ix_n ((((d.1 a0 5) - 1) - x1) - (((d.1 a0 5) - 1) - x1) / 100 * 100)), d)))))))
set_option maxRecDepth 20000 in
theorem t_X4_noted_37 {l : Launch} {p : Program} {e : Env} {s : State} {m : MethodId} {args : Array Value} {below : List Frame} {meth : Method} {c : Code} {K : ix_Cx} (hKp : ix_Kp K) {n : Nat} {z : ix_Z} (X : ix_X p s m args c K cX4_noted RX4 2) (hr : meth.sig.returnType = (some .int)) (hlk : meth.locks = false)   {r : Int32} {d1 : ix_D2}  {d : ix_D2} (h : f_X4_noted_37 n z   d = some (r, d1)) : ix_G p l e (ix_rm 0 0 0 0) s m args below meth c (MQ below (ix_Post K (some (.int r)) (ix_w z d1)) args s 0 0 (ix_A K)) K 2 0 0 37 [] [] (ix_w z d) := by
  unfold f_X4_noted_37 at h
  refine ix_sipush (v := (-1005)) X (ix_tb_at tb_X4_noted 21 rfl) (by decide) (pc1 := 40) rfl ?_
  exact ix_iret X hr hlk (ix_r2 (f := fun r => some (.int r)) (g := ix_w z) h) (ix_tb_at tb_X4_noted 22 rfl)
set_option maxRecDepth 20000 in
theorem c_X4_noted {l : Launch} {K : ix_Cx} (hKp : ix_Kp K) {n : Nat} {z : ix_Z} {a0 : Nat} {x1 : Int32} {d : ix_D2} {r : Int32} {d1 : ix_D2} (h : f_X4_noted n z a0 x1 d = some (r, d1)) : ix_M l K yX4_noted cX4_noted 2 (some .int) 0 0 0 0 [.ref (K.2.2.1 + a0), .int x1] (ix_w z d) (some (.int r)) (ix_w z d1) := by
  refine ix_met mf_X4_noted hKp (Nat.le_of_ble_eq_true rfl) ?_
  intro p e s m args below meth c hr hlk hnm X
  have X : ix_X p s m args c K cX4_noted RX4 2 := X
  show ix_G p l e (ix_rm 0 0 0 0) s m args below meth c (MQ below (ix_Post K (some (.int r)) (ix_w z d1)) args s 0 0 (ix_A K)) K 2 0 0 0 [(0, .ref (K.2.2.1 + a0)), (1, .int x1)] [] (ix_w z d)
  unfold f_X4_noted at h
  refine ix_iload_n (i := 1) (j := 1) X (ix_tb_at tb_X4_noted 0 rfl) rfl rfl (pc1 := 1) rfl ?_
  refine ix_if_lt (tgt := 37) X (ix_tb_at tb_X4_noted 1 rfl) (by decide) (pc1 := 4) rfl (fun q_1 => ?_) (fun q_1 => ?_)
  · have h := ix_ift q_1 h
    refine ix_sub (L1 := []) [] rfl ?_
    exact t_X4_noted_37 hKp X hr hlk  h
  · have h := ix_iff q_1 h
    refine ix_iload_n (i := 1) (j := 1) X (ix_tb_at tb_X4_noted 2 rfl) rfl rfl (pc1 := 5) rfl ?_
    refine ix_bipush (v := 100) X (ix_tb_at tb_X4_noted 3 rfl) (by decide) (pc1 := 7) rfl ?_
    refine ix_icmp_ge (tgt := 37) X (ix_tb_at tb_X4_noted 4 rfl) (by decide) (pc1 := 10) rfl (fun q_2 => ?_) (fun q_2 => ?_)
    · have h := ix_ift q_2 h
      refine ix_sub (L1 := []) [] rfl ?_
      exact t_X4_noted_37 hKp X hr hlk  h
    · have h := ix_iff q_2 h
      refine ix_iload_n (i := 1) (j := 1) X (ix_tb_at tb_X4_noted 5 rfl) rfl rfl (pc1 := 11) rfl ?_
      refine ix_aload_n (i := 0) (j := 0) X (ix_tb_at tb_X4_noted 6 rfl) rfl rfl (pc1 := 12) rfl ?_
      obtain ⟨k_3, h⟩ := ix_ck_some h
      refine iz_getI X fl_RX4_132 k_3 (ix_tb_at tb_X4_noted 7 rfl) (pc1 := 15) rfl ?_
      refine ix_icmp_ge (tgt := 37) X (ix_tb_at tb_X4_noted 8 rfl) (by decide) (pc1 := 18) rfl (fun q_4 => ?_) (fun q_4 => ?_)
      · have h := ix_ift q_4 h
        refine ix_sub (L1 := []) [] rfl ?_
        exact t_X4_noted_37 hKp X hr hlk  h
      · have h := ix_iff q_4 h
        refine ix_aload_n (i := 0) (j := 0) X (ix_tb_at tb_X4_noted 9 rfl) rfl rfl (pc1 := 19) rfl ?_
        obtain ⟨b_5, q_6, h⟩ := ix_bd1_ex h
        refine iz_getR X fl_RX4_18 k_3 q_6 (ix_tb_at tb_X4_noted 10 rfl) (pc1 := 22) rfl ?_
        refine ix_aload_n (i := 0) (j := 0) X (ix_tb_at tb_X4_noted 11 rfl) rfl rfl (pc1 := 23) rfl ?_
        refine iz_getI X fl_RX4_132 k_3 (ix_tb_at tb_X4_noted 12 rfl) (pc1 := 26) rfl ?_
        refine ix_iconst (v := 1) X (ix_tb_at tb_X4_noted 13 rfl) (by decide) (pc1 := 27) rfl ?_
        refine ix_isub X (ix_tb_at tb_X4_noted 14 rfl) (pc1 := 28) rfl ?_
        refine ix_iload_n (i := 1) (j := 1) X (ix_tb_at tb_X4_noted 15 rfl) rfl rfl (pc1 := 29) rfl ?_
        refine ix_isub X (ix_tb_at tb_X4_noted 16 rfl) (pc1 := 30) rfl ?_
        refine ix_bipush (v := 100) X (ix_tb_at tb_X4_noted 17 rfl) (by decide) (pc1 := 32) rfl ?_
        refine ix_irem X (ix_tb_at tb_X4_noted 18 rfl) (by decide) (pc1 := 33) rfl ?_
        obtain ⟨k_7, h⟩ := ix_ck_some h
        refine iz_iald X k_7 (ix_tb_at tb_X4_noted 19 rfl) (pc1 := 34) rfl ?_
        refine ix_goto (tgt := 40) X (ix_tb_at tb_X4_noted 20 rfl) (by decide) ?_
        exact ix_iret X hr hlk (ix_r2 (f := fun r => some (.int r)) (g := ix_w z) h) (ix_tb_at tb_X4_noted 22 rfl)
def tab_X5_kindNumber : List (Nat × Instr × Nat) := [(0, .iconst 2, 1), (1, .ireturn, 1)]
theorem tb_X5_kindNumber : ix_tab cX5_kindNumber tab_X5_kindNumber := by
  unfold ix_tab
  decide +kernel
noncomputable def f_X5_kindNumber (n : Nat) (z : ix_Z) (a0 : Nat) (d : ix_D2) : Option (Int32 × ix_D2) :=
  some (2, d)
set_option maxRecDepth 20000 in
theorem c_X5_kindNumber {l : Launch} {K : ix_Cx} (hKp : ix_Kp K) {n : Nat} {z : ix_Z} {a0 : Nat} {d : ix_D2} {r : Int32} {d1 : ix_D2} (h : f_X5_kindNumber n z a0 d = some (r, d1)) : ix_M l K yX5_kindNumber cX5_kindNumber 1 (some .int) 0 0 0 0 [.ref (K.2.2.1 + a0)] (ix_w z d) (some (.int r)) (ix_w z d1) := by
  refine ix_met mf_X5_kindNumber hKp (Nat.le_of_ble_eq_true rfl) ?_
  intro p e s m args below meth c hr hlk hnm X
  have X : ix_X p s m args c K cX5_kindNumber RX5 1 := X
  show ix_G p l e (ix_rm 0 0 0 0) s m args below meth c (MQ below (ix_Post K (some (.int r)) (ix_w z d1)) args s 0 0 (ix_A K)) K 1 0 0 0 [(0, .ref (K.2.2.1 + a0))] [] (ix_w z d)
  unfold f_X5_kindNumber at h
  refine ix_iconst (v := 2) X (ix_tb_at tb_X5_kindNumber 0 rfl) (by decide) (pc1 := 1) rfl ?_
  exact ix_iret X hr hlk (ix_r2 (f := fun r => some (.int r)) (g := ix_w z) h) (ix_tb_at tb_X5_kindNumber 1 rfl)
def tab_X5_holds : List (Nat × Instr × Nat) := [(0, .aload_n 2, 1), (1, .bipush 20, 2), (3, .invokevirtual 31, 3), (6, .aload_n 0, 1), (7, .aload_n 1, 1), (8, .aload_n 2, 1), (9, .invokespecial 37, 3), (12, .ifCond .eq 19, 3), (15, .aload_n 0, 1), (16, .aload_n 1, 1), (17, .invokevirtual 41, 3), (20, .aload_n 0, 1), (21, .getfield 17, 3), (24, .if_icmp .lt 7, 3), (27, .iconst 1, 1), (28, .goto 4, 3), (31, .iconst 0, 1), (32, .ireturn, 1)]
theorem tb_X5_holds : ix_tab cX5_holds tab_X5_holds := by
  unfold ix_tab
  decide +kernel
noncomputable def v_RX5_37 (n : Nat) (z : ix_Z) (b : Nat) (p0 : Nat) (p1 : Nat) (d : ix_D2) : Option (Int32 × ix_D2) := f_X0_holds n z b p0 p1 d
theorem tv_RX5_37 {l : Launch} {p : Program} {e : Env} {s : State} {m : MethodId} {args : Array Value} {below : List Frame} {meth : Method} {c : Code} {K : ix_Cx} {R : Room} {Q : State → Prop} {nL k n pc : Nat} {cc : ByteArray} {L : List (Nat × Value)} {rest : List Value} (hKp : ix_Kp K) (X : ix_X p s m args c K cc RX5 nL) {N : Nat} {z : ix_Z} {b : Nat} {p0 : Nat} {p1 : Nat} {d : ix_D2} {r : Int32} {d1 : ix_D2} (hk : ix_ok z [5] b) (hcall : v_RX5_37 N z b p0 p1 d = some (r, d1)) (hfr : 4 ≤ R.frames) (hlo : 87 ≤ R.locals) (hcs : k + 0 ≤ R.cells ∧ n + 0 ≤ R.slots) (hrm : (rest.map fun v => v.category).sum ≤ 8) (hd : decode cc pc = .ok (.invokespecial 37, 3)) {pc1 : Nat} (hp : pc + 3 = pc1) (kk : ix_G p l e R s m args below meth c Q K nL k n pc1 L (.int r :: rest) (ix_w z d1)) : ix_G p l e R s m args below meth c Q K nL k n pc L (.ref (K.2.2.1 + p1) :: .ref (K.2.2.1 + p0) :: .ref (K.2.2.1 + b) :: rest) (ix_w z d) := by
  unfold v_RX5_37 at hcall
  have h2 := hk.2
  simp only [List.mem_cons, List.not_mem_nil, or_false] at h2
  rcases h2 with h2
  · exact ix_callSU (As := [.ref (K.2.2.1 + p0), .ref (K.2.2.1 + p1)]) (rest := rest) (C := RX5) (T := TX5) (nf := 4) (ci := 5) X mf_X0_holds mi_X0_holds (ix_wm (i := 2472) (by decide +kernel)) (ix_wm (i := 661) (by decide +kernel)) (by decide) rfl (by decide) ml_RX5_37 ⟨Nat.le_trans (Nat.le_of_ble_eq_true rfl) hfr, Nat.le_trans (Nat.le_of_ble_eq_true rfl) hlo⟩ hcs rfl hrm hd ⟨hk.1, h2⟩ (c_X0_holds hKp hcall) rfl hp kk
noncomputable def v_RX5_41 (n : Nat) (z : ix_Z) (b : Nat) (p0 : Nat) (d : ix_D2) : Option (Int32 × ix_D2) := f_X8_trueOnes n z b p0 d
theorem tv_RX5_41 {l : Launch} {p : Program} {e : Env} {s : State} {m : MethodId} {args : Array Value} {below : List Frame} {meth : Method} {c : Code} {K : ix_Cx} {R : Room} {Q : State → Prop} {nL k n pc : Nat} {cc : ByteArray} {L : List (Nat × Value)} {rest : List Value} (hKp : ix_Kp K) (X : ix_X p s m args c K cc RX5 nL) {N : Nat} {z : ix_Z} {b : Nat} {p0 : Nat} {d : ix_D2} {r : Int32} {d1 : ix_D2} (hk : ix_ok z [5] b) (hcall : v_RX5_41 N z b p0 d = some (r, d1)) (hfr : 3 ≤ R.frames) (hlo : 65 ≤ R.locals) (hcs : k + 0 ≤ R.cells ∧ n + 0 ≤ R.slots) (hrm : (rest.map fun v => v.category).sum ≤ 8) (hd : decode cc pc = .ok (.invokevirtual 41, 3)) {pc1 : Nat} (hp : pc + 3 = pc1) (kk : ix_G p l e R s m args below meth c Q K nL k n pc1 L (.int r :: rest) (ix_w z d1)) : ix_G p l e R s m args below meth c Q K nL k n pc L (.ref (K.2.2.1 + p0) :: .ref (K.2.2.1 + b) :: rest) (ix_w z d) := by
  unfold v_RX5_41 at hcall
  have h2 := hk.2
  simp only [List.mem_cons, List.not_mem_nil, or_false] at h2
  rcases h2 with h2
  · exact ix_callU (As := [.ref (K.2.2.1 + p0)]) (rest := rest) (x := (⟨"ClauseCourt$Group", "trueOnes", "(LClauseCourt$Board;)I"⟩ : MethodName)) (owner := "ClauseCourt$Rule") (C := RX5) (T := TX5) (nf := 4) (ci := 5) X mf_X8_trueOnes mi_X8_trueOnes (ix_wm (i := 945) (by decide +kernel)) (ix_wm (i := 944) (by decide +kernel)) (Or.inl (ix_wm (i := 915) (by decide +kernel))) ⟨by decide, by decide⟩ (by decide +kernel) rfl (by decide) ml_RX5_41 ⟨Nat.le_trans (Nat.le_of_ble_eq_true rfl) hfr, Nat.le_trans (Nat.le_of_ble_eq_true rfl) hlo⟩ hcs rfl hrm hd ⟨hk.1, h2⟩ (c_X8_trueOnes hKp hcall) rfl hp kk
noncomputable def f_X5_holds (n : Nat) (z : ix_Z) (a0 : Nat) (a1 : Nat) (a2 : Nat) (d : ix_D2) : Option (Int32 × ix_D2) :=
  ix_ck (ix_ok z [4] a2) (ix_bd1 (f_X4_note n z a2 20 d) (fun d_1 => ix_ck (ix_ok z [5] a0) (ix_bd2 (v_RX5_37 n z a0 a1 a2 d_1) (fun r_7 d_5 => ix_if (r_7 = 0) (some (0, d_5)) (ix_bd2 (v_RX5_41 n z a0 a1 d_5) (fun r_11 d_9 => ix_if (r_11 < d_9.1 a0 3) (some (0, d_9)) (some (1, d_9))))))))
set_option maxRecDepth 20000 in
theorem c_X5_holds {l : Launch} {K : ix_Cx} (hKp : ix_Kp K) {n : Nat} {z : ix_Z} {a0 : Nat} {a1 : Nat} {a2 : Nat} {d : ix_D2} {r : Int32} {d1 : ix_D2} (h : f_X5_holds n z a0 a1 a2 d = some (r, d1)) : ix_M l K yX5_holds cX5_holds 3 (some .boolean) 4 87 0 0 [.ref (K.2.2.1 + a0), .ref (K.2.2.1 + a1), .ref (K.2.2.1 + a2)] (ix_w z d) (some (.int r)) (ix_w z d1) := by
  refine ix_met mf_X5_holds hKp (Nat.le_of_ble_eq_true rfl) ?_
  intro p e s m args below meth c hr hlk hnm X
  have X : ix_X p s m args c K cX5_holds RX5 3 := X
  show ix_G p l e (ix_rm 4 87 0 0) s m args below meth c (MQ below (ix_Post K (some (.int r)) (ix_w z d1)) args s 0 0 (ix_A K)) K 3 0 0 0 [(0, .ref (K.2.2.1 + a0)), (1, .ref (K.2.2.1 + a1)), (2, .ref (K.2.2.1 + a2))] [] (ix_w z d)
  unfold f_X5_holds at h
  refine ix_aload_n (i := 2) (j := 2) X (ix_tb_at tb_X5_holds 0 rfl) rfl rfl (pc1 := 1) rfl ?_
  refine ix_bipush (v := 20) X (ix_tb_at tb_X5_holds 1 rfl) (by decide) (pc1 := 3) rfl ?_
  obtain ⟨k_3, h⟩ := ix_ck_some h
  obtain ⟨d_1, h_2, h⟩ := ix_bd1_ex h
  refine ix_callV (As := [.int 20]) (rest := []) (ci := 4) (T := TX4) (nf := 17) X mf_X4_note mi_X4_note ms_X4_note rfl (Nat.le_of_ble_eq_true rfl) ml_RX5_31 ⟨Nat.le_of_ble_eq_true rfl, Nat.le_of_ble_eq_true rfl⟩ ⟨Nat.le_of_ble_eq_true rfl, Nat.le_of_ble_eq_true rfl⟩ rfl (Nat.le_of_ble_eq_true rfl) (ix_tb_at tb_X5_holds 2 rfl) ⟨k_3.1, List.mem_singleton.mp k_3.2⟩ (c_X4_note hKp h_2) rfl (pc1 := 6) rfl ?_
  refine ix_aload_n (i := 0) (j := 0) X (ix_tb_at tb_X5_holds 3 rfl) rfl rfl (pc1 := 7) rfl ?_
  refine ix_aload_n (i := 1) (j := 1) X (ix_tb_at tb_X5_holds 4 rfl) rfl rfl (pc1 := 8) rfl ?_
  refine ix_aload_n (i := 2) (j := 2) X (ix_tb_at tb_X5_holds 5 rfl) rfl rfl (pc1 := 9) rfl ?_
  obtain ⟨k_4, h⟩ := ix_ck_some h
  obtain ⟨r_7, d_5, h_6, h⟩ := ix_bd2_ex h
  refine tv_RX5_37 (rest := []) hKp X k_4 h_6 (Nat.le_of_ble_eq_true rfl) (Nat.le_of_ble_eq_true rfl) ⟨Nat.le_of_ble_eq_true rfl, Nat.le_of_ble_eq_true rfl⟩ (Nat.le_of_ble_eq_true rfl) (ix_tb_at tb_X5_holds 6 rfl) (pc1 := 12) rfl ?_
  refine ix_if_eq (tgt := 31) X (ix_tb_at tb_X5_holds 7 rfl) (by decide) (pc1 := 15) rfl (fun q_8 => ?_) (fun q_8 => ?_)
  · have h := ix_ift q_8 h
    refine ix_iconst (v := 0) X (ix_tb_at tb_X5_holds 16 rfl) (by decide) (pc1 := 32) rfl ?_
    exact ix_zret X hr hlk (by decide) (ix_r2 (f := fun r => some (.int r)) (g := ix_w z) h) (ix_tb_at tb_X5_holds 17 rfl)
  · have h := ix_iff q_8 h
    refine ix_aload_n (i := 0) (j := 0) X (ix_tb_at tb_X5_holds 8 rfl) rfl rfl (pc1 := 16) rfl ?_
    refine ix_aload_n (i := 1) (j := 1) X (ix_tb_at tb_X5_holds 9 rfl) rfl rfl (pc1 := 17) rfl ?_
    obtain ⟨r_11, d_9, h_10, h⟩ := ix_bd2_ex h
    refine tv_RX5_41 (rest := []) hKp X k_4 h_10 (Nat.le_of_ble_eq_true rfl) (Nat.le_of_ble_eq_true rfl) ⟨Nat.le_of_ble_eq_true rfl, Nat.le_of_ble_eq_true rfl⟩ (Nat.le_of_ble_eq_true rfl) (ix_tb_at tb_X5_holds 10 rfl) (pc1 := 20) rfl ?_
    refine ix_aload_n (i := 0) (j := 0) X (ix_tb_at tb_X5_holds 11 rfl) rfl rfl (pc1 := 21) rfl ?_
    refine iz_getI X fl_RX5_17 k_4 (ix_tb_at tb_X5_holds 12 rfl) (pc1 := 24) rfl ?_
    refine ix_icmp_lt (tgt := 31) X (ix_tb_at tb_X5_holds 13 rfl) (by decide) (pc1 := 27) rfl (fun q_12 => ?_) (fun q_12 => ?_)
    · have h := ix_ift q_12 h
      refine ix_iconst (v := 0) X (ix_tb_at tb_X5_holds 16 rfl) (by decide) (pc1 := 32) rfl ?_
      exact ix_zret X hr hlk (by decide) (ix_r2 (f := fun r => some (.int r)) (g := ix_w z) h) (ix_tb_at tb_X5_holds 17 rfl)
    · have h := ix_iff q_12 h
      refine ix_iconst (v := 1) X (ix_tb_at tb_X5_holds 14 rfl) (by decide) (pc1 := 28) rfl ?_
      refine ix_goto (tgt := 32) X (ix_tb_at tb_X5_holds 15 rfl) (by decide) ?_
      exact ix_zret X hr hlk (by decide) (ix_r2 (f := fun r => some (.int r)) (g := ix_w z) h) (ix_tb_at tb_X5_holds 17 rfl)
def tab_X5_fewest : List (Nat × Instr × Nat) := [(0, .aload_n 1, 1), (1, .bipush 21, 2), (3, .invokevirtual 31, 3), (6, .aload_n 0, 1), (7, .getfield 17, 3), (10, .ireturn, 1)]
theorem tb_X5_fewest : ix_tab cX5_fewest tab_X5_fewest := by
  unfold ix_tab
  decide +kernel
noncomputable def f_X5_fewest (n : Nat) (z : ix_Z) (a0 : Nat) (a1 : Nat) (d : ix_D2) : Option (Int32 × ix_D2) :=
  ix_ck (ix_ok z [4] a1) (ix_bd1 (f_X4_note n z a1 21 d) (fun d_1 => ix_ck (ix_ok z [5] a0) (some (d_1.1 a0 3, d_1))))
set_option maxRecDepth 20000 in
theorem c_X5_fewest {l : Launch} {K : ix_Cx} (hKp : ix_Kp K) {n : Nat} {z : ix_Z} {a0 : Nat} {a1 : Nat} {d : ix_D2} {r : Int32} {d1 : ix_D2} (h : f_X5_fewest n z a0 a1 d = some (r, d1)) : ix_M l K yX5_fewest cX5_fewest 2 (some .int) 1 21 0 0 [.ref (K.2.2.1 + a0), .ref (K.2.2.1 + a1)] (ix_w z d) (some (.int r)) (ix_w z d1) := by
  refine ix_met mf_X5_fewest hKp (Nat.le_of_ble_eq_true rfl) ?_
  intro p e s m args below meth c hr hlk hnm X
  have X : ix_X p s m args c K cX5_fewest RX5 2 := X
  show ix_G p l e (ix_rm 1 21 0 0) s m args below meth c (MQ below (ix_Post K (some (.int r)) (ix_w z d1)) args s 0 0 (ix_A K)) K 2 0 0 0 [(0, .ref (K.2.2.1 + a0)), (1, .ref (K.2.2.1 + a1))] [] (ix_w z d)
  unfold f_X5_fewest at h
  refine ix_aload_n (i := 1) (j := 1) X (ix_tb_at tb_X5_fewest 0 rfl) rfl rfl (pc1 := 1) rfl ?_
  refine ix_bipush (v := 21) X (ix_tb_at tb_X5_fewest 1 rfl) (by decide) (pc1 := 3) rfl ?_
  obtain ⟨k_3, h⟩ := ix_ck_some h
  obtain ⟨d_1, h_2, h⟩ := ix_bd1_ex h
  refine ix_callV (As := [.int 21]) (rest := []) (ci := 4) (T := TX4) (nf := 17) X mf_X4_note mi_X4_note ms_X4_note rfl (Nat.le_of_ble_eq_true rfl) ml_RX5_31 ⟨Nat.le_of_ble_eq_true rfl, Nat.le_of_ble_eq_true rfl⟩ ⟨Nat.le_of_ble_eq_true rfl, Nat.le_of_ble_eq_true rfl⟩ rfl (Nat.le_of_ble_eq_true rfl) (ix_tb_at tb_X5_fewest 2 rfl) ⟨k_3.1, List.mem_singleton.mp k_3.2⟩ (c_X4_note hKp h_2) rfl (pc1 := 6) rfl ?_
  refine ix_aload_n (i := 0) (j := 0) X (ix_tb_at tb_X5_fewest 3 rfl) rfl rfl (pc1 := 7) rfl ?_
  obtain ⟨k_4, h⟩ := ix_ck_some h
  refine iz_getI X fl_RX5_17 k_4 (ix_tb_at tb_X5_fewest 4 rfl) (pc1 := 10) rfl ?_
  exact ix_iret X hr hlk (ix_r2 (f := fun r => some (.int r)) (g := ix_w z) h) (ix_tb_at tb_X5_fewest 5 rfl)
def tab_X6_kindNumber : List (Nat × Instr × Nat) := [(0, .iconst 3, 1), (1, .ireturn, 1)]
theorem tb_X6_kindNumber : ix_tab cX6_kindNumber tab_X6_kindNumber := by
  unfold ix_tab
  decide +kernel
noncomputable def f_X6_kindNumber (n : Nat) (z : ix_Z) (a0 : Nat) (d : ix_D2) : Option (Int32 × ix_D2) :=
  some (3, d)
set_option maxRecDepth 20000 in
theorem c_X6_kindNumber {l : Launch} {K : ix_Cx} (hKp : ix_Kp K) {n : Nat} {z : ix_Z} {a0 : Nat} {d : ix_D2} {r : Int32} {d1 : ix_D2} (h : f_X6_kindNumber n z a0 d = some (r, d1)) : ix_M l K yX6_kindNumber cX6_kindNumber 1 (some .int) 0 0 0 0 [.ref (K.2.2.1 + a0)] (ix_w z d) (some (.int r)) (ix_w z d1) := by
  refine ix_met mf_X6_kindNumber hKp (Nat.le_of_ble_eq_true rfl) ?_
  intro p e s m args below meth c hr hlk hnm X
  have X : ix_X p s m args c K cX6_kindNumber RX6 1 := X
  show ix_G p l e (ix_rm 0 0 0 0) s m args below meth c (MQ below (ix_Post K (some (.int r)) (ix_w z d1)) args s 0 0 (ix_A K)) K 1 0 0 0 [(0, .ref (K.2.2.1 + a0))] [] (ix_w z d)
  unfold f_X6_kindNumber at h
  refine ix_iconst (v := 3) X (ix_tb_at tb_X6_kindNumber 0 rfl) (by decide) (pc1 := 1) rfl ?_
  exact ix_iret X hr hlk (ix_r2 (f := fun r => some (.int r)) (g := ix_w z) h) (ix_tb_at tb_X6_kindNumber 1 rfl)
def tab_X6_layPair : List (Nat × Instr × Nat) := [(0, .aload_n 0, 1), (1, .invokevirtual 27, 3), (4, .istore_n 3, 1), (5, .aload_n 0, 1), (6, .iload_n 1, 1), (7, .ineg, 1), (8, .iload_n 2, 1), (9, .ineg, 1), (10, .iload_n 3, 1), (11, .ineg, 1), (12, .invokevirtual 21, 3), (15, .aload_n 0, 1), (16, .iload_n 1, 1), (17, .iload_n 2, 1), (18, .iload_n 3, 1), (19, .ineg, 1), (20, .invokevirtual 21, 3), (23, .aload_n 0, 1), (24, .iload_n 1, 1), (25, .iload_n 2, 1), (26, .ineg, 1), (27, .iload_n 3, 1), (28, .invokevirtual 21, 3), (31, .aload_n 0, 1), (32, .iload_n 1, 1), (33, .ineg, 1), (34, .iload_n 2, 1), (35, .iload_n 3, 1), (36, .invokevirtual 21, 3), (39, .iload_n 3, 1), (40, .ireturn, 1)]
theorem tb_X6_layPair : ix_tab cX6_layPair tab_X6_layPair := by
  unfold ix_tab
  decide +kernel
noncomputable def f_X6_layPair (n : Nat) (z : ix_Z) (a0 : Nat) (x1 : Int32) (x2 : Int32) (d : ix_D2) : Option (Int32 × ix_D2) :=
  ix_ck (ix_ok z [2] a0) (ix_bd2 (f_X2_makeName n z a0 d) (fun r_4 d_1 => ix_bd1 (f_X2_lay n z a0 (-x1) (-x2) (-r_4) d_1) (fun d_5 => ix_bd1 (f_X2_lay n z a0 x1 x2 (-r_4) d_5) (fun d_7 => ix_bd1 (f_X2_lay n z a0 x1 (-x2) r_4 d_7) (fun d_9 => ix_bd1 (f_X2_lay n z a0 (-x1) x2 r_4 d_9) (fun d_11 => some (r_4, d_11)))))))
set_option maxRecDepth 20000 in
theorem c_X6_layPair {l : Launch} {K : ix_Cx} (hKp : ix_Kp K) {n : Nat} {z : ix_Z} {a0 : Nat} {x1 : Int32} {x2 : Int32} {d : ix_D2} {r : Int32} {d1 : ix_D2} (h : f_X6_layPair n z a0 x1 x2 d = some (r, d1)) : ix_M l K yX6_layPair cX6_layPair 4 (some .int) 4 94 0 0 [.ref (K.2.2.1 + a0), .int x1, .int x2] (ix_w z d) (some (.int r)) (ix_w z d1) := by
  refine ix_met mf_X6_layPair hKp (Nat.le_of_ble_eq_true rfl) ?_
  intro p e s m args below meth c hr hlk hnm X
  have X : ix_X p s m args c K cX6_layPair RX6 4 := X
  show ix_G p l e (ix_rm 4 94 0 0) s m args below meth c (MQ below (ix_Post K (some (.int r)) (ix_w z d1)) args s 0 0 (ix_A K)) K 4 0 0 0 [(0, .ref (K.2.2.1 + a0)), (1, .int x1), (2, .int x2)] [] (ix_w z d)
  unfold f_X6_layPair at h
  refine ix_aload_n (i := 0) (j := 0) X (ix_tb_at tb_X6_layPair 0 rfl) rfl rfl (pc1 := 1) rfl ?_
  obtain ⟨k_3, h⟩ := ix_ck_some h
  obtain ⟨r_4, d_1, h_2, h⟩ := ix_bd2_ex h
  refine ix_callV (As := []) (rest := []) (ci := 2) (T := TX2) (nf := 12) X mf_X2_makeName mi_X2_makeName ms_X2_makeName rfl (Nat.le_of_ble_eq_true rfl) ml_RX6_27 ⟨Nat.le_of_ble_eq_true rfl, Nat.le_of_ble_eq_true rfl⟩ ⟨Nat.le_of_ble_eq_true rfl, Nat.le_of_ble_eq_true rfl⟩ rfl (Nat.le_of_ble_eq_true rfl) (ix_tb_at tb_X6_layPair 1 rfl) ⟨k_3.1, List.mem_singleton.mp k_3.2⟩ (c_X2_makeName hKp h_2) rfl (pc1 := 4) rfl ?_
  refine ix_istore_n (i := 3) (L1 := [(3, .int r_4), (0, .ref (K.2.2.1 + a0)), (1, .int x1), (2, .int x2)]) X (ix_tb_at tb_X6_layPair 2 rfl) rfl (Nat.le_of_ble_eq_true rfl) rfl (pc1 := 5) rfl ?_
  refine ix_aload_n (i := 0) (j := 1) X (ix_tb_at tb_X6_layPair 3 rfl) rfl rfl (pc1 := 6) rfl ?_
  refine ix_iload_n (i := 1) (j := 2) X (ix_tb_at tb_X6_layPair 4 rfl) rfl rfl (pc1 := 7) rfl ?_
  refine ix_ineg X (ix_tb_at tb_X6_layPair 5 rfl) (pc1 := 8) rfl ?_
  refine ix_iload_n (i := 2) (j := 3) X (ix_tb_at tb_X6_layPair 6 rfl) rfl rfl (pc1 := 9) rfl ?_
  refine ix_ineg X (ix_tb_at tb_X6_layPair 7 rfl) (pc1 := 10) rfl ?_
  refine ix_iload_n (i := 3) (j := 0) X (ix_tb_at tb_X6_layPair 8 rfl) rfl rfl (pc1 := 11) rfl ?_
  refine ix_ineg X (ix_tb_at tb_X6_layPair 9 rfl) (pc1 := 12) rfl ?_
  obtain ⟨d_5, h_6, h⟩ := ix_bd1_ex h
  refine ix_callV (As := [.int (-x1), .int (-x2), .int (-r_4)]) (rest := []) (ci := 2) (T := TX2) (nf := 12) X mf_X2_lay mi_X2_lay ms_X2_lay rfl (Nat.le_of_ble_eq_true rfl) ml_RX6_21 ⟨Nat.le_of_ble_eq_true rfl, Nat.le_of_ble_eq_true rfl⟩ ⟨Nat.le_of_ble_eq_true rfl, Nat.le_of_ble_eq_true rfl⟩ rfl (Nat.le_of_ble_eq_true rfl) (ix_tb_at tb_X6_layPair 10 rfl) ⟨k_3.1, List.mem_singleton.mp k_3.2⟩ (c_X2_lay hKp h_6) rfl (pc1 := 15) rfl ?_
  refine ix_aload_n (i := 0) (j := 1) X (ix_tb_at tb_X6_layPair 11 rfl) rfl rfl (pc1 := 16) rfl ?_
  refine ix_iload_n (i := 1) (j := 2) X (ix_tb_at tb_X6_layPair 12 rfl) rfl rfl (pc1 := 17) rfl ?_
  refine ix_iload_n (i := 2) (j := 3) X (ix_tb_at tb_X6_layPair 13 rfl) rfl rfl (pc1 := 18) rfl ?_
  refine ix_iload_n (i := 3) (j := 0) X (ix_tb_at tb_X6_layPair 14 rfl) rfl rfl (pc1 := 19) rfl ?_
  refine ix_ineg X (ix_tb_at tb_X6_layPair 15 rfl) (pc1 := 20) rfl ?_
  obtain ⟨d_7, h_8, h⟩ := ix_bd1_ex h
  refine ix_callV (As := [.int x1, .int x2, .int (-r_4)]) (rest := []) (ci := 2) (T := TX2) (nf := 12) X mf_X2_lay mi_X2_lay ms_X2_lay rfl (Nat.le_of_ble_eq_true rfl) ml_RX6_21 ⟨Nat.le_of_ble_eq_true rfl, Nat.le_of_ble_eq_true rfl⟩ ⟨Nat.le_of_ble_eq_true rfl, Nat.le_of_ble_eq_true rfl⟩ rfl (Nat.le_of_ble_eq_true rfl) (ix_tb_at tb_X6_layPair 16 rfl) ⟨k_3.1, List.mem_singleton.mp k_3.2⟩ (c_X2_lay hKp h_8) rfl (pc1 := 23) rfl ?_
  refine ix_aload_n (i := 0) (j := 1) X (ix_tb_at tb_X6_layPair 17 rfl) rfl rfl (pc1 := 24) rfl ?_
  refine ix_iload_n (i := 1) (j := 2) X (ix_tb_at tb_X6_layPair 18 rfl) rfl rfl (pc1 := 25) rfl ?_
  refine ix_iload_n (i := 2) (j := 3) X (ix_tb_at tb_X6_layPair 19 rfl) rfl rfl (pc1 := 26) rfl ?_
  refine ix_ineg X (ix_tb_at tb_X6_layPair 20 rfl) (pc1 := 27) rfl ?_
  refine ix_iload_n (i := 3) (j := 0) X (ix_tb_at tb_X6_layPair 21 rfl) rfl rfl (pc1 := 28) rfl ?_
  obtain ⟨d_9, h_10, h⟩ := ix_bd1_ex h
  refine ix_callV (As := [.int x1, .int (-x2), .int r_4]) (rest := []) (ci := 2) (T := TX2) (nf := 12) X mf_X2_lay mi_X2_lay ms_X2_lay rfl (Nat.le_of_ble_eq_true rfl) ml_RX6_21 ⟨Nat.le_of_ble_eq_true rfl, Nat.le_of_ble_eq_true rfl⟩ ⟨Nat.le_of_ble_eq_true rfl, Nat.le_of_ble_eq_true rfl⟩ rfl (Nat.le_of_ble_eq_true rfl) (ix_tb_at tb_X6_layPair 22 rfl) ⟨k_3.1, List.mem_singleton.mp k_3.2⟩ (c_X2_lay hKp h_10) rfl (pc1 := 31) rfl ?_
  refine ix_aload_n (i := 0) (j := 1) X (ix_tb_at tb_X6_layPair 23 rfl) rfl rfl (pc1 := 32) rfl ?_
  refine ix_iload_n (i := 1) (j := 2) X (ix_tb_at tb_X6_layPair 24 rfl) rfl rfl (pc1 := 33) rfl ?_
  refine ix_ineg X (ix_tb_at tb_X6_layPair 25 rfl) (pc1 := 34) rfl ?_
  refine ix_iload_n (i := 2) (j := 3) X (ix_tb_at tb_X6_layPair 26 rfl) rfl rfl (pc1 := 35) rfl ?_
  refine ix_iload_n (i := 3) (j := 0) X (ix_tb_at tb_X6_layPair 27 rfl) rfl rfl (pc1 := 36) rfl ?_
  obtain ⟨d_11, h_12, h⟩ := ix_bd1_ex h
  refine ix_callV (As := [.int (-x1), .int x2, .int r_4]) (rest := []) (ci := 2) (T := TX2) (nf := 12) X mf_X2_lay mi_X2_lay ms_X2_lay rfl (Nat.le_of_ble_eq_true rfl) ml_RX6_21 ⟨Nat.le_of_ble_eq_true rfl, Nat.le_of_ble_eq_true rfl⟩ ⟨Nat.le_of_ble_eq_true rfl, Nat.le_of_ble_eq_true rfl⟩ rfl (Nat.le_of_ble_eq_true rfl) (ix_tb_at tb_X6_layPair 28 rfl) ⟨k_3.1, List.mem_singleton.mp k_3.2⟩ (c_X2_lay hKp h_12) rfl (pc1 := 39) rfl ?_
  refine ix_iload_n (i := 3) (j := 0) X (ix_tb_at tb_X6_layPair 29 rfl) rfl rfl (pc1 := 40) rfl ?_
  exact ix_iret X hr hlk (ix_r2 (f := fun r => some (.int r)) (g := ix_w z) h) (ix_tb_at tb_X6_layPair 30 rfl)
def tab_X6_layInto : List (Nat × Instr × Nat) := [(0, .aload_n 0, 1), (1, .getfield 13, 3), (4, .arraylength, 1), (5, .ifCond .le 12, 3), (8, .aload_n 0, 1), (9, .getfield 13, 3), (12, .iconst 0, 1), (13, .iaload, 1), (14, .goto 4, 3), (17, .iconst 0, 1), (18, .istore_n 2, 1), (19, .iconst 1, 1), (20, .istore_n 3, 1), (21, .iload_n 3, 1), (22, .aload_n 0, 1), (23, .getfield 13, 3), (26, .arraylength, 1), (27, .if_icmp .ge 21, 3), (30, .aload_n 1, 1), (31, .iload_n 2, 1), (32, .aload_n 0, 1), (33, .getfield 13, 3), (36, .iload_n 3, 1), (37, .iaload, 1), (38, .invokestatic 17, 3), (41, .istore_n 2, 1), (42, .iinc 3 1, 3), (45, .goto (-24), 3), (48, .aload_n 0, 1), (49, .getfield 13, 3), (52, .arraylength, 1), (53, .ifCond .gt 10, 3), (56, .aload_n 0, 1), (57, .getfield 7, 3), (60, .ifCond .eq 22, 3), (63, .aload_n 1, 1), (64, .aload_n 0, 1), (65, .getfield 7, 3), (68, .ifCond .eq 7, 3), (71, .iload_n 2, 1), (72, .goto 5, 3), (75, .iload_n 2, 1), (76, .ineg, 1), (77, .iconst 0, 1), (78, .iconst 0, 1), (79, .invokevirtual 21, 3), (82, .return_, 1)]
theorem tb_X6_layInto : ix_tab cX6_layInto tab_X6_layInto := by
  unfold ix_tab
  decide +kernel
noncomputable def f_X6_layInto_77 (n : Nat) (z : ix_Z)  (s0 : Int32) (s1 : Nat) (d : ix_D2) : Option (ix_D2) :=
  ix_ck (ix_ok z [2] s1) (ix_bd1 (f_X2_lay n z s1 s0 0 0 d) (fun d_14 => some d_14))
noncomputable def f_X6_layInto_63 (n : Nat) (z : ix_Z)  (a0 : Nat) (a1 : Nat) (x2 : Int32) (d : ix_D2) : Option (ix_D2) :=
  ix_ck (ix_ok z [6] a0) (ix_if (d.1 a0 3 = 0) (f_X6_layInto_77 n z  (-x2) a1 d) (f_X6_layInto_77 n z  x2 a1 d))
noncomputable def b_X6_layInto_21 (n : Nat) (z : ix_Z)  (a0 : Nat) (a1 : Nat) (rec21 : Int32 → Int32 → ix_D2 → Option (ix_D2)) (x2 : Int32) (x3 : Int32) (d : ix_D2) : Option (ix_D2) :=
  ix_ck (ix_ok z [6] a0) (ix_bd1 (z.1 a0 0) (fun b_7 => ix_ck (b_7 < z.2.2 ∧ 20 ≤ (z.2.1 b_7).1 ∧ (z.2.1 b_7).1 < 26) (ix_if (nI (z.2.1 b_7).2 ≤ x3) (ix_if (0 < nI (z.2.1 b_7).2) (f_X6_layInto_63 n z  a0 a1 x2 d) (ix_if (d.1 a0 3 = 0) (some d) (f_X6_layInto_63 n z  a0 a1 x2 d))) (ix_ck (ix_ix z 20 b_7 x3) (ix_bd2 (f_X6_layPair n z a1 x2 (d.1 b_7 (ix_n x3)) d) (fun r_21 d_19 => ix_lt (x3 + 1) (fun x3_22 => rec21 r_21 x3_22 d_19)))))))
noncomputable def f_X6_layInto_21 (n : Nat) (z : ix_Z)  (a0 : Nat) (a1 : Nat) (x2 : Int32) (x3 : Int32) (d : ix_D2) : Option (ix_D2) := ix_fix (b_X6_layInto_21 n z  a0 a1) (fun _ _ _ => none) n x2 x3 d
noncomputable def f_X6_layInto_18 (n : Nat) (z : ix_Z)  (a0 : Nat) (a1 : Nat) (s0 : Int32) (d : ix_D2) : Option (ix_D2) :=
  f_X6_layInto_21 n z  a0 a1 s0 1 d
noncomputable def f_X6_layInto (n : Nat) (z : ix_Z) (a0 : Nat) (a1 : Nat) (d : ix_D2) : Option (ix_D2) :=
  ix_ck (ix_ok z [6] a0) (ix_bd1 (z.1 a0 0) (fun b_2 => ix_ck (b_2 < z.2.2 ∧ 20 ≤ (z.2.1 b_2).1 ∧ (z.2.1 b_2).1 < 26) (ix_if (nI (z.2.1 b_2).2 ≤ 0) (f_X6_layInto_18 n z  a0 a1 0 d) (ix_ck (ix_ix z 20 b_2 0) (f_X6_layInto_18 n z  a0 a1 (d.1 b_2 (ix_n 0)) d)))))
set_option maxRecDepth 20000 in
theorem t_X6_layInto_77 {l : Launch} {p : Program} {e : Env} {s : State} {m : MethodId} {args : Array Value} {below : List Frame} {meth : Method} {c : Code} {K : ix_Cx} (hKp : ix_Kp K) {n : Nat} {z : ix_Z} (X : ix_X p s m args c K cX6_layInto RX6 4) (hr : meth.sig.returnType = (none : Option Jvm.ClassFile.FieldType)) (hlk : meth.locks = false)  {s0 : Int32} {s1 : Nat} {d1 : ix_D2}  {d : ix_D2} (h : f_X6_layInto_77 n z  s0 s1 d = some d1) : ix_G p l e (ix_rm 5 117 0 0) s m args below meth c (MQ below (ix_Post K none (ix_w z d1)) args s 0 0 (ix_A K)) K 4 0 0 77 [] [.int s0, .ref (K.2.2.1 + s1)] (ix_w z d) := by
  unfold f_X6_layInto_77 at h
  refine ix_iconst (v := 0) X (ix_tb_at tb_X6_layInto 43 rfl) (by decide) (pc1 := 78) rfl ?_
  refine ix_iconst (v := 0) X (ix_tb_at tb_X6_layInto 44 rfl) (by decide) (pc1 := 79) rfl ?_
  obtain ⟨k_16, h⟩ := ix_ck_some h
  obtain ⟨d_14, h_15, h⟩ := ix_bd1_ex h
  refine ix_callV (As := [.int s0, .int 0, .int 0]) (rest := []) (ci := 2) (T := TX2) (nf := 12) X mf_X2_lay mi_X2_lay ms_X2_lay rfl (Nat.le_of_ble_eq_true rfl) ml_RX6_21 ⟨Nat.le_of_ble_eq_true rfl, Nat.le_of_ble_eq_true rfl⟩ ⟨Nat.le_of_ble_eq_true rfl, Nat.le_of_ble_eq_true rfl⟩ rfl (Nat.le_of_ble_eq_true rfl) (ix_tb_at tb_X6_layInto 45 rfl) ⟨k_16.1, List.mem_singleton.mp k_16.2⟩ (c_X2_lay hKp h_15) rfl (pc1 := 82) rfl ?_
  exact ix_vret X hr hlk (ix_r1 (g := ix_w z) h) (ix_tb_at tb_X6_layInto 46 rfl)
set_option maxRecDepth 20000 in
theorem t_X6_layInto_63 {l : Launch} {p : Program} {e : Env} {s : State} {m : MethodId} {args : Array Value} {below : List Frame} {meth : Method} {c : Code} {K : ix_Cx} (hKp : ix_Kp K) {n : Nat} {z : ix_Z} (X : ix_X p s m args c K cX6_layInto RX6 4) (hr : meth.sig.returnType = (none : Option Jvm.ClassFile.FieldType)) (hlk : meth.locks = false)  {a0 : Nat} {a1 : Nat} {x2 : Int32} {d1 : ix_D2}  {d : ix_D2} (h : f_X6_layInto_63 n z  a0 a1 x2 d = some d1) : ix_G p l e (ix_rm 5 117 0 0) s m args below meth c (MQ below (ix_Post K none (ix_w z d1)) args s 0 0 (ix_A K)) K 4 0 0 63 [(0, .ref (K.2.2.1 + a0)), (1, .ref (K.2.2.1 + a1)), (2, .int x2)] [] (ix_w z d) := by
  unfold f_X6_layInto_63 at h
  refine ix_aload_n (i := 1) (j := 1) X (ix_tb_at tb_X6_layInto 35 rfl) rfl rfl (pc1 := 64) rfl ?_
  refine ix_aload_n (i := 0) (j := 0) X (ix_tb_at tb_X6_layInto 36 rfl) rfl rfl (pc1 := 65) rfl ?_
  obtain ⟨k_12, h⟩ := ix_ck_some h
  refine iz_getI X fl_RX6_7 k_12 (ix_tb_at tb_X6_layInto 37 rfl) (pc1 := 68) rfl ?_
  refine ix_if_eq (tgt := 75) X (ix_tb_at tb_X6_layInto 38 rfl) (by decide) (pc1 := 71) rfl (fun q_13 => ?_) (fun q_13 => ?_)
  · have h := ix_ift q_13 h
    refine ix_iload_n (i := 2) (j := 2) X (ix_tb_at tb_X6_layInto 41 rfl) rfl rfl (pc1 := 76) rfl ?_
    refine ix_ineg X (ix_tb_at tb_X6_layInto 42 rfl) (pc1 := 77) rfl ?_
    refine ix_sub (L1 := []) [] rfl ?_
    exact t_X6_layInto_77 hKp X hr hlk  h
  · have h := ix_iff q_13 h
    refine ix_iload_n (i := 2) (j := 2) X (ix_tb_at tb_X6_layInto 39 rfl) rfl rfl (pc1 := 72) rfl ?_
    refine ix_goto (tgt := 77) X (ix_tb_at tb_X6_layInto 40 rfl) (by decide) ?_
    refine ix_sub (L1 := []) [] rfl ?_
    exact t_X6_layInto_77 hKp X hr hlk  h
set_option maxRecDepth 20000 in
theorem tb_X6_layInto_21 {l : Launch} {p : Program} {e : Env} {s : State} {m : MethodId} {args : Array Value} {below : List Frame} {meth : Method} {c : Code} {K : ix_Cx} (hKp : ix_Kp K) {n : Nat} {z : ix_Z} (X : ix_X p s m args c K cX6_layInto RX6 4) (hr : meth.sig.returnType = (none : Option Jvm.ClassFile.FieldType)) (hlk : meth.locks = false)  {a0 : Nat} {a1 : Nat} {rec21 : Int32 → Int32 → ix_D2 → Option (ix_D2)} {d1 : ix_D2} (hrec21 : ∀ (x2 : Int32) (x3 : Int32) (d : ix_D2), rec21 x2 x3 d = some d1 → ix_G p l e (ix_rm 5 117 0 0) s m args below meth c (MQ below (ix_Post K none (ix_w z d1)) args s 0 0 (ix_A K)) K 4 0 0 21 [(0, .ref (K.2.2.1 + a0)), (1, .ref (K.2.2.1 + a1)), (2, .int x2), (3, .int x3)] [] (ix_w z d)) {x2 : Int32} {x3 : Int32} {d : ix_D2} (h : b_X6_layInto_21 n z  a0 a1 rec21 x2 x3 d = some d1) : ix_G p l e (ix_rm 5 117 0 0) s m args below meth c (MQ below (ix_Post K none (ix_w z d1)) args s 0 0 (ix_A K)) K 4 0 0 21 [(0, .ref (K.2.2.1 + a0)), (1, .ref (K.2.2.1 + a1)), (2, .int x2), (3, .int x3)] [] (ix_w z d) := by
  unfold b_X6_layInto_21 at h
  refine ix_iload_n (i := 3) (j := 3) X (ix_tb_at tb_X6_layInto 13 rfl) rfl rfl (pc1 := 22) rfl ?_
  refine ix_aload_n (i := 0) (j := 0) X (ix_tb_at tb_X6_layInto 14 rfl) rfl rfl (pc1 := 23) rfl ?_
  obtain ⟨k_6, h⟩ := ix_ck_some h
  obtain ⟨b_7, q_8, h⟩ := ix_bd1_ex h
  refine iz_getR X fl_RX6_13 k_6 q_8 (ix_tb_at tb_X6_layInto 15 rfl) (pc1 := 26) rfl ?_
  obtain ⟨k_9, h⟩ := ix_ck_some h
  refine iz_alen X k_9 (ix_tb_at tb_X6_layInto 16 rfl) (pc1 := 27) rfl ?_
  refine ix_icmp_ge (tgt := 48) X (ix_tb_at tb_X6_layInto 17 rfl) (by decide) (pc1 := 30) rfl (fun q_10 => ?_) (fun q_10 => ?_)
  · have h := ix_ift q_10 h
    refine ix_aload_n (i := 0) (j := 0) X (ix_tb_at tb_X6_layInto 28 rfl) rfl rfl (pc1 := 49) rfl ?_
    refine iz_getR X fl_RX6_13 k_6 q_8 (ix_tb_at tb_X6_layInto 29 rfl) (pc1 := 52) rfl ?_
    refine iz_alen X k_9 (ix_tb_at tb_X6_layInto 30 rfl) (pc1 := 53) rfl ?_
    refine ix_if_gt (tgt := 63) X (ix_tb_at tb_X6_layInto 31 rfl) (by decide) (pc1 := 56) rfl (fun q_11 => ?_) (fun q_11 => ?_)
    · have h := ix_ift q_11 h
      refine ix_sub (L1 := [(0, .ref (K.2.2.1 + a0)), (1, .ref (K.2.2.1 + a1)), (2, .int x2)]) [0, 1, 2] rfl ?_
      exact t_X6_layInto_63 hKp X hr hlk  h
    · have h := ix_iff q_11 h
      refine ix_aload_n (i := 0) (j := 0) X (ix_tb_at tb_X6_layInto 32 rfl) rfl rfl (pc1 := 57) rfl ?_
      refine iz_getI X fl_RX6_7 k_6 (ix_tb_at tb_X6_layInto 33 rfl) (pc1 := 60) rfl ?_
      refine ix_if_eq (tgt := 82) X (ix_tb_at tb_X6_layInto 34 rfl) (by decide) (pc1 := 63) rfl (fun q_17 => ?_) (fun q_17 => ?_)
      · have h := ix_ift q_17 h
        exact ix_vret X hr hlk (ix_r1 (g := ix_w z) h) (ix_tb_at tb_X6_layInto 46 rfl)
      · have h := ix_iff q_17 h
        refine ix_sub (L1 := [(0, .ref (K.2.2.1 + a0)), (1, .ref (K.2.2.1 + a1)), (2, .int x2)]) [0, 1, 2] rfl ?_
        exact t_X6_layInto_63 hKp X hr hlk  h
  · have h := ix_iff q_10 h
    refine ix_aload_n (i := 1) (j := 1) X (ix_tb_at tb_X6_layInto 18 rfl) rfl rfl (pc1 := 31) rfl ?_
    refine ix_iload_n (i := 2) (j := 2) X (ix_tb_at tb_X6_layInto 19 rfl) rfl rfl (pc1 := 32) rfl ?_
    refine ix_aload_n (i := 0) (j := 0) X (ix_tb_at tb_X6_layInto 20 rfl) rfl rfl (pc1 := 33) rfl ?_
    refine iz_getR X fl_RX6_13 k_6 q_8 (ix_tb_at tb_X6_layInto 21 rfl) (pc1 := 36) rfl ?_
    refine ix_iload_n (i := 3) (j := 3) X (ix_tb_at tb_X6_layInto 22 rfl) rfl rfl (pc1 := 37) rfl ?_
    obtain ⟨k_18, h⟩ := ix_ck_some h
    refine iz_iald X k_18 (ix_tb_at tb_X6_layInto 23 rfl) (pc1 := 38) rfl ?_
    obtain ⟨r_21, d_19, h_20, h⟩ := ix_bd2_ex h
    refine ix_callS (As := [.ref (K.2.2.1 + a1), .int x2, .int (d.1 b_7 (ix_n x3))]) (rest := []) X mf_X6_layPair st_X6_layPair ml_RX6_17 ⟨Nat.le_of_ble_eq_true rfl, Nat.le_of_ble_eq_true rfl⟩ ⟨Nat.le_of_ble_eq_true rfl, Nat.le_of_ble_eq_true rfl⟩ rfl (Nat.le_of_ble_eq_true rfl) (ix_tb_at tb_X6_layInto 24 rfl) (c_X6_layPair hKp h_20) rfl (pc1 := 41) rfl ?_
    refine ix_istore_n (i := 2) (L1 := [(2, .int r_21), (0, .ref (K.2.2.1 + a0)), (1, .ref (K.2.2.1 + a1)), (3, .int x3)]) X (ix_tb_at tb_X6_layInto 25 rfl) rfl (Nat.le_of_ble_eq_true rfl) rfl (pc1 := 42) rfl ?_
    obtain ⟨x3_22, e_23, h⟩ := ix_lt_ex h
    refine ix_iinc (i := 3) (j := 3) (v := x3_22) (L1 := [(3, .int x3_22), (2, .int r_21), (0, .ref (K.2.2.1 + a0)), (1, .ref (K.2.2.1 + a1))]) X (ix_tb_at tb_X6_layInto 26 rfl) rfl (by rw [oi_1]; exact e_23.symm) (Nat.le_of_ble_eq_true rfl) rfl (pc1 := 45) rfl ?_
    refine ix_goto (tgt := 21) X (ix_tb_at tb_X6_layInto 27 rfl) (by decide) ?_
    refine ix_sub (L1 := [(0, .ref (K.2.2.1 + a0)), (1, .ref (K.2.2.1 + a1)), (2, .int r_21), (3, .int x3_22)]) [2, 3, 1, 0] rfl ?_
    exact hrec21 r_21 x3_22 d_19 h
theorem t_X6_layInto_21 {l : Launch} {p : Program} {e : Env} {s : State} {m : MethodId} {args : Array Value} {below : List Frame} {meth : Method} {c : Code} {K : ix_Cx} (hKp : ix_Kp K) {n : Nat} {z : ix_Z} (X : ix_X p s m args c K cX6_layInto RX6 4) (hr : meth.sig.returnType = (none : Option Jvm.ClassFile.FieldType)) (hlk : meth.locks = false)  {a0 : Nat} {a1 : Nat} {d1 : ix_D2}  {x2 : Int32} {x3 : Int32} {d : ix_D2} (h : f_X6_layInto_21 n z  a0 a1 x2 x3 d = some d1) : ix_G p l e (ix_rm 5 117 0 0) s m args below meth c (MQ below (ix_Post K none (ix_w z d1)) args s 0 0 (ix_A K)) K 4 0 0 21 [(0, .ref (K.2.2.1 + a0)), (1, .ref (K.2.2.1 + a1)), (2, .int x2), (3, .int x3)] [] (ix_w z d) := by
  have key : ∀ (f : Nat) (x2 : Int32) (x3 : Int32) (d : ix_D2), ix_fix (b_X6_layInto_21 n z  a0 a1) (fun _ _ _ => none) f x2 x3 d = some d1 → ix_G p l e (ix_rm 5 117 0 0) s m args below meth c (MQ below (ix_Post K none (ix_w z d1)) args s 0 0 (ix_A K)) K 4 0 0 21 [(0, .ref (K.2.2.1 + a0)), (1, .ref (K.2.2.1 + a1)), (2, .int x2), (3, .int x3)] [] (ix_w z d) := by
    intro f
    induction f with
    | zero =>
      intro x2 x3 d h
      have h : (none : Option (ix_D2)) = some d1 := h
      cases h
    | succ f ih =>
      intro x2 x3 d h
      exact tb_X6_layInto_21 hKp X hr hlk (rec21 := ix_fix (b_X6_layInto_21 n z  a0 a1) (fun _ _ _ => none) f)  ih h
  exact key n x2 x3 d h
set_option maxRecDepth 20000 in
theorem t_X6_layInto_18 {l : Launch} {p : Program} {e : Env} {s : State} {m : MethodId} {args : Array Value} {below : List Frame} {meth : Method} {c : Code} {K : ix_Cx} (hKp : ix_Kp K) {n : Nat} {z : ix_Z} (X : ix_X p s m args c K cX6_layInto RX6 4) (hr : meth.sig.returnType = (none : Option Jvm.ClassFile.FieldType)) (hlk : meth.locks = false)  {a0 : Nat} {a1 : Nat} {s0 : Int32} {d1 : ix_D2}  {d : ix_D2} (h : f_X6_layInto_18 n z  a0 a1 s0 d = some d1) : ix_G p l e (ix_rm 5 117 0 0) s m args below meth c (MQ below (ix_Post K none (ix_w z d1)) args s 0 0 (ix_A K)) K 4 0 0 18 [(0, .ref (K.2.2.1 + a0)), (1, .ref (K.2.2.1 + a1))] [.int s0] (ix_w z d) := by
  unfold f_X6_layInto_18 at h
  refine ix_istore_n (i := 2) (L1 := [(2, .int s0), (0, .ref (K.2.2.1 + a0)), (1, .ref (K.2.2.1 + a1))]) X (ix_tb_at tb_X6_layInto 10 rfl) rfl (Nat.le_of_ble_eq_true rfl) rfl (pc1 := 19) rfl ?_
  refine ix_iconst (v := 1) X (ix_tb_at tb_X6_layInto 11 rfl) (by decide) (pc1 := 20) rfl ?_
  refine ix_istore_n (i := 3) (L1 := [(3, .int 1), (2, .int s0), (0, .ref (K.2.2.1 + a0)), (1, .ref (K.2.2.1 + a1))]) X (ix_tb_at tb_X6_layInto 12 rfl) rfl (Nat.le_of_ble_eq_true rfl) rfl (pc1 := 21) rfl ?_
  refine ix_sub (L1 := [(0, .ref (K.2.2.1 + a0)), (1, .ref (K.2.2.1 + a1)), (2, .int s0), (3, .int 1)]) [2, 3, 1, 0] rfl ?_
  exact t_X6_layInto_21 hKp X hr hlk  h
set_option maxRecDepth 20000 in
theorem c_X6_layInto {l : Launch} {K : ix_Cx} (hKp : ix_Kp K) {n : Nat} {z : ix_Z} {a0 : Nat} {a1 : Nat} {d : ix_D2} {d1 : ix_D2} (h : f_X6_layInto n z a0 a1 d = some d1) : ix_M l K yX6_layInto cX6_layInto 4 (none : Option Jvm.ClassFile.FieldType) 5 117 0 0 [.ref (K.2.2.1 + a0), .ref (K.2.2.1 + a1)] (ix_w z d) none (ix_w z d1) := by
  refine ix_met mf_X6_layInto hKp (Nat.le_of_ble_eq_true rfl) ?_
  intro p e s m args below meth c hr hlk hnm X
  have X : ix_X p s m args c K cX6_layInto RX6 4 := X
  show ix_G p l e (ix_rm 5 117 0 0) s m args below meth c (MQ below (ix_Post K none (ix_w z d1)) args s 0 0 (ix_A K)) K 4 0 0 0 [(0, .ref (K.2.2.1 + a0)), (1, .ref (K.2.2.1 + a1))] [] (ix_w z d)
  unfold f_X6_layInto at h
  refine ix_aload_n (i := 0) (j := 0) X (ix_tb_at tb_X6_layInto 0 rfl) rfl rfl (pc1 := 1) rfl ?_
  obtain ⟨k_1, h⟩ := ix_ck_some h
  obtain ⟨b_2, q_3, h⟩ := ix_bd1_ex h
  refine iz_getR X fl_RX6_13 k_1 q_3 (ix_tb_at tb_X6_layInto 1 rfl) (pc1 := 4) rfl ?_
  obtain ⟨k_4, h⟩ := ix_ck_some h
  refine iz_alen X k_4 (ix_tb_at tb_X6_layInto 2 rfl) (pc1 := 5) rfl ?_
  refine ix_if_le (tgt := 17) X (ix_tb_at tb_X6_layInto 3 rfl) (by decide) (pc1 := 8) rfl (fun q_5 => ?_) (fun q_5 => ?_)
  · have h := ix_ift q_5 h
    refine ix_iconst (v := 0) X (ix_tb_at tb_X6_layInto 9 rfl) (by decide) (pc1 := 18) rfl ?_
    refine ix_sub (L1 := [(0, .ref (K.2.2.1 + a0)), (1, .ref (K.2.2.1 + a1))]) [0, 1] rfl ?_
    exact t_X6_layInto_18 hKp X hr hlk  h
  · have h := ix_iff q_5 h
    refine ix_aload_n (i := 0) (j := 0) X (ix_tb_at tb_X6_layInto 4 rfl) rfl rfl (pc1 := 9) rfl ?_
    refine iz_getR X fl_RX6_13 k_1 q_3 (ix_tb_at tb_X6_layInto 5 rfl) (pc1 := 12) rfl ?_
    refine ix_iconst (v := 0) X (ix_tb_at tb_X6_layInto 6 rfl) (by decide) (pc1 := 13) rfl ?_
    obtain ⟨k_24, h⟩ := ix_ck_some h
    refine iz_iald X k_24 (ix_tb_at tb_X6_layInto 7 rfl) (pc1 := 14) rfl ?_
    refine ix_goto (tgt := 18) X (ix_tb_at tb_X6_layInto 8 rfl) (by decide) ?_
    refine ix_sub (L1 := [(0, .ref (K.2.2.1 + a0)), (1, .ref (K.2.2.1 + a1))]) [0, 1] rfl ?_
    exact t_X6_layInto_18 hKp X hr hlk  h
def tab_X6_holds : List (Nat × Instr × Nat) := [(0, .aload_n 2, 1), (1, .bipush 30, 2), (3, .invokevirtual 31, 3), (6, .aload_n 0, 1), (7, .aload_n 1, 1), (8, .invokevirtual 37, 3), (11, .iconst 2, 1), (12, .irem, 1), (13, .iconst 1, 1), (14, .if_icmp .ne 7, 3), (17, .iconst 1, 1), (18, .goto 4, 3), (21, .iconst 0, 1), (22, .aload_n 0, 1), (23, .getfield 7, 3), (26, .if_icmp .ne 7, 3), (29, .iconst 1, 1), (30, .goto 4, 3), (33, .iconst 0, 1), (34, .ireturn, 1)]
theorem tb_X6_holds : ix_tab cX6_holds tab_X6_holds := by
  unfold ix_tab
  decide +kernel
noncomputable def v_RX6_37 (n : Nat) (z : ix_Z) (b : Nat) (p0 : Nat) (d : ix_D2) : Option (Int32 × ix_D2) := f_X8_trueOnes n z b p0 d
theorem tv_RX6_37 {l : Launch} {p : Program} {e : Env} {s : State} {m : MethodId} {args : Array Value} {below : List Frame} {meth : Method} {c : Code} {K : ix_Cx} {R : Room} {Q : State → Prop} {nL k n pc : Nat} {cc : ByteArray} {L : List (Nat × Value)} {rest : List Value} (hKp : ix_Kp K) (X : ix_X p s m args c K cc RX6 nL) {N : Nat} {z : ix_Z} {b : Nat} {p0 : Nat} {d : ix_D2} {r : Int32} {d1 : ix_D2} (hk : ix_ok z [6] b) (hcall : v_RX6_37 N z b p0 d = some (r, d1)) (hfr : 3 ≤ R.frames) (hlo : 65 ≤ R.locals) (hcs : k + 0 ≤ R.cells ∧ n + 0 ≤ R.slots) (hrm : (rest.map fun v => v.category).sum ≤ 8) (hd : decode cc pc = .ok (.invokevirtual 37, 3)) {pc1 : Nat} (hp : pc + 3 = pc1) (kk : ix_G p l e R s m args below meth c Q K nL k n pc1 L (.int r :: rest) (ix_w z d1)) : ix_G p l e R s m args below meth c Q K nL k n pc L (.ref (K.2.2.1 + p0) :: .ref (K.2.2.1 + b) :: rest) (ix_w z d) := by
  unfold v_RX6_37 at hcall
  have h2 := hk.2
  simp only [List.mem_cons, List.not_mem_nil, or_false] at h2
  rcases h2 with h2
  · exact ix_callU (As := [.ref (K.2.2.1 + p0)]) (rest := rest) (x := (⟨"ClauseCourt$Parity", "trueOnes", "(LClauseCourt$Board;)I"⟩ : MethodName)) (owner := "ClauseCourt$Rule") (C := RX6) (T := TX6) (nf := 4) (ci := 6) X mf_X8_trueOnes mi_X8_trueOnes (ix_wm (i := 952) (by decide +kernel)) (ix_wm (i := 951) (by decide +kernel)) (Or.inl (ix_wm (i := 915) (by decide +kernel))) ⟨by decide, by decide⟩ (by decide +kernel) rfl (by decide) ml_RX6_37 ⟨Nat.le_trans (Nat.le_of_ble_eq_true rfl) hfr, Nat.le_trans (Nat.le_of_ble_eq_true rfl) hlo⟩ hcs rfl hrm hd ⟨hk.1, h2⟩ (c_X8_trueOnes hKp hcall) rfl hp kk
noncomputable def f_X6_holds_22 (n : Nat) (z : ix_Z)  (a0 : Nat) (s0 : Int32) (d : ix_D2) : Option (Int32 × ix_D2) :=
  ix_ck (ix_ok z [6] a0) (ix_if (s0 = d.1 a0 3) (some (1, d)) (some (0, d)))
noncomputable def f_X6_holds (n : Nat) (z : ix_Z) (a0 : Nat) (a1 : Nat) (a2 : Nat) (d : ix_D2) : Option (Int32 × ix_D2) :=
  ix_ck (ix_ok z [4] a2) (ix_bd1 (f_X4_note n z a2 30 d) (fun d_1 => ix_ck (ix_ok z [6] a0) (ix_bd2 (v_RX6_37 n z a0 a1 d_1) (fun r_7 d_5 => ix_if (r_7 - r_7 / 2 * 2 = 1) (f_X6_holds_22 n z  a0 1 d_5) (f_X6_holds_22 n z  a0 0 d_5)))))
set_option maxRecDepth 20000 in
theorem t_X6_holds_22 {l : Launch} {p : Program} {e : Env} {s : State} {m : MethodId} {args : Array Value} {below : List Frame} {meth : Method} {c : Code} {K : ix_Cx} (hKp : ix_Kp K) {n : Nat} {z : ix_Z} (X : ix_X p s m args c K cX6_holds RX6 3) (hr : meth.sig.returnType = (some .boolean)) (hlk : meth.locks = false)  {a0 : Nat} {s0 : Int32} {r : Int32} {d1 : ix_D2}  {d : ix_D2} (h : f_X6_holds_22 n z  a0 s0 d = some (r, d1)) : ix_G p l e (ix_rm 3 65 0 0) s m args below meth c (MQ below (ix_Post K (some (.int r)) (ix_w z d1)) args s 0 0 (ix_A K)) K 3 0 0 22 [(0, .ref (K.2.2.1 + a0))] [.int s0] (ix_w z d) := by
  unfold f_X6_holds_22 at h
  refine ix_aload_n (i := 0) (j := 0) X (ix_tb_at tb_X6_holds 13 rfl) rfl rfl (pc1 := 23) rfl ?_
  obtain ⟨k_9, h⟩ := ix_ck_some h
  refine iz_getI X fl_RX6_7 k_9 (ix_tb_at tb_X6_holds 14 rfl) (pc1 := 26) rfl ?_
  refine ix_icmp_ne (tgt := 33) X (ix_tb_at tb_X6_holds 15 rfl) (by decide) (pc1 := 29) rfl (fun q_10 => ?_) (fun q_10 => ?_)
  · have h := ix_iff q_10 h
    refine ix_iconst (v := 0) X (ix_tb_at tb_X6_holds 18 rfl) (by decide) (pc1 := 34) rfl ?_
    exact ix_zret X hr hlk (by decide) (ix_r2 (f := fun r => some (.int r)) (g := ix_w z) h) (ix_tb_at tb_X6_holds 19 rfl)
  · have h := ix_ift q_10 h
    refine ix_iconst (v := 1) X (ix_tb_at tb_X6_holds 16 rfl) (by decide) (pc1 := 30) rfl ?_
    refine ix_goto (tgt := 34) X (ix_tb_at tb_X6_holds 17 rfl) (by decide) ?_
    exact ix_zret X hr hlk (by decide) (ix_r2 (f := fun r => some (.int r)) (g := ix_w z) h) (ix_tb_at tb_X6_holds 19 rfl)
set_option maxRecDepth 20000 in
theorem c_X6_holds {l : Launch} {K : ix_Cx} (hKp : ix_Kp K) {n : Nat} {z : ix_Z} {a0 : Nat} {a1 : Nat} {a2 : Nat} {d : ix_D2} {r : Int32} {d1 : ix_D2} (h : f_X6_holds n z a0 a1 a2 d = some (r, d1)) : ix_M l K yX6_holds cX6_holds 3 (some .boolean) 3 65 0 0 [.ref (K.2.2.1 + a0), .ref (K.2.2.1 + a1), .ref (K.2.2.1 + a2)] (ix_w z d) (some (.int r)) (ix_w z d1) := by
  refine ix_met mf_X6_holds hKp (Nat.le_of_ble_eq_true rfl) ?_
  intro p e s m args below meth c hr hlk hnm X
  have X : ix_X p s m args c K cX6_holds RX6 3 := X
  show ix_G p l e (ix_rm 3 65 0 0) s m args below meth c (MQ below (ix_Post K (some (.int r)) (ix_w z d1)) args s 0 0 (ix_A K)) K 3 0 0 0 [(0, .ref (K.2.2.1 + a0)), (1, .ref (K.2.2.1 + a1)), (2, .ref (K.2.2.1 + a2))] [] (ix_w z d)
  unfold f_X6_holds at h
  refine ix_aload_n (i := 2) (j := 2) X (ix_tb_at tb_X6_holds 0 rfl) rfl rfl (pc1 := 1) rfl ?_
  refine ix_bipush (v := 30) X (ix_tb_at tb_X6_holds 1 rfl) (by decide) (pc1 := 3) rfl ?_
  obtain ⟨k_3, h⟩ := ix_ck_some h
  obtain ⟨d_1, h_2, h⟩ := ix_bd1_ex h
  refine ix_callV (As := [.int 30]) (rest := []) (ci := 4) (T := TX4) (nf := 17) X mf_X4_note mi_X4_note ms_X4_note rfl (Nat.le_of_ble_eq_true rfl) ml_RX6_31 ⟨Nat.le_of_ble_eq_true rfl, Nat.le_of_ble_eq_true rfl⟩ ⟨Nat.le_of_ble_eq_true rfl, Nat.le_of_ble_eq_true rfl⟩ rfl (Nat.le_of_ble_eq_true rfl) (ix_tb_at tb_X6_holds 2 rfl) ⟨k_3.1, List.mem_singleton.mp k_3.2⟩ (c_X4_note hKp h_2) rfl (pc1 := 6) rfl ?_
  refine ix_aload_n (i := 0) (j := 0) X (ix_tb_at tb_X6_holds 3 rfl) rfl rfl (pc1 := 7) rfl ?_
  refine ix_aload_n (i := 1) (j := 1) X (ix_tb_at tb_X6_holds 4 rfl) rfl rfl (pc1 := 8) rfl ?_
  obtain ⟨k_4, h⟩ := ix_ck_some h
  obtain ⟨r_7, d_5, h_6, h⟩ := ix_bd2_ex h
  refine tv_RX6_37 (rest := []) hKp X k_4 h_6 (Nat.le_of_ble_eq_true rfl) (Nat.le_of_ble_eq_true rfl) ⟨Nat.le_of_ble_eq_true rfl, Nat.le_of_ble_eq_true rfl⟩ (Nat.le_of_ble_eq_true rfl) (ix_tb_at tb_X6_holds 5 rfl) (pc1 := 11) rfl ?_
  refine ix_iconst (v := 2) X (ix_tb_at tb_X6_holds 6 rfl) (by decide) (pc1 := 12) rfl ?_
  refine ix_irem X (ix_tb_at tb_X6_holds 7 rfl) (by decide) (pc1 := 13) rfl ?_
  refine ix_iconst (v := 1) X (ix_tb_at tb_X6_holds 8 rfl) (by decide) (pc1 := 14) rfl ?_
  refine ix_icmp_ne (tgt := 21) X (ix_tb_at tb_X6_holds 9 rfl) (by decide) (pc1 := 17) rfl (fun q_8 => ?_) (fun q_8 => ?_)
  · have h := ix_iff q_8 h
    refine ix_iconst (v := 0) X (ix_tb_at tb_X6_holds 12 rfl) (by decide) (pc1 := 22) rfl ?_
    refine ix_sub (L1 := [(0, .ref (K.2.2.1 + a0))]) [0] rfl ?_
    exact t_X6_holds_22 hKp X hr hlk  h
  · have h := ix_ift q_8 h
    refine ix_iconst (v := 1) X (ix_tb_at tb_X6_holds 10 rfl) (by decide) (pc1 := 18) rfl ?_
    refine ix_goto (tgt := 22) X (ix_tb_at tb_X6_holds 11 rfl) (by decide) ?_
    refine ix_sub (L1 := [(0, .ref (K.2.2.1 + a0))]) [0] rfl ?_
    exact t_X6_holds_22 hKp X hr hlk  h
def tab_X6_fewest : List (Nat × Instr × Nat) := [(0, .aload_n 1, 1), (1, .bipush 31, 2), (3, .invokevirtual 31, 3), (6, .aload_n 0, 1), (7, .aload_n 1, 1), (8, .invokespecial 41, 3), (11, .aload_n 0, 1), (12, .getfield 7, 3), (15, .ifCond .eq 7, 3), (18, .iconst 1, 1), (19, .goto 4, 3), (22, .iconst 0, 1), (23, .iadd, 1), (24, .ireturn, 1)]
theorem tb_X6_fewest : ix_tab cX6_fewest tab_X6_fewest := by
  unfold ix_tab
  decide +kernel
noncomputable def v_RX6_41 (n : Nat) (z : ix_Z) (b : Nat) (p0 : Nat) (d : ix_D2) : Option (Int32 × ix_D2) := f_X8_fewest n z b p0 d
theorem tv_RX6_41 {l : Launch} {p : Program} {e : Env} {s : State} {m : MethodId} {args : Array Value} {below : List Frame} {meth : Method} {c : Code} {K : ix_Cx} {R : Room} {Q : State → Prop} {nL k n pc : Nat} {cc : ByteArray} {L : List (Nat × Value)} {rest : List Value} (hKp : ix_Kp K) (X : ix_X p s m args c K cc RX6 nL) {N : Nat} {z : ix_Z} {b : Nat} {p0 : Nat} {d : ix_D2} {r : Int32} {d1 : ix_D2} (hk : ix_ok z [6] b) (hcall : v_RX6_41 N z b p0 d = some (r, d1)) (hfr : 2 ≤ R.frames) (hlo : 42 ≤ R.locals) (hcs : k + 0 ≤ R.cells ∧ n + 0 ≤ R.slots) (hrm : (rest.map fun v => v.category).sum ≤ 8) (hd : decode cc pc = .ok (.invokespecial 41, 3)) {pc1 : Nat} (hp : pc + 3 = pc1) (kk : ix_G p l e R s m args below meth c Q K nL k n pc1 L (.int r :: rest) (ix_w z d1)) : ix_G p l e R s m args below meth c Q K nL k n pc L (.ref (K.2.2.1 + p0) :: .ref (K.2.2.1 + b) :: rest) (ix_w z d) := by
  unfold v_RX6_41 at hcall
  have h2 := hk.2
  simp only [List.mem_cons, List.not_mem_nil, or_false] at h2
  rcases h2 with h2
  · exact ix_callSU (As := [.ref (K.2.2.1 + p0)]) (rest := rest) (C := RX6) (T := TX6) (nf := 4) (ci := 6) X mf_X8_fewest mi_X8_fewest (ix_wm (i := 964) (by decide +kernel)) (ix_wm (i := 678) (by decide +kernel)) (by decide) rfl (by decide) ml_RX6_41 ⟨Nat.le_trans (Nat.le_of_ble_eq_true rfl) hfr, Nat.le_trans (Nat.le_of_ble_eq_true rfl) hlo⟩ hcs rfl hrm hd ⟨hk.1, h2⟩ (c_X8_fewest hKp hcall) rfl hp kk
noncomputable def f_X6_fewest_23 (n : Nat) (z : ix_Z)  (s0 : Int32) (s1 : Int32) (d : ix_D2) : Option (Int32 × ix_D2) :=
  some (s1 + s0, d)
noncomputable def f_X6_fewest (n : Nat) (z : ix_Z) (a0 : Nat) (a1 : Nat) (d : ix_D2) : Option (Int32 × ix_D2) :=
  ix_ck (ix_ok z [4] a1) (ix_bd1 (f_X4_note n z a1 31 d) (fun d_1 => ix_ck (ix_ok z [6] a0) (ix_bd2 (v_RX6_41 n z a0 a1 d_1) (fun r_7 d_5 => ix_if (d_5.1 a0 3 = 0) (f_X6_fewest_23 n z  0 r_7 d_5) (f_X6_fewest_23 n z  1 r_7 d_5)))))
set_option maxRecDepth 20000 in
theorem t_X6_fewest_23 {l : Launch} {p : Program} {e : Env} {s : State} {m : MethodId} {args : Array Value} {below : List Frame} {meth : Method} {c : Code} {K : ix_Cx} (hKp : ix_Kp K) {n : Nat} {z : ix_Z} (X : ix_X p s m args c K cX6_fewest RX6 2) (hr : meth.sig.returnType = (some .int)) (hlk : meth.locks = false)  {s0 : Int32} {s1 : Int32} {r : Int32} {d1 : ix_D2}  {d : ix_D2} (h : f_X6_fewest_23 n z  s0 s1 d = some (r, d1)) : ix_G p l e (ix_rm 2 42 0 0) s m args below meth c (MQ below (ix_Post K (some (.int r)) (ix_w z d1)) args s 0 0 (ix_A K)) K 2 0 0 23 [] [.int s0, .int s1] (ix_w z d) := by
  unfold f_X6_fewest_23 at h
  refine ix_iadd X (ix_tb_at tb_X6_fewest 12 rfl) (pc1 := 24) rfl ?_
  exact ix_iret X hr hlk (ix_r2 (f := fun r => some (.int r)) (g := ix_w z) h) (ix_tb_at tb_X6_fewest 13 rfl)
set_option maxRecDepth 20000 in
theorem c_X6_fewest {l : Launch} {K : ix_Cx} (hKp : ix_Kp K) {n : Nat} {z : ix_Z} {a0 : Nat} {a1 : Nat} {d : ix_D2} {r : Int32} {d1 : ix_D2} (h : f_X6_fewest n z a0 a1 d = some (r, d1)) : ix_M l K yX6_fewest cX6_fewest 2 (some .int) 2 42 0 0 [.ref (K.2.2.1 + a0), .ref (K.2.2.1 + a1)] (ix_w z d) (some (.int r)) (ix_w z d1) := by
  refine ix_met mf_X6_fewest hKp (Nat.le_of_ble_eq_true rfl) ?_
  intro p e s m args below meth c hr hlk hnm X
  have X : ix_X p s m args c K cX6_fewest RX6 2 := X
  show ix_G p l e (ix_rm 2 42 0 0) s m args below meth c (MQ below (ix_Post K (some (.int r)) (ix_w z d1)) args s 0 0 (ix_A K)) K 2 0 0 0 [(0, .ref (K.2.2.1 + a0)), (1, .ref (K.2.2.1 + a1))] [] (ix_w z d)
  unfold f_X6_fewest at h
  refine ix_aload_n (i := 1) (j := 1) X (ix_tb_at tb_X6_fewest 0 rfl) rfl rfl (pc1 := 1) rfl ?_
  refine ix_bipush (v := 31) X (ix_tb_at tb_X6_fewest 1 rfl) (by decide) (pc1 := 3) rfl ?_
  obtain ⟨k_3, h⟩ := ix_ck_some h
  obtain ⟨d_1, h_2, h⟩ := ix_bd1_ex h
  refine ix_callV (As := [.int 31]) (rest := []) (ci := 4) (T := TX4) (nf := 17) X mf_X4_note mi_X4_note ms_X4_note rfl (Nat.le_of_ble_eq_true rfl) ml_RX6_31 ⟨Nat.le_of_ble_eq_true rfl, Nat.le_of_ble_eq_true rfl⟩ ⟨Nat.le_of_ble_eq_true rfl, Nat.le_of_ble_eq_true rfl⟩ rfl (Nat.le_of_ble_eq_true rfl) (ix_tb_at tb_X6_fewest 2 rfl) ⟨k_3.1, List.mem_singleton.mp k_3.2⟩ (c_X4_note hKp h_2) rfl (pc1 := 6) rfl ?_
  refine ix_aload_n (i := 0) (j := 0) X (ix_tb_at tb_X6_fewest 3 rfl) rfl rfl (pc1 := 7) rfl ?_
  refine ix_aload_n (i := 1) (j := 1) X (ix_tb_at tb_X6_fewest 4 rfl) rfl rfl (pc1 := 8) rfl ?_
  obtain ⟨k_4, h⟩ := ix_ck_some h
  obtain ⟨r_7, d_5, h_6, h⟩ := ix_bd2_ex h
  refine tv_RX6_41 (rest := []) hKp X k_4 h_6 (Nat.le_of_ble_eq_true rfl) (Nat.le_of_ble_eq_true rfl) ⟨Nat.le_of_ble_eq_true rfl, Nat.le_of_ble_eq_true rfl⟩ (Nat.le_of_ble_eq_true rfl) (ix_tb_at tb_X6_fewest 5 rfl) (pc1 := 11) rfl ?_
  refine ix_aload_n (i := 0) (j := 0) X (ix_tb_at tb_X6_fewest 6 rfl) rfl rfl (pc1 := 12) rfl ?_
  refine iz_getI X fl_RX6_7 k_4 (ix_tb_at tb_X6_fewest 7 rfl) (pc1 := 15) rfl ?_
  refine ix_if_eq (tgt := 22) X (ix_tb_at tb_X6_fewest 8 rfl) (by decide) (pc1 := 18) rfl (fun q_8 => ?_) (fun q_8 => ?_)
  · have h := ix_ift q_8 h
    refine ix_iconst (v := 0) X (ix_tb_at tb_X6_fewest 11 rfl) (by decide) (pc1 := 23) rfl ?_
    refine ix_sub (L1 := []) [] rfl ?_
    exact t_X6_fewest_23 hKp X hr hlk  h
  · have h := ix_iff q_8 h
    refine ix_iconst (v := 1) X (ix_tb_at tb_X6_fewest 9 rfl) (by decide) (pc1 := 19) rfl ?_
    refine ix_goto (tgt := 23) X (ix_tb_at tb_X6_fewest 10 rfl) (by decide) ?_
    refine ix_sub (L1 := []) [] rfl ?_
    exact t_X6_fewest_23 hKp X hr hlk  h
def tab_X8_greatest : List (Nat × Instr × Nat) := [(0, .aload_n 1, 1), (1, .bipush 52, 2), (3, .invokevirtual 13, 3), (6, .aload_n 0, 1), (7, .getfield 7, 3), (10, .arraylength, 1), (11, .ireturn, 1)]
theorem tb_X8_greatest : ix_tab cX8_greatest tab_X8_greatest := by
  unfold ix_tab
  decide +kernel
noncomputable def f_X8_greatest (n : Nat) (z : ix_Z) (a0 : Nat) (a1 : Nat) (d : ix_D2) : Option (Int32 × ix_D2) :=
  ix_ck (ix_ok z [4] a1) (ix_bd1 (f_X4_note n z a1 52 d) (fun d_1 => ix_ck (ix_ok z [0, 3, 5, 6, 9] a0) (ix_bd1 (z.1 a0 0) (fun b_5 => ix_ck (b_5 < z.2.2 ∧ 20 ≤ (z.2.1 b_5).1 ∧ (z.2.1 b_5).1 < 26) (some (nI (z.2.1 b_5).2, d_1))))))
set_option maxRecDepth 20000 in
theorem c_X8_greatest {l : Launch} {K : ix_Cx} (hKp : ix_Kp K) {n : Nat} {z : ix_Z} {a0 : Nat} {a1 : Nat} {d : ix_D2} {r : Int32} {d1 : ix_D2} (h : f_X8_greatest n z a0 a1 d = some (r, d1)) : ix_M l K yX8_greatest cX8_greatest 2 (some .int) 1 21 0 0 [.ref (K.2.2.1 + a0), .ref (K.2.2.1 + a1)] (ix_w z d) (some (.int r)) (ix_w z d1) := by
  refine ix_met mf_X8_greatest hKp (Nat.le_of_ble_eq_true rfl) ?_
  intro p e s m args below meth c hr hlk hnm X
  have X : ix_X p s m args c K cX8_greatest RX8 2 := X
  show ix_G p l e (ix_rm 1 21 0 0) s m args below meth c (MQ below (ix_Post K (some (.int r)) (ix_w z d1)) args s 0 0 (ix_A K)) K 2 0 0 0 [(0, .ref (K.2.2.1 + a0)), (1, .ref (K.2.2.1 + a1))] [] (ix_w z d)
  unfold f_X8_greatest at h
  refine ix_aload_n (i := 1) (j := 1) X (ix_tb_at tb_X8_greatest 0 rfl) rfl rfl (pc1 := 1) rfl ?_
  refine ix_bipush (v := 52) X (ix_tb_at tb_X8_greatest 1 rfl) (by decide) (pc1 := 3) rfl ?_
  obtain ⟨k_3, h⟩ := ix_ck_some h
  obtain ⟨d_1, h_2, h⟩ := ix_bd1_ex h
  refine ix_callV (As := [.int 52]) (rest := []) (ci := 4) (T := TX4) (nf := 17) X mf_X4_note mi_X4_note ms_X4_note rfl (Nat.le_of_ble_eq_true rfl) ml_RX8_13 ⟨Nat.le_of_ble_eq_true rfl, Nat.le_of_ble_eq_true rfl⟩ ⟨Nat.le_of_ble_eq_true rfl, Nat.le_of_ble_eq_true rfl⟩ rfl (Nat.le_of_ble_eq_true rfl) (ix_tb_at tb_X8_greatest 2 rfl) ⟨k_3.1, List.mem_singleton.mp k_3.2⟩ (c_X4_note hKp h_2) rfl (pc1 := 6) rfl ?_
  refine ix_aload_n (i := 0) (j := 0) X (ix_tb_at tb_X8_greatest 3 rfl) rfl rfl (pc1 := 7) rfl ?_
  obtain ⟨k_4, h⟩ := ix_ck_some h
  obtain ⟨b_5, q_6, h⟩ := ix_bd1_ex h
  refine iz_getR X fl_RX8_7 k_4 q_6 (ix_tb_at tb_X8_greatest 4 rfl) (pc1 := 10) rfl ?_
  obtain ⟨k_7, h⟩ := ix_ck_some h
  refine iz_alen X k_7 (ix_tb_at tb_X8_greatest 5 rfl) (pc1 := 11) rfl ?_
  exact ix_iret X hr hlk (ix_r2 (f := fun r => some (.int r)) (g := ix_w z) h) (ix_tb_at tb_X8_greatest 6 rfl)
def tab_X6_greatest : List (Nat × Instr × Nat) := [(0, .aload_n 1, 1), (1, .bipush 32, 2), (3, .invokevirtual 31, 3), (6, .aload_n 0, 1), (7, .aload_n 1, 1), (8, .invokespecial 45, 3), (11, .istore_n 2, 1), (12, .iload_n 2, 1), (13, .iconst 2, 1), (14, .irem, 1), (15, .iconst 1, 1), (16, .if_icmp .ne 7, 3), (19, .iconst 1, 1), (20, .goto 4, 3), (23, .iconst 0, 1), (24, .aload_n 0, 1), (25, .getfield 7, 3), (28, .if_icmp .ne 7, 3), (31, .iload_n 2, 1), (32, .goto 6, 3), (35, .iload_n 2, 1), (36, .iconst 1, 1), (37, .isub, 1), (38, .ireturn, 1)]
theorem tb_X6_greatest : ix_tab cX6_greatest tab_X6_greatest := by
  unfold ix_tab
  decide +kernel
noncomputable def v_RX6_45 (n : Nat) (z : ix_Z) (b : Nat) (p0 : Nat) (d : ix_D2) : Option (Int32 × ix_D2) := f_X8_greatest n z b p0 d
theorem tv_RX6_45 {l : Launch} {p : Program} {e : Env} {s : State} {m : MethodId} {args : Array Value} {below : List Frame} {meth : Method} {c : Code} {K : ix_Cx} {R : Room} {Q : State → Prop} {nL k n pc : Nat} {cc : ByteArray} {L : List (Nat × Value)} {rest : List Value} (hKp : ix_Kp K) (X : ix_X p s m args c K cc RX6 nL) {N : Nat} {z : ix_Z} {b : Nat} {p0 : Nat} {d : ix_D2} {r : Int32} {d1 : ix_D2} (hk : ix_ok z [6] b) (hcall : v_RX6_45 N z b p0 d = some (r, d1)) (hfr : 2 ≤ R.frames) (hlo : 42 ≤ R.locals) (hcs : k + 0 ≤ R.cells ∧ n + 0 ≤ R.slots) (hrm : (rest.map fun v => v.category).sum ≤ 8) (hd : decode cc pc = .ok (.invokespecial 45, 3)) {pc1 : Nat} (hp : pc + 3 = pc1) (kk : ix_G p l e R s m args below meth c Q K nL k n pc1 L (.int r :: rest) (ix_w z d1)) : ix_G p l e R s m args below meth c Q K nL k n pc L (.ref (K.2.2.1 + p0) :: .ref (K.2.2.1 + b) :: rest) (ix_w z d) := by
  unfold v_RX6_45 at hcall
  have h2 := hk.2
  simp only [List.mem_cons, List.not_mem_nil, or_false] at h2
  rcases h2 with h2
  · exact ix_callSU (As := [.ref (K.2.2.1 + p0)]) (rest := rest) (C := RX6) (T := TX6) (nf := 4) (ci := 6) X mf_X8_greatest mi_X8_greatest (ix_wm (i := 985) (by decide +kernel)) (ix_wm (i := 678) (by decide +kernel)) (by decide) rfl (by decide) ml_RX6_45 ⟨Nat.le_trans (Nat.le_of_ble_eq_true rfl) hfr, Nat.le_trans (Nat.le_of_ble_eq_true rfl) hlo⟩ hcs rfl hrm hd ⟨hk.1, h2⟩ (c_X8_greatest hKp hcall) rfl hp kk
noncomputable def f_X6_greatest_24 (n : Nat) (z : ix_Z)  (a0 : Nat) (x2 : Int32) (s0 : Int32) (d : ix_D2) : Option (Int32 × ix_D2) :=
  ix_ck (ix_ok z [6] a0) (ix_if (s0 = d.1 a0 3) (some (x2, d)) (some (x2 - 1, d)))
noncomputable def f_X6_greatest (n : Nat) (z : ix_Z) (a0 : Nat) (a1 : Nat) (d : ix_D2) : Option (Int32 × ix_D2) :=
  ix_ck (ix_ok z [4] a1) (ix_bd1 (f_X4_note n z a1 32 d) (fun d_1 => ix_ck (ix_ok z [6] a0) (ix_bd2 (v_RX6_45 n z a0 a1 d_1) (fun r_7 d_5 => ix_if (r_7 - r_7 / 2 * 2 = 1) (f_X6_greatest_24 n z  a0 r_7 1 d_5) (f_X6_greatest_24 n z  a0 r_7 0 d_5)))))
set_option maxRecDepth 20000 in
theorem t_X6_greatest_24 {l : Launch} {p : Program} {e : Env} {s : State} {m : MethodId} {args : Array Value} {below : List Frame} {meth : Method} {c : Code} {K : ix_Cx} (hKp : ix_Kp K) {n : Nat} {z : ix_Z} (X : ix_X p s m args c K cX6_greatest RX6 3) (hr : meth.sig.returnType = (some .int)) (hlk : meth.locks = false)  {a0 : Nat} {x2 : Int32} {s0 : Int32} {r : Int32} {d1 : ix_D2}  {d : ix_D2} (h : f_X6_greatest_24 n z  a0 x2 s0 d = some (r, d1)) : ix_G p l e (ix_rm 2 42 0 0) s m args below meth c (MQ below (ix_Post K (some (.int r)) (ix_w z d1)) args s 0 0 (ix_A K)) K 3 0 0 24 [(0, .ref (K.2.2.1 + a0)), (2, .int x2)] [.int s0] (ix_w z d) := by
  unfold f_X6_greatest_24 at h
  refine ix_aload_n (i := 0) (j := 0) X (ix_tb_at tb_X6_greatest 15 rfl) rfl rfl (pc1 := 25) rfl ?_
  obtain ⟨k_9, h⟩ := ix_ck_some h
  refine iz_getI X fl_RX6_7 k_9 (ix_tb_at tb_X6_greatest 16 rfl) (pc1 := 28) rfl ?_
  refine ix_icmp_ne (tgt := 35) X (ix_tb_at tb_X6_greatest 17 rfl) (by decide) (pc1 := 31) rfl (fun q_10 => ?_) (fun q_10 => ?_)
  · have h := ix_iff q_10 h
    refine ix_iload_n (i := 2) (j := 1) X (ix_tb_at tb_X6_greatest 20 rfl) rfl rfl (pc1 := 36) rfl ?_
    refine ix_iconst (v := 1) X (ix_tb_at tb_X6_greatest 21 rfl) (by decide) (pc1 := 37) rfl ?_
    refine ix_isub X (ix_tb_at tb_X6_greatest 22 rfl) (pc1 := 38) rfl ?_
    exact ix_iret X hr hlk (ix_r2 (f := fun r => some (.int r)) (g := ix_w z) h) (ix_tb_at tb_X6_greatest 23 rfl)
  · have h := ix_ift q_10 h
    refine ix_iload_n (i := 2) (j := 1) X (ix_tb_at tb_X6_greatest 18 rfl) rfl rfl (pc1 := 32) rfl ?_
    refine ix_goto (tgt := 38) X (ix_tb_at tb_X6_greatest 19 rfl) (by decide) ?_
    exact ix_iret X hr hlk (ix_r2 (f := fun r => some (.int r)) (g := ix_w z) h) (ix_tb_at tb_X6_greatest 23 rfl)
set_option maxRecDepth 20000 in
theorem c_X6_greatest {l : Launch} {K : ix_Cx} (hKp : ix_Kp K) {n : Nat} {z : ix_Z} {a0 : Nat} {a1 : Nat} {d : ix_D2} {r : Int32} {d1 : ix_D2} (h : f_X6_greatest n z a0 a1 d = some (r, d1)) : ix_M l K yX6_greatest cX6_greatest 3 (some .int) 2 42 0 0 [.ref (K.2.2.1 + a0), .ref (K.2.2.1 + a1)] (ix_w z d) (some (.int r)) (ix_w z d1) := by
  refine ix_met mf_X6_greatest hKp (Nat.le_of_ble_eq_true rfl) ?_
  intro p e s m args below meth c hr hlk hnm X
  have X : ix_X p s m args c K cX6_greatest RX6 3 := X
  show ix_G p l e (ix_rm 2 42 0 0) s m args below meth c (MQ below (ix_Post K (some (.int r)) (ix_w z d1)) args s 0 0 (ix_A K)) K 3 0 0 0 [(0, .ref (K.2.2.1 + a0)), (1, .ref (K.2.2.1 + a1))] [] (ix_w z d)
  unfold f_X6_greatest at h
  refine ix_aload_n (i := 1) (j := 1) X (ix_tb_at tb_X6_greatest 0 rfl) rfl rfl (pc1 := 1) rfl ?_
  refine ix_bipush (v := 32) X (ix_tb_at tb_X6_greatest 1 rfl) (by decide) (pc1 := 3) rfl ?_
  obtain ⟨k_3, h⟩ := ix_ck_some h
  obtain ⟨d_1, h_2, h⟩ := ix_bd1_ex h
  refine ix_callV (As := [.int 32]) (rest := []) (ci := 4) (T := TX4) (nf := 17) X mf_X4_note mi_X4_note ms_X4_note rfl (Nat.le_of_ble_eq_true rfl) ml_RX6_31 ⟨Nat.le_of_ble_eq_true rfl, Nat.le_of_ble_eq_true rfl⟩ ⟨Nat.le_of_ble_eq_true rfl, Nat.le_of_ble_eq_true rfl⟩ rfl (Nat.le_of_ble_eq_true rfl) (ix_tb_at tb_X6_greatest 2 rfl) ⟨k_3.1, List.mem_singleton.mp k_3.2⟩ (c_X4_note hKp h_2) rfl (pc1 := 6) rfl ?_
  refine ix_aload_n (i := 0) (j := 0) X (ix_tb_at tb_X6_greatest 3 rfl) rfl rfl (pc1 := 7) rfl ?_
  refine ix_aload_n (i := 1) (j := 1) X (ix_tb_at tb_X6_greatest 4 rfl) rfl rfl (pc1 := 8) rfl ?_
  obtain ⟨k_4, h⟩ := ix_ck_some h
  obtain ⟨r_7, d_5, h_6, h⟩ := ix_bd2_ex h
  refine tv_RX6_45 (rest := []) hKp X k_4 h_6 (Nat.le_of_ble_eq_true rfl) (Nat.le_of_ble_eq_true rfl) ⟨Nat.le_of_ble_eq_true rfl, Nat.le_of_ble_eq_true rfl⟩ (Nat.le_of_ble_eq_true rfl) (ix_tb_at tb_X6_greatest 5 rfl) (pc1 := 11) rfl ?_
  refine ix_istore_n (i := 2) (L1 := [(2, .int r_7), (0, .ref (K.2.2.1 + a0)), (1, .ref (K.2.2.1 + a1))]) X (ix_tb_at tb_X6_greatest 6 rfl) rfl (Nat.le_of_ble_eq_true rfl) rfl (pc1 := 12) rfl ?_
  refine ix_iload_n (i := 2) (j := 0) X (ix_tb_at tb_X6_greatest 7 rfl) rfl rfl (pc1 := 13) rfl ?_
  refine ix_iconst (v := 2) X (ix_tb_at tb_X6_greatest 8 rfl) (by decide) (pc1 := 14) rfl ?_
  refine ix_irem X (ix_tb_at tb_X6_greatest 9 rfl) (by decide) (pc1 := 15) rfl ?_
  refine ix_iconst (v := 1) X (ix_tb_at tb_X6_greatest 10 rfl) (by decide) (pc1 := 16) rfl ?_
  refine ix_icmp_ne (tgt := 23) X (ix_tb_at tb_X6_greatest 11 rfl) (by decide) (pc1 := 19) rfl (fun q_8 => ?_) (fun q_8 => ?_)
  · have h := ix_iff q_8 h
    refine ix_iconst (v := 0) X (ix_tb_at tb_X6_greatest 14 rfl) (by decide) (pc1 := 24) rfl ?_
    refine ix_sub (L1 := [(0, .ref (K.2.2.1 + a0)), (2, .int r_7)]) [1, 0] rfl ?_
    exact t_X6_greatest_24 hKp X hr hlk  h
  · have h := ix_ift q_8 h
    refine ix_iconst (v := 1) X (ix_tb_at tb_X6_greatest 12 rfl) (by decide) (pc1 := 20) rfl ?_
    refine ix_goto (tgt := 24) X (ix_tb_at tb_X6_greatest 13 rfl) (by decide) ?_
    refine ix_sub (L1 := [(0, .ref (K.2.2.1 + a0)), (2, .int r_7)]) [1, 0] rfl ?_
    exact t_X6_greatest_24 hKp X hr hlk  h
def tab_X7_remove : List (Nat × Instr × Nat) := [(0, .aload_n 0, 1), (1, .iload_n 1, 1), (2, .invokevirtual 28, 3), (5, .ifCond .ne 4, 3), (8, .return_, 1), (9, .aload_n 0, 1), (10, .iload_n 1, 1), (11, .invokevirtual 32, 3), (14, .istore_n 2, 1), (15, .aload_n 0, 1), (16, .getfield 9, 3), (19, .aload_n 0, 1), (20, .getfield 15, 3), (23, .iload_n 1, 1), (24, .iconst 1, 1), (25, .iadd, 1), (26, .iaload, 1), (27, .aload_n 0, 1), (28, .getfield 9, 3), (31, .aload_n 0, 1), (32, .getfield 15, 3), (35, .iload_n 1, 1), (36, .iaload, 1), (37, .aload_n 0, 1), (38, .getfield 15, 3), (41, .aload_n 0, 1), (42, .getfield 18, 3), (45, .iaload, 1), (46, .aload_n 0, 1), (47, .getfield 15, 3), (50, .iload_n 1, 1), (51, .iconst 1, 1), (52, .iadd, 1), (53, .iaload, 1), (54, .isub, 1), (55, .invokestatic 22, 3), (58, .iload_n 1, 1), (59, .iconst 1, 1), (60, .iadd, 1), (61, .istore_n 3, 1), (62, .iload_n 3, 1), (63, .aload_n 0, 1), (64, .getfield 18, 3), (67, .if_icmp .ge 25, 3), (70, .aload_n 0, 1), (71, .getfield 15, 3), (74, .iload_n 3, 1), (75, .aload_n 0, 1), (76, .getfield 15, 3), (79, .iload_n 3, 1), (80, .iconst 1, 1), (81, .iadd, 1), (82, .iaload, 1), (83, .iload_n 2, 1), (84, .isub, 1), (85, .iastore, 1), (86, .iinc 3 1, 3), (89, .goto (-27), 3), (92, .aload_n 0, 1), (93, .dup, 1), (94, .getfield 18, 3), (97, .iconst 1, 1), (98, .isub, 1), (99, .putfield 18, 3), (102, .return_, 1)]
theorem tb_X7_remove : ix_tab cX7_remove tab_X7_remove := by
  unfold ix_tab
  decide +kernel
noncomputable def b_X7_remove_62 (n : Nat) (z : ix_Z)  (a0 : Nat) (x2 : Int32) (rec62 : Int32 → ix_D2 → Option (ix_D2)) (x3 : Int32) (d : ix_D2) : Option (ix_D2) :=
  ix_ck (ix_ok z [7] a0) (ix_if (d.1 a0 2 ≤ x3) (ix_lt (ix_di d a0 2 ((d.1 a0 2) - 1)) (fun d_23 => some d_23)) (ix_bd1 (z.1 a0 1) (fun b_25 => ix_ck (ix_ix z 20 b_25 (x3 + 1)) (ix_ck (ix_ix z 20 b_25 x3) (ix_lt (ix_di d b_25 (ix_n x3) ((d.1 b_25 (ix_n (x3 + 1))) - x2)) (fun d_29 => ix_lt (x3 + 1) (fun x3_31 => rec62 x3_31 d_29)))))))
noncomputable def f_X7_remove_62 (n : Nat) (z : ix_Z)  (a0 : Nat) (x2 : Int32) (x3 : Int32) (d : ix_D2) : Option (ix_D2) := ix_fix (b_X7_remove_62 n z  a0 x2) (fun _ _ => none) n x3 d
noncomputable def f_X7_remove (n : Nat) (z : ix_Z) (a0 : Nat) (x1 : Int32) (d : ix_D2) : Option (ix_D2) :=
  ix_ck (ix_ok z [7] a0) (ix_bd2 (f_X7_has n z a0 x1 d) (fun r_4 d_1 => ix_if (r_4 = 0) (some d_1) (ix_bd2 (f_X7_size n z a0 x1 d_1) (fun r_8 d_6 => ix_bd1 (z.1 a0 0) (fun b_9 => ix_bd1 (z.1 a0 1) (fun b_11 => ix_ck (ix_ix z 20 b_11 (x1 + 1)) (ix_ck (ix_ix z 20 b_11 x1) (ix_ck (ix_ix z 20 b_11 (d_6.1 a0 2)) (ix_ck (ix_cpk z 20 b_9 (d_6.1 b_11 (ix_n (x1 + 1))) b_9 (d_6.1 b_11 (ix_n x1)) ((d_6.1 b_11 (ix_n (d_6.1 a0 2))) - (d_6.1 b_11 (ix_n (x1 + 1))))) (ix_lt (ix_cpI d_6 b_9 b_9 (ix_n (d_6.1 b_11 (ix_n (x1 + 1)))) (ix_n (d_6.1 b_11 (ix_n x1))) (ix_n ((d_6.1 b_11 (ix_n (d_6.1 a0 2))) - (d_6.1 b_11 (ix_n (x1 + 1)))))) (fun d_17 => ix_lt (x1 + 1) (fun x3_19 => f_X7_remove_62 n z  a0 r_8 x3_19 d_17))))))))))))
set_option maxRecDepth 20000 in
theorem tb_X7_remove_62 {l : Launch} {p : Program} {e : Env} {s : State} {m : MethodId} {args : Array Value} {below : List Frame} {meth : Method} {c : Code} {K : ix_Cx} (hKp : ix_Kp K) {n : Nat} {z : ix_Z} (hsz : s.heap.size + 0 = K.2.2.1 + z.2.2) (X : ix_X p s m args c K cX7_remove RX7 4) (hr : meth.sig.returnType = (none : Option Jvm.ClassFile.FieldType)) (hlk : meth.locks = false)  {a0 : Nat} {x2 : Int32} {rec62 : Int32 → ix_D2 → Option (ix_D2)} {d1 : ix_D2} (hrec62 : ∀ (x3 : Int32) (d : ix_D2), rec62 x3 d = some d1 → ix_G p l e (ix_rm 2 42 0 0) s m args below meth c (MQ below (ix_Post K none (ix_w z d1)) args s 0 0 (ix_A K)) K 4 0 0 62 [(0, .ref (K.2.2.1 + a0)), (2, .int x2), (3, .int x3)] [] (ix_w z d)) {x3 : Int32} {d : ix_D2} (h : b_X7_remove_62 n z  a0 x2 rec62 x3 d = some d1) : ix_G p l e (ix_rm 2 42 0 0) s m args below meth c (MQ below (ix_Post K none (ix_w z d1)) args s 0 0 (ix_A K)) K 4 0 0 62 [(0, .ref (K.2.2.1 + a0)), (2, .int x2), (3, .int x3)] [] (ix_w z d) := by
  unfold b_X7_remove_62 at h
  refine ix_iload_n (i := 3) (j := 2) X (ix_tb_at tb_X7_remove 40 rfl) rfl rfl (pc1 := 63) rfl ?_
  refine ix_aload_n (i := 0) (j := 0) X (ix_tb_at tb_X7_remove 41 rfl) rfl rfl (pc1 := 64) rfl ?_
  obtain ⟨k_21, h⟩ := ix_ck_some h
  refine iz_getI X fl_RX7_18 k_21 (ix_tb_at tb_X7_remove 42 rfl) (pc1 := 67) rfl ?_
  refine ix_icmp_ge (tgt := 92) X (ix_tb_at tb_X7_remove 43 rfl) (by decide) (pc1 := 70) rfl (fun q_22 => ?_) (fun q_22 => ?_)
  · have h := ix_ift q_22 h
    refine ix_aload_n (i := 0) (j := 0) X (ix_tb_at tb_X7_remove 58 rfl) rfl rfl (pc1 := 93) rfl ?_
    refine ix_dup X (ix_tb_at tb_X7_remove 59 rfl) rfl (pc1 := 94) rfl ?_
    refine iz_getI X fl_RX7_18 k_21 (ix_tb_at tb_X7_remove 60 rfl) (pc1 := 97) rfl ?_
    refine ix_iconst (v := 1) X (ix_tb_at tb_X7_remove 61 rfl) (by decide) (pc1 := 98) rfl ?_
    refine ix_isub X (ix_tb_at tb_X7_remove 62 rfl) (pc1 := 99) rfl ?_
    obtain ⟨d_23, e_24, h⟩ := ix_lt_ex h
    refine iz_putI X fp_RX7_18 k_21 (ix_tb_at tb_X7_remove 63 rfl) e_24 (pc1 := 102) rfl ?_
    exact ix_vret X hr hlk (ix_r1 (g := ix_w z) h) (ix_tb_at tb_X7_remove 64 rfl)
  · have h := ix_iff q_22 h
    refine ix_aload_n (i := 0) (j := 0) X (ix_tb_at tb_X7_remove 44 rfl) rfl rfl (pc1 := 71) rfl ?_
    obtain ⟨b_25, q_26, h⟩ := ix_bd1_ex h
    refine iz_getR X fl_RX7_15 k_21 q_26 (ix_tb_at tb_X7_remove 45 rfl) (pc1 := 74) rfl ?_
    refine ix_iload_n (i := 3) (j := 2) X (ix_tb_at tb_X7_remove 46 rfl) rfl rfl (pc1 := 75) rfl ?_
    refine ix_aload_n (i := 0) (j := 0) X (ix_tb_at tb_X7_remove 47 rfl) rfl rfl (pc1 := 76) rfl ?_
    refine iz_getR X fl_RX7_15 k_21 q_26 (ix_tb_at tb_X7_remove 48 rfl) (pc1 := 79) rfl ?_
    refine ix_iload_n (i := 3) (j := 2) X (ix_tb_at tb_X7_remove 49 rfl) rfl rfl (pc1 := 80) rfl ?_
    refine ix_iconst (v := 1) X (ix_tb_at tb_X7_remove 50 rfl) (by decide) (pc1 := 81) rfl ?_
    refine ix_iadd X (ix_tb_at tb_X7_remove 51 rfl) (pc1 := 82) rfl ?_
    obtain ⟨k_27, h⟩ := ix_ck_some h
    refine iz_iald X k_27 (ix_tb_at tb_X7_remove 52 rfl) (pc1 := 83) rfl ?_
    refine ix_iload_n (i := 2) (j := 1) X (ix_tb_at tb_X7_remove 53 rfl) rfl rfl (pc1 := 84) rfl ?_
    refine ix_isub X (ix_tb_at tb_X7_remove 54 rfl) (pc1 := 85) rfl ?_
    obtain ⟨k_28, h⟩ := ix_ck_some h
    obtain ⟨d_29, e_30, h⟩ := ix_lt_ex h
    refine iz_iast X k_28 (ix_tb_at tb_X7_remove 55 rfl) e_30 (pc1 := 86) rfl ?_
    obtain ⟨x3_31, e_32, h⟩ := ix_lt_ex h
    refine ix_iinc (i := 3) (j := 2) (v := x3_31) (L1 := [(3, .int x3_31), (0, .ref (K.2.2.1 + a0)), (2, .int x2)]) X (ix_tb_at tb_X7_remove 56 rfl) rfl (by rw [oi_1]; exact e_32.symm) (Nat.le_of_ble_eq_true rfl) rfl (pc1 := 89) rfl ?_
    refine ix_goto (tgt := 62) X (ix_tb_at tb_X7_remove 57 rfl) (by decide) ?_
    refine ix_sub (L1 := [(0, .ref (K.2.2.1 + a0)), (2, .int x2), (3, .int x3_31)]) [1, 2, 0] rfl ?_
    exact hrec62 x3_31 d_29 h
theorem t_X7_remove_62 {l : Launch} {p : Program} {e : Env} {s : State} {m : MethodId} {args : Array Value} {below : List Frame} {meth : Method} {c : Code} {K : ix_Cx} (hKp : ix_Kp K) {n : Nat} {z : ix_Z} (hsz : s.heap.size + 0 = K.2.2.1 + z.2.2) (X : ix_X p s m args c K cX7_remove RX7 4) (hr : meth.sig.returnType = (none : Option Jvm.ClassFile.FieldType)) (hlk : meth.locks = false)  {a0 : Nat} {x2 : Int32} {d1 : ix_D2}  {x3 : Int32} {d : ix_D2} (h : f_X7_remove_62 n z  a0 x2 x3 d = some d1) : ix_G p l e (ix_rm 2 42 0 0) s m args below meth c (MQ below (ix_Post K none (ix_w z d1)) args s 0 0 (ix_A K)) K 4 0 0 62 [(0, .ref (K.2.2.1 + a0)), (2, .int x2), (3, .int x3)] [] (ix_w z d) := by
  have key : ∀ (f : Nat) (x3 : Int32) (d : ix_D2), ix_fix (b_X7_remove_62 n z  a0 x2) (fun _ _ => none) f x3 d = some d1 → ix_G p l e (ix_rm 2 42 0 0) s m args below meth c (MQ below (ix_Post K none (ix_w z d1)) args s 0 0 (ix_A K)) K 4 0 0 62 [(0, .ref (K.2.2.1 + a0)), (2, .int x2), (3, .int x3)] [] (ix_w z d) := by
    intro f
    induction f with
    | zero =>
      intro x3 d h
      have h : (none : Option (ix_D2)) = some d1 := h
      cases h
    | succ f ih =>
      intro x3 d h
      exact tb_X7_remove_62 hKp hsz X hr hlk (rec62 := ix_fix (b_X7_remove_62 n z  a0 x2) (fun _ _ => none) f)  ih h
  exact key n x3 d h
set_option maxRecDepth 20000 in
theorem c_X7_remove {l : Launch} {K : ix_Cx} (hKp : ix_Kp K) {n : Nat} {z : ix_Z} {a0 : Nat} {x1 : Int32} {d : ix_D2} {d1 : ix_D2} (h : f_X7_remove n z a0 x1 d = some d1) : ix_M l K yX7_remove cX7_remove 4 (none : Option Jvm.ClassFile.FieldType) 2 42 0 0 [.ref (K.2.2.1 + a0), .int x1] (ix_w z d) none (ix_w z d1) := by
  refine ix_met2 mf_X7_remove hKp (Nat.le_of_ble_eq_true rfl) ?_
  intro p e s m args below meth c hr hlk hnm hsz X
  have X : ix_X p s m args c K cX7_remove RX7 4 := X
  show ix_G p l e (ix_rm 2 42 0 0) s m args below meth c (MQ below (ix_Post K none (ix_w z d1)) args s 0 0 (ix_A K)) K 4 0 0 0 [(0, .ref (K.2.2.1 + a0)), (1, .int x1)] [] (ix_w z d)
  unfold f_X7_remove at h
  refine ix_aload_n (i := 0) (j := 0) X (ix_tb_at tb_X7_remove 0 rfl) rfl rfl (pc1 := 1) rfl ?_
  refine ix_iload_n (i := 1) (j := 1) X (ix_tb_at tb_X7_remove 1 rfl) rfl rfl (pc1 := 2) rfl ?_
  obtain ⟨k_3, h⟩ := ix_ck_some h
  obtain ⟨r_4, d_1, h_2, h⟩ := ix_bd2_ex h
  refine ix_callV (As := [.int x1]) (rest := []) (ci := 7) (T := TX7) (nf := 3) X mf_X7_has mi_X7_has ms_X7_has rfl (Nat.le_of_ble_eq_true rfl) ml_RX7_28 ⟨Nat.le_of_ble_eq_true rfl, Nat.le_of_ble_eq_true rfl⟩ ⟨Nat.le_of_ble_eq_true rfl, Nat.le_of_ble_eq_true rfl⟩ rfl (Nat.le_of_ble_eq_true rfl) (ix_tb_at tb_X7_remove 2 rfl) ⟨k_3.1, List.mem_singleton.mp k_3.2⟩ (c_X7_has hKp h_2) rfl (pc1 := 5) rfl ?_
  refine ix_if_ne (tgt := 9) X (ix_tb_at tb_X7_remove 3 rfl) (by decide) (pc1 := 8) rfl (fun q_5 => ?_) (fun q_5 => ?_)
  · have h := ix_iff q_5 h
    refine ix_aload_n (i := 0) (j := 0) X (ix_tb_at tb_X7_remove 5 rfl) rfl rfl (pc1 := 10) rfl ?_
    refine ix_iload_n (i := 1) (j := 1) X (ix_tb_at tb_X7_remove 6 rfl) rfl rfl (pc1 := 11) rfl ?_
    obtain ⟨r_8, d_6, h_7, h⟩ := ix_bd2_ex h
    refine ix_callV (As := [.int x1]) (rest := []) (ci := 7) (T := TX7) (nf := 3) X mf_X7_size mi_X7_size ms_X7_size rfl (Nat.le_of_ble_eq_true rfl) ml_RX7_32 ⟨Nat.le_of_ble_eq_true rfl, Nat.le_of_ble_eq_true rfl⟩ ⟨Nat.le_of_ble_eq_true rfl, Nat.le_of_ble_eq_true rfl⟩ rfl (Nat.le_of_ble_eq_true rfl) (ix_tb_at tb_X7_remove 7 rfl) ⟨k_3.1, List.mem_singleton.mp k_3.2⟩ (c_X7_size hKp h_7) rfl (pc1 := 14) rfl ?_
    refine ix_istore_n (i := 2) (L1 := [(2, .int r_8), (0, .ref (K.2.2.1 + a0)), (1, .int x1)]) X (ix_tb_at tb_X7_remove 8 rfl) rfl (Nat.le_of_ble_eq_true rfl) rfl (pc1 := 15) rfl ?_
    refine ix_aload_n (i := 0) (j := 1) X (ix_tb_at tb_X7_remove 9 rfl) rfl rfl (pc1 := 16) rfl ?_
    obtain ⟨b_9, q_10, h⟩ := ix_bd1_ex h
    refine iz_getR X fl_RX7_9 k_3 q_10 (ix_tb_at tb_X7_remove 10 rfl) (pc1 := 19) rfl ?_
    refine ix_aload_n (i := 0) (j := 1) X (ix_tb_at tb_X7_remove 11 rfl) rfl rfl (pc1 := 20) rfl ?_
    obtain ⟨b_11, q_12, h⟩ := ix_bd1_ex h
    refine iz_getR X fl_RX7_15 k_3 q_12 (ix_tb_at tb_X7_remove 12 rfl) (pc1 := 23) rfl ?_
    refine ix_iload_n (i := 1) (j := 2) X (ix_tb_at tb_X7_remove 13 rfl) rfl rfl (pc1 := 24) rfl ?_
    refine ix_iconst (v := 1) X (ix_tb_at tb_X7_remove 14 rfl) (by decide) (pc1 := 25) rfl ?_
    refine ix_iadd X (ix_tb_at tb_X7_remove 15 rfl) (pc1 := 26) rfl ?_
    obtain ⟨k_13, h⟩ := ix_ck_some h
    refine iz_iald X k_13 (ix_tb_at tb_X7_remove 16 rfl) (pc1 := 27) rfl ?_
    refine ix_aload_n (i := 0) (j := 1) X (ix_tb_at tb_X7_remove 17 rfl) rfl rfl (pc1 := 28) rfl ?_
    refine iz_getR X fl_RX7_9 k_3 q_10 (ix_tb_at tb_X7_remove 18 rfl) (pc1 := 31) rfl ?_
    refine ix_aload_n (i := 0) (j := 1) X (ix_tb_at tb_X7_remove 19 rfl) rfl rfl (pc1 := 32) rfl ?_
    refine iz_getR X fl_RX7_15 k_3 q_12 (ix_tb_at tb_X7_remove 20 rfl) (pc1 := 35) rfl ?_
    refine ix_iload_n (i := 1) (j := 2) X (ix_tb_at tb_X7_remove 21 rfl) rfl rfl (pc1 := 36) rfl ?_
    obtain ⟨k_14, h⟩ := ix_ck_some h
    refine iz_iald X k_14 (ix_tb_at tb_X7_remove 22 rfl) (pc1 := 37) rfl ?_
    refine ix_aload_n (i := 0) (j := 1) X (ix_tb_at tb_X7_remove 23 rfl) rfl rfl (pc1 := 38) rfl ?_
    refine iz_getR X fl_RX7_15 k_3 q_12 (ix_tb_at tb_X7_remove 24 rfl) (pc1 := 41) rfl ?_
    refine ix_aload_n (i := 0) (j := 1) X (ix_tb_at tb_X7_remove 25 rfl) rfl rfl (pc1 := 42) rfl ?_
    refine iz_getI X fl_RX7_18 k_3 (ix_tb_at tb_X7_remove 26 rfl) (pc1 := 45) rfl ?_
    obtain ⟨k_15, h⟩ := ix_ck_some h
    refine iz_iald X k_15 (ix_tb_at tb_X7_remove 27 rfl) (pc1 := 46) rfl ?_
    refine ix_aload_n (i := 0) (j := 1) X (ix_tb_at tb_X7_remove 28 rfl) rfl rfl (pc1 := 47) rfl ?_
    refine iz_getR X fl_RX7_15 k_3 q_12 (ix_tb_at tb_X7_remove 29 rfl) (pc1 := 50) rfl ?_
    refine ix_iload_n (i := 1) (j := 2) X (ix_tb_at tb_X7_remove 30 rfl) rfl rfl (pc1 := 51) rfl ?_
    refine ix_iconst (v := 1) X (ix_tb_at tb_X7_remove 31 rfl) (by decide) (pc1 := 52) rfl ?_
    refine ix_iadd X (ix_tb_at tb_X7_remove 32 rfl) (pc1 := 53) rfl ?_
    refine iz_iald X k_13 (ix_tb_at tb_X7_remove 33 rfl) (pc1 := 54) rfl ?_
    refine ix_isub X (ix_tb_at tb_X7_remove 34 rfl) (pc1 := 55) rfl ?_
    obtain ⟨k_16, h⟩ := ix_ck_some h
    obtain ⟨d_17, e_18, h⟩ := ix_lt_ex h
    refine iz_copyI X hsz (Or.inl rfl) ml_RX7_22 k_16 (Nat.le_of_ble_eq_true rfl) (Nat.le_of_ble_eq_true rfl) (ix_tb_at tb_X7_remove 35 rfl) e_18 (pc1 := 58) rfl ?_
    refine ix_iload_n (i := 1) (j := 2) X (ix_tb_at tb_X7_remove 36 rfl) rfl rfl (pc1 := 59) rfl ?_
    refine ix_iconst (v := 1) X (ix_tb_at tb_X7_remove 37 rfl) (by decide) (pc1 := 60) rfl ?_
    refine ix_iadd X (ix_tb_at tb_X7_remove 38 rfl) (pc1 := 61) rfl ?_
    obtain ⟨x3_19, e_20, h⟩ := ix_lt_ex h
    refine ix_nmi e_20 ?_
    refine ix_istore_n (i := 3) (L1 := [(3, .int x3_19), (2, .int r_8), (0, .ref (K.2.2.1 + a0)), (1, .int x1)]) X (ix_tb_at tb_X7_remove 39 rfl) rfl (Nat.le_of_ble_eq_true rfl) rfl (pc1 := 62) rfl ?_
    refine ix_sub (L1 := [(0, .ref (K.2.2.1 + a0)), (2, .int r_8), (3, .int x3_19)]) [2, 1, 0] rfl ?_
    exact t_X7_remove_62 hKp hsz X hr hlk  h
  · have h := ix_ift q_5 h
    exact ix_vret X hr hlk (ix_r1 (g := ix_w z) h) (ix_tb_at tb_X7_remove 4 rfl)
def tab_X8_laid : List (Nat × Instr × Nat) := [(0, .aload_n 1, 1), (1, .bipush 53, 2), (3, .invokevirtual 13, 3), (6, .aload_n 0, 1), (7, .getfield 19, 3), (10, .ireturn, 1)]
theorem tb_X8_laid : ix_tab cX8_laid tab_X8_laid := by
  unfold ix_tab
  decide +kernel
noncomputable def f_X8_laid (n : Nat) (z : ix_Z) (a0 : Nat) (a1 : Nat) (d : ix_D2) : Option (Int32 × ix_D2) :=
  ix_ck (ix_ok z [4] a1) (ix_bd1 (f_X4_note n z a1 53 d) (fun d_1 => ix_ck (ix_ok z [0, 3, 5, 6, 9] a0) (some (d_1.1 a0 2, d_1))))
set_option maxRecDepth 20000 in
theorem c_X8_laid {l : Launch} {K : ix_Cx} (hKp : ix_Kp K) {n : Nat} {z : ix_Z} {a0 : Nat} {a1 : Nat} {d : ix_D2} {r : Int32} {d1 : ix_D2} (h : f_X8_laid n z a0 a1 d = some (r, d1)) : ix_M l K yX8_laid cX8_laid 2 (some .int) 1 21 0 0 [.ref (K.2.2.1 + a0), .ref (K.2.2.1 + a1)] (ix_w z d) (some (.int r)) (ix_w z d1) := by
  refine ix_met mf_X8_laid hKp (Nat.le_of_ble_eq_true rfl) ?_
  intro p e s m args below meth c hr hlk hnm X
  have X : ix_X p s m args c K cX8_laid RX8 2 := X
  show ix_G p l e (ix_rm 1 21 0 0) s m args below meth c (MQ below (ix_Post K (some (.int r)) (ix_w z d1)) args s 0 0 (ix_A K)) K 2 0 0 0 [(0, .ref (K.2.2.1 + a0)), (1, .ref (K.2.2.1 + a1))] [] (ix_w z d)
  unfold f_X8_laid at h
  refine ix_aload_n (i := 1) (j := 1) X (ix_tb_at tb_X8_laid 0 rfl) rfl rfl (pc1 := 1) rfl ?_
  refine ix_bipush (v := 53) X (ix_tb_at tb_X8_laid 1 rfl) (by decide) (pc1 := 3) rfl ?_
  obtain ⟨k_3, h⟩ := ix_ck_some h
  obtain ⟨d_1, h_2, h⟩ := ix_bd1_ex h
  refine ix_callV (As := [.int 53]) (rest := []) (ci := 4) (T := TX4) (nf := 17) X mf_X4_note mi_X4_note ms_X4_note rfl (Nat.le_of_ble_eq_true rfl) ml_RX8_13 ⟨Nat.le_of_ble_eq_true rfl, Nat.le_of_ble_eq_true rfl⟩ ⟨Nat.le_of_ble_eq_true rfl, Nat.le_of_ble_eq_true rfl⟩ rfl (Nat.le_of_ble_eq_true rfl) (ix_tb_at tb_X8_laid 2 rfl) ⟨k_3.1, List.mem_singleton.mp k_3.2⟩ (c_X4_note hKp h_2) rfl (pc1 := 6) rfl ?_
  refine ix_aload_n (i := 0) (j := 0) X (ix_tb_at tb_X8_laid 3 rfl) rfl rfl (pc1 := 7) rfl ?_
  obtain ⟨k_4, h⟩ := ix_ck_some h
  refine iz_getI X fl_RX8_19 k_4 (ix_tb_at tb_X8_laid 4 rfl) (pc1 := 10) rfl ?_
  exact ix_iret X hr hlk (ix_r2 (f := fun r => some (.int r)) (g := ix_w z) h) (ix_tb_at tb_X8_laid 5 rfl)
def tab_X9_openBoard : List (Nat × Instr × Nat) := [(0, .aload_n 0, 1), (1, .getfield 12, 3), (4, .aload_n 1, 1), (5, .getfield 68, 3), (8, .invokevirtual 74, 3), (11, .iconst 1, 1), (12, .istore_n 2, 1), (13, .iload_n 2, 1), (14, .aload_n 1, 1), (15, .getfield 68, 3), (18, .if_icmp .gt 22, 3), (21, .aload_n 0, 1), (22, .getfield 27, 3), (25, .iload_n 2, 1), (26, .aload_n 1, 1), (27, .getfield 78, 3), (30, .iload_n 2, 1), (31, .iaload, 1), (32, .i2l, 1), (33, .lastore, 1), (34, .iinc 2 1, 3), (37, .goto (-24), 3), (40, .aload_n 0, 1), (41, .ldc2_w 80, 3), (44, .putfield 82, 3), (47, .aload_n 0, 1), (48, .iconst 0, 1), (49, .putfield 86, 3), (52, .aload_n 0, 1), (53, .aload_n 1, 1), (54, .getfield 89, 3), (57, .putfield 92, 3), (60, .aload_n 0, 1), (61, .aload_n 1, 1), (62, .getfield 93, 3), (65, .putfield 96, 3), (68, .aload_n 0, 1), (69, .iconst 0, 1), (70, .putfield 97, 3), (73, .aload_n 0, 1), (74, .getfield 47, 3), (77, .iconst 0, 1), (78, .invokestatic 62, 3), (81, .aload_n 0, 1), (82, .getfield 50, 3), (85, .sipush (-1005), 3), (88, .invokestatic 62, 3), (91, .return_, 1)]
theorem tb_X9_openBoard : ix_tab cX9_openBoard tab_X9_openBoard := by
  unfold ix_tab
  decide +kernel
noncomputable def b_X9_openBoard_13 (n : Nat) (z : ix_Z)  (a0 : Nat) (a1 : Nat) (rec13 : Int32 → ix_D2 → Option (ix_D2)) (x2 : Int32) (d : ix_D2) : Option (ix_D2) :=
  ix_ck (ix_ok z [2] a1) (ix_if (d.1 a1 5 < x2) (ix_ck (ix_ok z [8] a0) (ix_lt (ix_dj d a0 3 64) (fun d_11 => ix_lt (ix_di d_11 a0 5 0) (fun d_13 => ix_lt (ix_di d_13 a0 17 (d_13.1 a1 8)) (fun d_15 => ix_lt (ix_di d_15 a0 18 (d_15.1 a1 9)) (fun d_17 => ix_lt (ix_di d_17 a0 19 0) (fun d_19 => ix_bd1 (z.1 a0 10) (fun b_21 => ix_bd1 (f_J7_fill_53178 n z b_21 0 d_19) (fun d_23 => ix_bd1 (z.1 a0 11) (fun b_25 => ix_bd1 (f_J7_fill_53178 n z b_25 ((-1005)) d_23) (fun d_27 => some d_27))))))))))) (ix_ck (ix_ok z [8] a0) (ix_bd1 (z.1 a0 2) (fun b_30 => ix_bd1 (z.1 a1 1) (fun b_32 => ix_ck (ix_ix z 20 b_32 x2) (ix_ck (ix_ix z 23 b_30 x2) (ix_lt (ix_dj d b_30 (ix_n x2) ((d.1 b_32 (ix_n x2)).toInt64)) (fun d_36 => ix_lt (x2 + 1) (fun x2_38 => rec13 x2_38 d_36)))))))))
noncomputable def f_X9_openBoard_13 (n : Nat) (z : ix_Z)  (a0 : Nat) (a1 : Nat) (x2 : Int32) (d : ix_D2) : Option (ix_D2) := ix_fix (b_X9_openBoard_13 n z  a0 a1) (fun _ _ => none) n x2 d
noncomputable def f_X9_openBoard (n : Nat) (z : ix_Z) (a0 : Nat) (a1 : Nat) (d : ix_D2) : Option (ix_D2) :=
  ix_ck (ix_ok z [8] a0) (ix_bd1 (z.1 a0 0) (fun b_2 => ix_ck (ix_ok z [2] a1) (ix_ck (ix_ok z [1] b_2) (ix_bd1 (f_X1_clear n z b_2 (d.1 a1 5) d) (fun d_5 => f_X9_openBoard_13 n z  a0 a1 1 d_5)))))
set_option maxRecDepth 20000 in
theorem tb_X9_openBoard_13 {l : Launch} {p : Program} {e : Env} {s : State} {m : MethodId} {args : Array Value} {below : List Frame} {meth : Method} {c : Code} {K : ix_Cx} (hKp : ix_Kp K) {n : Nat} {z : ix_Z} (X : ix_X p s m args c K cX9_openBoard RX9 3) (hr : meth.sig.returnType = (none : Option Jvm.ClassFile.FieldType)) (hlk : meth.locks = false)  {a0 : Nat} {a1 : Nat} {rec13 : Int32 → ix_D2 → Option (ix_D2)} {d1 : ix_D2} (hrec13 : ∀ (x2 : Int32) (d : ix_D2), rec13 x2 d = some d1 → ix_G p l e (ix_rm 2 45 0 0) s m args below meth c (MQ below (ix_Post K none (ix_w z d1)) args s 0 0 (ix_A K)) K 3 0 0 13 [(0, .ref (K.2.2.1 + a0)), (1, .ref (K.2.2.1 + a1)), (2, .int x2)] [] (ix_w z d)) {x2 : Int32} {d : ix_D2} (h : b_X9_openBoard_13 n z  a0 a1 rec13 x2 d = some d1) : ix_G p l e (ix_rm 2 45 0 0) s m args below meth c (MQ below (ix_Post K none (ix_w z d1)) args s 0 0 (ix_A K)) K 3 0 0 13 [(0, .ref (K.2.2.1 + a0)), (1, .ref (K.2.2.1 + a1)), (2, .int x2)] [] (ix_w z d) := by
  unfold b_X9_openBoard_13 at h
  refine ix_iload_n (i := 2) (j := 2) X (ix_tb_at tb_X9_openBoard 7 rfl) rfl rfl (pc1 := 14) rfl ?_
  refine ix_aload_n (i := 1) (j := 1) X (ix_tb_at tb_X9_openBoard 8 rfl) rfl rfl (pc1 := 15) rfl ?_
  obtain ⟨k_8, h⟩ := ix_ck_some h
  refine iz_getI X fl_RX9_68 k_8 (ix_tb_at tb_X9_openBoard 9 rfl) (pc1 := 18) rfl ?_
  refine ix_icmp_gt (tgt := 40) X (ix_tb_at tb_X9_openBoard 10 rfl) (by decide) (pc1 := 21) rfl (fun q_9 => ?_) (fun q_9 => ?_)
  · have h := ix_ift q_9 h
    refine ix_aload_n (i := 0) (j := 0) X (ix_tb_at tb_X9_openBoard 22 rfl) rfl rfl (pc1 := 41) rfl ?_
    refine ix_ldc2 (pl := 1151) (v := 64) X (ix_tb_at tb_X9_openBoard 23 rfl) (by decide +kernel) (pc1 := 44) rfl ?_
    obtain ⟨k_10, h⟩ := ix_ck_some h
    obtain ⟨d_11, e_12, h⟩ := ix_lt_ex h
    refine iz_putJ X fp_RX9_82 k_10 (ix_tb_at tb_X9_openBoard 24 rfl) e_12 (pc1 := 47) rfl ?_
    refine ix_aload_n (i := 0) (j := 0) X (ix_tb_at tb_X9_openBoard 25 rfl) rfl rfl (pc1 := 48) rfl ?_
    refine ix_iconst (v := 0) X (ix_tb_at tb_X9_openBoard 26 rfl) (by decide) (pc1 := 49) rfl ?_
    obtain ⟨d_13, e_14, h⟩ := ix_lt_ex h
    refine iz_putI X fp_RX9_86 k_10 (ix_tb_at tb_X9_openBoard 27 rfl) e_14 (pc1 := 52) rfl ?_
    refine ix_aload_n (i := 0) (j := 0) X (ix_tb_at tb_X9_openBoard 28 rfl) rfl rfl (pc1 := 53) rfl ?_
    refine ix_aload_n (i := 1) (j := 1) X (ix_tb_at tb_X9_openBoard 29 rfl) rfl rfl (pc1 := 54) rfl ?_
    refine iz_getI X fl_RX9_89 k_8 (ix_tb_at tb_X9_openBoard 30 rfl) (pc1 := 57) rfl ?_
    obtain ⟨d_15, e_16, h⟩ := ix_lt_ex h
    refine iz_putI X fp_RX9_92 k_10 (ix_tb_at tb_X9_openBoard 31 rfl) e_16 (pc1 := 60) rfl ?_
    refine ix_aload_n (i := 0) (j := 0) X (ix_tb_at tb_X9_openBoard 32 rfl) rfl rfl (pc1 := 61) rfl ?_
    refine ix_aload_n (i := 1) (j := 1) X (ix_tb_at tb_X9_openBoard 33 rfl) rfl rfl (pc1 := 62) rfl ?_
    refine iz_getI X fl_RX9_93 k_8 (ix_tb_at tb_X9_openBoard 34 rfl) (pc1 := 65) rfl ?_
    obtain ⟨d_17, e_18, h⟩ := ix_lt_ex h
    refine iz_putI X fp_RX9_96 k_10 (ix_tb_at tb_X9_openBoard 35 rfl) e_18 (pc1 := 68) rfl ?_
    refine ix_aload_n (i := 0) (j := 0) X (ix_tb_at tb_X9_openBoard 36 rfl) rfl rfl (pc1 := 69) rfl ?_
    refine ix_iconst (v := 0) X (ix_tb_at tb_X9_openBoard 37 rfl) (by decide) (pc1 := 70) rfl ?_
    obtain ⟨d_19, e_20, h⟩ := ix_lt_ex h
    refine iz_putI X fp_RX9_97 k_10 (ix_tb_at tb_X9_openBoard 38 rfl) e_20 (pc1 := 73) rfl ?_
    refine ix_aload_n (i := 0) (j := 0) X (ix_tb_at tb_X9_openBoard 39 rfl) rfl rfl (pc1 := 74) rfl ?_
    obtain ⟨b_21, q_22, h⟩ := ix_bd1_ex h
    refine iz_getR X fl_RX9_47 k_10 q_22 (ix_tb_at tb_X9_openBoard 40 rfl) (pc1 := 77) rfl ?_
    refine ix_iconst (v := 0) X (ix_tb_at tb_X9_openBoard 41 rfl) (by decide) (pc1 := 78) rfl ?_
    obtain ⟨d_23, h_24, h⟩ := ix_bd1_ex h
    refine ix_callS (As := [.ref (K.2.2.1 + b_21), .int 0]) (rest := []) X mf_J7_fill_53178 st_J7_fill_53178 ml_RX9_62 ⟨Nat.le_of_ble_eq_true rfl, Nat.le_of_ble_eq_true rfl⟩ ⟨Nat.le_of_ble_eq_true rfl, Nat.le_of_ble_eq_true rfl⟩ rfl (Nat.le_of_ble_eq_true rfl) (ix_tb_at tb_X9_openBoard 42 rfl) (c_J7_fill_53178 hKp h_24) rfl (pc1 := 81) rfl ?_
    refine ix_aload_n (i := 0) (j := 0) X (ix_tb_at tb_X9_openBoard 43 rfl) rfl rfl (pc1 := 82) rfl ?_
    obtain ⟨b_25, q_26, h⟩ := ix_bd1_ex h
    refine iz_getR X fl_RX9_50 k_10 q_26 (ix_tb_at tb_X9_openBoard 44 rfl) (pc1 := 85) rfl ?_
    refine ix_sipush (v := (-1005)) X (ix_tb_at tb_X9_openBoard 45 rfl) (by decide) (pc1 := 88) rfl ?_
    obtain ⟨d_27, h_28, h⟩ := ix_bd1_ex h
    refine ix_callS (As := [.ref (K.2.2.1 + b_25), .int ((-1005))]) (rest := []) X mf_J7_fill_53178 st_J7_fill_53178 ml_RX9_62 ⟨Nat.le_of_ble_eq_true rfl, Nat.le_of_ble_eq_true rfl⟩ ⟨Nat.le_of_ble_eq_true rfl, Nat.le_of_ble_eq_true rfl⟩ rfl (Nat.le_of_ble_eq_true rfl) (ix_tb_at tb_X9_openBoard 46 rfl) (c_J7_fill_53178 hKp h_28) rfl (pc1 := 91) rfl ?_
    exact ix_vret X hr hlk (ix_r1 (g := ix_w z) h) (ix_tb_at tb_X9_openBoard 47 rfl)
  · have h := ix_iff q_9 h
    refine ix_aload_n (i := 0) (j := 0) X (ix_tb_at tb_X9_openBoard 11 rfl) rfl rfl (pc1 := 22) rfl ?_
    obtain ⟨k_29, h⟩ := ix_ck_some h
    obtain ⟨b_30, q_31, h⟩ := ix_bd1_ex h
    refine iz_getR X fl_RX9_27 k_29 q_31 (ix_tb_at tb_X9_openBoard 12 rfl) (pc1 := 25) rfl ?_
    refine ix_iload_n (i := 2) (j := 2) X (ix_tb_at tb_X9_openBoard 13 rfl) rfl rfl (pc1 := 26) rfl ?_
    refine ix_aload_n (i := 1) (j := 1) X (ix_tb_at tb_X9_openBoard 14 rfl) rfl rfl (pc1 := 27) rfl ?_
    obtain ⟨b_32, q_33, h⟩ := ix_bd1_ex h
    refine iz_getR X fl_RX9_78 k_8 q_33 (ix_tb_at tb_X9_openBoard 15 rfl) (pc1 := 30) rfl ?_
    refine ix_iload_n (i := 2) (j := 2) X (ix_tb_at tb_X9_openBoard 16 rfl) rfl rfl (pc1 := 31) rfl ?_
    obtain ⟨k_34, h⟩ := ix_ck_some h
    refine iz_iald X k_34 (ix_tb_at tb_X9_openBoard 17 rfl) (pc1 := 32) rfl ?_
    refine ix_i2l X (ix_tb_at tb_X9_openBoard 18 rfl) (pc1 := 33) rfl ?_
    obtain ⟨k_35, h⟩ := ix_ck_some h
    obtain ⟨d_36, e_37, h⟩ := ix_lt_ex h
    refine iz_last X k_35 (ix_tb_at tb_X9_openBoard 19 rfl) e_37 (pc1 := 34) rfl ?_
    obtain ⟨x2_38, e_39, h⟩ := ix_lt_ex h
    refine ix_iinc (i := 2) (j := 2) (v := x2_38) (L1 := [(2, .int x2_38), (0, .ref (K.2.2.1 + a0)), (1, .ref (K.2.2.1 + a1))]) X (ix_tb_at tb_X9_openBoard 20 rfl) rfl (by rw [oi_1]; exact e_39.symm) (Nat.le_of_ble_eq_true rfl) rfl (pc1 := 37) rfl ?_
    refine ix_goto (tgt := 13) X (ix_tb_at tb_X9_openBoard 21 rfl) (by decide) ?_
    refine ix_sub (L1 := [(0, .ref (K.2.2.1 + a0)), (1, .ref (K.2.2.1 + a1)), (2, .int x2_38)]) [1, 2, 0] rfl ?_
    exact hrec13 x2_38 d_36 h
theorem t_X9_openBoard_13 {l : Launch} {p : Program} {e : Env} {s : State} {m : MethodId} {args : Array Value} {below : List Frame} {meth : Method} {c : Code} {K : ix_Cx} (hKp : ix_Kp K) {n : Nat} {z : ix_Z} (X : ix_X p s m args c K cX9_openBoard RX9 3) (hr : meth.sig.returnType = (none : Option Jvm.ClassFile.FieldType)) (hlk : meth.locks = false)  {a0 : Nat} {a1 : Nat} {d1 : ix_D2}  {x2 : Int32} {d : ix_D2} (h : f_X9_openBoard_13 n z  a0 a1 x2 d = some d1) : ix_G p l e (ix_rm 2 45 0 0) s m args below meth c (MQ below (ix_Post K none (ix_w z d1)) args s 0 0 (ix_A K)) K 3 0 0 13 [(0, .ref (K.2.2.1 + a0)), (1, .ref (K.2.2.1 + a1)), (2, .int x2)] [] (ix_w z d) := by
  have key : ∀ (f : Nat) (x2 : Int32) (d : ix_D2), ix_fix (b_X9_openBoard_13 n z  a0 a1) (fun _ _ => none) f x2 d = some d1 → ix_G p l e (ix_rm 2 45 0 0) s m args below meth c (MQ below (ix_Post K none (ix_w z d1)) args s 0 0 (ix_A K)) K 3 0 0 13 [(0, .ref (K.2.2.1 + a0)), (1, .ref (K.2.2.1 + a1)), (2, .int x2)] [] (ix_w z d) := by
    intro f
    induction f with
    | zero =>
      intro x2 d h
      have h : (none : Option (ix_D2)) = some d1 := h
      cases h
    | succ f ih =>
      intro x2 d h
      exact tb_X9_openBoard_13 hKp X hr hlk (rec13 := ix_fix (b_X9_openBoard_13 n z  a0 a1) (fun _ _ => none) f)  ih h
  exact key n x2 d h
set_option maxRecDepth 20000 in
theorem c_X9_openBoard {l : Launch} {K : ix_Cx} (hKp : ix_Kp K) {n : Nat} {z : ix_Z} {a0 : Nat} {a1 : Nat} {d : ix_D2} {d1 : ix_D2} (h : f_X9_openBoard n z a0 a1 d = some d1) : ix_M l K yX9_openBoard cX9_openBoard 3 (none : Option Jvm.ClassFile.FieldType) 2 45 0 0 [.ref (K.2.2.1 + a0), .ref (K.2.2.1 + a1)] (ix_w z d) none (ix_w z d1) := by
  refine ix_met mf_X9_openBoard hKp (Nat.le_of_ble_eq_true rfl) ?_
  intro p e s m args below meth c hr hlk hnm X
  have X : ix_X p s m args c K cX9_openBoard RX9 3 := X
  show ix_G p l e (ix_rm 2 45 0 0) s m args below meth c (MQ below (ix_Post K none (ix_w z d1)) args s 0 0 (ix_A K)) K 3 0 0 0 [(0, .ref (K.2.2.1 + a0)), (1, .ref (K.2.2.1 + a1))] [] (ix_w z d)
  unfold f_X9_openBoard at h
  refine ix_aload_n (i := 0) (j := 0) X (ix_tb_at tb_X9_openBoard 0 rfl) rfl rfl (pc1 := 1) rfl ?_
  obtain ⟨k_1, h⟩ := ix_ck_some h
  obtain ⟨b_2, q_3, h⟩ := ix_bd1_ex h
  refine iz_getR X fl_RX9_12 k_1 q_3 (ix_tb_at tb_X9_openBoard 1 rfl) (pc1 := 4) rfl ?_
  refine ix_aload_n (i := 1) (j := 1) X (ix_tb_at tb_X9_openBoard 2 rfl) rfl rfl (pc1 := 5) rfl ?_
  obtain ⟨k_4, h⟩ := ix_ck_some h
  refine iz_getI X fl_RX9_68 k_4 (ix_tb_at tb_X9_openBoard 3 rfl) (pc1 := 8) rfl ?_
  obtain ⟨k_7, h⟩ := ix_ck_some h
  obtain ⟨d_5, h_6, h⟩ := ix_bd1_ex h
  refine ix_callV (As := [.int (d.1 a1 5)]) (rest := []) (ci := 1) (T := TX1) (nf := 17) X mf_X1_clear mi_X1_clear ms_X1_clear rfl (Nat.le_of_ble_eq_true rfl) ml_RX9_74 ⟨Nat.le_of_ble_eq_true rfl, Nat.le_of_ble_eq_true rfl⟩ ⟨Nat.le_of_ble_eq_true rfl, Nat.le_of_ble_eq_true rfl⟩ rfl (Nat.le_of_ble_eq_true rfl) (ix_tb_at tb_X9_openBoard 4 rfl) ⟨k_7.1, List.mem_singleton.mp k_7.2⟩ (c_X1_clear hKp h_6) rfl (pc1 := 11) rfl ?_
  refine ix_iconst (v := 1) X (ix_tb_at tb_X9_openBoard 5 rfl) (by decide) (pc1 := 12) rfl ?_
  refine ix_istore_n (i := 2) (L1 := [(2, .int 1), (0, .ref (K.2.2.1 + a0)), (1, .ref (K.2.2.1 + a1))]) X (ix_tb_at tb_X9_openBoard 6 rfl) rfl (Nat.le_of_ble_eq_true rfl) rfl (pc1 := 13) rfl ?_
  refine ix_sub (L1 := [(0, .ref (K.2.2.1 + a0)), (1, .ref (K.2.2.1 + a1)), (2, .int 1)]) [1, 2, 0] rfl ?_
  exact t_X9_openBoard_13 hKp X hr hlk  h
def tab_X9_layAll : List (Nat × Instr × Nat) := [(0, .iconst 0, 1), (1, .istore_n 2, 1), (2, .iload_n 2, 1), (3, .aload_n 1, 1), (4, .getfield 100, 3), (7, .if_icmp .ge 18, 3), (10, .aload_n 0, 1), (11, .getfield 12, 3), (14, .aload_n 1, 1), (15, .iload_n 2, 1), (16, .invokevirtual 103, 3), (19, .iinc 2 1, 3), (22, .goto (-20), 3), (25, .return_, 1)]
theorem tb_X9_layAll : ix_tab cX9_layAll tab_X9_layAll := by
  unfold ix_tab
  decide +kernel
noncomputable def b_X9_layAll_2 (n : Nat) (z : ix_Z)  (a0 : Nat) (a1 : Nat) (rec2 : Int32 → ix_D2 → Option (ix_D2)) (x2 : Int32) (d : ix_D2) : Option (ix_D2) :=
  ix_ck (ix_ok z [7] a1) (ix_if (d.1 a1 2 ≤ x2) (some d) (ix_ck (ix_ok z [8] a0) (ix_bd1 (z.1 a0 0) (fun b_4 => ix_ck (ix_ok z [1] b_4) (ix_bd1 (f_X1_layRow n z b_4 a1 x2 d) (fun d_6 => ix_lt (x2 + 1) (fun x2_9 => rec2 x2_9 d_6)))))))
noncomputable def f_X9_layAll_2 (n : Nat) (z : ix_Z)  (a0 : Nat) (a1 : Nat) (x2 : Int32) (d : ix_D2) : Option (ix_D2) := ix_fix (b_X9_layAll_2 n z  a0 a1) (fun _ _ => none) n x2 d
noncomputable def f_X9_layAll (n : Nat) (z : ix_Z) (a0 : Nat) (a1 : Nat) (d : ix_D2) : Option (ix_D2) :=
  f_X9_layAll_2 n z  a0 a1 0 d
set_option maxRecDepth 20000 in
theorem tb_X9_layAll_2 {l : Launch} {p : Program} {e : Env} {s : State} {m : MethodId} {args : Array Value} {below : List Frame} {meth : Method} {c : Code} {K : ix_Cx} (hKp : ix_Kp K) {n : Nat} {z : ix_Z} (X : ix_X p s m args c K cX9_layAll RX9 3) (hr : meth.sig.returnType = (none : Option Jvm.ClassFile.FieldType)) (hlk : meth.locks = false)  {a0 : Nat} {a1 : Nat} {rec2 : Int32 → ix_D2 → Option (ix_D2)} {d1 : ix_D2} (hrec2 : ∀ (x2 : Int32) (d : ix_D2), rec2 x2 d = some d1 → ix_G p l e (ix_rm 4 99 0 0) s m args below meth c (MQ below (ix_Post K none (ix_w z d1)) args s 0 0 (ix_A K)) K 3 0 0 2 [(0, .ref (K.2.2.1 + a0)), (1, .ref (K.2.2.1 + a1)), (2, .int x2)] [] (ix_w z d)) {x2 : Int32} {d : ix_D2} (h : b_X9_layAll_2 n z  a0 a1 rec2 x2 d = some d1) : ix_G p l e (ix_rm 4 99 0 0) s m args below meth c (MQ below (ix_Post K none (ix_w z d1)) args s 0 0 (ix_A K)) K 3 0 0 2 [(0, .ref (K.2.2.1 + a0)), (1, .ref (K.2.2.1 + a1)), (2, .int x2)] [] (ix_w z d) := by
  unfold b_X9_layAll_2 at h
  refine ix_iload_n (i := 2) (j := 2) X (ix_tb_at tb_X9_layAll 2 rfl) rfl rfl (pc1 := 3) rfl ?_
  refine ix_aload_n (i := 1) (j := 1) X (ix_tb_at tb_X9_layAll 3 rfl) rfl rfl (pc1 := 4) rfl ?_
  obtain ⟨k_1, h⟩ := ix_ck_some h
  refine iz_getI X fl_RX9_100 k_1 (ix_tb_at tb_X9_layAll 4 rfl) (pc1 := 7) rfl ?_
  refine ix_icmp_ge (tgt := 25) X (ix_tb_at tb_X9_layAll 5 rfl) (by decide) (pc1 := 10) rfl (fun q_2 => ?_) (fun q_2 => ?_)
  · have h := ix_ift q_2 h
    exact ix_vret X hr hlk (ix_r1 (g := ix_w z) h) (ix_tb_at tb_X9_layAll 13 rfl)
  · have h := ix_iff q_2 h
    refine ix_aload_n (i := 0) (j := 0) X (ix_tb_at tb_X9_layAll 6 rfl) rfl rfl (pc1 := 11) rfl ?_
    obtain ⟨k_3, h⟩ := ix_ck_some h
    obtain ⟨b_4, q_5, h⟩ := ix_bd1_ex h
    refine iz_getR X fl_RX9_12 k_3 q_5 (ix_tb_at tb_X9_layAll 7 rfl) (pc1 := 14) rfl ?_
    refine ix_aload_n (i := 1) (j := 1) X (ix_tb_at tb_X9_layAll 8 rfl) rfl rfl (pc1 := 15) rfl ?_
    refine ix_iload_n (i := 2) (j := 2) X (ix_tb_at tb_X9_layAll 9 rfl) rfl rfl (pc1 := 16) rfl ?_
    obtain ⟨k_8, h⟩ := ix_ck_some h
    obtain ⟨d_6, h_7, h⟩ := ix_bd1_ex h
    refine ix_callV (As := [.ref (K.2.2.1 + a1), .int x2]) (rest := []) (ci := 1) (T := TX1) (nf := 17) X mf_X1_layRow mi_X1_layRow ms_X1_layRow rfl (Nat.le_of_ble_eq_true rfl) ml_RX9_103 ⟨Nat.le_of_ble_eq_true rfl, Nat.le_of_ble_eq_true rfl⟩ ⟨Nat.le_of_ble_eq_true rfl, Nat.le_of_ble_eq_true rfl⟩ rfl (Nat.le_of_ble_eq_true rfl) (ix_tb_at tb_X9_layAll 10 rfl) ⟨k_8.1, List.mem_singleton.mp k_8.2⟩ (c_X1_layRow hKp h_7) rfl (pc1 := 19) rfl ?_
    obtain ⟨x2_9, e_10, h⟩ := ix_lt_ex h
    refine ix_iinc (i := 2) (j := 2) (v := x2_9) (L1 := [(2, .int x2_9), (0, .ref (K.2.2.1 + a0)), (1, .ref (K.2.2.1 + a1))]) X (ix_tb_at tb_X9_layAll 11 rfl) rfl (by rw [oi_1]; exact e_10.symm) (Nat.le_of_ble_eq_true rfl) rfl (pc1 := 22) rfl ?_
    refine ix_goto (tgt := 2) X (ix_tb_at tb_X9_layAll 12 rfl) (by decide) ?_
    refine ix_sub (L1 := [(0, .ref (K.2.2.1 + a0)), (1, .ref (K.2.2.1 + a1)), (2, .int x2_9)]) [1, 2, 0] rfl ?_
    exact hrec2 x2_9 d_6 h
theorem t_X9_layAll_2 {l : Launch} {p : Program} {e : Env} {s : State} {m : MethodId} {args : Array Value} {below : List Frame} {meth : Method} {c : Code} {K : ix_Cx} (hKp : ix_Kp K) {n : Nat} {z : ix_Z} (X : ix_X p s m args c K cX9_layAll RX9 3) (hr : meth.sig.returnType = (none : Option Jvm.ClassFile.FieldType)) (hlk : meth.locks = false)  {a0 : Nat} {a1 : Nat} {d1 : ix_D2}  {x2 : Int32} {d : ix_D2} (h : f_X9_layAll_2 n z  a0 a1 x2 d = some d1) : ix_G p l e (ix_rm 4 99 0 0) s m args below meth c (MQ below (ix_Post K none (ix_w z d1)) args s 0 0 (ix_A K)) K 3 0 0 2 [(0, .ref (K.2.2.1 + a0)), (1, .ref (K.2.2.1 + a1)), (2, .int x2)] [] (ix_w z d) := by
  have key : ∀ (f : Nat) (x2 : Int32) (d : ix_D2), ix_fix (b_X9_layAll_2 n z  a0 a1) (fun _ _ => none) f x2 d = some d1 → ix_G p l e (ix_rm 4 99 0 0) s m args below meth c (MQ below (ix_Post K none (ix_w z d1)) args s 0 0 (ix_A K)) K 3 0 0 2 [(0, .ref (K.2.2.1 + a0)), (1, .ref (K.2.2.1 + a1)), (2, .int x2)] [] (ix_w z d) := by
    intro f
    induction f with
    | zero =>
      intro x2 d h
      have h : (none : Option (ix_D2)) = some d1 := h
      cases h
    | succ f ih =>
      intro x2 d h
      exact tb_X9_layAll_2 hKp X hr hlk (rec2 := ix_fix (b_X9_layAll_2 n z  a0 a1) (fun _ _ => none) f)  ih h
  exact key n x2 d h
set_option maxRecDepth 20000 in
theorem c_X9_layAll {l : Launch} {K : ix_Cx} (hKp : ix_Kp K) {n : Nat} {z : ix_Z} {a0 : Nat} {a1 : Nat} {d : ix_D2} {d1 : ix_D2} (h : f_X9_layAll n z a0 a1 d = some d1) : ix_M l K yX9_layAll cX9_layAll 3 (none : Option Jvm.ClassFile.FieldType) 4 99 0 0 [.ref (K.2.2.1 + a0), .ref (K.2.2.1 + a1)] (ix_w z d) none (ix_w z d1) := by
  refine ix_met mf_X9_layAll hKp (Nat.le_of_ble_eq_true rfl) ?_
  intro p e s m args below meth c hr hlk hnm X
  have X : ix_X p s m args c K cX9_layAll RX9 3 := X
  show ix_G p l e (ix_rm 4 99 0 0) s m args below meth c (MQ below (ix_Post K none (ix_w z d1)) args s 0 0 (ix_A K)) K 3 0 0 0 [(0, .ref (K.2.2.1 + a0)), (1, .ref (K.2.2.1 + a1))] [] (ix_w z d)
  unfold f_X9_layAll at h
  refine ix_iconst (v := 0) X (ix_tb_at tb_X9_layAll 0 rfl) (by decide) (pc1 := 1) rfl ?_
  refine ix_istore_n (i := 2) (L1 := [(2, .int 0), (0, .ref (K.2.2.1 + a0)), (1, .ref (K.2.2.1 + a1))]) X (ix_tb_at tb_X9_layAll 1 rfl) rfl (Nat.le_of_ble_eq_true rfl) rfl (pc1 := 2) rfl ?_
  refine ix_sub (L1 := [(0, .ref (K.2.2.1 + a0)), (1, .ref (K.2.2.1 + a1)), (2, .int 0)]) [1, 2, 0] rfl ?_
  exact t_X9_layAll_2 hKp X hr hlk  h
def tab_X9_suppose : List (Nat × Instr × Nat) := [(0, .aload_n 0, 1), (1, .getfield 86, 3), (4, .bipush 20, 2), (6, .if_icmp .ge 23, 3), (9, .aload_n 0, 1), (10, .getfield 31, 3), (13, .aload_n 0, 1), (14, .getfield 86, 3), (17, .iload_n 1, 1), (18, .iastore, 1), (19, .aload_n 0, 1), (20, .dup, 1), (21, .getfield 86, 3), (24, .iconst 1, 1), (25, .iadd, 1), (26, .putfield 86, 3), (29, .return_, 1)]
theorem tb_X9_suppose : ix_tab cX9_suppose tab_X9_suppose := by
  unfold ix_tab
  decide +kernel
noncomputable def f_X9_suppose (n : Nat) (z : ix_Z) (a0 : Nat) (x1 : Int32) (d : ix_D2) : Option (ix_D2) :=
  ix_ck (ix_ok z [8] a0) (ix_if (20 ≤ d.1 a0 5) (some d) (ix_bd1 (z.1 a0 4) (fun b_3 => ix_ck (ix_ix z 20 b_3 (d.1 a0 5)) (ix_lt (ix_di d b_3 (ix_n (d.1 a0 5)) x1) (fun d_6 => ix_lt (ix_di d_6 a0 5 ((d_6.1 a0 5) + 1)) (fun d_8 => some d_8))))))
set_option maxRecDepth 20000 in
theorem c_X9_suppose {l : Launch} {K : ix_Cx} (hKp : ix_Kp K) {n : Nat} {z : ix_Z} {a0 : Nat} {x1 : Int32} {d : ix_D2} {d1 : ix_D2} (h : f_X9_suppose n z a0 x1 d = some d1) : ix_M l K yX9_suppose cX9_suppose 2 (none : Option Jvm.ClassFile.FieldType) 0 0 0 0 [.ref (K.2.2.1 + a0), .int x1] (ix_w z d) none (ix_w z d1) := by
  refine ix_met mf_X9_suppose hKp (Nat.le_of_ble_eq_true rfl) ?_
  intro p e s m args below meth c hr hlk hnm X
  have X : ix_X p s m args c K cX9_suppose RX9 2 := X
  show ix_G p l e (ix_rm 0 0 0 0) s m args below meth c (MQ below (ix_Post K none (ix_w z d1)) args s 0 0 (ix_A K)) K 2 0 0 0 [(0, .ref (K.2.2.1 + a0)), (1, .int x1)] [] (ix_w z d)
  unfold f_X9_suppose at h
  refine ix_aload_n (i := 0) (j := 0) X (ix_tb_at tb_X9_suppose 0 rfl) rfl rfl (pc1 := 1) rfl ?_
  obtain ⟨k_1, h⟩ := ix_ck_some h
  refine iz_getI X fl_RX9_86 k_1 (ix_tb_at tb_X9_suppose 1 rfl) (pc1 := 4) rfl ?_
  refine ix_bipush (v := 20) X (ix_tb_at tb_X9_suppose 2 rfl) (by decide) (pc1 := 6) rfl ?_
  refine ix_icmp_ge (tgt := 29) X (ix_tb_at tb_X9_suppose 3 rfl) (by decide) (pc1 := 9) rfl (fun q_2 => ?_) (fun q_2 => ?_)
  · have h := ix_ift q_2 h
    exact ix_vret X hr hlk (ix_r1 (g := ix_w z) h) (ix_tb_at tb_X9_suppose 16 rfl)
  · have h := ix_iff q_2 h
    refine ix_aload_n (i := 0) (j := 0) X (ix_tb_at tb_X9_suppose 4 rfl) rfl rfl (pc1 := 10) rfl ?_
    obtain ⟨b_3, q_4, h⟩ := ix_bd1_ex h
    refine iz_getR X fl_RX9_31 k_1 q_4 (ix_tb_at tb_X9_suppose 5 rfl) (pc1 := 13) rfl ?_
    refine ix_aload_n (i := 0) (j := 0) X (ix_tb_at tb_X9_suppose 6 rfl) rfl rfl (pc1 := 14) rfl ?_
    refine iz_getI X fl_RX9_86 k_1 (ix_tb_at tb_X9_suppose 7 rfl) (pc1 := 17) rfl ?_
    refine ix_iload_n (i := 1) (j := 1) X (ix_tb_at tb_X9_suppose 8 rfl) rfl rfl (pc1 := 18) rfl ?_
    obtain ⟨k_5, h⟩ := ix_ck_some h
    obtain ⟨d_6, e_7, h⟩ := ix_lt_ex h
    refine iz_iast X k_5 (ix_tb_at tb_X9_suppose 9 rfl) e_7 (pc1 := 19) rfl ?_
    refine ix_aload_n (i := 0) (j := 0) X (ix_tb_at tb_X9_suppose 10 rfl) rfl rfl (pc1 := 20) rfl ?_
    refine ix_dup X (ix_tb_at tb_X9_suppose 11 rfl) rfl (pc1 := 21) rfl ?_
    refine iz_getI X fl_RX9_86 k_1 (ix_tb_at tb_X9_suppose 12 rfl) (pc1 := 24) rfl ?_
    refine ix_iconst (v := 1) X (ix_tb_at tb_X9_suppose 13 rfl) (by decide) (pc1 := 25) rfl ?_
    refine ix_iadd X (ix_tb_at tb_X9_suppose 14 rfl) (pc1 := 26) rfl ?_
    obtain ⟨d_8, e_9, h⟩ := ix_lt_ex h
    refine iz_putI X fp_RX9_86 k_1 (ix_tb_at tb_X9_suppose 15 rfl) e_9 (pc1 := 29) rfl ?_
    exact ix_vret X hr hlk (ix_r1 (g := ix_w z) h) (ix_tb_at tb_X9_suppose 16 rfl)
def tab_X9_closeBoard : List (Nat × Instr × Nat) := [(0, .aload_n 0, 1), (1, .getfield 12, 3), (4, .aload_n 0, 1), (5, .getfield 12, 3), (8, .getfield 107, 3), (11, .getfield 100, 3), (14, .putfield 110, 3), (17, .aload_n 0, 1), (18, .getfield 12, 3), (21, .aload_n 0, 1), (22, .getfield 12, 3), (25, .getfield 107, 3), (28, .getfield 100, 3), (31, .putfield 113, 3), (34, .return_, 1)]
theorem tb_X9_closeBoard : ix_tab cX9_closeBoard tab_X9_closeBoard := by
  unfold ix_tab
  decide +kernel
noncomputable def f_X9_closeBoard (n : Nat) (z : ix_Z) (a0 : Nat) (d : ix_D2) : Option (ix_D2) :=
  ix_ck (ix_ok z [8] a0) (ix_bd1 (z.1 a0 0) (fun b_2 => ix_ck (ix_ok z [1] b_2) (ix_bd1 (z.1 b_2 0) (fun b_5 => ix_ck (ix_ok z [7] b_5) (ix_lt (ix_di d b_2 15 (d.1 b_5 2)) (fun d_8 => ix_lt (ix_di d_8 b_2 16 (d_8.1 b_5 2)) (fun d_10 => some d_10)))))))
set_option maxRecDepth 20000 in
theorem c_X9_closeBoard {l : Launch} {K : ix_Cx} (hKp : ix_Kp K) {n : Nat} {z : ix_Z} {a0 : Nat} {d : ix_D2} {d1 : ix_D2} (h : f_X9_closeBoard n z a0 d = some d1) : ix_M l K yX9_closeBoard cX9_closeBoard 1 (none : Option Jvm.ClassFile.FieldType) 0 0 0 0 [.ref (K.2.2.1 + a0)] (ix_w z d) none (ix_w z d1) := by
  refine ix_met mf_X9_closeBoard hKp (Nat.le_of_ble_eq_true rfl) ?_
  intro p e s m args below meth c hr hlk hnm X
  have X : ix_X p s m args c K cX9_closeBoard RX9 1 := X
  show ix_G p l e (ix_rm 0 0 0 0) s m args below meth c (MQ below (ix_Post K none (ix_w z d1)) args s 0 0 (ix_A K)) K 1 0 0 0 [(0, .ref (K.2.2.1 + a0))] [] (ix_w z d)
  unfold f_X9_closeBoard at h
  refine ix_aload_n (i := 0) (j := 0) X (ix_tb_at tb_X9_closeBoard 0 rfl) rfl rfl (pc1 := 1) rfl ?_
  obtain ⟨k_1, h⟩ := ix_ck_some h
  obtain ⟨b_2, q_3, h⟩ := ix_bd1_ex h
  refine iz_getR X fl_RX9_12 k_1 q_3 (ix_tb_at tb_X9_closeBoard 1 rfl) (pc1 := 4) rfl ?_
  refine ix_aload_n (i := 0) (j := 0) X (ix_tb_at tb_X9_closeBoard 2 rfl) rfl rfl (pc1 := 5) rfl ?_
  refine iz_getR X fl_RX9_12 k_1 q_3 (ix_tb_at tb_X9_closeBoard 3 rfl) (pc1 := 8) rfl ?_
  obtain ⟨k_4, h⟩ := ix_ck_some h
  obtain ⟨b_5, q_6, h⟩ := ix_bd1_ex h
  refine iz_getR X fl_RX9_107 k_4 q_6 (ix_tb_at tb_X9_closeBoard 4 rfl) (pc1 := 11) rfl ?_
  obtain ⟨k_7, h⟩ := ix_ck_some h
  refine iz_getI X fl_RX9_100 k_7 (ix_tb_at tb_X9_closeBoard 5 rfl) (pc1 := 14) rfl ?_
  obtain ⟨d_8, e_9, h⟩ := ix_lt_ex h
  refine iz_putI X fp_RX9_110 k_4 (ix_tb_at tb_X9_closeBoard 6 rfl) e_9 (pc1 := 17) rfl ?_
  refine ix_aload_n (i := 0) (j := 0) X (ix_tb_at tb_X9_closeBoard 7 rfl) rfl rfl (pc1 := 18) rfl ?_
  refine iz_getR X fl_RX9_12 k_1 q_3 (ix_tb_at tb_X9_closeBoard 8 rfl) (pc1 := 21) rfl ?_
  refine ix_aload_n (i := 0) (j := 0) X (ix_tb_at tb_X9_closeBoard 9 rfl) rfl rfl (pc1 := 22) rfl ?_
  refine iz_getR X fl_RX9_12 k_1 q_3 (ix_tb_at tb_X9_closeBoard 10 rfl) (pc1 := 25) rfl ?_
  refine iz_getR X fl_RX9_107 k_4 q_6 (ix_tb_at tb_X9_closeBoard 11 rfl) (pc1 := 28) rfl ?_
  refine iz_getI X fl_RX9_100 k_7 (ix_tb_at tb_X9_closeBoard 12 rfl) (pc1 := 31) rfl ?_
  obtain ⟨d_10, e_11, h⟩ := ix_lt_ex h
  refine iz_putI X fp_RX9_113 k_4 (ix_tb_at tb_X9_closeBoard 13 rfl) e_11 (pc1 := 34) rfl ?_
  exact ix_vret X hr hlk (ix_r1 (g := ix_w z) h) (ix_tb_at tb_X9_closeBoard 14 rfl)
def tab_X9_openNext : List (Nat × Instr × Nat) := [(0, .aload_n 0, 1), (1, .aload_n 1, 1), (2, .invokevirtual 116, 3), (5, .aload_n 0, 1), (6, .aload_n 1, 1), (7, .getfield 120, 3), (10, .invokevirtual 121, 3), (13, .aload_n 0, 1), (14, .invokevirtual 125, 3), (17, .aload_n 0, 1), (18, .aload_n 0, 1), (19, .getfield 23, 3), (22, .invokevirtual 121, 3), (25, .aload_n 0, 1), (26, .getfield 12, 3), (29, .aload_n 0, 1), (30, .getfield 12, 3), (33, .getfield 107, 3), (36, .getfield 100, 3), (39, .putfield 113, 3), (42, .return_, 1)]
theorem tb_X9_openNext : ix_tab cX9_openNext tab_X9_openNext := by
  unfold ix_tab
  decide +kernel
noncomputable def f_X9_openNext (n : Nat) (z : ix_Z) (a0 : Nat) (a1 : Nat) (d : ix_D2) : Option (ix_D2) :=
  ix_ck (ix_ok z [8] a0) (ix_bd1 (f_X9_openBoard n z a0 a1 d) (fun d_1 => ix_ck (ix_ok z [2] a1) (ix_bd1 (z.1 a1 0) (fun b_5 => ix_bd1 (f_X9_layAll n z a0 b_5 d_1) (fun d_7 => ix_bd1 (f_X9_closeBoard n z a0 d_7) (fun d_9 => ix_bd1 (z.1 a0 1) (fun b_11 => ix_bd1 (f_X9_layAll n z a0 b_11 d_9) (fun d_13 => ix_bd1 (z.1 a0 0) (fun b_15 => ix_ck (ix_ok z [1] b_15) (ix_bd1 (z.1 b_15 0) (fun b_18 => ix_ck (ix_ok z [7] b_18) (ix_lt (ix_di d_13 b_15 16 (d_13.1 b_18 2)) (fun d_21 => some d_21)))))))))))))
set_option maxRecDepth 20000 in
theorem c_X9_openNext {l : Launch} {K : ix_Cx} (hKp : ix_Kp K) {n : Nat} {z : ix_Z} {a0 : Nat} {a1 : Nat} {d : ix_D2} {d1 : ix_D2} (h : f_X9_openNext n z a0 a1 d = some d1) : ix_M l K yX9_openNext cX9_openNext 2 (none : Option Jvm.ClassFile.FieldType) 5 121 0 0 [.ref (K.2.2.1 + a0), .ref (K.2.2.1 + a1)] (ix_w z d) none (ix_w z d1) := by
  refine ix_met mf_X9_openNext hKp (Nat.le_of_ble_eq_true rfl) ?_
  intro p e s m args below meth c hr hlk hnm X
  have X : ix_X p s m args c K cX9_openNext RX9 2 := X
  show ix_G p l e (ix_rm 5 121 0 0) s m args below meth c (MQ below (ix_Post K none (ix_w z d1)) args s 0 0 (ix_A K)) K 2 0 0 0 [(0, .ref (K.2.2.1 + a0)), (1, .ref (K.2.2.1 + a1))] [] (ix_w z d)
  unfold f_X9_openNext at h
  refine ix_aload_n (i := 0) (j := 0) X (ix_tb_at tb_X9_openNext 0 rfl) rfl rfl (pc1 := 1) rfl ?_
  refine ix_aload_n (i := 1) (j := 1) X (ix_tb_at tb_X9_openNext 1 rfl) rfl rfl (pc1 := 2) rfl ?_
  obtain ⟨k_3, h⟩ := ix_ck_some h
  obtain ⟨d_1, h_2, h⟩ := ix_bd1_ex h
  refine ix_callV (As := [.ref (K.2.2.1 + a1)]) (rest := []) (ci := 8) (T := TX9) (nf := 20) X mf_X9_openBoard mi_X9_openBoard ms_X9_openBoard rfl (Nat.le_of_ble_eq_true rfl) ml_RX9_116 ⟨Nat.le_of_ble_eq_true rfl, Nat.le_of_ble_eq_true rfl⟩ ⟨Nat.le_of_ble_eq_true rfl, Nat.le_of_ble_eq_true rfl⟩ rfl (Nat.le_of_ble_eq_true rfl) (ix_tb_at tb_X9_openNext 2 rfl) ⟨k_3.1, List.mem_singleton.mp k_3.2⟩ (c_X9_openBoard hKp h_2) rfl (pc1 := 5) rfl ?_
  refine ix_aload_n (i := 0) (j := 0) X (ix_tb_at tb_X9_openNext 3 rfl) rfl rfl (pc1 := 6) rfl ?_
  refine ix_aload_n (i := 1) (j := 1) X (ix_tb_at tb_X9_openNext 4 rfl) rfl rfl (pc1 := 7) rfl ?_
  obtain ⟨k_4, h⟩ := ix_ck_some h
  obtain ⟨b_5, q_6, h⟩ := ix_bd1_ex h
  refine iz_getR X fl_RX9_120 k_4 q_6 (ix_tb_at tb_X9_openNext 5 rfl) (pc1 := 10) rfl ?_
  obtain ⟨d_7, h_8, h⟩ := ix_bd1_ex h
  refine ix_callV (As := [.ref (K.2.2.1 + b_5)]) (rest := []) (ci := 8) (T := TX9) (nf := 20) X mf_X9_layAll mi_X9_layAll ms_X9_layAll rfl (Nat.le_of_ble_eq_true rfl) ml_RX9_121 ⟨Nat.le_of_ble_eq_true rfl, Nat.le_of_ble_eq_true rfl⟩ ⟨Nat.le_of_ble_eq_true rfl, Nat.le_of_ble_eq_true rfl⟩ rfl (Nat.le_of_ble_eq_true rfl) (ix_tb_at tb_X9_openNext 6 rfl) ⟨k_3.1, List.mem_singleton.mp k_3.2⟩ (c_X9_layAll hKp h_8) rfl (pc1 := 13) rfl ?_
  refine ix_aload_n (i := 0) (j := 0) X (ix_tb_at tb_X9_openNext 7 rfl) rfl rfl (pc1 := 14) rfl ?_
  obtain ⟨d_9, h_10, h⟩ := ix_bd1_ex h
  refine ix_callV (As := []) (rest := []) (ci := 8) (T := TX9) (nf := 20) X mf_X9_closeBoard mi_X9_closeBoard ms_X9_closeBoard rfl (Nat.le_of_ble_eq_true rfl) ml_RX9_125 ⟨Nat.le_of_ble_eq_true rfl, Nat.le_of_ble_eq_true rfl⟩ ⟨Nat.le_of_ble_eq_true rfl, Nat.le_of_ble_eq_true rfl⟩ rfl (Nat.le_of_ble_eq_true rfl) (ix_tb_at tb_X9_openNext 8 rfl) ⟨k_3.1, List.mem_singleton.mp k_3.2⟩ (c_X9_closeBoard hKp h_10) rfl (pc1 := 17) rfl ?_
  refine ix_aload_n (i := 0) (j := 0) X (ix_tb_at tb_X9_openNext 9 rfl) rfl rfl (pc1 := 18) rfl ?_
  refine ix_aload_n (i := 0) (j := 0) X (ix_tb_at tb_X9_openNext 10 rfl) rfl rfl (pc1 := 19) rfl ?_
  obtain ⟨b_11, q_12, h⟩ := ix_bd1_ex h
  refine iz_getR X fl_RX9_23 k_3 q_12 (ix_tb_at tb_X9_openNext 11 rfl) (pc1 := 22) rfl ?_
  obtain ⟨d_13, h_14, h⟩ := ix_bd1_ex h
  refine ix_callV (As := [.ref (K.2.2.1 + b_11)]) (rest := []) (ci := 8) (T := TX9) (nf := 20) X mf_X9_layAll mi_X9_layAll ms_X9_layAll rfl (Nat.le_of_ble_eq_true rfl) ml_RX9_121 ⟨Nat.le_of_ble_eq_true rfl, Nat.le_of_ble_eq_true rfl⟩ ⟨Nat.le_of_ble_eq_true rfl, Nat.le_of_ble_eq_true rfl⟩ rfl (Nat.le_of_ble_eq_true rfl) (ix_tb_at tb_X9_openNext 12 rfl) ⟨k_3.1, List.mem_singleton.mp k_3.2⟩ (c_X9_layAll hKp h_14) rfl (pc1 := 25) rfl ?_
  refine ix_aload_n (i := 0) (j := 0) X (ix_tb_at tb_X9_openNext 13 rfl) rfl rfl (pc1 := 26) rfl ?_
  obtain ⟨b_15, q_16, h⟩ := ix_bd1_ex h
  refine iz_getR X fl_RX9_12 k_3 q_16 (ix_tb_at tb_X9_openNext 14 rfl) (pc1 := 29) rfl ?_
  refine ix_aload_n (i := 0) (j := 0) X (ix_tb_at tb_X9_openNext 15 rfl) rfl rfl (pc1 := 30) rfl ?_
  refine iz_getR X fl_RX9_12 k_3 q_16 (ix_tb_at tb_X9_openNext 16 rfl) (pc1 := 33) rfl ?_
  obtain ⟨k_17, h⟩ := ix_ck_some h
  obtain ⟨b_18, q_19, h⟩ := ix_bd1_ex h
  refine iz_getR X fl_RX9_107 k_17 q_19 (ix_tb_at tb_X9_openNext 17 rfl) (pc1 := 36) rfl ?_
  obtain ⟨k_20, h⟩ := ix_ck_some h
  refine iz_getI X fl_RX9_100 k_20 (ix_tb_at tb_X9_openNext 18 rfl) (pc1 := 39) rfl ?_
  obtain ⟨d_21, e_22, h⟩ := ix_lt_ex h
  refine iz_putI X fp_RX9_113 k_17 (ix_tb_at tb_X9_openNext 19 rfl) e_22 (pc1 := 42) rfl ?_
  exact ix_vret X hr hlk (ix_r1 (g := ix_w z) h) (ix_tb_at tb_X9_openNext 20 rfl)
def tab_X9_pushFresh : List (Nat × Instr × Nat) := [(0, .aload_n 0, 1), (1, .getfield 128, 3), (4, .aload_n 0, 1), (5, .getfield 56, 3), (8, .arraylength, 1), (9, .if_icmp .ge 23, 3), (12, .aload_n 0, 1), (13, .getfield 56, 3), (16, .aload_n 0, 1), (17, .getfield 128, 3), (20, .iload_n 1, 1), (21, .iastore, 1), (22, .aload_n 0, 1), (23, .dup, 1), (24, .getfield 128, 3), (27, .iconst 1, 1), (28, .iadd, 1), (29, .putfield 128, 3), (32, .return_, 1)]
theorem tb_X9_pushFresh : ix_tab cX9_pushFresh tab_X9_pushFresh := by
  unfold ix_tab
  decide +kernel
noncomputable def f_X9_pushFresh (n : Nat) (z : ix_Z) (a0 : Nat) (x1 : Int32) (d : ix_D2) : Option (ix_D2) :=
  ix_ck (ix_ok z [8] a0) (ix_bd1 (z.1 a0 13) (fun b_2 => ix_ck (b_2 < z.2.2 ∧ 20 ≤ (z.2.1 b_2).1 ∧ (z.2.1 b_2).1 < 26) (ix_if (nI (z.2.1 b_2).2 ≤ d.1 a0 14) (some d) (ix_ck (ix_ix z 20 b_2 (d.1 a0 14)) (ix_lt (ix_di d b_2 (ix_n (d.1 a0 14)) x1) (fun d_7 => ix_lt (ix_di d_7 a0 14 ((d_7.1 a0 14) + 1)) (fun d_9 => some d_9)))))))
set_option maxRecDepth 20000 in
theorem c_X9_pushFresh {l : Launch} {K : ix_Cx} (hKp : ix_Kp K) {n : Nat} {z : ix_Z} {a0 : Nat} {x1 : Int32} {d : ix_D2} {d1 : ix_D2} (h : f_X9_pushFresh n z a0 x1 d = some d1) : ix_M l K yX9_pushFresh cX9_pushFresh 2 (none : Option Jvm.ClassFile.FieldType) 0 0 0 0 [.ref (K.2.2.1 + a0), .int x1] (ix_w z d) none (ix_w z d1) := by
  refine ix_met mf_X9_pushFresh hKp (Nat.le_of_ble_eq_true rfl) ?_
  intro p e s m args below meth c hr hlk hnm X
  have X : ix_X p s m args c K cX9_pushFresh RX9 2 := X
  show ix_G p l e (ix_rm 0 0 0 0) s m args below meth c (MQ below (ix_Post K none (ix_w z d1)) args s 0 0 (ix_A K)) K 2 0 0 0 [(0, .ref (K.2.2.1 + a0)), (1, .int x1)] [] (ix_w z d)
  unfold f_X9_pushFresh at h
  refine ix_aload_n (i := 0) (j := 0) X (ix_tb_at tb_X9_pushFresh 0 rfl) rfl rfl (pc1 := 1) rfl ?_
  obtain ⟨k_1, h⟩ := ix_ck_some h
  refine iz_getI X fl_RX9_128 k_1 (ix_tb_at tb_X9_pushFresh 1 rfl) (pc1 := 4) rfl ?_
  refine ix_aload_n (i := 0) (j := 0) X (ix_tb_at tb_X9_pushFresh 2 rfl) rfl rfl (pc1 := 5) rfl ?_
  obtain ⟨b_2, q_3, h⟩ := ix_bd1_ex h
  refine iz_getR X fl_RX9_56 k_1 q_3 (ix_tb_at tb_X9_pushFresh 3 rfl) (pc1 := 8) rfl ?_
  obtain ⟨k_4, h⟩ := ix_ck_some h
  refine iz_alen X k_4 (ix_tb_at tb_X9_pushFresh 4 rfl) (pc1 := 9) rfl ?_
  refine ix_icmp_ge (tgt := 32) X (ix_tb_at tb_X9_pushFresh 5 rfl) (by decide) (pc1 := 12) rfl (fun q_5 => ?_) (fun q_5 => ?_)
  · have h := ix_ift q_5 h
    exact ix_vret X hr hlk (ix_r1 (g := ix_w z) h) (ix_tb_at tb_X9_pushFresh 18 rfl)
  · have h := ix_iff q_5 h
    refine ix_aload_n (i := 0) (j := 0) X (ix_tb_at tb_X9_pushFresh 6 rfl) rfl rfl (pc1 := 13) rfl ?_
    refine iz_getR X fl_RX9_56 k_1 q_3 (ix_tb_at tb_X9_pushFresh 7 rfl) (pc1 := 16) rfl ?_
    refine ix_aload_n (i := 0) (j := 0) X (ix_tb_at tb_X9_pushFresh 8 rfl) rfl rfl (pc1 := 17) rfl ?_
    refine iz_getI X fl_RX9_128 k_1 (ix_tb_at tb_X9_pushFresh 9 rfl) (pc1 := 20) rfl ?_
    refine ix_iload_n (i := 1) (j := 1) X (ix_tb_at tb_X9_pushFresh 10 rfl) rfl rfl (pc1 := 21) rfl ?_
    obtain ⟨k_6, h⟩ := ix_ck_some h
    obtain ⟨d_7, e_8, h⟩ := ix_lt_ex h
    refine iz_iast X k_6 (ix_tb_at tb_X9_pushFresh 11 rfl) e_8 (pc1 := 22) rfl ?_
    refine ix_aload_n (i := 0) (j := 0) X (ix_tb_at tb_X9_pushFresh 12 rfl) rfl rfl (pc1 := 23) rfl ?_
    refine ix_dup X (ix_tb_at tb_X9_pushFresh 13 rfl) rfl (pc1 := 24) rfl ?_
    refine iz_getI X fl_RX9_128 k_1 (ix_tb_at tb_X9_pushFresh 14 rfl) (pc1 := 27) rfl ?_
    refine ix_iconst (v := 1) X (ix_tb_at tb_X9_pushFresh 15 rfl) (by decide) (pc1 := 28) rfl ?_
    refine ix_iadd X (ix_tb_at tb_X9_pushFresh 16 rfl) (pc1 := 29) rfl ?_
    obtain ⟨d_9, e_10, h⟩ := ix_lt_ex h
    refine iz_putI X fp_RX9_128 k_1 (ix_tb_at tb_X9_pushFresh 17 rfl) e_10 (pc1 := 32) rfl ?_
    exact ix_vret X hr hlk (ix_r1 (g := ix_w z) h) (ix_tb_at tb_X9_pushFresh 18 rfl)
def tab_X9_barTruth : List (Nat × Instr × Nat) := [(0, .aload_n 0, 1), (1, .iconst 0, 1), (2, .putfield 128, 3), (5, .iconst 1, 1), (6, .istore_n 2, 1), (7, .iload_n 2, 1), (8, .aload_n 1, 1), (9, .getfield 68, 3), (12, .if_icmp .gt 39, 3), (15, .aload_n 1, 1), (16, .getfield 131, 3), (19, .iload_n 2, 1), (20, .baload, 1), (21, .ifCond .eq 24, 3), (24, .aload_n 0, 1), (25, .aload_n 0, 1), (26, .getfield 12, 3), (29, .iload_n 2, 1), (30, .invokevirtual 135, 3), (33, .ifCond .eq 8, 3), (36, .iload_n 2, 1), (37, .ineg, 1), (38, .goto 4, 3), (41, .iload_n 2, 1), (42, .invokevirtual 139, 3), (45, .iinc 2 1, 3), (48, .goto (-41), 3), (51, .aload_n 0, 1), (52, .getfield 23, 3), (55, .aload_n 0, 1), (56, .getfield 56, 3), (59, .iconst 0, 1), (60, .aload_n 0, 1), (61, .getfield 128, 3), (64, .invokevirtual 142, 3), (67, .pop, 1), (68, .return_, 1)]
theorem tb_X9_barTruth : ix_tab cX9_barTruth tab_X9_barTruth := by
  unfold ix_tab
  decide +kernel
noncomputable def f_X9_barTruth_45 (n : Nat) (z : ix_Z) (rec7 : Int32 → ix_D2 → Option (ix_D2)) (a0 : Nat) (a1 : Nat) (x2 : Int32) (d : ix_D2) : Option (ix_D2) :=
  ix_lt (x2 + 1) (fun x2_19 => rec7 x2_19 d)
noncomputable def f_X9_barTruth_42 (n : Nat) (z : ix_Z) (rec7 : Int32 → ix_D2 → Option (ix_D2)) (a0 : Nat) (a1 : Nat) (x2 : Int32) (s0 : Int32) (s1 : Nat) (d : ix_D2) : Option (ix_D2) :=
  ix_ck (ix_ok z [8] s1) (ix_bd1 (f_X9_pushFresh n z s1 s0 d) (fun d_29 => f_X9_barTruth_45 n z rec7 a0 a1 x2 d_29))
noncomputable def b_X9_barTruth_7 (n : Nat) (z : ix_Z)  (a0 : Nat) (a1 : Nat) (rec7 : Int32 → ix_D2 → Option (ix_D2)) (x2 : Int32) (d : ix_D2) : Option (ix_D2) :=
  ix_ck (ix_ok z [2] a1) (ix_if (d.1 a1 5 < x2) (ix_ck (ix_ok z [8] a0) (ix_bd1 (z.1 a0 1) (fun b_7 => ix_bd1 (z.1 a0 13) (fun b_9 => ix_ck (ix_ok z [7] b_7) (ix_bd2 (f_X7_push n z b_7 b_9 0 (d.1 a0 14) d) (fun r_14 d_11 => some d_11)))))) (ix_bd1 (z.1 a1 2) (fun b_15 => ix_ck (ix_ix z 22 b_15 x2) (ix_if (d.1 b_15 (ix_n x2) = 0) (f_X9_barTruth_45 n z rec7 a0 a1 x2 d) (ix_ck (ix_ok z [8] a0) (ix_bd1 (z.1 a0 0) (fun b_22 => ix_ck (ix_ok z [1] b_22) (ix_bd2 (f_X1_isTrue n z b_22 x2 d) (fun r_27 d_24 => ix_if (r_27 = 0) (f_X9_barTruth_42 n z rec7 a0 a1 x2 x2 a0 d_24) (f_X9_barTruth_42 n z rec7 a0 a1 x2 (-x2) a0 d_24))))))))))
noncomputable def f_X9_barTruth_7 (n : Nat) (z : ix_Z)  (a0 : Nat) (a1 : Nat) (x2 : Int32) (d : ix_D2) : Option (ix_D2) := ix_fix (b_X9_barTruth_7 n z  a0 a1) (fun _ _ => none) n x2 d
noncomputable def f_X9_barTruth (n : Nat) (z : ix_Z) (a0 : Nat) (a1 : Nat) (d : ix_D2) : Option (ix_D2) :=
  ix_ck (ix_ok z [8] a0) (ix_lt (ix_di d a0 14 0) (fun d_2 => f_X9_barTruth_7 n z  a0 a1 1 d_2))
set_option maxRecDepth 20000 in
theorem t_X9_barTruth_45 {l : Launch} {p : Program} {e : Env} {s : State} {m : MethodId} {args : Array Value} {below : List Frame} {meth : Method} {c : Code} {K : ix_Cx} (hKp : ix_Kp K) {n : Nat} {z : ix_Z} (X : ix_X p s m args c K cX9_barTruth RX9 3) (hr : meth.sig.returnType = (none : Option Jvm.ClassFile.FieldType)) (hlk : meth.locks = false) {rec7 : Int32 → ix_D2 → Option (ix_D2)} {a0 : Nat} {a1 : Nat} {x2 : Int32} {d1 : ix_D2} (hrec7 : ∀ (x2 : Int32) (d : ix_D2), rec7 x2 d = some d1 → ix_G p l e (ix_rm 2 50 0 0) s m args below meth c (MQ below (ix_Post K none (ix_w z d1)) args s 0 0 (ix_A K)) K 3 0 0 7 [(0, .ref (K.2.2.1 + a0)), (1, .ref (K.2.2.1 + a1)), (2, .int x2)] [] (ix_w z d)) {d : ix_D2} (h : f_X9_barTruth_45 n z rec7 a0 a1 x2 d = some d1) : ix_G p l e (ix_rm 2 50 0 0) s m args below meth c (MQ below (ix_Post K none (ix_w z d1)) args s 0 0 (ix_A K)) K 3 0 0 45 [(0, .ref (K.2.2.1 + a0)), (1, .ref (K.2.2.1 + a1)), (2, .int x2)] [] (ix_w z d) := by
  unfold f_X9_barTruth_45 at h
  obtain ⟨x2_19, e_20, h⟩ := ix_lt_ex h
  refine ix_iinc (i := 2) (j := 2) (v := x2_19) (L1 := [(2, .int x2_19), (0, .ref (K.2.2.1 + a0)), (1, .ref (K.2.2.1 + a1))]) X (ix_tb_at tb_X9_barTruth 25 rfl) rfl (by rw [oi_1]; exact e_20.symm) (Nat.le_of_ble_eq_true rfl) rfl (pc1 := 48) rfl ?_
  refine ix_goto (tgt := 7) X (ix_tb_at tb_X9_barTruth 26 rfl) (by decide) ?_
  refine ix_sub (L1 := [(0, .ref (K.2.2.1 + a0)), (1, .ref (K.2.2.1 + a1)), (2, .int x2_19)]) [1, 2, 0] rfl ?_
  exact hrec7 x2_19 d h
set_option maxRecDepth 20000 in
theorem t_X9_barTruth_42 {l : Launch} {p : Program} {e : Env} {s : State} {m : MethodId} {args : Array Value} {below : List Frame} {meth : Method} {c : Code} {K : ix_Cx} (hKp : ix_Kp K) {n : Nat} {z : ix_Z} (X : ix_X p s m args c K cX9_barTruth RX9 3) (hr : meth.sig.returnType = (none : Option Jvm.ClassFile.FieldType)) (hlk : meth.locks = false) {rec7 : Int32 → ix_D2 → Option (ix_D2)} {a0 : Nat} {a1 : Nat} {x2 : Int32} {s0 : Int32} {s1 : Nat} {d1 : ix_D2} (hrec7 : ∀ (x2 : Int32) (d : ix_D2), rec7 x2 d = some d1 → ix_G p l e (ix_rm 2 50 0 0) s m args below meth c (MQ below (ix_Post K none (ix_w z d1)) args s 0 0 (ix_A K)) K 3 0 0 7 [(0, .ref (K.2.2.1 + a0)), (1, .ref (K.2.2.1 + a1)), (2, .int x2)] [] (ix_w z d)) {d : ix_D2} (h : f_X9_barTruth_42 n z rec7 a0 a1 x2 s0 s1 d = some d1) : ix_G p l e (ix_rm 2 50 0 0) s m args below meth c (MQ below (ix_Post K none (ix_w z d1)) args s 0 0 (ix_A K)) K 3 0 0 42 [(0, .ref (K.2.2.1 + a0)), (1, .ref (K.2.2.1 + a1)), (2, .int x2)] [.int s0, .ref (K.2.2.1 + s1)] (ix_w z d) := by
  unfold f_X9_barTruth_42 at h
  obtain ⟨k_31, h⟩ := ix_ck_some h
  obtain ⟨d_29, h_30, h⟩ := ix_bd1_ex h
  refine ix_callV (As := [.int s0]) (rest := []) (ci := 8) (T := TX9) (nf := 20) X mf_X9_pushFresh mi_X9_pushFresh ms_X9_pushFresh rfl (Nat.le_of_ble_eq_true rfl) ml_RX9_139 ⟨Nat.le_of_ble_eq_true rfl, Nat.le_of_ble_eq_true rfl⟩ ⟨Nat.le_of_ble_eq_true rfl, Nat.le_of_ble_eq_true rfl⟩ rfl (Nat.le_of_ble_eq_true rfl) (ix_tb_at tb_X9_barTruth 24 rfl) ⟨k_31.1, List.mem_singleton.mp k_31.2⟩ (c_X9_pushFresh hKp h_30) rfl (pc1 := 45) rfl ?_
  refine ix_sub (L1 := [(0, .ref (K.2.2.1 + a0)), (1, .ref (K.2.2.1 + a1)), (2, .int x2)]) [0, 1, 2] rfl ?_
  exact t_X9_barTruth_45 hKp X hr hlk hrec7 h
set_option maxRecDepth 20000 in
theorem tb_X9_barTruth_7 {l : Launch} {p : Program} {e : Env} {s : State} {m : MethodId} {args : Array Value} {below : List Frame} {meth : Method} {c : Code} {K : ix_Cx} (hKp : ix_Kp K) {n : Nat} {z : ix_Z} (X : ix_X p s m args c K cX9_barTruth RX9 3) (hr : meth.sig.returnType = (none : Option Jvm.ClassFile.FieldType)) (hlk : meth.locks = false)  {a0 : Nat} {a1 : Nat} {rec7 : Int32 → ix_D2 → Option (ix_D2)} {d1 : ix_D2} (hrec7 : ∀ (x2 : Int32) (d : ix_D2), rec7 x2 d = some d1 → ix_G p l e (ix_rm 2 50 0 0) s m args below meth c (MQ below (ix_Post K none (ix_w z d1)) args s 0 0 (ix_A K)) K 3 0 0 7 [(0, .ref (K.2.2.1 + a0)), (1, .ref (K.2.2.1 + a1)), (2, .int x2)] [] (ix_w z d)) {x2 : Int32} {d : ix_D2} (h : b_X9_barTruth_7 n z  a0 a1 rec7 x2 d = some d1) : ix_G p l e (ix_rm 2 50 0 0) s m args below meth c (MQ below (ix_Post K none (ix_w z d1)) args s 0 0 (ix_A K)) K 3 0 0 7 [(0, .ref (K.2.2.1 + a0)), (1, .ref (K.2.2.1 + a1)), (2, .int x2)] [] (ix_w z d) := by
  unfold b_X9_barTruth_7 at h
  refine ix_iload_n (i := 2) (j := 2) X (ix_tb_at tb_X9_barTruth 5 rfl) rfl rfl (pc1 := 8) rfl ?_
  refine ix_aload_n (i := 1) (j := 1) X (ix_tb_at tb_X9_barTruth 6 rfl) rfl rfl (pc1 := 9) rfl ?_
  obtain ⟨k_4, h⟩ := ix_ck_some h
  refine iz_getI X fl_RX9_68 k_4 (ix_tb_at tb_X9_barTruth 7 rfl) (pc1 := 12) rfl ?_
  refine ix_icmp_gt (tgt := 51) X (ix_tb_at tb_X9_barTruth 8 rfl) (by decide) (pc1 := 15) rfl (fun q_5 => ?_) (fun q_5 => ?_)
  · have h := ix_ift q_5 h
    refine ix_aload_n (i := 0) (j := 0) X (ix_tb_at tb_X9_barTruth 27 rfl) rfl rfl (pc1 := 52) rfl ?_
    obtain ⟨k_6, h⟩ := ix_ck_some h
    obtain ⟨b_7, q_8, h⟩ := ix_bd1_ex h
    refine iz_getR X fl_RX9_23 k_6 q_8 (ix_tb_at tb_X9_barTruth 28 rfl) (pc1 := 55) rfl ?_
    refine ix_aload_n (i := 0) (j := 0) X (ix_tb_at tb_X9_barTruth 29 rfl) rfl rfl (pc1 := 56) rfl ?_
    obtain ⟨b_9, q_10, h⟩ := ix_bd1_ex h
    refine iz_getR X fl_RX9_56 k_6 q_10 (ix_tb_at tb_X9_barTruth 30 rfl) (pc1 := 59) rfl ?_
    refine ix_iconst (v := 0) X (ix_tb_at tb_X9_barTruth 31 rfl) (by decide) (pc1 := 60) rfl ?_
    refine ix_aload_n (i := 0) (j := 0) X (ix_tb_at tb_X9_barTruth 32 rfl) rfl rfl (pc1 := 61) rfl ?_
    refine iz_getI X fl_RX9_128 k_6 (ix_tb_at tb_X9_barTruth 33 rfl) (pc1 := 64) rfl ?_
    obtain ⟨k_13, h⟩ := ix_ck_some h
    obtain ⟨r_14, d_11, h_12, h⟩ := ix_bd2_ex h
    refine ix_callV (As := [.ref (K.2.2.1 + b_9), .int 0, .int (d.1 a0 14)]) (rest := []) (ci := 7) (T := TX7) (nf := 3) X mf_X7_push mi_X7_push ms_X7_push rfl (Nat.le_of_ble_eq_true rfl) ml_RX9_142 ⟨Nat.le_of_ble_eq_true rfl, Nat.le_of_ble_eq_true rfl⟩ ⟨Nat.le_of_ble_eq_true rfl, Nat.le_of_ble_eq_true rfl⟩ rfl (Nat.le_of_ble_eq_true rfl) (ix_tb_at tb_X9_barTruth 34 rfl) ⟨k_13.1, List.mem_singleton.mp k_13.2⟩ (c_X7_push hKp h_12) rfl (pc1 := 67) rfl ?_
    refine ix_pop X (ix_tb_at tb_X9_barTruth 35 rfl) rfl (pc1 := 68) rfl ?_
    exact ix_vret X hr hlk (ix_r1 (g := ix_w z) h) (ix_tb_at tb_X9_barTruth 36 rfl)
  · have h := ix_iff q_5 h
    refine ix_aload_n (i := 1) (j := 1) X (ix_tb_at tb_X9_barTruth 9 rfl) rfl rfl (pc1 := 16) rfl ?_
    obtain ⟨b_15, q_16, h⟩ := ix_bd1_ex h
    refine iz_getR X fl_RX9_131 k_4 q_16 (ix_tb_at tb_X9_barTruth 10 rfl) (pc1 := 19) rfl ?_
    refine ix_iload_n (i := 2) (j := 2) X (ix_tb_at tb_X9_barTruth 11 rfl) rfl rfl (pc1 := 20) rfl ?_
    obtain ⟨k_17, h⟩ := ix_ck_some h
    refine iz_zald X k_17 (ix_tb_at tb_X9_barTruth 12 rfl) (pc1 := 21) rfl ?_
    refine ix_if_eq (tgt := 45) X (ix_tb_at tb_X9_barTruth 13 rfl) (by decide) (pc1 := 24) rfl (fun q_18 => ?_) (fun q_18 => ?_)
    · have h := ix_ift q_18 h
      refine ix_sub (L1 := [(0, .ref (K.2.2.1 + a0)), (1, .ref (K.2.2.1 + a1)), (2, .int x2)]) [0, 1, 2] rfl ?_
      exact t_X9_barTruth_45 hKp X hr hlk hrec7 h
    · have h := ix_iff q_18 h
      refine ix_aload_n (i := 0) (j := 0) X (ix_tb_at tb_X9_barTruth 14 rfl) rfl rfl (pc1 := 25) rfl ?_
      refine ix_aload_n (i := 0) (j := 0) X (ix_tb_at tb_X9_barTruth 15 rfl) rfl rfl (pc1 := 26) rfl ?_
      obtain ⟨k_21, h⟩ := ix_ck_some h
      obtain ⟨b_22, q_23, h⟩ := ix_bd1_ex h
      refine iz_getR X fl_RX9_12 k_21 q_23 (ix_tb_at tb_X9_barTruth 16 rfl) (pc1 := 29) rfl ?_
      refine ix_iload_n (i := 2) (j := 2) X (ix_tb_at tb_X9_barTruth 17 rfl) rfl rfl (pc1 := 30) rfl ?_
      obtain ⟨k_26, h⟩ := ix_ck_some h
      obtain ⟨r_27, d_24, h_25, h⟩ := ix_bd2_ex h
      refine ix_callV (As := [.int x2]) (rest := [.ref (K.2.2.1 + a0)]) (ci := 1) (T := TX1) (nf := 17) X mf_X1_isTrue mi_X1_isTrue ms_X1_isTrue rfl (Nat.le_of_ble_eq_true rfl) ml_RX9_135 ⟨Nat.le_of_ble_eq_true rfl, Nat.le_of_ble_eq_true rfl⟩ ⟨Nat.le_of_ble_eq_true rfl, Nat.le_of_ble_eq_true rfl⟩ rfl (Nat.le_of_ble_eq_true rfl) (ix_tb_at tb_X9_barTruth 18 rfl) ⟨k_26.1, List.mem_singleton.mp k_26.2⟩ (c_X1_isTrue hKp h_25) rfl (pc1 := 33) rfl ?_
      refine ix_if_eq (tgt := 41) X (ix_tb_at tb_X9_barTruth 19 rfl) (by decide) (pc1 := 36) rfl (fun q_28 => ?_) (fun q_28 => ?_)
      · have h := ix_ift q_28 h
        refine ix_iload_n (i := 2) (j := 2) X (ix_tb_at tb_X9_barTruth 23 rfl) rfl rfl (pc1 := 42) rfl ?_
        refine ix_sub (L1 := [(0, .ref (K.2.2.1 + a0)), (1, .ref (K.2.2.1 + a1)), (2, .int x2)]) [0, 1, 2] rfl ?_
        exact t_X9_barTruth_42 hKp X hr hlk hrec7 h
      · have h := ix_iff q_28 h
        refine ix_iload_n (i := 2) (j := 2) X (ix_tb_at tb_X9_barTruth 20 rfl) rfl rfl (pc1 := 37) rfl ?_
        refine ix_ineg X (ix_tb_at tb_X9_barTruth 21 rfl) (pc1 := 38) rfl ?_
        refine ix_goto (tgt := 42) X (ix_tb_at tb_X9_barTruth 22 rfl) (by decide) ?_
        refine ix_sub (L1 := [(0, .ref (K.2.2.1 + a0)), (1, .ref (K.2.2.1 + a1)), (2, .int x2)]) [0, 1, 2] rfl ?_
        exact t_X9_barTruth_42 hKp X hr hlk hrec7 h
theorem t_X9_barTruth_7 {l : Launch} {p : Program} {e : Env} {s : State} {m : MethodId} {args : Array Value} {below : List Frame} {meth : Method} {c : Code} {K : ix_Cx} (hKp : ix_Kp K) {n : Nat} {z : ix_Z} (X : ix_X p s m args c K cX9_barTruth RX9 3) (hr : meth.sig.returnType = (none : Option Jvm.ClassFile.FieldType)) (hlk : meth.locks = false)  {a0 : Nat} {a1 : Nat} {d1 : ix_D2}  {x2 : Int32} {d : ix_D2} (h : f_X9_barTruth_7 n z  a0 a1 x2 d = some d1) : ix_G p l e (ix_rm 2 50 0 0) s m args below meth c (MQ below (ix_Post K none (ix_w z d1)) args s 0 0 (ix_A K)) K 3 0 0 7 [(0, .ref (K.2.2.1 + a0)), (1, .ref (K.2.2.1 + a1)), (2, .int x2)] [] (ix_w z d) := by
  have key : ∀ (f : Nat) (x2 : Int32) (d : ix_D2), ix_fix (b_X9_barTruth_7 n z  a0 a1) (fun _ _ => none) f x2 d = some d1 → ix_G p l e (ix_rm 2 50 0 0) s m args below meth c (MQ below (ix_Post K none (ix_w z d1)) args s 0 0 (ix_A K)) K 3 0 0 7 [(0, .ref (K.2.2.1 + a0)), (1, .ref (K.2.2.1 + a1)), (2, .int x2)] [] (ix_w z d) := by
    intro f
    induction f with
    | zero =>
      intro x2 d h
      have h : (none : Option (ix_D2)) = some d1 := h
      cases h
    | succ f ih =>
      intro x2 d h
      exact tb_X9_barTruth_7 hKp X hr hlk (rec7 := ix_fix (b_X9_barTruth_7 n z  a0 a1) (fun _ _ => none) f)  ih h
  exact key n x2 d h
set_option maxRecDepth 20000 in
theorem c_X9_barTruth {l : Launch} {K : ix_Cx} (hKp : ix_Kp K) {n : Nat} {z : ix_Z} {a0 : Nat} {a1 : Nat} {d : ix_D2} {d1 : ix_D2} (h : f_X9_barTruth n z a0 a1 d = some d1) : ix_M l K yX9_barTruth cX9_barTruth 3 (none : Option Jvm.ClassFile.FieldType) 2 50 0 0 [.ref (K.2.2.1 + a0), .ref (K.2.2.1 + a1)] (ix_w z d) none (ix_w z d1) := by
  refine ix_met mf_X9_barTruth hKp (Nat.le_of_ble_eq_true rfl) ?_
  intro p e s m args below meth c hr hlk hnm X
  have X : ix_X p s m args c K cX9_barTruth RX9 3 := X
  show ix_G p l e (ix_rm 2 50 0 0) s m args below meth c (MQ below (ix_Post K none (ix_w z d1)) args s 0 0 (ix_A K)) K 3 0 0 0 [(0, .ref (K.2.2.1 + a0)), (1, .ref (K.2.2.1 + a1))] [] (ix_w z d)
  unfold f_X9_barTruth at h
  refine ix_aload_n (i := 0) (j := 0) X (ix_tb_at tb_X9_barTruth 0 rfl) rfl rfl (pc1 := 1) rfl ?_
  refine ix_iconst (v := 0) X (ix_tb_at tb_X9_barTruth 1 rfl) (by decide) (pc1 := 2) rfl ?_
  obtain ⟨k_1, h⟩ := ix_ck_some h
  obtain ⟨d_2, e_3, h⟩ := ix_lt_ex h
  refine iz_putI X fp_RX9_128 k_1 (ix_tb_at tb_X9_barTruth 2 rfl) e_3 (pc1 := 5) rfl ?_
  refine ix_iconst (v := 1) X (ix_tb_at tb_X9_barTruth 3 rfl) (by decide) (pc1 := 6) rfl ?_
  refine ix_istore_n (i := 2) (L1 := [(2, .int 1), (0, .ref (K.2.2.1 + a0)), (1, .ref (K.2.2.1 + a1))]) X (ix_tb_at tb_X9_barTruth 4 rfl) rfl (Nat.le_of_ble_eq_true rfl) rfl (pc1 := 7) rfl ?_
  refine ix_sub (L1 := [(0, .ref (K.2.2.1 + a0)), (1, .ref (K.2.2.1 + a1)), (2, .int 1)]) [1, 2, 0] rfl ?_
  exact t_X9_barTruth_7 hKp X hr hlk  h
def tab_X9_gatherFrom : List (Nat × Instr × Nat) := [(0, .iconst 0, 1), (1, .istore_n 3, 1), (2, .iload_n 3, 1), (3, .bipush 8, 2), (5, .if_icmp .ge 23, 3), (8, .aload_n 0, 1), (9, .getfield 44, 3), (12, .iload_n 3, 1), (13, .dup2, 1), (14, .laload, 1), (15, .aload_n 1, 1), (16, .iload_n 2, 1), (17, .iload_n 3, 1), (18, .iadd, 1), (19, .laload, 1), (20, .lor, 1), (21, .lastore, 1), (22, .iinc 3 1, 3), (25, .goto (-23), 3), (28, .return_, 1)]
theorem tb_X9_gatherFrom : ix_tab cX9_gatherFrom tab_X9_gatherFrom := by
  unfold ix_tab
  decide +kernel
noncomputable def b_X9_gatherFrom_2 (n : Nat) (z : ix_Z)  (a0 : Nat) (a1 : Nat) (x2 : Int32) (rec2 : Int32 → ix_D2 → Option (ix_D2)) (x3 : Int32) (d : ix_D2) : Option (ix_D2) :=
  ix_if (8 ≤ x3) (some d) (ix_ck (ix_ok z [8] a0) (ix_bd1 (z.1 a0 9) (fun b_3 => ix_ck (ix_ix z 23 b_3 x3) (ix_ck (ix_ix z 23 a1 (x2 + x3)) (ix_lt (ix_dj d b_3 (ix_n x3) ((d.2 b_3 (ix_n x3)) ||| (d.2 a1 (ix_n (x2 + x3))))) (fun d_7 => ix_lt (x3 + 1) (fun x3_9 => rec2 x3_9 d_7)))))))
noncomputable def f_X9_gatherFrom_2 (n : Nat) (z : ix_Z)  (a0 : Nat) (a1 : Nat) (x2 : Int32) (x3 : Int32) (d : ix_D2) : Option (ix_D2) := ix_fix (b_X9_gatherFrom_2 n z  a0 a1 x2) (fun _ _ => none) n x3 d
noncomputable def f_X9_gatherFrom (n : Nat) (z : ix_Z) (a0 : Nat) (a1 : Nat) (x2 : Int32) (d : ix_D2) : Option (ix_D2) :=
  f_X9_gatherFrom_2 n z  a0 a1 x2 0 d
set_option maxRecDepth 20000 in
theorem tb_X9_gatherFrom_2 {l : Launch} {p : Program} {e : Env} {s : State} {m : MethodId} {args : Array Value} {below : List Frame} {meth : Method} {c : Code} {K : ix_Cx} (hKp : ix_Kp K) {n : Nat} {z : ix_Z} (X : ix_X p s m args c K cX9_gatherFrom RX9 4) (hr : meth.sig.returnType = (none : Option Jvm.ClassFile.FieldType)) (hlk : meth.locks = false)  {a0 : Nat} {a1 : Nat} {x2 : Int32} {rec2 : Int32 → ix_D2 → Option (ix_D2)} {d1 : ix_D2} (hrec2 : ∀ (x3 : Int32) (d : ix_D2), rec2 x3 d = some d1 → ix_G p l e (ix_rm 0 0 0 0) s m args below meth c (MQ below (ix_Post K none (ix_w z d1)) args s 0 0 (ix_A K)) K 4 0 0 2 [(0, .ref (K.2.2.1 + a0)), (1, .ref (K.2.2.1 + a1)), (2, .int x2), (3, .int x3)] [] (ix_w z d)) {x3 : Int32} {d : ix_D2} (h : b_X9_gatherFrom_2 n z  a0 a1 x2 rec2 x3 d = some d1) : ix_G p l e (ix_rm 0 0 0 0) s m args below meth c (MQ below (ix_Post K none (ix_w z d1)) args s 0 0 (ix_A K)) K 4 0 0 2 [(0, .ref (K.2.2.1 + a0)), (1, .ref (K.2.2.1 + a1)), (2, .int x2), (3, .int x3)] [] (ix_w z d) := by
  unfold b_X9_gatherFrom_2 at h
  refine ix_iload_n (i := 3) (j := 3) X (ix_tb_at tb_X9_gatherFrom 2 rfl) rfl rfl (pc1 := 3) rfl ?_
  refine ix_bipush (v := 8) X (ix_tb_at tb_X9_gatherFrom 3 rfl) (by decide) (pc1 := 5) rfl ?_
  refine ix_icmp_ge (tgt := 28) X (ix_tb_at tb_X9_gatherFrom 4 rfl) (by decide) (pc1 := 8) rfl (fun q_1 => ?_) (fun q_1 => ?_)
  · have h := ix_ift q_1 h
    exact ix_vret X hr hlk (ix_r1 (g := ix_w z) h) (ix_tb_at tb_X9_gatherFrom 19 rfl)
  · have h := ix_iff q_1 h
    refine ix_aload_n (i := 0) (j := 0) X (ix_tb_at tb_X9_gatherFrom 5 rfl) rfl rfl (pc1 := 9) rfl ?_
    obtain ⟨k_2, h⟩ := ix_ck_some h
    obtain ⟨b_3, q_4, h⟩ := ix_bd1_ex h
    refine iz_getR X fl_RX9_44 k_2 q_4 (ix_tb_at tb_X9_gatherFrom 6 rfl) (pc1 := 12) rfl ?_
    refine ix_iload_n (i := 3) (j := 3) X (ix_tb_at tb_X9_gatherFrom 7 rfl) rfl rfl (pc1 := 13) rfl ?_
    refine ix_dup2 X (ix_tb_at tb_X9_gatherFrom 8 rfl) rfl rfl (pc1 := 14) rfl ?_
    obtain ⟨k_5, h⟩ := ix_ck_some h
    refine iz_lald X k_5 (ix_tb_at tb_X9_gatherFrom 9 rfl) (pc1 := 15) rfl ?_
    refine ix_aload_n (i := 1) (j := 1) X (ix_tb_at tb_X9_gatherFrom 10 rfl) rfl rfl (pc1 := 16) rfl ?_
    refine ix_iload_n (i := 2) (j := 2) X (ix_tb_at tb_X9_gatherFrom 11 rfl) rfl rfl (pc1 := 17) rfl ?_
    refine ix_iload_n (i := 3) (j := 3) X (ix_tb_at tb_X9_gatherFrom 12 rfl) rfl rfl (pc1 := 18) rfl ?_
    refine ix_iadd X (ix_tb_at tb_X9_gatherFrom 13 rfl) (pc1 := 19) rfl ?_
    obtain ⟨k_6, h⟩ := ix_ck_some h
    refine iz_lald X k_6 (ix_tb_at tb_X9_gatherFrom 14 rfl) (pc1 := 20) rfl ?_
    refine ix_lor X (ix_tb_at tb_X9_gatherFrom 15 rfl) (pc1 := 21) rfl ?_
    obtain ⟨d_7, e_8, h⟩ := ix_lt_ex h
    refine iz_last X k_5 (ix_tb_at tb_X9_gatherFrom 16 rfl) e_8 (pc1 := 22) rfl ?_
    obtain ⟨x3_9, e_10, h⟩ := ix_lt_ex h
    refine ix_iinc (i := 3) (j := 3) (v := x3_9) (L1 := [(3, .int x3_9), (0, .ref (K.2.2.1 + a0)), (1, .ref (K.2.2.1 + a1)), (2, .int x2)]) X (ix_tb_at tb_X9_gatherFrom 17 rfl) rfl (by rw [oi_1]; exact e_10.symm) (Nat.le_of_ble_eq_true rfl) rfl (pc1 := 25) rfl ?_
    refine ix_goto (tgt := 2) X (ix_tb_at tb_X9_gatherFrom 18 rfl) (by decide) ?_
    refine ix_sub (L1 := [(0, .ref (K.2.2.1 + a0)), (1, .ref (K.2.2.1 + a1)), (2, .int x2), (3, .int x3_9)]) [1, 2, 3, 0] rfl ?_
    exact hrec2 x3_9 d_7 h
theorem t_X9_gatherFrom_2 {l : Launch} {p : Program} {e : Env} {s : State} {m : MethodId} {args : Array Value} {below : List Frame} {meth : Method} {c : Code} {K : ix_Cx} (hKp : ix_Kp K) {n : Nat} {z : ix_Z} (X : ix_X p s m args c K cX9_gatherFrom RX9 4) (hr : meth.sig.returnType = (none : Option Jvm.ClassFile.FieldType)) (hlk : meth.locks = false)  {a0 : Nat} {a1 : Nat} {x2 : Int32} {d1 : ix_D2}  {x3 : Int32} {d : ix_D2} (h : f_X9_gatherFrom_2 n z  a0 a1 x2 x3 d = some d1) : ix_G p l e (ix_rm 0 0 0 0) s m args below meth c (MQ below (ix_Post K none (ix_w z d1)) args s 0 0 (ix_A K)) K 4 0 0 2 [(0, .ref (K.2.2.1 + a0)), (1, .ref (K.2.2.1 + a1)), (2, .int x2), (3, .int x3)] [] (ix_w z d) := by
  have key : ∀ (f : Nat) (x3 : Int32) (d : ix_D2), ix_fix (b_X9_gatherFrom_2 n z  a0 a1 x2) (fun _ _ => none) f x3 d = some d1 → ix_G p l e (ix_rm 0 0 0 0) s m args below meth c (MQ below (ix_Post K none (ix_w z d1)) args s 0 0 (ix_A K)) K 4 0 0 2 [(0, .ref (K.2.2.1 + a0)), (1, .ref (K.2.2.1 + a1)), (2, .int x2), (3, .int x3)] [] (ix_w z d) := by
    intro f
    induction f with
    | zero =>
      intro x3 d h
      have h : (none : Option (ix_D2)) = some d1 := h
      cases h
    | succ f ih =>
      intro x3 d h
      exact tb_X9_gatherFrom_2 hKp X hr hlk (rec2 := ix_fix (b_X9_gatherFrom_2 n z  a0 a1 x2) (fun _ _ => none) f)  ih h
  exact key n x3 d h
set_option maxRecDepth 20000 in
theorem c_X9_gatherFrom {l : Launch} {K : ix_Cx} (hKp : ix_Kp K) {n : Nat} {z : ix_Z} {a0 : Nat} {a1 : Nat} {x2 : Int32} {d : ix_D2} {d1 : ix_D2} (h : f_X9_gatherFrom n z a0 a1 x2 d = some d1) : ix_M l K yX9_gatherFrom cX9_gatherFrom 4 (none : Option Jvm.ClassFile.FieldType) 0 0 0 0 [.ref (K.2.2.1 + a0), .ref (K.2.2.1 + a1), .int x2] (ix_w z d) none (ix_w z d1) := by
  refine ix_met mf_X9_gatherFrom hKp (Nat.le_of_ble_eq_true rfl) ?_
  intro p e s m args below meth c hr hlk hnm X
  have X : ix_X p s m args c K cX9_gatherFrom RX9 4 := X
  show ix_G p l e (ix_rm 0 0 0 0) s m args below meth c (MQ below (ix_Post K none (ix_w z d1)) args s 0 0 (ix_A K)) K 4 0 0 0 [(0, .ref (K.2.2.1 + a0)), (1, .ref (K.2.2.1 + a1)), (2, .int x2)] [] (ix_w z d)
  unfold f_X9_gatherFrom at h
  refine ix_iconst (v := 0) X (ix_tb_at tb_X9_gatherFrom 0 rfl) (by decide) (pc1 := 1) rfl ?_
  refine ix_istore_n (i := 3) (L1 := [(3, .int 0), (0, .ref (K.2.2.1 + a0)), (1, .ref (K.2.2.1 + a1)), (2, .int x2)]) X (ix_tb_at tb_X9_gatherFrom 1 rfl) rfl (Nat.le_of_ble_eq_true rfl) rfl (pc1 := 2) rfl ?_
  refine ix_sub (L1 := [(0, .ref (K.2.2.1 + a0)), (1, .ref (K.2.2.1 + a1)), (2, .int x2), (3, .int 0)]) [1, 2, 3, 0] rfl ?_
  exact t_X9_gatherFrom_2 hKp X hr hlk  h
def tab_X9_gatherRow : List (Nat × Instr × Nat) := [(0, .iload_n 1, 1), (1, .aload_n 0, 1), (2, .getfield 12, 3), (5, .getfield 110, 3), (8, .if_icmp .ge 24, 3), (11, .aload_n 0, 1), (12, .getfield 44, 3), (15, .iload_n 1, 1), (16, .bipush 64, 2), (18, .idiv, 1), (19, .dup2, 1), (20, .laload, 1), (21, .lconst 1, 1), (22, .iload_n 1, 1), (23, .bipush 64, 2), (25, .irem, 1), (26, .lshl, 1), (27, .lor, 1), (28, .lastore, 1), (29, .goto 34, 3), (32, .iload_n 1, 1), (33, .aload_n 0, 1), (34, .getfield 12, 3), (37, .getfield 113, 3), (40, .if_icmp .lt 23, 3), (43, .aload_n 0, 1), (44, .aload_n 0, 1), (45, .getfield 38, 3), (48, .iload_n 1, 1), (49, .aload_n 0, 1), (50, .getfield 12, 3), (53, .getfield 113, 3), (56, .isub, 1), (57, .bipush 8, 2), (59, .imul, 1), (60, .invokevirtual 312, 3), (63, .return_, 1)]
theorem tb_X9_gatherRow : ix_tab cX9_gatherRow tab_X9_gatherRow := by
  unfold ix_tab
  decide +kernel
noncomputable def f_X9_gatherRow (n : Nat) (z : ix_Z) (a0 : Nat) (x1 : Int32) (d : ix_D2) : Option (ix_D2) :=
  ix_ck (ix_ok z [8] a0) (ix_bd1 (z.1 a0 0) (fun b_2 => ix_ck (ix_ok z [1] b_2) (ix_if (d.1 b_2 15 ≤ x1) (ix_if (x1 < d.1 b_2 16) (some d) (ix_bd1 (z.1 a0 7) (fun b_7 => ix_bd1 (f_X9_gatherFrom n z a0 b_7 ((x1 - (d.1 b_2 16)) * 8) d) (fun d_9 => some d_9)))) (ix_bd1 (z.1 a0 9) (fun b_11 => ix_ck (ix_ix z 23 b_11 (x1 / 64)) (ix_lt (ix_dj d b_11 (ix_n (x1 / 64)) ((d.2 b_11 (ix_n (x1 / 64))) ||| (1 <<< ((x1 - x1 / 64 * 64).toInt64 &&& 63)))) (fun d_14 => some d_14)))))))
set_option maxRecDepth 20000 in
theorem c_X9_gatherRow {l : Launch} {K : ix_Cx} (hKp : ix_Kp K) {n : Nat} {z : ix_Z} {a0 : Nat} {x1 : Int32} {d : ix_D2} {d1 : ix_D2} (h : f_X9_gatherRow n z a0 x1 d = some d1) : ix_M l K yX9_gatherRow cX9_gatherRow 2 (none : Option Jvm.ClassFile.FieldType) 1 23 0 0 [.ref (K.2.2.1 + a0), .int x1] (ix_w z d) none (ix_w z d1) := by
  refine ix_met mf_X9_gatherRow hKp (Nat.le_of_ble_eq_true rfl) ?_
  intro p e s m args below meth c hr hlk hnm X
  have X : ix_X p s m args c K cX9_gatherRow RX9 2 := X
  show ix_G p l e (ix_rm 1 23 0 0) s m args below meth c (MQ below (ix_Post K none (ix_w z d1)) args s 0 0 (ix_A K)) K 2 0 0 0 [(0, .ref (K.2.2.1 + a0)), (1, .int x1)] [] (ix_w z d)
  unfold f_X9_gatherRow at h
  refine ix_iload_n (i := 1) (j := 1) X (ix_tb_at tb_X9_gatherRow 0 rfl) rfl rfl (pc1 := 1) rfl ?_
  refine ix_aload_n (i := 0) (j := 0) X (ix_tb_at tb_X9_gatherRow 1 rfl) rfl rfl (pc1 := 2) rfl ?_
  obtain ⟨k_1, h⟩ := ix_ck_some h
  obtain ⟨b_2, q_3, h⟩ := ix_bd1_ex h
  refine iz_getR X fl_RX9_12 k_1 q_3 (ix_tb_at tb_X9_gatherRow 2 rfl) (pc1 := 5) rfl ?_
  obtain ⟨k_4, h⟩ := ix_ck_some h
  refine iz_getI X fl_RX9_110 k_4 (ix_tb_at tb_X9_gatherRow 3 rfl) (pc1 := 8) rfl ?_
  refine ix_icmp_ge (tgt := 32) X (ix_tb_at tb_X9_gatherRow 4 rfl) (by decide) (pc1 := 11) rfl (fun q_5 => ?_) (fun q_5 => ?_)
  · have h := ix_ift q_5 h
    refine ix_iload_n (i := 1) (j := 1) X (ix_tb_at tb_X9_gatherRow 20 rfl) rfl rfl (pc1 := 33) rfl ?_
    refine ix_aload_n (i := 0) (j := 0) X (ix_tb_at tb_X9_gatherRow 21 rfl) rfl rfl (pc1 := 34) rfl ?_
    refine iz_getR X fl_RX9_12 k_1 q_3 (ix_tb_at tb_X9_gatherRow 22 rfl) (pc1 := 37) rfl ?_
    refine iz_getI X fl_RX9_113 k_4 (ix_tb_at tb_X9_gatherRow 23 rfl) (pc1 := 40) rfl ?_
    refine ix_icmp_lt (tgt := 63) X (ix_tb_at tb_X9_gatherRow 24 rfl) (by decide) (pc1 := 43) rfl (fun q_6 => ?_) (fun q_6 => ?_)
    · have h := ix_ift q_6 h
      exact ix_vret X hr hlk (ix_r1 (g := ix_w z) h) (ix_tb_at tb_X9_gatherRow 36 rfl)
    · have h := ix_iff q_6 h
      refine ix_aload_n (i := 0) (j := 0) X (ix_tb_at tb_X9_gatherRow 25 rfl) rfl rfl (pc1 := 44) rfl ?_
      refine ix_aload_n (i := 0) (j := 0) X (ix_tb_at tb_X9_gatherRow 26 rfl) rfl rfl (pc1 := 45) rfl ?_
      obtain ⟨b_7, q_8, h⟩ := ix_bd1_ex h
      refine iz_getR X fl_RX9_38 k_1 q_8 (ix_tb_at tb_X9_gatherRow 27 rfl) (pc1 := 48) rfl ?_
      refine ix_iload_n (i := 1) (j := 1) X (ix_tb_at tb_X9_gatherRow 28 rfl) rfl rfl (pc1 := 49) rfl ?_
      refine ix_aload_n (i := 0) (j := 0) X (ix_tb_at tb_X9_gatherRow 29 rfl) rfl rfl (pc1 := 50) rfl ?_
      refine iz_getR X fl_RX9_12 k_1 q_3 (ix_tb_at tb_X9_gatherRow 30 rfl) (pc1 := 53) rfl ?_
      refine iz_getI X fl_RX9_113 k_4 (ix_tb_at tb_X9_gatherRow 31 rfl) (pc1 := 56) rfl ?_
      refine ix_isub X (ix_tb_at tb_X9_gatherRow 32 rfl) (pc1 := 57) rfl ?_
      refine ix_bipush (v := 8) X (ix_tb_at tb_X9_gatherRow 33 rfl) (by decide) (pc1 := 59) rfl ?_
      refine ix_imul X (ix_tb_at tb_X9_gatherRow 34 rfl) (pc1 := 60) rfl ?_
      obtain ⟨d_9, h_10, h⟩ := ix_bd1_ex h
      refine ix_callV (As := [.ref (K.2.2.1 + b_7), .int ((x1 - (d.1 b_2 16)) * 8)]) (rest := []) (ci := 8) (T := TX9) (nf := 20) X mf_X9_gatherFrom mi_X9_gatherFrom ms_X9_gatherFrom rfl (Nat.le_of_ble_eq_true rfl) ml_RX9_312 ⟨Nat.le_of_ble_eq_true rfl, Nat.le_of_ble_eq_true rfl⟩ ⟨Nat.le_of_ble_eq_true rfl, Nat.le_of_ble_eq_true rfl⟩ rfl (Nat.le_of_ble_eq_true rfl) (ix_tb_at tb_X9_gatherRow 35 rfl) ⟨k_1.1, List.mem_singleton.mp k_1.2⟩ (c_X9_gatherFrom hKp h_10) rfl (pc1 := 63) rfl ?_
      exact ix_vret X hr hlk (ix_r1 (g := ix_w z) h) (ix_tb_at tb_X9_gatherRow 36 rfl)
  · have h := ix_iff q_5 h
    refine ix_aload_n (i := 0) (j := 0) X (ix_tb_at tb_X9_gatherRow 5 rfl) rfl rfl (pc1 := 12) rfl ?_
    obtain ⟨b_11, q_12, h⟩ := ix_bd1_ex h
    refine iz_getR X fl_RX9_44 k_1 q_12 (ix_tb_at tb_X9_gatherRow 6 rfl) (pc1 := 15) rfl ?_
    refine ix_iload_n (i := 1) (j := 1) X (ix_tb_at tb_X9_gatherRow 7 rfl) rfl rfl (pc1 := 16) rfl ?_
    refine ix_bipush (v := 64) X (ix_tb_at tb_X9_gatherRow 8 rfl) (by decide) (pc1 := 18) rfl ?_
    refine ix_idiv X (ix_tb_at tb_X9_gatherRow 9 rfl) (by decide) (pc1 := 19) rfl ?_
    refine ix_dup2 X (ix_tb_at tb_X9_gatherRow 10 rfl) rfl rfl (pc1 := 20) rfl ?_
    obtain ⟨k_13, h⟩ := ix_ck_some h
    refine iz_lald X k_13 (ix_tb_at tb_X9_gatherRow 11 rfl) (pc1 := 21) rfl ?_
    refine ix_lconst (v := 1) X (ix_tb_at tb_X9_gatherRow 12 rfl) (by decide) (pc1 := 22) rfl ?_
    refine ix_iload_n (i := 1) (j := 1) X (ix_tb_at tb_X9_gatherRow 13 rfl) rfl rfl (pc1 := 23) rfl ?_
    refine ix_bipush (v := 64) X (ix_tb_at tb_X9_gatherRow 14 rfl) (by decide) (pc1 := 25) rfl ?_
    refine ix_irem X (ix_tb_at tb_X9_gatherRow 15 rfl) (by decide) (pc1 := 26) rfl ?_
    refine ix_lshl X (ix_tb_at tb_X9_gatherRow 16 rfl) (pc1 := 27) rfl ?_
    refine ix_lor X (ix_tb_at tb_X9_gatherRow 17 rfl) (pc1 := 28) rfl ?_
    obtain ⟨d_14, e_15, h⟩ := ix_lt_ex h
    refine iz_last X k_13 (ix_tb_at tb_X9_gatherRow 18 rfl) e_15 (pc1 := 29) rfl ?_
    refine ix_goto (tgt := 63) X (ix_tb_at tb_X9_gatherRow 19 rfl) (by decide) ?_
    exact ix_vret X hr hlk (ix_r1 (g := ix_w z) h) (ix_tb_at tb_X9_gatherRow 36 rfl)
def tab_X9_gatherName : List (Nat × Instr × Nat) := [(0, .aload_n 0, 1), (1, .aload_n 0, 1), (2, .getfield 41, 3), (5, .iload_n 1, 1), (6, .bipush 8, 2), (8, .imul, 1), (9, .invokevirtual 312, 3), (12, .return_, 1)]
theorem tb_X9_gatherName : ix_tab cX9_gatherName tab_X9_gatherName := by
  unfold ix_tab
  decide +kernel
noncomputable def f_X9_gatherName (n : Nat) (z : ix_Z) (a0 : Nat) (x1 : Int32) (d : ix_D2) : Option (ix_D2) :=
  ix_ck (ix_ok z [8] a0) (ix_bd1 (z.1 a0 8) (fun b_2 => ix_bd1 (f_X9_gatherFrom n z a0 b_2 (x1 * 8) d) (fun d_4 => some d_4)))
set_option maxRecDepth 20000 in
theorem c_X9_gatherName {l : Launch} {K : ix_Cx} (hKp : ix_Kp K) {n : Nat} {z : ix_Z} {a0 : Nat} {x1 : Int32} {d : ix_D2} {d1 : ix_D2} (h : f_X9_gatherName n z a0 x1 d = some d1) : ix_M l K yX9_gatherName cX9_gatherName 2 (none : Option Jvm.ClassFile.FieldType) 1 23 0 0 [.ref (K.2.2.1 + a0), .int x1] (ix_w z d) none (ix_w z d1) := by
  refine ix_met mf_X9_gatherName hKp (Nat.le_of_ble_eq_true rfl) ?_
  intro p e s m args below meth c hr hlk hnm X
  have X : ix_X p s m args c K cX9_gatherName RX9 2 := X
  show ix_G p l e (ix_rm 1 23 0 0) s m args below meth c (MQ below (ix_Post K none (ix_w z d1)) args s 0 0 (ix_A K)) K 2 0 0 0 [(0, .ref (K.2.2.1 + a0)), (1, .int x1)] [] (ix_w z d)
  unfold f_X9_gatherName at h
  refine ix_aload_n (i := 0) (j := 0) X (ix_tb_at tb_X9_gatherName 0 rfl) rfl rfl (pc1 := 1) rfl ?_
  refine ix_aload_n (i := 0) (j := 0) X (ix_tb_at tb_X9_gatherName 1 rfl) rfl rfl (pc1 := 2) rfl ?_
  obtain ⟨k_1, h⟩ := ix_ck_some h
  obtain ⟨b_2, q_3, h⟩ := ix_bd1_ex h
  refine iz_getR X fl_RX9_41 k_1 q_3 (ix_tb_at tb_X9_gatherName 2 rfl) (pc1 := 5) rfl ?_
  refine ix_iload_n (i := 1) (j := 1) X (ix_tb_at tb_X9_gatherName 3 rfl) rfl rfl (pc1 := 6) rfl ?_
  refine ix_bipush (v := 8) X (ix_tb_at tb_X9_gatherName 4 rfl) (by decide) (pc1 := 8) rfl ?_
  refine ix_imul X (ix_tb_at tb_X9_gatherName 5 rfl) (pc1 := 9) rfl ?_
  obtain ⟨d_4, h_5, h⟩ := ix_bd1_ex h
  refine ix_callV (As := [.ref (K.2.2.1 + b_2), .int (x1 * 8)]) (rest := []) (ci := 8) (T := TX9) (nf := 20) X mf_X9_gatherFrom mi_X9_gatherFrom ms_X9_gatherFrom rfl (Nat.le_of_ble_eq_true rfl) ml_RX9_312 ⟨Nat.le_of_ble_eq_true rfl, Nat.le_of_ble_eq_true rfl⟩ ⟨Nat.le_of_ble_eq_true rfl, Nat.le_of_ble_eq_true rfl⟩ rfl (Nat.le_of_ble_eq_true rfl) (ix_tb_at tb_X9_gatherName 6 rfl) ⟨k_1.1, List.mem_singleton.mp k_1.2⟩ (c_X9_gatherFrom hKp h_5) rfl (pc1 := 12) rfl ?_
  exact ix_vret X hr hlk (ix_r1 (g := ix_w z) h) (ix_tb_at tb_X9_gatherName 7 rfl)

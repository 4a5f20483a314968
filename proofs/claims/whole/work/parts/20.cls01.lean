theorem ml_RX1_120 : tables_1[1190]? = some (Cond.methodLink RX1 120 yJ13_bitCount_95d88) := by decide +kernel
theorem mf_X1_firstOf : ix_mf yX1_firstOf cX1_firstOf 2 (some .int) 1 := ⟨ix_wm (i := 1189) (by decide +kernel), ix_wm (i := 6) (by decide +kernel), ⟨by decide +kernel, by decide +kernel⟩, by decide +kernel, by decide +kernel⟩
theorem st_X1_firstOf : Cond.static yX1_firstOf ∈ lw_tbl := ix_wm (i := 1188) (by decide +kernel)
theorem ml_RX1_116 : tables_1[1187]? = some (Cond.methodLink RX1 116 yX1_firstOf) := by decide +kernel
theorem mf_X1_firstQuarrel : ix_mf yX1_firstQuarrel cX1_firstQuarrel 1 (some .int) 0 := ⟨ix_wm (i := 1186) (by decide +kernel), ix_wm (i := 6) (by decide +kernel), ⟨by decide +kernel, by decide +kernel⟩, by decide +kernel, by decide +kernel⟩
theorem mi_X1_firstQuarrel : Cond.instanceMethod yX1_firstQuarrel ∈ lw_tbl := ix_wm (i := 1184) (by decide +kernel)
theorem mf_X1_firstUnit : ix_mf yX1_firstUnit cX1_firstUnit 1 (some .int) 0 := ⟨ix_wm (i := 1199) (by decide +kernel), ix_wm (i := 6) (by decide +kernel), ⟨by decide +kernel, by decide +kernel⟩, by decide +kernel, by decide +kernel⟩
theorem mi_X1_firstUnit : Cond.instanceMethod yX1_firstUnit ∈ lw_tbl := ix_wm (i := 1197) (by decide +kernel)
theorem mf_X1_openItem : ix_mf yX1_openItem cX1_openItem 4 (some .int) 1 := ⟨ix_wm (i := 1323) (by decide +kernel), ix_wm (i := 6) (by decide +kernel), ⟨by decide +kernel, by decide +kernel⟩, by decide +kernel, by decide +kernel⟩
theorem mi_X1_openItem : Cond.instanceMethod yX1_openItem ∈ lw_tbl := ix_wm (i := 1321) (by decide +kernel)
theorem ms_X1_firstQuarrel : Cond.selects yX1_firstQuarrel.cls yX1_firstQuarrel yX1_firstQuarrel ∈ lw_tbl := ix_wm (i := 1185) (by decide +kernel)
theorem ml_RX1_126 : tables_1[1473]? = some (Cond.methodLink RX1 126 yX1_firstQuarrel) := by decide +kernel
theorem ms_X1_firstUnit : Cond.selects yX1_firstUnit.cls yX1_firstUnit yX1_firstUnit ∈ lw_tbl := ix_wm (i := 1198) (by decide +kernel)
theorem ml_RX1_130 : tables_1[1474]? = some (Cond.methodLink RX1 130 yX1_firstUnit) := by decide +kernel
theorem ms_X1_openItem : Cond.selects yX1_openItem.cls yX1_openItem yX1_openItem ∈ lw_tbl := ix_wm (i := 1322) (by decide +kernel)
theorem ml_RX1_133 : tables_1[1475]? = some (Cond.methodLink RX1 133 yX1_openItem) := by decide +kernel
theorem ms_X1_assign : Cond.selects yX1_assign.cls yX1_assign yX1_assign ∈ lw_tbl := ix_wm (i := 1326) (by decide +kernel)
theorem ml_RX1_136 : tables_1[1476]? = some (Cond.methodLink RX1 136 yX1_assign) := by decide +kernel
theorem mf_X1_settle : ix_mf yX1_settle cX1_settle 4 (some .int) 0 := ⟨ix_wm (i := 1472) (by decide +kernel), ix_wm (i := 6) (by decide +kernel), ⟨by decide +kernel, by decide +kernel⟩, by decide +kernel, by decide +kernel⟩
theorem mi_X1_settle : Cond.instanceMethod yX1_settle ∈ lw_tbl := ix_wm (i := 1470) (by decide +kernel)
theorem ml_RX7_32 : tables_1[891]? = some (Cond.methodLink RX7 32 yX7_size) := by decide +kernel
theorem mf_X7_tell : ix_mf yX7_tell cX7_tell 3 (some .int) 2 := ⟨ix_wm (i := 886) (by decide +kernel), ix_wm (i := 4) (by decide +kernel), ⟨by decide +kernel, by decide +kernel⟩, by decide +kernel, by decide +kernel⟩
theorem mi_X7_tell : Cond.instanceMethod yX7_tell ∈ lw_tbl := ix_wm (i := 884) (by decide +kernel)
theorem ms_X1_settle : Cond.selects yX1_settle.cls yX1_settle yX1_settle ∈ lw_tbl := ix_wm (i := 1471) (by decide +kernel)
theorem ml_RX1_139 : tables_1[1469]? = some (Cond.methodLink RX1 139 yX1_settle) := by decide +kernel
theorem ms_X1_backTo : Cond.selects yX1_backTo.cls yX1_backTo yX1_backTo ∈ lw_tbl := ix_wm (i := 1281) (by decide +kernel)
theorem ml_RX1_150 : tables_1[1478]? = some (Cond.methodLink RX1 150 yX1_backTo) := by decide +kernel
theorem ms_X7_tell : Cond.selects yX7_tell.cls yX7_tell yX7_tell ∈ lw_tbl := ix_wm (i := 885) (by decide +kernel)
theorem ml_RX1_142 : tables_1[1477]? = some (Cond.methodLink RX1 142 yX7_tell) := by decide +kernel
theorem ml_RX1_146 : tables_1[1305]? = some (Cond.methodLink RX1 146 yX1_isTrue) := by decide +kernel
theorem mf_X1_follows : ix_mf yX1_follows cX1_follows 6 (some .boolean) 2 := ⟨ix_wm (i := 1468) (by decide +kernel), ix_wm (i := 6) (by decide +kernel), ⟨by decide +kernel, by decide +kernel⟩, by decide +kernel, by decide +kernel⟩
theorem mi_X1_follows : Cond.instanceMethod yX1_follows ∈ lw_tbl := ix_wm (i := 1466) (by decide +kernel)
theorem mf_X1_isReason : ix_mf yX1_isReason cX1_isReason 4 (some .boolean) 1 := ⟨ix_wm (i := 1304) (by decide +kernel), ix_wm (i := 6) (by decide +kernel), ⟨by decide +kernel, by decide +kernel⟩, by decide +kernel, by decide +kernel⟩
theorem mi_X1_isReason : Cond.instanceMethod yX1_isReason ∈ lw_tbl := ix_wm (i := 1302) (by decide +kernel)
theorem fl_RX1_153 : ix_flb 233 0 false RX1 153 "ClauseCourt$Board" [1] 16 0 = true := by decide +kernel
theorem fl_RX1_156 : ix_flb 231 0 false RX1 156 "ClauseCourt$Board" [1] 15 0 = true := by decide +kernel
theorem mf_X1_numberOf : ix_mf yX1_numberOf cX1_numberOf 2 (some .int) 1 := ⟨ix_wm (i := 1243) (by decide +kernel), ix_wm (i := 6) (by decide +kernel), ⟨by decide +kernel, by decide +kernel⟩, by decide +kernel, by decide +kernel⟩
theorem mi_X1_numberOf : Cond.instanceMethod yX1_numberOf ∈ lw_tbl := ix_wm (i := 1241) (by decide +kernel)
theorem mf_X7_itemTotal : ix_mf yX7_itemTotal cX7_itemTotal 1 (some .int) 0 := ⟨ix_wm (i := 1233) (by decide +kernel), ix_wm (i := 4) (by decide +kernel), ⟨by decide +kernel, by decide +kernel⟩, by decide +kernel, by decide +kernel⟩
theorem mi_X7_itemTotal : Cond.instanceMethod yX7_itemTotal ∈ lw_tbl := ix_wm (i := 1231) (by decide +kernel)
theorem ms_X7_itemTotal : Cond.selects yX7_itemTotal.cls yX7_itemTotal yX7_itemTotal ∈ lw_tbl := ix_wm (i := 1232) (by decide +kernel)
theorem ml_RX1_159 : tables_1[1230]? = some (Cond.methodLink RX1 159 yX7_itemTotal) := by decide +kernel
theorem mf_X1_recordTakes : ix_mf yX1_recordTakes cX1_recordTakes 3 (some .boolean) 1 := ⟨ix_wm (i := 1229) (by decide +kernel), ix_wm (i := 6) (by decide +kernel), ⟨by decide +kernel, by decide +kernel⟩, by decide +kernel, by decide +kernel⟩
theorem mi_X1_recordTakes : Cond.instanceMethod yX1_recordTakes ∈ lw_tbl := ix_wm (i := 1227) (by decide +kernel)
theorem ml_RX2_34 : tables_1[479]? = some (Cond.methodLink RX2 34 Lib.Math.abs.name) := by decide +kernel
theorem mf_X2_look : ix_mf yX2_look cX2_look 2 (some .int) 1 := ⟨ix_wm (i := 478) (by decide +kernel), ix_wm (i := 3) (by decide +kernel), ⟨by decide +kernel, by decide +kernel⟩, by decide +kernel, by decide +kernel⟩
theorem mi_X2_look : Cond.instanceMethod yX2_look ∈ lw_tbl := ix_wm (i := 476) (by decide +kernel)
theorem fl_RX2_44 : ix_flb 148 0 false RX2 44 "ClauseCourt$Case" [2] 7 0 = true := by decide +kernel
theorem fl_RX2_28 : ix_flb 140 0 false RX2 28 "ClauseCourt$Case" [2] 3 2 = true := by decide +kernel
theorem mf_X2_isAssumed : ix_mf yX2_isAssumed cX2_isAssumed 3 (some .boolean) 1 := ⟨ix_wm (i := 1106) (by decide +kernel), ix_wm (i := 3) (by decide +kernel), ⟨by decide +kernel, by decide +kernel⟩, by decide +kernel, by decide +kernel⟩
theorem mi_X2_isAssumed : Cond.instanceMethod yX2_isAssumed ∈ lw_tbl := ix_wm (i := 1104) (by decide +kernel)
theorem mf_X3_kindNumber : ix_mf yX3_kindNumber cX3_kindNumber 1 (some .int) 0 := ⟨ix_wm (i := 854) (by decide +kernel), ix_wm (i := 12) (by decide +kernel), ⟨by decide +kernel, by decide +kernel⟩, by decide +kernel, by decide +kernel⟩
theorem mi_X3_kindNumber : Cond.instanceMethod yX3_kindNumber ∈ lw_tbl := ix_wm (i := 853) (by decide +kernel)
theorem fl_RX3_7 : ix_flb 512 513 false RX3 7 "ClauseCourt$Clause" [0, 3, 5, 9] 0 2 = true := by decide +kernel
theorem ml_RX3_19 : tables_1[570]? = some (Cond.methodLink RX3 19 yX2_layDraft) := by decide +kernel
theorem ml_RX3_13 : tables_1[569]? = some (Cond.methodLink RX3 13 yX2_add) := by decide +kernel
theorem mf_X3_layInto : ix_mf yX3_layInto cX3_layInto 3 (none : Option Jvm.ClassFile.FieldType) 1 := ⟨ix_wm (i := 568) (by decide +kernel), ix_wm (i := 12) (by decide +kernel), ⟨by decide +kernel, by decide +kernel⟩, by decide +kernel, by decide +kernel⟩
theorem mi_X3_layInto : Cond.instanceMethod yX3_layInto ∈ lw_tbl := ix_wm (i := 567) (by decide +kernel)
theorem ml_RX3_28 : tables_1[932]? = some (Cond.methodLink RX3 28 (⟨"ClauseCourt$Clause", "trueOnes", "(LClauseCourt$Board;)I"⟩ : MethodName)) := by decide +kernel
theorem mf_X3_holds : ix_mf yX3_holds cX3_holds 3 (some .boolean) 2 := ⟨ix_wm (i := 930) (by decide +kernel), ix_wm (i := 12) (by decide +kernel), ⟨by decide +kernel, by decide +kernel⟩, by decide +kernel, by decide +kernel⟩
theorem mi_X3_holds : Cond.instanceMethod yX3_holds ∈ lw_tbl := ix_wm (i := 929) (by decide +kernel)
theorem ml_RX3_38 : tables_1[1066]? = some (Cond.methodLink RX3 38 yX4_writeText) := by decide +kernel
theorem ml_RX3_42 : tables_1[1067]? = some (Cond.methodLink RX3 42 yX4_writeList) := by decide +kernel
theorem mf_X3_write : ix_mf yX3_write cX3_write 2 (none : Option Jvm.ClassFile.FieldType) 1 := ⟨ix_wm (i := 1064) (by decide +kernel), ix_wm (i := 12) (by decide +kernel), ⟨by decide +kernel, by decide +kernel⟩, by decide +kernel, by decide +kernel⟩
theorem mi_X3_write : Cond.instanceMethod yX3_write ∈ lw_tbl := ix_wm (i := 1063) (by decide +kernel)
theorem fl_RX4_34 : ix_flb 42 0 false RX4 34 "ClauseCourt$Desk" [4] 1 0 = true := by decide +kernel
theorem mf_X4_takesBytes : ix_mf yX4_takesBytes cX4_takesBytes 2 (some .boolean) 1 := ⟨ix_wm (i := 454) (by decide +kernel), ix_wm (i := 2) (by decide +kernel), ⟨by decide +kernel, by decide +kernel⟩, by decide +kernel, by decide +kernel⟩
theorem mi_X4_takesBytes : Cond.instanceMethod yX4_takesBytes ∈ lw_tbl := ix_wm (i := 452) (by decide +kernel)
theorem fl_RX4_11 : ix_flb 40 0 false RX4 11 "ClauseCourt$Desk" [4] 0 2 = true := by decide +kernel
theorem fp_RX4_34 : ix_fpb 42 0 false RX4 34 "ClauseCourt$Desk" [4] 1 "I" false = true := by decide +kernel
theorem mf_X4_takeBytes : ix_mf yX4_takeBytes cX4_takeBytes 5 (some .int) 2 := ⟨ix_wm (i := 458) (by decide +kernel), ix_wm (i := 2) (by decide +kernel), ⟨by decide +kernel, by decide +kernel⟩, by decide +kernel, by decide +kernel⟩
theorem mi_X4_takeBytes : Cond.instanceMethod yX4_takeBytes ∈ lw_tbl := ix_wm (i := 456) (by decide +kernel)
theorem mf_X4_emptyTape : ix_mf yX4_emptyTape cX4_emptyTape 2 (some .int) 0 := ⟨ix_wm (i := 466) (by decide +kernel), ix_wm (i := 2) (by decide +kernel), ⟨by decide +kernel, by decide +kernel⟩, by decide +kernel, by decide +kernel⟩
theorem mi_X4_emptyTape : Cond.instanceMethod yX4_emptyTape ∈ lw_tbl := ix_wm (i := 464) (by decide +kernel)
theorem mf_X4_isDigit : ix_mf yX4_isDigit cX4_isDigit 1 (some .boolean) 1 := ⟨ix_wm (i := 693) (by decide +kernel), ix_wm (i := 2) (by decide +kernel), ⟨by decide +kernel, by decide +kernel⟩, by decide +kernel, by decide +kernel⟩
theorem st_X4_isDigit : Cond.static yX4_isDigit ∈ lw_tbl := ix_wm (i := 692) (by decide +kernel)
theorem fl_RX4_69 : ix_flb 61 0 false RX4 69 "ClauseCourt$Desk" [4] 15 0 = true := by decide +kernel
theorem fp_RX4_69 : ix_fpb 61 0 false RX4 69 "ClauseCourt$Desk" [4] 15 "I" false = true := by decide +kernel
theorem fl_RX4_72 : ix_flb 62 0 false RX4 72 "ClauseCourt$Desk" [4] 16 0 = true := by decide +kernel
theorem fp_RX4_72 : ix_fpb 62 0 false RX4 72 "ClauseCourt$Desk" [4] 16 "I" false = true := by decide +kernel
theorem mf_X4_acceptsDigit : ix_mf yX4_acceptsDigit cX4_acceptsDigit 2 (some .boolean) 1 := ⟨ix_wm (i := 697) (by decide +kernel), ix_wm (i := 2) (by decide +kernel), ⟨by decide +kernel, by decide +kernel⟩, by decide +kernel, by decide +kernel⟩
theorem mi_X4_acceptsDigit : Cond.instanceMethod yX4_acceptsDigit ∈ lw_tbl := ix_wm (i := 696) (by decide +kernel)
theorem fl_RX4_38 : ix_flb 53 0 false RX4 38 "ClauseCourt$Desk" [4] 7 0 = true := by decide +kernel
theorem fl_RX4_22 : ix_flb 51 0 false RX4 22 "ClauseCourt$Desk" [4] 6 2 = true := by decide +kernel
theorem fl_RX4_41 : ix_flb 57 0 false RX4 41 "ClauseCourt$Desk" [4] 11 0 = true := by decide +kernel
theorem fp_RX4_47 : ix_fpb 58 0 false RX4 47 "ClauseCourt$Desk" [4] 12 "I" false = true := by decide +kernel
theorem fl_RX4_28 : ix_flb 55 0 false RX4 28 "ClauseCourt$Desk" [4] 9 2 = true := by decide +kernel
theorem fp_RX4_38 : ix_fpb 53 0 false RX4 38 "ClauseCourt$Desk" [4] 7 "I" false = true := by decide +kernel
theorem mf_X4_endPart : ix_mf yX4_endPart cX4_endPart 2 (none : Option Jvm.ClassFile.FieldType) 1 := ⟨ix_wm (i := 705) (by decide +kernel), ix_wm (i := 2) (by decide +kernel), ⟨by decide +kernel, by decide +kernel⟩, by decide +kernel, by decide +kernel⟩
theorem mi_X4_endPart : Cond.instanceMethod yX4_endPart ∈ lw_tbl := ix_wm (i := 704) (by decide +kernel)
theorem fl_RX4_44 : ix_flb 60 0 false RX4 44 "ClauseCourt$Desk" [4] 14 0 = true := by decide +kernel
theorem ms_X4_endPart : Cond.selects yX4_endPart.cls yX4_endPart yX4_endPart ∈ lw_tbl := List.mem_append_left _ (List.mem_of_getElem? (i := 13) (by decide +kernel))
theorem ml_RX4_89 : tables_1[702]? = some (Cond.methodLink RX4 89 yX4_endPart) := by decide +kernel
theorem fp_RX4_44 : ix_fpb 60 0 false RX4 44 "ClauseCourt$Desk" [4] 14 "I" false = true := by decide +kernel
theorem mf_X4_endNumber : ix_mf yX4_endNumber cX4_endNumber 1 (none : Option Jvm.ClassFile.FieldType) 0 := ⟨ix_wm (i := 701) (by decide +kernel), ix_wm (i := 2) (by decide +kernel), ⟨by decide +kernel, by decide +kernel⟩, by decide +kernel, by decide +kernel⟩
theorem mi_X4_endNumber : Cond.instanceMethod yX4_endNumber ∈ lw_tbl := ix_wm (i := 700) (by decide +kernel)
theorem ms_J0_indexOf_0f7a4 : Cond.selects yJ0_indexOf_0f7a4.cls yJ0_indexOf_0f7a4 yJ0_indexOf_0f7a4 ∈ lw_tbl := ix_wm (i := 713) (by decide +kernel)
theorem ml_RX4_80 : tables_1[711]? = some (Cond.methodLink RX4 80 yJ0_indexOf_0f7a4) := by decide +kernel
theorem fp_RX4_86 : ix_fpb 59 0 false RX4 86 "ClauseCourt$Desk" [4] 13 "I" false = true := by decide +kernel
theorem fl_RX4_86 : ix_flb 59 0 false RX4 86 "ClauseCourt$Desk" [4] 13 0 = true := by decide +kernel
theorem mf_X4_acceptsPart : ix_mf yX4_acceptsPart cX4_acceptsPart 2 (some .boolean) 1 := ⟨ix_wm (i := 709) (by decide +kernel), ix_wm (i := 2) (by decide +kernel), ⟨by decide +kernel, by decide +kernel⟩, by decide +kernel, by decide +kernel⟩
theorem mi_X4_acceptsPart : Cond.instanceMethod yX4_acceptsPart ∈ lw_tbl := ix_wm (i := 708) (by decide +kernel)
theorem fl_RX4_25 : ix_flb 54 0 false RX4 25 "ClauseCourt$Desk" [4] 8 2 = true := by decide +kernel
theorem fl_RX4_31 : ix_flb 56 0 false RX4 31 "ClauseCourt$Desk" [4] 10 2 = true := by decide +kernel
theorem fp_RX4_41 : ix_fpb 57 0 false RX4 41 "ClauseCourt$Desk" [4] 11 "I" false = true := by decide +kernel
theorem mf_X4_acceptsParen : ix_mf yX4_acceptsParen cX4_acceptsParen 2 (some .boolean) 1 := ⟨ix_wm (i := 796) (by decide +kernel), ix_wm (i := 2) (by decide +kernel), ⟨by decide +kernel, by decide +kernel⟩, by decide +kernel, by decide +kernel⟩
theorem mi_X4_acceptsParen : Cond.instanceMethod yX4_acceptsParen ∈ lw_tbl := ix_wm (i := 795) (by decide +kernel)
theorem mf_X4_acceptsBehind : ix_mf yX4_acceptsBehind cX4_acceptsBehind 4 (some .boolean) 1 := ⟨ix_wm (i := 800) (by decide +kernel), ix_wm (i := 2) (by decide +kernel), ⟨by decide +kernel, by decide +kernel⟩, by decide +kernel, by decide +kernel⟩
theorem mi_X4_acceptsBehind : Cond.instanceMethod yX4_acceptsBehind ∈ lw_tbl := ix_wm (i := 799) (by decide +kernel)
theorem fl_RX4_47 : ix_flb 58 0 false RX4 47 "ClauseCourt$Desk" [4] 12 0 = true := by decide +kernel
theorem ix_ne {x k : Int32} {a : Int} (hk : k.toInt = a) (h : ¬ x = k) : x.toInt ≠ a := fun q => h (Int32.toInt_inj.mp (q.trans hk.symm))
theorem ms_X4_acceptsPart : Cond.selects yX4_acceptsPart.cls yX4_acceptsPart yX4_acceptsPart ∈ lw_tbl := List.mem_append_left _ (List.mem_of_getElem? (i := 14) (by decide +kernel))
theorem ml_RX4_63 : tables_1[706]? = some (Cond.methodLink RX4 63 yX4_acceptsPart) := by decide +kernel
theorem ms_X4_acceptsParen : Cond.selects yX4_acceptsParen.cls yX4_acceptsParen yX4_acceptsParen ∈ lw_tbl := List.mem_append_left _ (List.mem_of_getElem? (i := 15) (by decide +kernel))
theorem ml_RX4_66 : tables_1[793]? = some (Cond.methodLink RX4 66 yX4_acceptsParen) := by decide +kernel
theorem ml_RX4_57 : tables_1[691]? = some (Cond.methodLink RX4 57 yX4_isDigit) := by decide +kernel
theorem ms_X4_acceptsDigit : Cond.selects yX4_acceptsDigit.cls yX4_acceptsDigit yX4_acceptsDigit ∈ lw_tbl := List.mem_append_left _ (List.mem_of_getElem? (i := 11) (by decide +kernel))
theorem ml_RX4_60 : tables_1[694]? = some (Cond.methodLink RX4 60 yX4_acceptsDigit) := by decide +kernel
theorem ms_X4_acceptsBehind : Cond.selects yX4_acceptsBehind.cls yX4_acceptsBehind yX4_acceptsBehind ∈ lw_tbl := List.mem_append_left _ (List.mem_of_getElem? (i := 16) (by decide +kernel))
theorem ml_RX4_75 : tables_1[797]? = some (Cond.methodLink RX4 75 yX4_acceptsBehind) := by decide +kernel
theorem ms_X4_endNumber : Cond.selects yX4_endNumber.cls yX4_endNumber yX4_endNumber ∈ lw_tbl := List.mem_append_left _ (List.mem_of_getElem? (i := 12) (by decide +kernel))
theorem ml_RX4_54 : tables_1[698]? = some (Cond.methodLink RX4 54 yX4_endNumber) := by decide +kernel
theorem mf_X4_accepts : ix_mf yX4_accepts cX4_accepts 2 (some .boolean) 1 := ⟨ix_wm (i := 690) (by decide +kernel), ix_wm (i := 2) (by decide +kernel), ⟨by decide +kernel, by decide +kernel⟩, by decide +kernel, by decide +kernel⟩
theorem mi_X4_accepts : Cond.instanceMethod yX4_accepts ∈ lw_tbl := ix_wm (i := 689) (by decide +kernel)
theorem ms_X4_accepts : Cond.selects yX4_accepts.cls yX4_accepts yX4_accepts ∈ lw_tbl := List.mem_append_left _ (List.mem_of_getElem? (i := 10) (by decide +kernel))
theorem ml_RX4_50 : tables_1[687]? = some (Cond.methodLink RX4 50 yX4_accepts) := by decide +kernel
theorem mf_X4_readTape : ix_mf yX4_readTape cX4_readTape 2 (some .int) 0 := ⟨ix_wm (i := 686) (by decide +kernel), ix_wm (i := 2) (by decide +kernel), ⟨by decide +kernel, by decide +kernel⟩, by decide +kernel, by decide +kernel⟩
theorem mi_X4_readTape : Cond.instanceMethod yX4_readTape ∈ lw_tbl := ix_wm (i := 684) (by decide +kernel)
theorem ms_X2_look : Cond.selects yX2_look.cls yX2_look yX2_look ∈ lw_tbl := ix_wm (i := 477) (by decide +kernel)
theorem ml_RX4_93 : tables_1[805]? = some (Cond.methodLink RX4 93 yX2_look) := by decide +kernel
theorem mf_X4_lookForNames : ix_mf yX4_lookForNames cX4_lookForNames 4 (some .int) 1 := ⟨ix_wm (i := 804) (by decide +kernel), ix_wm (i := 2) (by decide +kernel), ⟨by decide +kernel, by decide +kernel⟩, by decide +kernel, by decide +kernel⟩
theorem mi_X4_lookForNames : Cond.instanceMethod yX4_lookForNames ∈ lw_tbl := ix_wm (i := 802) (by decide +kernel)
theorem ml_RX4_123 : tables_1[1093]? = some (Cond.methodLink RX4 123 yX7_size) := by decide +kernel
theorem ml_RX4_128 : tables_1[1094]? = some (Cond.methodLink RX4 128 yX7_tell) := by decide +kernel
theorem mf_X4_writeRow : ix_mf yX4_writeRow cX4_writeRow 4 (none : Option Jvm.ClassFile.FieldType) 2 := ⟨ix_wm (i := 1092) (by decide +kernel), ix_wm (i := 2) (by decide +kernel), ⟨by decide +kernel, by decide +kernel⟩, by decide +kernel, by decide +kernel⟩
theorem mi_X4_writeRow : Cond.instanceMethod yX4_writeRow ∈ lw_tbl := ix_wm (i := 1090) (by decide +kernel)
theorem mf_X4_noted : ix_mf yX4_noted cX4_noted 2 (some .int) 1 := ⟨ix_wm (i := 1539) (by decide +kernel), ix_wm (i := 2) (by decide +kernel), ⟨by decide +kernel, by decide +kernel⟩, by decide +kernel, by decide +kernel⟩
theorem mi_X4_noted : Cond.instanceMethod yX4_noted ∈ lw_tbl := ix_wm (i := 1537) (by decide +kernel)
theorem mf_X5_kindNumber : ix_mf yX5_kindNumber cX5_kindNumber 1 (some .int) 0 := ⟨ix_wm (i := 857) (by decide +kernel), ix_wm (i := 16) (by decide +kernel), ⟨by decide +kernel, by decide +kernel⟩, by decide +kernel, by decide +kernel⟩
theorem mi_X5_kindNumber : Cond.instanceMethod yX5_kindNumber ∈ lw_tbl := ix_wm (i := 856) (by decide +kernel)
theorem ml_RX5_31 : tables_1[941]? = some (Cond.methodLink RX5 31 yX4_note) := by decide +kernel
theorem ml_RX5_37 : tables_1[942]? = some (Cond.methodLink RX5 37 (⟨"ClauseCourt$AtMost", "holds", "(LClauseCourt$Board;LClauseCourt$Desk;)Z"⟩ : MethodName)) := by decide +kernel
theorem ml_RX5_41 : tables_1[943]? = some (Cond.methodLink RX5 41 (⟨"ClauseCourt$Group", "trueOnes", "(LClauseCourt$Board;)I"⟩ : MethodName)) := by decide +kernel
theorem fl_RX5_17 : ix_flb 639 640 false RX5 17 "ClauseCourt$Group" [5] 3 0 = true := by decide +kernel
theorem mf_X5_holds : ix_mf yX5_holds cX5_holds 3 (some .boolean) 2 := ⟨ix_wm (i := 940) (by decide +kernel), ix_wm (i := 16) (by decide +kernel), ⟨by decide +kernel, by decide +kernel⟩, by decide +kernel, by decide +kernel⟩
theorem mi_X5_holds : Cond.instanceMethod yX5_holds ∈ lw_tbl := ix_wm (i := 939) (by decide +kernel)
theorem mf_X5_fewest : ix_mf yX5_fewest cX5_fewest 2 (some .int) 1 := ⟨ix_wm (i := 975) (by decide +kernel), ix_wm (i := 16) (by decide +kernel), ⟨by decide +kernel, by decide +kernel⟩, by decide +kernel, by decide +kernel⟩
theorem mi_X5_fewest : Cond.instanceMethod yX5_fewest ∈ lw_tbl := ix_wm (i := 974) (by decide +kernel)
theorem ml_RX5_47 : tables_1[1072]? = some (Cond.methodLink RX5 47 yX4_writeText) := by decide +kernel
theorem ml_RX5_51 : tables_1[1073]? = some (Cond.methodLink RX5 51 (⟨"ClauseCourt$AtMost", "write", "(LClauseCourt$Desk;)V"⟩ : MethodName)) := by decide +kernel
theorem mf_X5_write : ix_mf yX5_write cX5_write 2 (none : Option Jvm.ClassFile.FieldType) 1 := ⟨ix_wm (i := 1070) (by decide +kernel), ix_wm (i := 16) (by decide +kernel), ⟨by decide +kernel, by decide +kernel⟩, by decide +kernel, by decide +kernel⟩
theorem mi_X5_write : Cond.instanceMethod yX5_write ∈ lw_tbl := ix_wm (i := 1069) (by decide +kernel)
theorem mf_X6_kindNumber : ix_mf yX6_kindNumber cX6_kindNumber 1 (some .int) 0 := ⟨ix_wm (i := 860) (by decide +kernel), ix_wm (i := 13) (by decide +kernel), ⟨by decide +kernel, by decide +kernel⟩, by decide +kernel, by decide +kernel⟩
theorem mi_X6_kindNumber : Cond.instanceMethod yX6_kindNumber ∈ lw_tbl := ix_wm (i := 859) (by decide +kernel)
theorem ms_X2_makeName : Cond.selects yX2_makeName.cls yX2_makeName yX2_makeName ∈ lw_tbl := ix_wm (i := 547) (by decide +kernel)
theorem ml_RX6_27 : tables_1[586]? = some (Cond.methodLink RX6 27 yX2_makeName) := by decide +kernel
theorem ms_X2_lay : Cond.selects yX2_lay.cls yX2_lay yX2_lay ∈ lw_tbl := ix_wm (i := 551) (by decide +kernel)
theorem ml_RX6_21 : tables_1[587]? = some (Cond.methodLink RX6 21 yX2_lay) := by decide +kernel
theorem mf_X6_layPair : ix_mf yX6_layPair cX6_layPair 4 (some .int) 3 := ⟨ix_wm (i := 585) (by decide +kernel), ix_wm (i := 13) (by decide +kernel), ⟨by decide +kernel, by decide +kernel⟩, by decide +kernel, by decide +kernel⟩
theorem st_X6_layPair : Cond.static yX6_layPair ∈ lw_tbl := ix_wm (i := 584) (by decide +kernel)
theorem fl_RX6_13 : ix_flb 510 511 false RX6 13 "ClauseCourt$Parity" [6] 0 2 = true := by decide +kernel
theorem fl_RX6_7 : ix_flb 672 0 false RX6 7 "ClauseCourt$Parity" [6] 3 0 = true := by decide +kernel
theorem ml_RX6_17 : tables_1[583]? = some (Cond.methodLink RX6 17 yX6_layPair) := by decide +kernel
theorem mf_X6_layInto : ix_mf yX6_layInto cX6_layInto 4 (none : Option Jvm.ClassFile.FieldType) 1 := ⟨ix_wm (i := 582) (by decide +kernel), ix_wm (i := 13) (by decide +kernel), ⟨by decide +kernel, by decide +kernel⟩, by decide +kernel, by decide +kernel⟩
theorem mi_X6_layInto : Cond.instanceMethod yX6_layInto ∈ lw_tbl := ix_wm (i := 581) (by decide +kernel)
theorem ml_RX6_31 : tables_1[949]? = some (Cond.methodLink RX6 31 yX4_note) := by decide +kernel
theorem ml_RX6_37 : tables_1[950]? = some (Cond.methodLink RX6 37 (⟨"ClauseCourt$Parity", "trueOnes", "(LClauseCourt$Board;)I"⟩ : MethodName)) := by decide +kernel
theorem mf_X6_holds : ix_mf yX6_holds cX6_holds 3 (some .boolean) 2 := ⟨ix_wm (i := 948) (by decide +kernel), ix_wm (i := 13) (by decide +kernel), ⟨by decide +kernel, by decide +kernel⟩, by decide +kernel, by decide +kernel⟩
theorem mi_X6_holds : Cond.instanceMethod yX6_holds ∈ lw_tbl := ix_wm (i := 947) (by decide +kernel)
def tab_X1_firstOf : List (Nat × Instr × Nat) := [(0, .iconst 0, 1), (1, .istore_n 1, 1), (2, .iload_n 1, 1), (3, .aload_n 0, 1), (4, .arraylength, 1), (5, .if_icmp .ge 36, 3), (8, .aload_n 0, 1), (9, .iload_n 1, 1), (10, .laload, 1), (11, .lconst 0, 1), (12, .lcmp, 1), (13, .ifCond .eq 22, 3), (16, .bipush 64, 2), (18, .iload_n 1, 1), (19, .imul, 1), (20, .aload_n 0, 1), (21, .iload_n 1, 1), (22, .laload, 1), (23, .aload_n 0, 1), (24, .iload_n 1, 1), (25, .laload, 1), (26, .lneg, 1), (27, .land, 1), (28, .lconst 1, 1), (29, .lsub, 1), (30, .invokestatic 120, 3), (33, .iadd, 1), (34, .ireturn, 1), (35, .iinc 1 1, 3), (38, .goto (-36), 3), (41, .iconst (-1), 1), (42, .ireturn, 1)]
theorem tb_X1_firstOf : ix_tab cX1_firstOf tab_X1_firstOf := by
  unfold ix_tab
  decide +kernel
noncomputable def b_X1_firstOf_2 (n : Nat) (z : ix_Z)  (a0 : Nat) (rec2 : Int32 → ix_D2 → Option (Int32 × ix_D2)) (x1 : Int32) (d : ix_D2) : Option (Int32 × ix_D2) :=
  ix_ck (a0 < z.2.2 ∧ 20 ≤ (z.2.1 a0).1 ∧ (z.2.1 a0).1 < 26) (ix_if (nI (z.2.1 a0).2 ≤ x1) (some ((-1), d)) (ix_ck (ix_ix z 23 a0 x1) (ix_if (lg_cmp (d.2 a0 (ix_n x1)) 0 = 0) (ix_lt (x1 + 1) (fun x1_5 => rec2 x1_5 d)) (ix_bd2 (f_J13_bitCount_95d88 n z (((d.2 a0 (ix_n x1)) &&& (-(d.2 a0 (ix_n x1)))) - 1) d) (fun r_9 d_7 => some ((64 * x1) + r_9, d_7))))))
noncomputable def f_X1_firstOf_2 (n : Nat) (z : ix_Z)  (a0 : Nat) (x1 : Int32) (d : ix_D2) : Option (Int32 × ix_D2) := ix_fix (b_X1_firstOf_2 n z  a0) (fun _ _ => none) n x1 d
noncomputable def f_X1_firstOf (n : Nat) (z : ix_Z) (a0 : Nat) (d : ix_D2) : Option (Int32 × ix_D2) :=
  f_X1_firstOf_2 n z  a0 0 d
set_option maxRecDepth 20000 in
theorem tb_X1_firstOf_2 {l : Launch} {p : Program} {e : Env} {s : State} {m : MethodId} {args : Array Value} {below : List Frame} {meth : Method} {c : Code} {K : ix_Cx} (hKp : ix_Kp K) {n : Nat} {z : ix_Z} (X : ix_X p s m args c K cX1_firstOf RX1 2) (hr : meth.sig.returnType = (some .int)) (hlk : meth.locks = false)  {a0 : Nat} {rec2 : Int32 → ix_D2 → Option (Int32 × ix_D2)} {r : Int32} {d1 : ix_D2} (hrec2 : ∀ (x1 : Int32) (d : ix_D2), rec2 x1 d = some (r, d1) → ix_G p l e (ix_rm 1 21 0 0) s m args below meth c (MQ below (ix_Post K (some (.int r)) (ix_w z d1)) args s 0 0 (ix_A K)) K 2 0 0 2 [(0, .ref (K.2.2.1 + a0)), (1, .int x1)] [] (ix_w z d)) {x1 : Int32} {d : ix_D2} (h : b_X1_firstOf_2 n z  a0 rec2 x1 d = some (r, d1)) : ix_G p l e (ix_rm 1 21 0 0) s m args below meth c (MQ below (ix_Post K (some (.int r)) (ix_w z d1)) args s 0 0 (ix_A K)) K 2 0 0 2 [(0, .ref (K.2.2.1 + a0)), (1, .int x1)] [] (ix_w z d) := by
  unfold b_X1_firstOf_2 at h
  refine ix_iload_n (i := 1) (j := 1) X (ix_tb_at tb_X1_firstOf 2 rfl) rfl rfl (pc1 := 3) rfl ?_
  refine ix_aload_n (i := 0) (j := 0) X (ix_tb_at tb_X1_firstOf 3 rfl) rfl rfl (pc1 := 4) rfl ?_
  obtain ⟨k_1, h⟩ := ix_ck_some h
  refine iz_alen X k_1 (ix_tb_at tb_X1_firstOf 4 rfl) (pc1 := 5) rfl ?_
  refine ix_icmp_ge (tgt := 41) X (ix_tb_at tb_X1_firstOf 5 rfl) (by decide) (pc1 := 8) rfl (fun q_2 => ?_) (fun q_2 => ?_)
  · have h := ix_ift q_2 h
    refine ix_iconst (v := (-1)) X (ix_tb_at tb_X1_firstOf 30 rfl) (by decide) (pc1 := 42) rfl ?_
    exact ix_iret X hr hlk (ix_r2 (f := fun r => some (.int r)) (g := ix_w z) h) (ix_tb_at tb_X1_firstOf 31 rfl)
  · have h := ix_iff q_2 h
    refine ix_aload_n (i := 0) (j := 0) X (ix_tb_at tb_X1_firstOf 6 rfl) rfl rfl (pc1 := 9) rfl ?_
    refine ix_iload_n (i := 1) (j := 1) X (ix_tb_at tb_X1_firstOf 7 rfl) rfl rfl (pc1 := 10) rfl ?_
    obtain ⟨k_3, h⟩ := ix_ck_some h
    refine iz_lald X k_3 (ix_tb_at tb_X1_firstOf 8 rfl) (pc1 := 11) rfl ?_
    refine ix_lconst (v := 0) X (ix_tb_at tb_X1_firstOf 9 rfl) (by decide) (pc1 := 12) rfl ?_
    refine ix_lcmp X (ix_tb_at tb_X1_firstOf 10 rfl) (pc1 := 13) rfl ?_
    refine ix_if_eq (tgt := 35) X (ix_tb_at tb_X1_firstOf 11 rfl) (by decide) (pc1 := 16) rfl (fun q_4 => ?_) (fun q_4 => ?_)
    · have h := ix_ift q_4 h
      obtain ⟨x1_5, e_6, h⟩ := ix_lt_ex h
      refine ix_iinc (i := 1) (j := 1) (v := x1_5) (L1 := [(1, .int x1_5), (0, .ref (K.2.2.1 + a0))]) X (ix_tb_at tb_X1_firstOf 28 rfl) rfl (by rw [oi_1]; exact e_6.symm) (Nat.le_of_ble_eq_true rfl) rfl (pc1 := 38) rfl ?_
      refine ix_goto (tgt := 2) X (ix_tb_at tb_X1_firstOf 29 rfl) (by decide) ?_
      refine ix_sub (L1 := [(0, .ref (K.2.2.1 + a0)), (1, .int x1_5)]) [1, 0] rfl ?_
      exact hrec2 x1_5 d h
    · have h := ix_iff q_4 h
      refine ix_bipush (v := 64) X (ix_tb_at tb_X1_firstOf 12 rfl) (by decide) (pc1 := 18) rfl ?_
      refine ix_iload_n (i := 1) (j := 1) X (ix_tb_at tb_X1_firstOf 13 rfl) rfl rfl (pc1 := 19) rfl ?_
      refine ix_imul X (ix_tb_at tb_X1_firstOf 14 rfl) (pc1 := 20) rfl ?_
      refine ix_aload_n (i := 0) (j := 0) X (ix_tb_at tb_X1_firstOf 15 rfl) rfl rfl (pc1 := 21) rfl ?_
      refine ix_iload_n (i := 1) (j := 1) X (ix_tb_at tb_X1_firstOf 16 rfl) rfl rfl (pc1 := 22) rfl ?_
      refine iz_lald X k_3 (ix_tb_at tb_X1_firstOf 17 rfl) (pc1 := 23) rfl ?_
      refine ix_aload_n (i := 0) (j := 0) X (ix_tb_at tb_X1_firstOf 18 rfl) rfl rfl (pc1 := 24) rfl ?_
      refine ix_iload_n (i := 1) (j := 1) X (ix_tb_at tb_X1_firstOf 19 rfl) rfl rfl (pc1 := 25) rfl ?_
      refine iz_lald X k_3 (ix_tb_at tb_X1_firstOf 20 rfl) (pc1 := 26) rfl ?_
      refine ix_lneg X (ix_tb_at tb_X1_firstOf 21 rfl) (pc1 := 27) rfl ?_
      refine ix_land X (ix_tb_at tb_X1_firstOf 22 rfl) (pc1 := 28) rfl ?_
      refine ix_lconst (v := 1) X (ix_tb_at tb_X1_firstOf 23 rfl) (by decide) (pc1 := 29) rfl ?_
      refine ix_lsub X (ix_tb_at tb_X1_firstOf 24 rfl) (pc1 := 30) rfl ?_
      obtain ⟨r_9, d_7, h_8, h⟩ := ix_bd2_ex h
      refine ix_callS (As := [.long (((d.2 a0 (ix_n x1)) &&& (-(d.2 a0 (ix_n x1)))) - 1)]) (rest := [.int (64 * x1)]) X mf_J13_bitCount_95d88 st_J13_bitCount_95d88 ml_RX1_120 ⟨Nat.le_of_ble_eq_true rfl, Nat.le_of_ble_eq_true rfl⟩ ⟨Nat.le_of_ble_eq_true rfl, Nat.le_of_ble_eq_true rfl⟩ rfl (Nat.le_of_ble_eq_true rfl) (ix_tb_at tb_X1_firstOf 25 rfl) (c_J13_bitCount_95d88 hKp h_8) rfl (pc1 := 33) rfl ?_
      refine ix_iadd X (ix_tb_at tb_X1_firstOf 26 rfl) (pc1 := 34) rfl ?_
      exact ix_iret X hr hlk (ix_r2 (f := fun r => some (.int r)) (g := ix_w z) h) (ix_tb_at tb_X1_firstOf 27 rfl)
theorem t_X1_firstOf_2 {l : Launch} {p : Program} {e : Env} {s : State} {m : MethodId} {args : Array Value} {below : List Frame} {meth : Method} {c : Code} {K : ix_Cx} (hKp : ix_Kp K) {n : Nat} {z : ix_Z} (X : ix_X p s m args c K cX1_firstOf RX1 2) (hr : meth.sig.returnType = (some .int)) (hlk : meth.locks = false)  {a0 : Nat} {r : Int32} {d1 : ix_D2}  {x1 : Int32} {d : ix_D2} (h : f_X1_firstOf_2 n z  a0 x1 d = some (r, d1)) : ix_G p l e (ix_rm 1 21 0 0) s m args below meth c (MQ below (ix_Post K (some (.int r)) (ix_w z d1)) args s 0 0 (ix_A K)) K 2 0 0 2 [(0, .ref (K.2.2.1 + a0)), (1, .int x1)] [] (ix_w z d) := by
  have key : ∀ (f : Nat) (x1 : Int32) (d : ix_D2), ix_fix (b_X1_firstOf_2 n z  a0) (fun _ _ => none) f x1 d = some (r, d1) → ix_G p l e (ix_rm 1 21 0 0) s m args below meth c (MQ below (ix_Post K (some (.int r)) (ix_w z d1)) args s 0 0 (ix_A K)) K 2 0 0 2 [(0, .ref (K.2.2.1 + a0)), (1, .int x1)] [] (ix_w z d) := by
    intro f
    induction f with
    | zero =>
      intro x1 d h
      have h : (none : Option (Int32 × ix_D2)) = some (r, d1) := h
      cases h
    | succ f ih =>
      intro x1 d h
      exact tb_X1_firstOf_2 hKp X hr hlk (rec2 := ix_fix (b_X1_firstOf_2 n z  a0) (fun _ _ => none) f)  ih h
  exact key n x1 d h
set_option maxRecDepth 20000 in
theorem c_X1_firstOf {l : Launch} {K : ix_Cx} (hKp : ix_Kp K) {n : Nat} {z : ix_Z} {a0 : Nat} {d : ix_D2} {r : Int32} {d1 : ix_D2} (h : f_X1_firstOf n z a0 d = some (r, d1)) : ix_M l K yX1_firstOf cX1_firstOf 2 (some .int) 1 21 0 0 [.ref (K.2.2.1 + a0)] (ix_w z d) (some (.int r)) (ix_w z d1) := by
  refine ix_met mf_X1_firstOf hKp (Nat.le_of_ble_eq_true rfl) ?_
  intro p e s m args below meth c hr hlk hnm X
  have X : ix_X p s m args c K cX1_firstOf RX1 2 := X
  show ix_G p l e (ix_rm 1 21 0 0) s m args below meth c (MQ below (ix_Post K (some (.int r)) (ix_w z d1)) args s 0 0 (ix_A K)) K 2 0 0 0 [(0, .ref (K.2.2.1 + a0))] [] (ix_w z d)
  unfold f_X1_firstOf at h
  refine ix_iconst (v := 0) X (ix_tb_at tb_X1_firstOf 0 rfl) (by decide) (pc1 := 1) rfl ?_
  refine ix_istore_n (i := 1) (L1 := [(1, .int 0), (0, .ref (K.2.2.1 + a0))]) X (ix_tb_at tb_X1_firstOf 1 rfl) rfl (Nat.le_of_ble_eq_true rfl) rfl (pc1 := 2) rfl ?_
  refine ix_sub (L1 := [(0, .ref (K.2.2.1 + a0)), (1, .int 0)]) [1, 0] rfl ?_
  exact t_X1_firstOf_2 hKp X hr hlk  h
def tab_X1_firstQuarrel : List (Nat × Instr × Nat) := [(0, .aload_n 0, 1), (1, .getfield 33, 3), (4, .invokestatic 116, 3), (7, .ireturn, 1)]
theorem tb_X1_firstQuarrel : ix_tab cX1_firstQuarrel tab_X1_firstQuarrel := by
  unfold ix_tab
  decide +kernel
noncomputable def f_X1_firstQuarrel (n : Nat) (z : ix_Z) (a0 : Nat) (d : ix_D2) : Option (Int32 × ix_D2) :=
  ix_ck (ix_ok z [1] a0) (ix_bd1 (z.1 a0 5) (fun b_2 => ix_bd2 (f_X1_firstOf n z b_2 d) (fun r_6 d_4 => some (r_6, d_4))))
set_option maxRecDepth 20000 in
theorem c_X1_firstQuarrel {l : Launch} {K : ix_Cx} (hKp : ix_Kp K) {n : Nat} {z : ix_Z} {a0 : Nat} {d : ix_D2} {r : Int32} {d1 : ix_D2} (h : f_X1_firstQuarrel n z a0 d = some (r, d1)) : ix_M l K yX1_firstQuarrel cX1_firstQuarrel 1 (some .int) 2 42 0 0 [.ref (K.2.2.1 + a0)] (ix_w z d) (some (.int r)) (ix_w z d1) := by
  refine ix_met mf_X1_firstQuarrel hKp (Nat.le_of_ble_eq_true rfl) ?_
  intro p e s m args below meth c hr hlk hnm X
  have X : ix_X p s m args c K cX1_firstQuarrel RX1 1 := X
  show ix_G p l e (ix_rm 2 42 0 0) s m args below meth c (MQ below (ix_Post K (some (.int r)) (ix_w z d1)) args s 0 0 (ix_A K)) K 1 0 0 0 [(0, .ref (K.2.2.1 + a0))] [] (ix_w z d)
  unfold f_X1_firstQuarrel at h
  refine ix_aload_n (i := 0) (j := 0) X (ix_tb_at tb_X1_firstQuarrel 0 rfl) rfl rfl (pc1 := 1) rfl ?_
  obtain ⟨k_1, h⟩ := ix_ck_some h
  obtain ⟨b_2, q_3, h⟩ := ix_bd1_ex h
  refine iz_getR X fl_RX1_33 k_1 q_3 (ix_tb_at tb_X1_firstQuarrel 1 rfl) (pc1 := 4) rfl ?_
  obtain ⟨r_6, d_4, h_5, h⟩ := ix_bd2_ex h
  refine ix_callS (As := [.ref (K.2.2.1 + b_2)]) (rest := []) X mf_X1_firstOf st_X1_firstOf ml_RX1_116 ⟨Nat.le_of_ble_eq_true rfl, Nat.le_of_ble_eq_true rfl⟩ ⟨Nat.le_of_ble_eq_true rfl, Nat.le_of_ble_eq_true rfl⟩ rfl (Nat.le_of_ble_eq_true rfl) (ix_tb_at tb_X1_firstQuarrel 2 rfl) (c_X1_firstOf hKp h_5) rfl (pc1 := 7) rfl ?_
  exact ix_iret X hr hlk (ix_r2 (f := fun r => some (.int r)) (g := ix_w z) h) (ix_tb_at tb_X1_firstQuarrel 3 rfl)
def tab_X1_firstUnit : List (Nat × Instr × Nat) := [(0, .aload_n 0, 1), (1, .getfield 37, 3), (4, .invokestatic 116, 3), (7, .ireturn, 1)]
theorem tb_X1_firstUnit : ix_tab cX1_firstUnit tab_X1_firstUnit := by
  unfold ix_tab
  decide +kernel
noncomputable def f_X1_firstUnit (n : Nat) (z : ix_Z) (a0 : Nat) (d : ix_D2) : Option (Int32 × ix_D2) :=
  ix_ck (ix_ok z [1] a0) (ix_bd1 (z.1 a0 6) (fun b_2 => ix_bd2 (f_X1_firstOf n z b_2 d) (fun r_6 d_4 => some (r_6, d_4))))
set_option maxRecDepth 20000 in
theorem c_X1_firstUnit {l : Launch} {K : ix_Cx} (hKp : ix_Kp K) {n : Nat} {z : ix_Z} {a0 : Nat} {d : ix_D2} {r : Int32} {d1 : ix_D2} (h : f_X1_firstUnit n z a0 d = some (r, d1)) : ix_M l K yX1_firstUnit cX1_firstUnit 1 (some .int) 2 42 0 0 [.ref (K.2.2.1 + a0)] (ix_w z d) (some (.int r)) (ix_w z d1) := by
  refine ix_met mf_X1_firstUnit hKp (Nat.le_of_ble_eq_true rfl) ?_
  intro p e s m args below meth c hr hlk hnm X
  have X : ix_X p s m args c K cX1_firstUnit RX1 1 := X
  show ix_G p l e (ix_rm 2 42 0 0) s m args below meth c (MQ below (ix_Post K (some (.int r)) (ix_w z d1)) args s 0 0 (ix_A K)) K 1 0 0 0 [(0, .ref (K.2.2.1 + a0))] [] (ix_w z d)
  unfold f_X1_firstUnit at h
  refine ix_aload_n (i := 0) (j := 0) X (ix_tb_at tb_X1_firstUnit 0 rfl) rfl rfl (pc1 := 1) rfl ?_
  obtain ⟨k_1, h⟩ := ix_ck_some h
  obtain ⟨b_2, q_3, h⟩ := ix_bd1_ex h
  refine iz_getR X fl_RX1_37 k_1 q_3 (ix_tb_at tb_X1_firstUnit 1 rfl) (pc1 := 4) rfl ?_
  obtain ⟨r_6, d_4, h_5, h⟩ := ix_bd2_ex h
  refine ix_callS (As := [.ref (K.2.2.1 + b_2)]) (rest := []) X mf_X1_firstOf st_X1_firstOf ml_RX1_116 ⟨Nat.le_of_ble_eq_true rfl, Nat.le_of_ble_eq_true rfl⟩ ⟨Nat.le_of_ble_eq_true rfl, Nat.le_of_ble_eq_true rfl⟩ rfl (Nat.le_of_ble_eq_true rfl) (ix_tb_at tb_X1_firstUnit 2 rfl) (c_X1_firstOf hKp h_5) rfl (pc1 := 7) rfl ?_
  exact ix_iret X hr hlk (ix_r2 (f := fun r => some (.int r)) (g := ix_w z) h) (ix_tb_at tb_X1_firstUnit 3 rfl)
def tab_X1_openItem : List (Nat × Instr × Nat) := [(0, .aload_n 0, 1), (1, .getfield 16, 3), (4, .getfield 85, 3), (7, .iload_n 1, 1), (8, .iaload, 1), (9, .istore_n 2, 1), (10, .iload_n 2, 1), (11, .aload_n 0, 1), (12, .getfield 16, 3), (15, .getfield 85, 3), (18, .iload_n 1, 1), (19, .iconst 1, 1), (20, .iadd, 1), (21, .iaload, 1), (22, .if_icmp .ge 29, 3), (25, .aload_n 0, 1), (26, .getfield 16, 3), (29, .getfield 82, 3), (32, .iload_n 2, 1), (33, .iaload, 1), (34, .istore_n 3, 1), (35, .aload_n 0, 1), (36, .iload_n 3, 1), (37, .invokevirtual 78, 3), (40, .ifCond .ne 5, 3), (43, .iload_n 3, 1), (44, .ireturn, 1), (45, .iinc 2 1, 3), (48, .goto (-38), 3), (51, .iconst 0, 1), (52, .ireturn, 1)]
theorem tb_X1_openItem : ix_tab cX1_openItem tab_X1_openItem := by
  unfold ix_tab
  decide +kernel
noncomputable def b_X1_openItem_10 (n : Nat) (z : ix_Z)  (a0 : Nat) (x1 : Int32) (rec10 : Int32 → ix_D2 → Option (Int32 × ix_D2)) (x2 : Int32) (d : ix_D2) : Option (Int32 × ix_D2) :=
  ix_ck (ix_ok z [1] a0) (ix_bd1 (z.1 a0 0) (fun b_11 => ix_ck (ix_ok z [7] b_11) (ix_bd1 (z.1 b_11 1) (fun b_14 => ix_ck (ix_ix z 20 b_14 (x1 + 1)) (ix_if (d.1 b_14 (ix_n (x1 + 1)) ≤ x2) (some (0, d)) (ix_bd1 (z.1 b_11 0) (fun b_18 => ix_ck (ix_ix z 20 b_18 x2) (ix_lt (d.1 b_18 (ix_n x2)) (fun x3_21 => ix_bd2 (f_X1_valueOf n z a0 x3_21 d) (fun r_25 d_23 => ix_if (r_25 = 0) (some (x3_21, d_23)) (ix_lt (x2 + 1) (fun x2_27 => rec10 x2_27 d_23))))))))))))
noncomputable def f_X1_openItem_10 (n : Nat) (z : ix_Z)  (a0 : Nat) (x1 : Int32) (x2 : Int32) (d : ix_D2) : Option (Int32 × ix_D2) := ix_fix (b_X1_openItem_10 n z  a0 x1) (fun _ _ => none) n x2 d
noncomputable def f_X1_openItem (n : Nat) (z : ix_Z) (a0 : Nat) (x1 : Int32) (d : ix_D2) : Option (Int32 × ix_D2) :=
  ix_ck (ix_ok z [1] a0) (ix_bd1 (z.1 a0 0) (fun b_2 => ix_ck (ix_ok z [7] b_2) (ix_bd1 (z.1 b_2 1) (fun b_5 => ix_ck (ix_ix z 20 b_5 x1) (ix_lt (d.1 b_5 (ix_n x1)) (fun x2_8 => f_X1_openItem_10 n z  a0 x1 x2_8 d))))))
set_option maxRecDepth 20000 in
theorem tb_X1_openItem_10 {l : Launch} {p : Program} {e : Env} {s : State} {m : MethodId} {args : Array Value} {below : List Frame} {meth : Method} {c : Code} {K : ix_Cx} (hKp : ix_Kp K) {n : Nat} {z : ix_Z} (X : ix_X p s m args c K cX1_openItem RX1 4) (hr : meth.sig.returnType = (some .int)) (hlk : meth.locks = false)  {a0 : Nat} {x1 : Int32} {rec10 : Int32 → ix_D2 → Option (Int32 × ix_D2)} {r : Int32} {d1 : ix_D2} (hrec10 : ∀ (x2 : Int32) (d : ix_D2), rec10 x2 d = some (r, d1) → ix_G p l e (ix_rm 1 21 0 0) s m args below meth c (MQ below (ix_Post K (some (.int r)) (ix_w z d1)) args s 0 0 (ix_A K)) K 4 0 0 10 [(0, .ref (K.2.2.1 + a0)), (1, .int x1), (2, .int x2)] [] (ix_w z d)) {x2 : Int32} {d : ix_D2} (h : b_X1_openItem_10 n z  a0 x1 rec10 x2 d = some (r, d1)) : ix_G p l e (ix_rm 1 21 0 0) s m args below meth c (MQ below (ix_Post K (some (.int r)) (ix_w z d1)) args s 0 0 (ix_A K)) K 4 0 0 10 [(0, .ref (K.2.2.1 + a0)), (1, .int x1), (2, .int x2)] [] (ix_w z d) := by
  unfold b_X1_openItem_10 at h
  refine ix_iload_n (i := 2) (j := 2) X (ix_tb_at tb_X1_openItem 6 rfl) rfl rfl (pc1 := 11) rfl ?_
  refine ix_aload_n (i := 0) (j := 0) X (ix_tb_at tb_X1_openItem 7 rfl) rfl rfl (pc1 := 12) rfl ?_
  obtain ⟨k_10, h⟩ := ix_ck_some h
  obtain ⟨b_11, q_12, h⟩ := ix_bd1_ex h
  refine iz_getR X fl_RX1_16 k_10 q_12 (ix_tb_at tb_X1_openItem 8 rfl) (pc1 := 15) rfl ?_
  obtain ⟨k_13, h⟩ := ix_ck_some h
  obtain ⟨b_14, q_15, h⟩ := ix_bd1_ex h
  refine iz_getR X fl_RX1_85 k_13 q_15 (ix_tb_at tb_X1_openItem 9 rfl) (pc1 := 18) rfl ?_
  refine ix_iload_n (i := 1) (j := 1) X (ix_tb_at tb_X1_openItem 10 rfl) rfl rfl (pc1 := 19) rfl ?_
  refine ix_iconst (v := 1) X (ix_tb_at tb_X1_openItem 11 rfl) (by decide) (pc1 := 20) rfl ?_
  refine ix_iadd X (ix_tb_at tb_X1_openItem 12 rfl) (pc1 := 21) rfl ?_
  obtain ⟨k_16, h⟩ := ix_ck_some h
  refine iz_iald X k_16 (ix_tb_at tb_X1_openItem 13 rfl) (pc1 := 22) rfl ?_
  refine ix_icmp_ge (tgt := 51) X (ix_tb_at tb_X1_openItem 14 rfl) (by decide) (pc1 := 25) rfl (fun q_17 => ?_) (fun q_17 => ?_)
  · have h := ix_ift q_17 h
    refine ix_iconst (v := 0) X (ix_tb_at tb_X1_openItem 29 rfl) (by decide) (pc1 := 52) rfl ?_
    exact ix_iret X hr hlk (ix_r2 (f := fun r => some (.int r)) (g := ix_w z) h) (ix_tb_at tb_X1_openItem 30 rfl)
  · have h := ix_iff q_17 h
    refine ix_aload_n (i := 0) (j := 0) X (ix_tb_at tb_X1_openItem 15 rfl) rfl rfl (pc1 := 26) rfl ?_
    refine iz_getR X fl_RX1_16 k_10 q_12 (ix_tb_at tb_X1_openItem 16 rfl) (pc1 := 29) rfl ?_
    obtain ⟨b_18, q_19, h⟩ := ix_bd1_ex h
    refine iz_getR X fl_RX1_82 k_13 q_19 (ix_tb_at tb_X1_openItem 17 rfl) (pc1 := 32) rfl ?_
    refine ix_iload_n (i := 2) (j := 2) X (ix_tb_at tb_X1_openItem 18 rfl) rfl rfl (pc1 := 33) rfl ?_
    obtain ⟨k_20, h⟩ := ix_ck_some h
    refine iz_iald X k_20 (ix_tb_at tb_X1_openItem 19 rfl) (pc1 := 34) rfl ?_
    obtain ⟨x3_21, e_22, h⟩ := ix_lt_ex h
    refine ix_nmi e_22 ?_
    refine ix_istore_n (i := 3) (L1 := [(3, .int x3_21), (0, .ref (K.2.2.1 + a0)), (1, .int x1), (2, .int x2)]) X (ix_tb_at tb_X1_openItem 20 rfl) rfl (Nat.le_of_ble_eq_true rfl) rfl (pc1 := 35) rfl ?_
    refine ix_aload_n (i := 0) (j := 1) X (ix_tb_at tb_X1_openItem 21 rfl) rfl rfl (pc1 := 36) rfl ?_
    refine ix_iload_n (i := 3) (j := 0) X (ix_tb_at tb_X1_openItem 22 rfl) rfl rfl (pc1 := 37) rfl ?_
    obtain ⟨r_25, d_23, h_24, h⟩ := ix_bd2_ex h
    refine ix_callV (As := [.int x3_21]) (rest := []) (ci := 1) (T := TX1) (nf := 17) X mf_X1_valueOf mi_X1_valueOf ms_X1_valueOf rfl (Nat.le_of_ble_eq_true rfl) ml_RX1_78 ⟨Nat.le_of_ble_eq_true rfl, Nat.le_of_ble_eq_true rfl⟩ ⟨Nat.le_of_ble_eq_true rfl, Nat.le_of_ble_eq_true rfl⟩ rfl (Nat.le_of_ble_eq_true rfl) (ix_tb_at tb_X1_openItem 23 rfl) ⟨k_10.1, List.mem_singleton.mp k_10.2⟩ (c_X1_valueOf hKp h_24) rfl (pc1 := 40) rfl ?_
    refine ix_if_ne (tgt := 45) X (ix_tb_at tb_X1_openItem 24 rfl) (by decide) (pc1 := 43) rfl (fun q_26 => ?_) (fun q_26 => ?_)
    · have h := ix_iff q_26 h
      obtain ⟨x2_27, e_28, h⟩ := ix_lt_ex h
      refine ix_iinc (i := 2) (j := 3) (v := x2_27) (L1 := [(2, .int x2_27), (3, .int x3_21), (0, .ref (K.2.2.1 + a0)), (1, .int x1)]) X (ix_tb_at tb_X1_openItem 27 rfl) rfl (by rw [oi_1]; exact e_28.symm) (Nat.le_of_ble_eq_true rfl) rfl (pc1 := 48) rfl ?_
      refine ix_goto (tgt := 10) X (ix_tb_at tb_X1_openItem 28 rfl) (by decide) ?_
      refine ix_sub (L1 := [(0, .ref (K.2.2.1 + a0)), (1, .int x1), (2, .int x2_27)]) [2, 3, 0] rfl ?_
      exact hrec10 x2_27 d_23 h
    · have h := ix_ift q_26 h
      refine ix_iload_n (i := 3) (j := 0) X (ix_tb_at tb_X1_openItem 25 rfl) rfl rfl (pc1 := 44) rfl ?_
      exact ix_iret X hr hlk (ix_r2 (f := fun r => some (.int r)) (g := ix_w z) h) (ix_tb_at tb_X1_openItem 26 rfl)
theorem t_X1_openItem_10 {l : Launch} {p : Program} {e : Env} {s : State} {m : MethodId} {args : Array Value} {below : List Frame} {meth : Method} {c : Code} {K : ix_Cx} (hKp : ix_Kp K) {n : Nat} {z : ix_Z} (X : ix_X p s m args c K cX1_openItem RX1 4) (hr : meth.sig.returnType = (some .int)) (hlk : meth.locks = false)  {a0 : Nat} {x1 : Int32} {r : Int32} {d1 : ix_D2}  {x2 : Int32} {d : ix_D2} (h : f_X1_openItem_10 n z  a0 x1 x2 d = some (r, d1)) : ix_G p l e (ix_rm 1 21 0 0) s m args below meth c (MQ below (ix_Post K (some (.int r)) (ix_w z d1)) args s 0 0 (ix_A K)) K 4 0 0 10 [(0, .ref (K.2.2.1 + a0)), (1, .int x1), (2, .int x2)] [] (ix_w z d) := by
  have key : ∀ (f : Nat) (x2 : Int32) (d : ix_D2), ix_fix (b_X1_openItem_10 n z  a0 x1) (fun _ _ => none) f x2 d = some (r, d1) → ix_G p l e (ix_rm 1 21 0 0) s m args below meth c (MQ below (ix_Post K (some (.int r)) (ix_w z d1)) args s 0 0 (ix_A K)) K 4 0 0 10 [(0, .ref (K.2.2.1 + a0)), (1, .int x1), (2, .int x2)] [] (ix_w z d) := by
    intro f
    induction f with
    | zero =>
      intro x2 d h
      have h : (none : Option (Int32 × ix_D2)) = some (r, d1) := h
      cases h
    | succ f ih =>
      intro x2 d h
      exact tb_X1_openItem_10 hKp X hr hlk (rec10 := ix_fix (b_X1_openItem_10 n z  a0 x1) (fun _ _ => none) f)  ih h
  exact key n x2 d h
set_option maxRecDepth 20000 in
theorem c_X1_openItem {l : Launch} {K : ix_Cx} (hKp : ix_Kp K) {n : Nat} {z : ix_Z} {a0 : Nat} {x1 : Int32} {d : ix_D2} {r : Int32} {d1 : ix_D2} (h : f_X1_openItem n z a0 x1 d = some (r, d1)) : ix_M l K yX1_openItem cX1_openItem 4 (some .int) 1 21 0 0 [.ref (K.2.2.1 + a0), .int x1] (ix_w z d) (some (.int r)) (ix_w z d1) := by
  refine ix_met mf_X1_openItem hKp (Nat.le_of_ble_eq_true rfl) ?_
  intro p e s m args below meth c hr hlk hnm X
  have X : ix_X p s m args c K cX1_openItem RX1 4 := X
  show ix_G p l e (ix_rm 1 21 0 0) s m args below meth c (MQ below (ix_Post K (some (.int r)) (ix_w z d1)) args s 0 0 (ix_A K)) K 4 0 0 0 [(0, .ref (K.2.2.1 + a0)), (1, .int x1)] [] (ix_w z d)
  unfold f_X1_openItem at h
  refine ix_aload_n (i := 0) (j := 0) X (ix_tb_at tb_X1_openItem 0 rfl) rfl rfl (pc1 := 1) rfl ?_
  obtain ⟨k_1, h⟩ := ix_ck_some h
  obtain ⟨b_2, q_3, h⟩ := ix_bd1_ex h
  refine iz_getR X fl_RX1_16 k_1 q_3 (ix_tb_at tb_X1_openItem 1 rfl) (pc1 := 4) rfl ?_
  obtain ⟨k_4, h⟩ := ix_ck_some h
  obtain ⟨b_5, q_6, h⟩ := ix_bd1_ex h
  refine iz_getR X fl_RX1_85 k_4 q_6 (ix_tb_at tb_X1_openItem 2 rfl) (pc1 := 7) rfl ?_
  refine ix_iload_n (i := 1) (j := 1) X (ix_tb_at tb_X1_openItem 3 rfl) rfl rfl (pc1 := 8) rfl ?_
  obtain ⟨k_7, h⟩ := ix_ck_some h
  refine iz_iald X k_7 (ix_tb_at tb_X1_openItem 4 rfl) (pc1 := 9) rfl ?_
  obtain ⟨x2_8, e_9, h⟩ := ix_lt_ex h
  refine ix_nmi e_9 ?_
  refine ix_istore_n (i := 2) (L1 := [(2, .int x2_8), (0, .ref (K.2.2.1 + a0)), (1, .int x1)]) X (ix_tb_at tb_X1_openItem 5 rfl) rfl (Nat.le_of_ble_eq_true rfl) rfl (pc1 := 10) rfl ?_
  refine ix_sub (L1 := [(0, .ref (K.2.2.1 + a0)), (1, .int x1), (2, .int x2_8)]) [1, 2, 0] rfl ?_
  exact t_X1_openItem_10 hKp X hr hlk  h
def tab_X1_settle : List (Nat × Instr × Nat) := [(0, .iconst 0, 1), (1, .istore_n 1, 1), (2, .iload_n 1, 1), (3, .sipush 300, 3), (6, .if_icmp .gt 39, 3), (9, .aload_n 0, 1), (10, .invokevirtual 126, 3), (13, .istore_n 2, 1), (14, .aload_n 0, 1), (15, .invokevirtual 130, 3), (18, .istore_n 3, 1), (19, .iload_n 2, 1), (20, .ifCond .ge 7, 3), (23, .iload_n 3, 1), (24, .ifCond .ge 5, 3), (27, .iload_n 2, 1), (28, .ireturn, 1), (29, .aload_n 0, 1), (30, .aload_n 0, 1), (31, .iload_n 3, 1), (32, .invokevirtual 133, 3), (35, .iload_n 3, 1), (36, .invokevirtual 136, 3), (39, .iinc 1 1, 3), (42, .goto (-40), 3), (45, .iconst (-1), 1), (46, .ireturn, 1)]
theorem tb_X1_settle : ix_tab cX1_settle tab_X1_settle := by
  unfold ix_tab
  decide +kernel
noncomputable def b_X1_settle_2 (n : Nat) (z : ix_Z)  (a0 : Nat) (rec2 : Int32 → ix_D2 → Option (Int32 × ix_D2)) (x1 : Int32) (d : ix_D2) : Option (Int32 × ix_D2) :=
  ix_if (300 < x1) (some ((-1), d)) (ix_ck (ix_ok z [1] a0) (ix_bd2 (f_X1_firstQuarrel n z a0 d) (fun r_5 d_2 => ix_bd2 (f_X1_firstUnit n z a0 d_2) (fun r_8 d_6 => ix_if (0 ≤ r_5) (some (r_5, d_6)) (ix_if (0 ≤ r_8) (ix_bd2 (f_X1_openItem n z a0 r_8 d_6) (fun r_13 d_11 => ix_bd1 (f_X1_assign n z a0 r_13 r_8 d_11) (fun d_14 => ix_lt (x1 + 1) (fun x1_16 => rec2 x1_16 d_14)))) (some (r_5, d_6)))))))
noncomputable def f_X1_settle_2 (n : Nat) (z : ix_Z)  (a0 : Nat) (x1 : Int32) (d : ix_D2) : Option (Int32 × ix_D2) := ix_fix (b_X1_settle_2 n z  a0) (fun _ _ => none) n x1 d
noncomputable def f_X1_settle (n : Nat) (z : ix_Z) (a0 : Nat) (d : ix_D2) : Option (Int32 × ix_D2) :=
  f_X1_settle_2 n z  a0 0 d
set_option maxRecDepth 20000 in
theorem tb_X1_settle_2 {l : Launch} {p : Program} {e : Env} {s : State} {m : MethodId} {args : Array Value} {below : List Frame} {meth : Method} {c : Code} {K : ix_Cx} (hKp : ix_Kp K) {n : Nat} {z : ix_Z} (X : ix_X p s m args c K cX1_settle RX1 4) (hr : meth.sig.returnType = (some .int)) (hlk : meth.locks = false)  {a0 : Nat} {rec2 : Int32 → ix_D2 → Option (Int32 × ix_D2)} {r : Int32} {d1 : ix_D2} (hrec2 : ∀ (x1 : Int32) (d : ix_D2), rec2 x1 d = some (r, d1) → ix_G p l e (ix_rm 3 73 0 0) s m args below meth c (MQ below (ix_Post K (some (.int r)) (ix_w z d1)) args s 0 0 (ix_A K)) K 4 0 0 2 [(0, .ref (K.2.2.1 + a0)), (1, .int x1)] [] (ix_w z d)) {x1 : Int32} {d : ix_D2} (h : b_X1_settle_2 n z  a0 rec2 x1 d = some (r, d1)) : ix_G p l e (ix_rm 3 73 0 0) s m args below meth c (MQ below (ix_Post K (some (.int r)) (ix_w z d1)) args s 0 0 (ix_A K)) K 4 0 0 2 [(0, .ref (K.2.2.1 + a0)), (1, .int x1)] [] (ix_w z d) := by
  unfold b_X1_settle_2 at h
  refine ix_iload_n (i := 1) (j := 1) X (ix_tb_at tb_X1_settle 2 rfl) rfl rfl (pc1 := 3) rfl ?_
  refine ix_sipush (v := 300) X (ix_tb_at tb_X1_settle 3 rfl) (by decide) (pc1 := 6) rfl ?_
  refine ix_icmp_gt (tgt := 45) X (ix_tb_at tb_X1_settle 4 rfl) (by decide) (pc1 := 9) rfl (fun q_1 => ?_) (fun q_1 => ?_)
  · have h := ix_ift q_1 h
    refine ix_iconst (v := (-1)) X (ix_tb_at tb_X1_settle 25 rfl) (by decide) (pc1 := 46) rfl ?_
    exact ix_iret X hr hlk (ix_r2 (f := fun r => some (.int r)) (g := ix_w z) h) (ix_tb_at tb_X1_settle 26 rfl)
  · have h := ix_iff q_1 h
    refine ix_aload_n (i := 0) (j := 0) X (ix_tb_at tb_X1_settle 5 rfl) rfl rfl (pc1 := 10) rfl ?_
    obtain ⟨k_4, h⟩ := ix_ck_some h
    obtain ⟨r_5, d_2, h_3, h⟩ := ix_bd2_ex h
    refine ix_callV (As := []) (rest := []) (ci := 1) (T := TX1) (nf := 17) X mf_X1_firstQuarrel mi_X1_firstQuarrel ms_X1_firstQuarrel rfl (Nat.le_of_ble_eq_true rfl) ml_RX1_126 ⟨Nat.le_of_ble_eq_true rfl, Nat.le_of_ble_eq_true rfl⟩ ⟨Nat.le_of_ble_eq_true rfl, Nat.le_of_ble_eq_true rfl⟩ rfl (Nat.le_of_ble_eq_true rfl) (ix_tb_at tb_X1_settle 6 rfl) ⟨k_4.1, List.mem_singleton.mp k_4.2⟩ (c_X1_firstQuarrel hKp h_3) rfl (pc1 := 13) rfl ?_
    refine ix_istore_n (i := 2) (L1 := [(2, .int r_5), (0, .ref (K.2.2.1 + a0)), (1, .int x1)]) X (ix_tb_at tb_X1_settle 7 rfl) rfl (Nat.le_of_ble_eq_true rfl) rfl (pc1 := 14) rfl ?_
    refine ix_aload_n (i := 0) (j := 1) X (ix_tb_at tb_X1_settle 8 rfl) rfl rfl (pc1 := 15) rfl ?_
    obtain ⟨r_8, d_6, h_7, h⟩ := ix_bd2_ex h
    refine ix_callV (As := []) (rest := []) (ci := 1) (T := TX1) (nf := 17) X mf_X1_firstUnit mi_X1_firstUnit ms_X1_firstUnit rfl (Nat.le_of_ble_eq_true rfl) ml_RX1_130 ⟨Nat.le_of_ble_eq_true rfl, Nat.le_of_ble_eq_true rfl⟩ ⟨Nat.le_of_ble_eq_true rfl, Nat.le_of_ble_eq_true rfl⟩ rfl (Nat.le_of_ble_eq_true rfl) (ix_tb_at tb_X1_settle 9 rfl) ⟨k_4.1, List.mem_singleton.mp k_4.2⟩ (c_X1_firstUnit hKp h_7) rfl (pc1 := 18) rfl ?_
    refine ix_istore_n (i := 3) (L1 := [(3, .int r_8), (2, .int r_5), (0, .ref (K.2.2.1 + a0)), (1, .int x1)]) X (ix_tb_at tb_X1_settle 10 rfl) rfl (Nat.le_of_ble_eq_true rfl) rfl (pc1 := 19) rfl ?_
    refine ix_iload_n (i := 2) (j := 1) X (ix_tb_at tb_X1_settle 11 rfl) rfl rfl (pc1 := 20) rfl ?_
    refine ix_if_ge (tgt := 27) X (ix_tb_at tb_X1_settle 12 rfl) (by decide) (pc1 := 23) rfl (fun q_9 => ?_) (fun q_9 => ?_)
    · have h := ix_ift q_9 h
      refine ix_iload_n (i := 2) (j := 1) X (ix_tb_at tb_X1_settle 15 rfl) rfl rfl (pc1 := 28) rfl ?_
      exact ix_iret X hr hlk (ix_r2 (f := fun r => some (.int r)) (g := ix_w z) h) (ix_tb_at tb_X1_settle 16 rfl)
    · have h := ix_iff q_9 h
      refine ix_iload_n (i := 3) (j := 0) X (ix_tb_at tb_X1_settle 13 rfl) rfl rfl (pc1 := 24) rfl ?_
      refine ix_if_ge (tgt := 29) X (ix_tb_at tb_X1_settle 14 rfl) (by decide) (pc1 := 27) rfl (fun q_10 => ?_) (fun q_10 => ?_)
      · have h := ix_ift q_10 h
        refine ix_aload_n (i := 0) (j := 2) X (ix_tb_at tb_X1_settle 17 rfl) rfl rfl (pc1 := 30) rfl ?_
        refine ix_aload_n (i := 0) (j := 2) X (ix_tb_at tb_X1_settle 18 rfl) rfl rfl (pc1 := 31) rfl ?_
        refine ix_iload_n (i := 3) (j := 0) X (ix_tb_at tb_X1_settle 19 rfl) rfl rfl (pc1 := 32) rfl ?_
        obtain ⟨r_13, d_11, h_12, h⟩ := ix_bd2_ex h
        refine ix_callV (As := [.int r_8]) (rest := [.ref (K.2.2.1 + a0)]) (ci := 1) (T := TX1) (nf := 17) X mf_X1_openItem mi_X1_openItem ms_X1_openItem rfl (Nat.le_of_ble_eq_true rfl) ml_RX1_133 ⟨Nat.le_of_ble_eq_true rfl, Nat.le_of_ble_eq_true rfl⟩ ⟨Nat.le_of_ble_eq_true rfl, Nat.le_of_ble_eq_true rfl⟩ rfl (Nat.le_of_ble_eq_true rfl) (ix_tb_at tb_X1_settle 20 rfl) ⟨k_4.1, List.mem_singleton.mp k_4.2⟩ (c_X1_openItem hKp h_12) rfl (pc1 := 35) rfl ?_
        refine ix_iload_n (i := 3) (j := 0) X (ix_tb_at tb_X1_settle 21 rfl) rfl rfl (pc1 := 36) rfl ?_
        obtain ⟨d_14, h_15, h⟩ := ix_bd1_ex h
        refine ix_callV (As := [.int r_13, .int r_8]) (rest := []) (ci := 1) (T := TX1) (nf := 17) X mf_X1_assign mi_X1_assign ms_X1_assign rfl (Nat.le_of_ble_eq_true rfl) ml_RX1_136 ⟨Nat.le_of_ble_eq_true rfl, Nat.le_of_ble_eq_true rfl⟩ ⟨Nat.le_of_ble_eq_true rfl, Nat.le_of_ble_eq_true rfl⟩ rfl (Nat.le_of_ble_eq_true rfl) (ix_tb_at tb_X1_settle 22 rfl) ⟨k_4.1, List.mem_singleton.mp k_4.2⟩ (c_X1_assign hKp h_15) rfl (pc1 := 39) rfl ?_
        obtain ⟨x1_16, e_17, h⟩ := ix_lt_ex h
        refine ix_iinc (i := 1) (j := 3) (v := x1_16) (L1 := [(1, .int x1_16), (3, .int r_8), (2, .int r_5), (0, .ref (K.2.2.1 + a0))]) X (ix_tb_at tb_X1_settle 23 rfl) rfl (by rw [oi_1]; exact e_17.symm) (Nat.le_of_ble_eq_true rfl) rfl (pc1 := 42) rfl ?_
        refine ix_goto (tgt := 2) X (ix_tb_at tb_X1_settle 24 rfl) (by decide) ?_
        refine ix_sub (L1 := [(0, .ref (K.2.2.1 + a0)), (1, .int x1_16)]) [3, 0] rfl ?_
        exact hrec2 x1_16 d_14 h
      · have h := ix_iff q_10 h
        refine ix_iload_n (i := 2) (j := 1) X (ix_tb_at tb_X1_settle 15 rfl) rfl rfl (pc1 := 28) rfl ?_
        exact ix_iret X hr hlk (ix_r2 (f := fun r => some (.int r)) (g := ix_w z) h) (ix_tb_at tb_X1_settle 16 rfl)
theorem t_X1_settle_2 {l : Launch} {p : Program} {e : Env} {s : State} {m : MethodId} {args : Array Value} {below : List Frame} {meth : Method} {c : Code} {K : ix_Cx} (hKp : ix_Kp K) {n : Nat} {z : ix_Z} (X : ix_X p s m args c K cX1_settle RX1 4) (hr : meth.sig.returnType = (some .int)) (hlk : meth.locks = false)  {a0 : Nat} {r : Int32} {d1 : ix_D2}  {x1 : Int32} {d : ix_D2} (h : f_X1_settle_2 n z  a0 x1 d = some (r, d1)) : ix_G p l e (ix_rm 3 73 0 0) s m args below meth c (MQ below (ix_Post K (some (.int r)) (ix_w z d1)) args s 0 0 (ix_A K)) K 4 0 0 2 [(0, .ref (K.2.2.1 + a0)), (1, .int x1)] [] (ix_w z d) := by
  have key : ∀ (f : Nat) (x1 : Int32) (d : ix_D2), ix_fix (b_X1_settle_2 n z  a0) (fun _ _ => none) f x1 d = some (r, d1) → ix_G p l e (ix_rm 3 73 0 0) s m args below meth c (MQ below (ix_Post K (some (.int r)) (ix_w z d1)) args s 0 0 (ix_A K)) K 4 0 0 2 [(0, .ref (K.2.2.1 + a0)), (1, .int x1)] [] (ix_w z d) := by
    intro f
    induction f with
    | zero =>
      intro x1 d h
      have h : (none : Option (Int32 × ix_D2)) = some (r, d1) := h
      cases h
    | succ f ih =>
      intro x1 d h
      exact tb_X1_settle_2 hKp X hr hlk (rec2 := ix_fix (b_X1_settle_2 n z  a0) (fun _ _ => none) f)  ih h
  exact key n x1 d h
set_option maxRecDepth 20000 in
theorem c_X1_settle {l : Launch} {K : ix_Cx} (hKp : ix_Kp K) {n : Nat} {z : ix_Z} {a0 : Nat} {d : ix_D2} {r : Int32} {d1 : ix_D2} (h : f_X1_settle n z a0 d = some (r, d1)) : ix_M l K yX1_settle cX1_settle 4 (some .int) 3 73 0 0 [.ref (K.2.2.1 + a0)] (ix_w z d) (some (.int r)) (ix_w z d1) := by
  refine ix_met mf_X1_settle hKp (Nat.le_of_ble_eq_true rfl) ?_
  intro p e s m args below meth c hr hlk hnm X
  have X : ix_X p s m args c K cX1_settle RX1 4 := X
  show ix_G p l e (ix_rm 3 73 0 0) s m args below meth c (MQ below (ix_Post K (some (.int r)) (ix_w z d1)) args s 0 0 (ix_A K)) K 4 0 0 0 [(0, .ref (K.2.2.1 + a0))] [] (ix_w z d)
  unfold f_X1_settle at h
  refine ix_iconst (v := 0) X (ix_tb_at tb_X1_settle 0 rfl) (by decide) (pc1 := 1) rfl ?_
  refine ix_istore_n (i := 1) (L1 := [(1, .int 0), (0, .ref (K.2.2.1 + a0))]) X (ix_tb_at tb_X1_settle 1 rfl) rfl (Nat.le_of_ble_eq_true rfl) rfl (pc1 := 2) rfl ?_
  refine ix_sub (L1 := [(0, .ref (K.2.2.1 + a0)), (1, .int 0)]) [1, 0] rfl ?_
  exact t_X1_settle_2 hKp X hr hlk  h
def tab_X7_tell : List (Nat × Instr × Nat) := [(0, .aload_n 0, 1), (1, .iload_n 1, 1), (2, .invokevirtual 28, 3), (5, .ifCond .eq 17, 3), (8, .iload_n 2, 1), (9, .iconst (-1), 1), (10, .if_icmp .lt 12, 3), (13, .iload_n 2, 1), (14, .aload_n 0, 1), (15, .iload_n 1, 1), (16, .invokevirtual 32, 3), (19, .if_icmp .lt 7, 3), (22, .sipush (-1005), 3), (25, .ireturn, 1), (26, .iload_n 2, 1), (27, .iconst (-1), 1), (28, .if_icmp .ne 11, 3), (31, .aload_n 0, 1), (32, .iload_n 1, 1), (33, .invokevirtual 32, 3), (36, .goto 16, 3), (39, .aload_n 0, 1), (40, .getfield 9, 3), (43, .aload_n 0, 1), (44, .getfield 15, 3), (47, .iload_n 1, 1), (48, .iaload, 1), (49, .iload_n 2, 1), (50, .iadd, 1), (51, .iaload, 1), (52, .ireturn, 1)]
theorem tb_X7_tell : ix_tab cX7_tell tab_X7_tell := by
  unfold ix_tab
  decide +kernel
noncomputable def f_X7_tell_22 (n : Nat) (z : ix_Z)   (d : ix_D2) : Option (Int32 × ix_D2) :=
  some ((-1005), d)
noncomputable def f_X7_tell (n : Nat) (z : ix_Z) (a0 : Nat) (x1 : Int32) (x2 : Int32) (d : ix_D2) : Option (Int32 × ix_D2) :=
  ix_ck (ix_ok z [7] a0) (ix_bd2 (f_X7_has n z a0 x1 d) (fun r_4 d_1 => ix_if (r_4 = 0) (f_X7_tell_22 n z   d_1) (ix_if (x2 < (-1)) (f_X7_tell_22 n z   d_1) (ix_bd2 (f_X7_size n z a0 x1 d_1) (fun r_9 d_7 => ix_if (x2 < r_9) (ix_if (x2 = (-1)) (ix_bd2 (f_X7_size n z a0 x1 d_7) (fun r_20 d_18 => some (r_20, d_18))) (ix_bd1 (z.1 a0 0) (fun b_12 => ix_bd1 (z.1 a0 1) (fun b_14 => ix_ck (ix_ix z 20 b_14 x1) (ix_ck (ix_ix z 20 b_12 ((d_7.1 b_14 (ix_n x1)) + x2)) (some (d_7.1 b_12 (ix_n ((d_7.1 b_14 (ix_n x1)) + x2)), d_7))))))) (f_X7_tell_22 n z   d_7))))))
set_option maxRecDepth 20000 in
theorem t_X7_tell_22 {l : Launch} {p : Program} {e : Env} {s : State} {m : MethodId} {args : Array Value} {below : List Frame} {meth : Method} {c : Code} {K : ix_Cx} (hKp : ix_Kp K) {n : Nat} {z : ix_Z} (X : ix_X p s m args c K cX7_tell RX7 3) (hr : meth.sig.returnType = (some .int)) (hlk : meth.locks = false)   {r : Int32} {d1 : ix_D2}  {d : ix_D2} (h : f_X7_tell_22 n z   d = some (r, d1)) : ix_G p l e (ix_rm 2 42 0 0) s m args below meth c (MQ below (ix_Post K (some (.int r)) (ix_w z d1)) args s 0 0 (ix_A K)) K 3 0 0 22 [] [] (ix_w z d) := by
  unfold f_X7_tell_22 at h
  refine ix_sipush (v := (-1005)) X (ix_tb_at tb_X7_tell 12 rfl) (by decide) (pc1 := 25) rfl ?_
  exact ix_iret X hr hlk (ix_r2 (f := fun r => some (.int r)) (g := ix_w z) h) (ix_tb_at tb_X7_tell 13 rfl)
set_option maxRecDepth 20000 in
theorem c_X7_tell {l : Launch} {K : ix_Cx} (hKp : ix_Kp K) {n : Nat} {z : ix_Z} {a0 : Nat} {x1 : Int32} {x2 : Int32} {d : ix_D2} {r : Int32} {d1 : ix_D2} (h : f_X7_tell n z a0 x1 x2 d = some (r, d1)) : ix_M l K yX7_tell cX7_tell 3 (some .int) 2 42 0 0 [.ref (K.2.2.1 + a0), .int x1, .int x2] (ix_w z d) (some (.int r)) (ix_w z d1) := by
  refine ix_met mf_X7_tell hKp (Nat.le_of_ble_eq_true rfl) ?_
  intro p e s m args below meth c hr hlk hnm X
  have X : ix_X p s m args c K cX7_tell RX7 3 := X
  show ix_G p l e (ix_rm 2 42 0 0) s m args below meth c (MQ below (ix_Post K (some (.int r)) (ix_w z d1)) args s 0 0 (ix_A K)) K 3 0 0 0 [(0, .ref (K.2.2.1 + a0)), (1, .int x1), (2, .int x2)] [] (ix_w z d)
  unfold f_X7_tell at h
  refine ix_aload_n (i := 0) (j := 0) X (ix_tb_at tb_X7_tell 0 rfl) rfl rfl (pc1 := 1) rfl ?_
  refine ix_iload_n (i := 1) (j := 1) X (ix_tb_at tb_X7_tell 1 rfl) rfl rfl (pc1 := 2) rfl ?_
  obtain ⟨k_3, h⟩ := ix_ck_some h
  obtain ⟨r_4, d_1, h_2, h⟩ := ix_bd2_ex h
  refine ix_callV (As := [.int x1]) (rest := []) (ci := 7) (T := TX7) (nf := 3) X mf_X7_has mi_X7_has ms_X7_has rfl (Nat.le_of_ble_eq_true rfl) ml_RX7_28 ⟨Nat.le_of_ble_eq_true rfl, Nat.le_of_ble_eq_true rfl⟩ ⟨Nat.le_of_ble_eq_true rfl, Nat.le_of_ble_eq_true rfl⟩ rfl (Nat.le_of_ble_eq_true rfl) (ix_tb_at tb_X7_tell 2 rfl) ⟨k_3.1, List.mem_singleton.mp k_3.2⟩ (c_X7_has hKp h_2) rfl (pc1 := 5) rfl ?_
  refine ix_if_eq (tgt := 22) X (ix_tb_at tb_X7_tell 3 rfl) (by decide) (pc1 := 8) rfl (fun q_5 => ?_) (fun q_5 => ?_)
  · have h := ix_ift q_5 h
    refine ix_sub (L1 := []) [] rfl ?_
    exact t_X7_tell_22 hKp X hr hlk  h
  · have h := ix_iff q_5 h
    refine ix_iload_n (i := 2) (j := 2) X (ix_tb_at tb_X7_tell 4 rfl) rfl rfl (pc1 := 9) rfl ?_
    refine ix_iconst (v := (-1)) X (ix_tb_at tb_X7_tell 5 rfl) (by decide) (pc1 := 10) rfl ?_
    refine ix_icmp_lt (tgt := 22) X (ix_tb_at tb_X7_tell 6 rfl) (by decide) (pc1 := 13) rfl (fun q_6 => ?_) (fun q_6 => ?_)
    · have h := ix_ift q_6 h
      refine ix_sub (L1 := []) [] rfl ?_
      exact t_X7_tell_22 hKp X hr hlk  h
    · have h := ix_iff q_6 h
      refine ix_iload_n (i := 2) (j := 2) X (ix_tb_at tb_X7_tell 7 rfl) rfl rfl (pc1 := 14) rfl ?_
      refine ix_aload_n (i := 0) (j := 0) X (ix_tb_at tb_X7_tell 8 rfl) rfl rfl (pc1 := 15) rfl ?_
      refine ix_iload_n (i := 1) (j := 1) X (ix_tb_at tb_X7_tell 9 rfl) rfl rfl (pc1 := 16) rfl ?_
      obtain ⟨r_9, d_7, h_8, h⟩ := ix_bd2_ex h
      refine ix_callV (As := [.int x1]) (rest := [.int x2]) (ci := 7) (T := TX7) (nf := 3) X mf_X7_size mi_X7_size ms_X7_size rfl (Nat.le_of_ble_eq_true rfl) ml_RX7_32 ⟨Nat.le_of_ble_eq_true rfl, Nat.le_of_ble_eq_true rfl⟩ ⟨Nat.le_of_ble_eq_true rfl, Nat.le_of_ble_eq_true rfl⟩ rfl (Nat.le_of_ble_eq_true rfl) (ix_tb_at tb_X7_tell 10 rfl) ⟨k_3.1, List.mem_singleton.mp k_3.2⟩ (c_X7_size hKp h_8) rfl (pc1 := 19) rfl ?_
      refine ix_icmp_lt (tgt := 26) X (ix_tb_at tb_X7_tell 11 rfl) (by decide) (pc1 := 22) rfl (fun q_10 => ?_) (fun q_10 => ?_)
      · have h := ix_ift q_10 h
        refine ix_iload_n (i := 2) (j := 2) X (ix_tb_at tb_X7_tell 14 rfl) rfl rfl (pc1 := 27) rfl ?_
        refine ix_iconst (v := (-1)) X (ix_tb_at tb_X7_tell 15 rfl) (by decide) (pc1 := 28) rfl ?_
        refine ix_icmp_ne (tgt := 39) X (ix_tb_at tb_X7_tell 16 rfl) (by decide) (pc1 := 31) rfl (fun q_11 => ?_) (fun q_11 => ?_)
        · have h := ix_iff q_11 h
          refine ix_aload_n (i := 0) (j := 0) X (ix_tb_at tb_X7_tell 21 rfl) rfl rfl (pc1 := 40) rfl ?_
          obtain ⟨b_12, q_13, h⟩ := ix_bd1_ex h
          refine iz_getR X fl_RX7_9 k_3 q_13 (ix_tb_at tb_X7_tell 22 rfl) (pc1 := 43) rfl ?_
          refine ix_aload_n (i := 0) (j := 0) X (ix_tb_at tb_X7_tell 23 rfl) rfl rfl (pc1 := 44) rfl ?_
          obtain ⟨b_14, q_15, h⟩ := ix_bd1_ex h
          refine iz_getR X fl_RX7_15 k_3 q_15 (ix_tb_at tb_X7_tell 24 rfl) (pc1 := 47) rfl ?_
          refine ix_iload_n (i := 1) (j := 1) X (ix_tb_at tb_X7_tell 25 rfl) rfl rfl (pc1 := 48) rfl ?_
          obtain ⟨k_16, h⟩ := ix_ck_some h
          refine iz_iald X k_16 (ix_tb_at tb_X7_tell 26 rfl) (pc1 := 49) rfl ?_
          refine ix_iload_n (i := 2) (j := 2) X (ix_tb_at tb_X7_tell 27 rfl) rfl rfl (pc1 := 50) rfl ?_
          refine ix_iadd X (ix_tb_at tb_X7_tell 28 rfl) (pc1 := 51) rfl ?_
          obtain ⟨k_17, h⟩ := ix_ck_some h
          refine iz_iald X k_17 (ix_tb_at tb_X7_tell 29 rfl) (pc1 := 52) rfl ?_
          exact ix_iret X hr hlk (ix_r2 (f := fun r => some (.int r)) (g := ix_w z) h) (ix_tb_at tb_X7_tell 30 rfl)
        · have h := ix_ift q_11 h
          refine ix_aload_n (i := 0) (j := 0) X (ix_tb_at tb_X7_tell 17 rfl) rfl rfl (pc1 := 32) rfl ?_
          refine ix_iload_n (i := 1) (j := 1) X (ix_tb_at tb_X7_tell 18 rfl) rfl rfl (pc1 := 33) rfl ?_
          obtain ⟨r_20, d_18, h_19, h⟩ := ix_bd2_ex h
          refine ix_callV (As := [.int x1]) (rest := []) (ci := 7) (T := TX7) (nf := 3) X mf_X7_size mi_X7_size ms_X7_size rfl (Nat.le_of_ble_eq_true rfl) ml_RX7_32 ⟨Nat.le_of_ble_eq_true rfl, Nat.le_of_ble_eq_true rfl⟩ ⟨Nat.le_of_ble_eq_true rfl, Nat.le_of_ble_eq_true rfl⟩ rfl (Nat.le_of_ble_eq_true rfl) (ix_tb_at tb_X7_tell 19 rfl) ⟨k_3.1, List.mem_singleton.mp k_3.2⟩ (c_X7_size hKp h_19) rfl (pc1 := 36) rfl ?_
          refine ix_goto (tgt := 52) X (ix_tb_at tb_X7_tell 20 rfl) (by decide) ?_
          exact ix_iret X hr hlk (ix_r2 (f := fun r => some (.int r)) (g := ix_w z) h) (ix_tb_at tb_X7_tell 30 rfl)
      · have h := ix_iff q_10 h
        refine ix_sub (L1 := []) [] rfl ?_
        exact t_X7_tell_22 hKp X hr hlk  h
def tab_X1_follows : List (Nat × Instr × Nat) := [(0, .aload_n 0, 1), (1, .invokevirtual 139, 3), (4, .ifCond .lt 7, 3), (7, .iconst 1, 1), (8, .goto 4, 3), (11, .iconst 0, 1), (12, .istore_n 3, 1), (13, .aload_n 0, 1), (14, .iconst 1, 1), (15, .putfield 72, 3), (18, .iconst 0, 1), (19, .istore 4, 2), (21, .iload 4, 2), (23, .aload_n 1, 1), (24, .iload_n 2, 1), (25, .invokevirtual 88, 3), (28, .if_icmp .ge 46, 3), (31, .iload_n 3, 1), (32, .ifCond .ne 42, 3), (35, .aload_n 1, 1), (36, .iload_n 2, 1), (37, .iload 4, 2), (39, .invokevirtual 142, 3), (42, .istore 5, 2), (44, .aload_n 0, 1), (45, .iload 5, 2), (47, .invokevirtual 146, 3), (50, .istore_n 3, 1), (51, .aload_n 0, 1), (52, .iload 5, 2), (54, .invokevirtual 78, 3), (57, .ifCond .ne 11, 3), (60, .aload_n 0, 1), (61, .iload 5, 2), (63, .ineg, 1), (64, .iconst (-1), 1), (65, .invokevirtual 136, 3), (68, .iinc 4 1, 3), (71, .goto (-50), 3), (74, .iload_n 3, 1), (75, .ifCond .ne 10, 3), (78, .aload_n 0, 1), (79, .invokevirtual 139, 3), (82, .ifCond .lt 7, 3), (85, .iconst 1, 1), (86, .goto 4, 3), (89, .iconst 0, 1), (90, .istore_n 3, 1), (91, .aload_n 0, 1), (92, .iconst 0, 1), (93, .invokevirtual 150, 3), (96, .iload_n 3, 1), (97, .ireturn, 1)]
theorem tb_X1_follows : ix_tab cX1_follows tab_X1_follows := by
  unfold ix_tab
  decide +kernel
noncomputable def f_X1_follows_90 (n : Nat) (z : ix_Z)  (a0 : Nat) (s0 : Int32) (d : ix_D2) : Option (Int32 × ix_D2) :=
  ix_ck (ix_ok z [1] a0) (ix_bd1 (f_X1_backTo n z a0 0 d) (fun d_15 => ix_ck (s0 = 0 ∨ s0 = 1) (some (s0, d_15))))
noncomputable def f_X1_follows_85 (n : Nat) (z : ix_Z)  (a0 : Nat) (d : ix_D2) : Option (Int32 × ix_D2) :=
  f_X1_follows_90 n z  a0 1 d
noncomputable def f_X1_follows_74 (n : Nat) (z : ix_Z)  (a0 : Nat) (x3 : Int32) (d : ix_D2) : Option (Int32 × ix_D2) :=
  ix_if (x3 = 0) (ix_ck (ix_ok z [1] a0) (ix_bd2 (f_X1_settle n z a0 d) (fun r_22 d_19 => ix_if (r_22 < 0) (f_X1_follows_90 n z  a0 0 d_19) (f_X1_follows_85 n z  a0 d_19)))) (f_X1_follows_85 n z  a0 d)
noncomputable def f_X1_follows_68 (n : Nat) (z : ix_Z) (rec21 : Int32 → Int32 → ix_D2 → Option (Int32 × ix_D2)) (a0 : Nat) (a1 : Nat) (x2 : Int32) (x3 : Int32) (x4 : Int32) (d : ix_D2) : Option (Int32 × ix_D2) :=
  ix_lt (x4 + 1) (fun x4_36 => rec21 x3 x4_36 d)
noncomputable def b_X1_follows_21 (n : Nat) (z : ix_Z)  (a0 : Nat) (a1 : Nat) (x2 : Int32) (rec21 : Int32 → Int32 → ix_D2 → Option (Int32 × ix_D2)) (x3 : Int32) (x4 : Int32) (d : ix_D2) : Option (Int32 × ix_D2) :=
  ix_ck (ix_ok z [7] a1) (ix_bd2 (f_X7_size n z a1 x2 d) (fun r_12 d_9 => ix_if (r_12 ≤ x4) (f_X1_follows_74 n z  a0 x3 d_9) (ix_if (x3 = 0) (ix_bd2 (f_X7_tell n z a1 x2 x4 d_9) (fun r_27 d_25 => ix_ck (ix_ok z [1] a0) (ix_bd2 (f_X1_isTrue n z a0 r_27 d_25) (fun r_31 d_28 => ix_bd2 (f_X1_valueOf n z a0 r_27 d_28) (fun r_34 d_32 => ix_if (r_34 = 0) (ix_bd1 (f_X1_assign n z a0 (-r_27) ((-1)) d_32) (fun d_38 => f_X1_follows_68 n z rec21 a0 a1 x2 r_31 x4 d_38)) (f_X1_follows_68 n z rec21 a0 a1 x2 r_31 x4 d_32)))))) (f_X1_follows_74 n z  a0 x3 d_9))))
noncomputable def f_X1_follows_21 (n : Nat) (z : ix_Z)  (a0 : Nat) (a1 : Nat) (x2 : Int32) (x3 : Int32) (x4 : Int32) (d : ix_D2) : Option (Int32 × ix_D2) := ix_fix (b_X1_follows_21 n z  a0 a1 x2) (fun _ _ _ => none) n x3 x4 d
noncomputable def f_X1_follows_12 (n : Nat) (z : ix_Z)  (a0 : Nat) (a1 : Nat) (x2 : Int32) (s0 : Int32) (d : ix_D2) : Option (Int32 × ix_D2) :=
  ix_ck (ix_ok z [1] a0) (ix_lt (ix_di d a0 13 1) (fun d_7 => f_X1_follows_21 n z  a0 a1 x2 s0 0 d_7))
noncomputable def f_X1_follows (n : Nat) (z : ix_Z) (a0 : Nat) (a1 : Nat) (x2 : Int32) (d : ix_D2) : Option (Int32 × ix_D2) :=
  ix_ck (ix_ok z [1] a0) (ix_bd2 (f_X1_settle n z a0 d) (fun r_4 d_1 => ix_if (r_4 < 0) (f_X1_follows_12 n z  a0 a1 x2 0 d_1) (f_X1_follows_12 n z  a0 a1 x2 1 d_1)))
set_option maxRecDepth 20000 in
theorem t_X1_follows_90 {l : Launch} {p : Program} {e : Env} {s : State} {m : MethodId} {args : Array Value} {below : List Frame} {meth : Method} {c : Code} {K : ix_Cx} (hKp : ix_Kp K) {n : Nat} {z : ix_Z} (X : ix_X p s m args c K cX1_follows RX1 6) (hr : meth.sig.returnType = (some .boolean)) (hlk : meth.locks = false)  {a0 : Nat} {s0 : Int32} {r : Int32} {d1 : ix_D2}  {d : ix_D2} (h : f_X1_follows_90 n z  a0 s0 d = some (r, d1)) : ix_G p l e (ix_rm 4 96 0 0) s m args below meth c (MQ below (ix_Post K (some (.int r)) (ix_w z d1)) args s 0 0 (ix_A K)) K 6 0 0 90 [(0, .ref (K.2.2.1 + a0))] [.int s0] (ix_w z d) := by
  unfold f_X1_follows_90 at h
  refine ix_istore_n (i := 3) (L1 := [(3, .int s0), (0, .ref (K.2.2.1 + a0))]) X (ix_tb_at tb_X1_follows 47 rfl) rfl (Nat.le_of_ble_eq_true rfl) rfl (pc1 := 91) rfl ?_
  refine ix_aload_n (i := 0) (j := 1) X (ix_tb_at tb_X1_follows 48 rfl) rfl rfl (pc1 := 92) rfl ?_
  refine ix_iconst (v := 0) X (ix_tb_at tb_X1_follows 49 rfl) (by decide) (pc1 := 93) rfl ?_
  obtain ⟨k_17, h⟩ := ix_ck_some h
  obtain ⟨d_15, h_16, h⟩ := ix_bd1_ex h
  refine ix_callV (As := [.int 0]) (rest := []) (ci := 1) (T := TX1) (nf := 17) X mf_X1_backTo mi_X1_backTo ms_X1_backTo rfl (Nat.le_of_ble_eq_true rfl) ml_RX1_150 ⟨Nat.le_of_ble_eq_true rfl, Nat.le_of_ble_eq_true rfl⟩ ⟨Nat.le_of_ble_eq_true rfl, Nat.le_of_ble_eq_true rfl⟩ rfl (Nat.le_of_ble_eq_true rfl) (ix_tb_at tb_X1_follows 50 rfl) ⟨k_17.1, List.mem_singleton.mp k_17.2⟩ (c_X1_backTo hKp h_16) rfl (pc1 := 96) rfl ?_
  refine ix_iload_n (i := 3) (j := 0) X (ix_tb_at tb_X1_follows 51 rfl) rfl rfl (pc1 := 97) rfl ?_
  obtain ⟨k_18, h⟩ := ix_ck_some h
  exact ix_zret X hr hlk k_18 (ix_r2 (f := fun r => some (.int r)) (g := ix_w z) h) (ix_tb_at tb_X1_follows 52 rfl)
set_option maxRecDepth 20000 in
theorem t_X1_follows_85 {l : Launch} {p : Program} {e : Env} {s : State} {m : MethodId} {args : Array Value} {below : List Frame} {meth : Method} {c : Code} {K : ix_Cx} (hKp : ix_Kp K) {n : Nat} {z : ix_Z} (X : ix_X p s m args c K cX1_follows RX1 6) (hr : meth.sig.returnType = (some .boolean)) (hlk : meth.locks = false)  {a0 : Nat} {r : Int32} {d1 : ix_D2}  {d : ix_D2} (h : f_X1_follows_85 n z  a0 d = some (r, d1)) : ix_G p l e (ix_rm 4 96 0 0) s m args below meth c (MQ below (ix_Post K (some (.int r)) (ix_w z d1)) args s 0 0 (ix_A K)) K 6 0 0 85 [(0, .ref (K.2.2.1 + a0))] [] (ix_w z d) := by
  unfold f_X1_follows_85 at h
  refine ix_iconst (v := 1) X (ix_tb_at tb_X1_follows 44 rfl) (by decide) (pc1 := 86) rfl ?_
  refine ix_goto (tgt := 90) X (ix_tb_at tb_X1_follows 45 rfl) (by decide) ?_
  refine ix_sub (L1 := [(0, .ref (K.2.2.1 + a0))]) [0] rfl ?_
  exact t_X1_follows_90 hKp X hr hlk  h
set_option maxRecDepth 20000 in
theorem t_X1_follows_74 {l : Launch} {p : Program} {e : Env} {s : State} {m : MethodId} {args : Array Value} {below : List Frame} {meth : Method} {c : Code} {K : ix_Cx} (hKp : ix_Kp K) {n : Nat} {z : ix_Z} (X : ix_X p s m args c K cX1_follows RX1 6) (hr : meth.sig.returnType = (some .boolean)) (hlk : meth.locks = false)  {a0 : Nat} {x3 : Int32} {r : Int32} {d1 : ix_D2}  {d : ix_D2} (h : f_X1_follows_74 n z  a0 x3 d = some (r, d1)) : ix_G p l e (ix_rm 4 96 0 0) s m args below meth c (MQ below (ix_Post K (some (.int r)) (ix_w z d1)) args s 0 0 (ix_A K)) K 6 0 0 74 [(0, .ref (K.2.2.1 + a0)), (3, .int x3)] [] (ix_w z d) := by
  unfold f_X1_follows_74 at h
  refine ix_iload_n (i := 3) (j := 1) X (ix_tb_at tb_X1_follows 39 rfl) rfl rfl (pc1 := 75) rfl ?_
  refine ix_if_ne (tgt := 85) X (ix_tb_at tb_X1_follows 40 rfl) (by decide) (pc1 := 78) rfl (fun q_14 => ?_) (fun q_14 => ?_)
  · have h := ix_iff q_14 h
    refine ix_sub (L1 := [(0, .ref (K.2.2.1 + a0))]) [0] rfl ?_
    exact t_X1_follows_85 hKp X hr hlk  h
  · have h := ix_ift q_14 h
    refine ix_aload_n (i := 0) (j := 0) X (ix_tb_at tb_X1_follows 41 rfl) rfl rfl (pc1 := 79) rfl ?_
    obtain ⟨k_21, h⟩ := ix_ck_some h
    obtain ⟨r_22, d_19, h_20, h⟩ := ix_bd2_ex h
    refine ix_callV (As := []) (rest := []) (ci := 1) (T := TX1) (nf := 17) X mf_X1_settle mi_X1_settle ms_X1_settle rfl (Nat.le_of_ble_eq_true rfl) ml_RX1_139 ⟨Nat.le_of_ble_eq_true rfl, Nat.le_of_ble_eq_true rfl⟩ ⟨Nat.le_of_ble_eq_true rfl, Nat.le_of_ble_eq_true rfl⟩ rfl (Nat.le_of_ble_eq_true rfl) (ix_tb_at tb_X1_follows 42 rfl) ⟨k_21.1, List.mem_singleton.mp k_21.2⟩ (c_X1_settle hKp h_20) rfl (pc1 := 82) rfl ?_
    refine ix_if_lt (tgt := 89) X (ix_tb_at tb_X1_follows 43 rfl) (by decide) (pc1 := 85) rfl (fun q_23 => ?_) (fun q_23 => ?_)
    · have h := ix_ift q_23 h
      refine ix_iconst (v := 0) X (ix_tb_at tb_X1_follows 46 rfl) (by decide) (pc1 := 90) rfl ?_
      refine ix_sub (L1 := [(0, .ref (K.2.2.1 + a0))]) [0] rfl ?_
      exact t_X1_follows_90 hKp X hr hlk  h
    · have h := ix_iff q_23 h
      refine ix_sub (L1 := [(0, .ref (K.2.2.1 + a0))]) [0] rfl ?_
      exact t_X1_follows_85 hKp X hr hlk  h
set_option maxRecDepth 20000 in
theorem t_X1_follows_68 {l : Launch} {p : Program} {e : Env} {s : State} {m : MethodId} {args : Array Value} {below : List Frame} {meth : Method} {c : Code} {K : ix_Cx} (hKp : ix_Kp K) {n : Nat} {z : ix_Z} (X : ix_X p s m args c K cX1_follows RX1 6) (hr : meth.sig.returnType = (some .boolean)) (hlk : meth.locks = false) {rec21 : Int32 → Int32 → ix_D2 → Option (Int32 × ix_D2)} {a0 : Nat} {a1 : Nat} {x2 : Int32} {x3 : Int32} {x4 : Int32} {r : Int32} {d1 : ix_D2} (hrec21 : ∀ (x3 : Int32) (x4 : Int32) (d : ix_D2), rec21 x3 x4 d = some (r, d1) → ix_G p l e (ix_rm 4 96 0 0) s m args below meth c (MQ below (ix_Post K (some (.int r)) (ix_w z d1)) args s 0 0 (ix_A K)) K 6 0 0 21 [(0, .ref (K.2.2.1 + a0)), (1, .ref (K.2.2.1 + a1)), (2, .int x2), (3, .int x3), (4, .int x4)] [] (ix_w z d)) {d : ix_D2} (h : f_X1_follows_68 n z rec21 a0 a1 x2 x3 x4 d = some (r, d1)) : ix_G p l e (ix_rm 4 96 0 0) s m args below meth c (MQ below (ix_Post K (some (.int r)) (ix_w z d1)) args s 0 0 (ix_A K)) K 6 0 0 68 [(0, .ref (K.2.2.1 + a0)), (1, .ref (K.2.2.1 + a1)), (2, .int x2), (3, .int x3), (4, .int x4)] [] (ix_w z d) := by
  unfold f_X1_follows_68 at h
  obtain ⟨x4_36, e_37, h⟩ := ix_lt_ex h
  refine ix_iinc (i := 4) (j := 4) (v := x4_36) (L1 := [(4, .int x4_36), (0, .ref (K.2.2.1 + a0)), (1, .ref (K.2.2.1 + a1)), (2, .int x2), (3, .int x3)]) X (ix_tb_at tb_X1_follows 37 rfl) rfl (by rw [oi_1]; exact e_37.symm) (Nat.le_of_ble_eq_true rfl) rfl (pc1 := 71) rfl ?_
  refine ix_goto (tgt := 21) X (ix_tb_at tb_X1_follows 38 rfl) (by decide) ?_
  refine ix_sub (L1 := [(0, .ref (K.2.2.1 + a0)), (1, .ref (K.2.2.1 + a1)), (2, .int x2), (3, .int x3), (4, .int x4_36)]) [1, 2, 3, 4, 0] rfl ?_
  exact hrec21 x3 x4_36 d h
set_option maxRecDepth 20000 in
theorem tb_X1_follows_21 {l : Launch} {p : Program} {e : Env} {s : State} {m : MethodId} {args : Array Value} {below : List Frame} {meth : Method} {c : Code} {K : ix_Cx} (hKp : ix_Kp K) {n : Nat} {z : ix_Z} (X : ix_X p s m args c K cX1_follows RX1 6) (hr : meth.sig.returnType = (some .boolean)) (hlk : meth.locks = false)  {a0 : Nat} {a1 : Nat} {x2 : Int32} {rec21 : Int32 → Int32 → ix_D2 → Option (Int32 × ix_D2)} {r : Int32} {d1 : ix_D2} (hrec21 : ∀ (x3 : Int32) (x4 : Int32) (d : ix_D2), rec21 x3 x4 d = some (r, d1) → ix_G p l e (ix_rm 4 96 0 0) s m args below meth c (MQ below (ix_Post K (some (.int r)) (ix_w z d1)) args s 0 0 (ix_A K)) K 6 0 0 21 [(0, .ref (K.2.2.1 + a0)), (1, .ref (K.2.2.1 + a1)), (2, .int x2), (3, .int x3), (4, .int x4)] [] (ix_w z d)) {x3 : Int32} {x4 : Int32} {d : ix_D2} (h : b_X1_follows_21 n z  a0 a1 x2 rec21 x3 x4 d = some (r, d1)) : ix_G p l e (ix_rm 4 96 0 0) s m args below meth c (MQ below (ix_Post K (some (.int r)) (ix_w z d1)) args s 0 0 (ix_A K)) K 6 0 0 21 [(0, .ref (K.2.2.1 + a0)), (1, .ref (K.2.2.1 + a1)), (2, .int x2), (3, .int x3), (4, .int x4)] [] (ix_w z d) := by
  unfold b_X1_follows_21 at h
  refine ix_iload (i := 4) (j := 4) X (ix_tb_at tb_X1_follows 12 rfl) rfl (pc1 := 23) rfl ?_
  refine ix_aload_n (i := 1) (j := 1) X (ix_tb_at tb_X1_follows 13 rfl) rfl rfl (pc1 := 24) rfl ?_
  refine ix_iload_n (i := 2) (j := 2) X (ix_tb_at tb_X1_follows 14 rfl) rfl rfl (pc1 := 25) rfl ?_
  obtain ⟨k_11, h⟩ := ix_ck_some h
  obtain ⟨r_12, d_9, h_10, h⟩ := ix_bd2_ex h
  refine ix_callV (As := [.int x2]) (rest := [.int x4]) (ci := 7) (T := TX7) (nf := 3) X mf_X7_size mi_X7_size ms_X7_size rfl (Nat.le_of_ble_eq_true rfl) ml_RX1_88 ⟨Nat.le_of_ble_eq_true rfl, Nat.le_of_ble_eq_true rfl⟩ ⟨Nat.le_of_ble_eq_true rfl, Nat.le_of_ble_eq_true rfl⟩ rfl (Nat.le_of_ble_eq_true rfl) (ix_tb_at tb_X1_follows 15 rfl) ⟨k_11.1, List.mem_singleton.mp k_11.2⟩ (c_X7_size hKp h_10) rfl (pc1 := 28) rfl ?_
  refine ix_icmp_ge (tgt := 74) X (ix_tb_at tb_X1_follows 16 rfl) (by decide) (pc1 := 31) rfl (fun q_13 => ?_) (fun q_13 => ?_)
  · have h := ix_ift q_13 h
    refine ix_sub (L1 := [(0, .ref (K.2.2.1 + a0)), (3, .int x3)]) [0, 3] rfl ?_
    exact t_X1_follows_74 hKp X hr hlk  h
  · have h := ix_iff q_13 h
    refine ix_iload_n (i := 3) (j := 3) X (ix_tb_at tb_X1_follows 17 rfl) rfl rfl (pc1 := 32) rfl ?_
    refine ix_if_ne (tgt := 74) X (ix_tb_at tb_X1_follows 18 rfl) (by decide) (pc1 := 35) rfl (fun q_24 => ?_) (fun q_24 => ?_)
    · have h := ix_iff q_24 h
      refine ix_sub (L1 := [(0, .ref (K.2.2.1 + a0)), (3, .int x3)]) [0, 3] rfl ?_
      exact t_X1_follows_74 hKp X hr hlk  h
    · have h := ix_ift q_24 h
      refine ix_aload_n (i := 1) (j := 1) X (ix_tb_at tb_X1_follows 19 rfl) rfl rfl (pc1 := 36) rfl ?_
      refine ix_iload_n (i := 2) (j := 2) X (ix_tb_at tb_X1_follows 20 rfl) rfl rfl (pc1 := 37) rfl ?_
      refine ix_iload (i := 4) (j := 4) X (ix_tb_at tb_X1_follows 21 rfl) rfl (pc1 := 39) rfl ?_
      obtain ⟨r_27, d_25, h_26, h⟩ := ix_bd2_ex h
      refine ix_callV (As := [.int x2, .int x4]) (rest := []) (ci := 7) (T := TX7) (nf := 3) X mf_X7_tell mi_X7_tell ms_X7_tell rfl (Nat.le_of_ble_eq_true rfl) ml_RX1_142 ⟨Nat.le_of_ble_eq_true rfl, Nat.le_of_ble_eq_true rfl⟩ ⟨Nat.le_of_ble_eq_true rfl, Nat.le_of_ble_eq_true rfl⟩ rfl (Nat.le_of_ble_eq_true rfl) (ix_tb_at tb_X1_follows 22 rfl) ⟨k_11.1, List.mem_singleton.mp k_11.2⟩ (c_X7_tell hKp h_26) rfl (pc1 := 42) rfl ?_
      refine ix_istore (i := 5) (L1 := [(5, .int r_27), (0, .ref (K.2.2.1 + a0)), (1, .ref (K.2.2.1 + a1)), (2, .int x2), (3, .int x3), (4, .int x4)]) X (ix_tb_at tb_X1_follows 23 rfl) (Nat.le_of_ble_eq_true rfl) rfl (pc1 := 44) rfl ?_
      refine ix_aload_n (i := 0) (j := 1) X (ix_tb_at tb_X1_follows 24 rfl) rfl rfl (pc1 := 45) rfl ?_
      refine ix_iload (i := 5) (j := 0) X (ix_tb_at tb_X1_follows 25 rfl) rfl (pc1 := 47) rfl ?_
      obtain ⟨k_30, h⟩ := ix_ck_some h
      obtain ⟨r_31, d_28, h_29, h⟩ := ix_bd2_ex h
      refine ix_callV (As := [.int r_27]) (rest := []) (ci := 1) (T := TX1) (nf := 17) X mf_X1_isTrue mi_X1_isTrue ms_X1_isTrue rfl (Nat.le_of_ble_eq_true rfl) ml_RX1_146 ⟨Nat.le_of_ble_eq_true rfl, Nat.le_of_ble_eq_true rfl⟩ ⟨Nat.le_of_ble_eq_true rfl, Nat.le_of_ble_eq_true rfl⟩ rfl (Nat.le_of_ble_eq_true rfl) (ix_tb_at tb_X1_follows 26 rfl) ⟨k_30.1, List.mem_singleton.mp k_30.2⟩ (c_X1_isTrue hKp h_29) rfl (pc1 := 50) rfl ?_
      refine ix_istore_n (i := 3) (L1 := [(3, .int r_31), (5, .int r_27), (0, .ref (K.2.2.1 + a0)), (1, .ref (K.2.2.1 + a1)), (2, .int x2), (4, .int x4)]) X (ix_tb_at tb_X1_follows 27 rfl) rfl (Nat.le_of_ble_eq_true rfl) rfl (pc1 := 51) rfl ?_
      refine ix_aload_n (i := 0) (j := 2) X (ix_tb_at tb_X1_follows 28 rfl) rfl rfl (pc1 := 52) rfl ?_
      refine ix_iload (i := 5) (j := 1) X (ix_tb_at tb_X1_follows 29 rfl) rfl (pc1 := 54) rfl ?_
      obtain ⟨r_34, d_32, h_33, h⟩ := ix_bd2_ex h
      refine ix_callV (As := [.int r_27]) (rest := []) (ci := 1) (T := TX1) (nf := 17) X mf_X1_valueOf mi_X1_valueOf ms_X1_valueOf rfl (Nat.le_of_ble_eq_true rfl) ml_RX1_78 ⟨Nat.le_of_ble_eq_true rfl, Nat.le_of_ble_eq_true rfl⟩ ⟨Nat.le_of_ble_eq_true rfl, Nat.le_of_ble_eq_true rfl⟩ rfl (Nat.le_of_ble_eq_true rfl) (ix_tb_at tb_X1_follows 30 rfl) ⟨k_30.1, List.mem_singleton.mp k_30.2⟩ (c_X1_valueOf hKp h_33) rfl (pc1 := 57) rfl ?_
      refine ix_if_ne (tgt := 68) X (ix_tb_at tb_X1_follows 31 rfl) (by decide) (pc1 := 60) rfl (fun q_35 => ?_) (fun q_35 => ?_)
      · have h := ix_iff q_35 h
        refine ix_sub (L1 := [(0, .ref (K.2.2.1 + a0)), (1, .ref (K.2.2.1 + a1)), (2, .int x2), (3, .int r_31), (4, .int x4)]) [2, 3, 4, 0, 5] rfl ?_
        exact t_X1_follows_68 hKp X hr hlk hrec21 h
      · have h := ix_ift q_35 h
        refine ix_aload_n (i := 0) (j := 2) X (ix_tb_at tb_X1_follows 32 rfl) rfl rfl (pc1 := 61) rfl ?_
        refine ix_iload (i := 5) (j := 1) X (ix_tb_at tb_X1_follows 33 rfl) rfl (pc1 := 63) rfl ?_
        refine ix_ineg X (ix_tb_at tb_X1_follows 34 rfl) (pc1 := 64) rfl ?_
        refine ix_iconst (v := (-1)) X (ix_tb_at tb_X1_follows 35 rfl) (by decide) (pc1 := 65) rfl ?_
        obtain ⟨d_38, h_39, h⟩ := ix_bd1_ex h
        refine ix_callV (As := [.int (-r_27), .int ((-1))]) (rest := []) (ci := 1) (T := TX1) (nf := 17) X mf_X1_assign mi_X1_assign ms_X1_assign rfl (Nat.le_of_ble_eq_true rfl) ml_RX1_136 ⟨Nat.le_of_ble_eq_true rfl, Nat.le_of_ble_eq_true rfl⟩ ⟨Nat.le_of_ble_eq_true rfl, Nat.le_of_ble_eq_true rfl⟩ rfl (Nat.le_of_ble_eq_true rfl) (ix_tb_at tb_X1_follows 36 rfl) ⟨k_30.1, List.mem_singleton.mp k_30.2⟩ (c_X1_assign hKp h_39) rfl (pc1 := 68) rfl ?_
        refine ix_sub (L1 := [(0, .ref (K.2.2.1 + a0)), (1, .ref (K.2.2.1 + a1)), (2, .int x2), (3, .int r_31), (4, .int x4)]) [2, 3, 4, 0, 5] rfl ?_
        exact t_X1_follows_68 hKp X hr hlk hrec21 h
theorem t_X1_follows_21 {l : Launch} {p : Program} {e : Env} {s : State} {m : MethodId} {args : Array Value} {below : List Frame} {meth : Method} {c : Code} {K : ix_Cx} (hKp : ix_Kp K) {n : Nat} {z : ix_Z} (X : ix_X p s m args c K cX1_follows RX1 6) (hr : meth.sig.returnType = (some .boolean)) (hlk : meth.locks = false)  {a0 : Nat} {a1 : Nat} {x2 : Int32} {r : Int32} {d1 : ix_D2}  {x3 : Int32} {x4 : Int32} {d : ix_D2} (h : f_X1_follows_21 n z  a0 a1 x2 x3 x4 d = some (r, d1)) : ix_G p l e (ix_rm 4 96 0 0) s m args below meth c (MQ below (ix_Post K (some (.int r)) (ix_w z d1)) args s 0 0 (ix_A K)) K 6 0 0 21 [(0, .ref (K.2.2.1 + a0)), (1, .ref (K.2.2.1 + a1)), (2, .int x2), (3, .int x3), (4, .int x4)] [] (ix_w z d) := by
  have key : ∀ (f : Nat) (x3 : Int32) (x4 : Int32) (d : ix_D2), ix_fix (b_X1_follows_21 n z  a0 a1 x2) (fun _ _ _ => none) f x3 x4 d = some (r, d1) → ix_G p l e (ix_rm 4 96 0 0) s m args below meth c (MQ below (ix_Post K (some (.int r)) (ix_w z d1)) args s 0 0 (ix_A K)) K 6 0 0 21 [(0, .ref (K.2.2.1 + a0)), (1, .ref (K.2.2.1 + a1)), (2, .int x2), (3, .int x3), (4, .int x4)] [] (ix_w z d) := by
    intro f
    induction f with
    | zero =>
      intro x3 x4 d h
      have h : (none : Option (Int32 × ix_D2)) = some (r, d1) := h
      cases h
    | succ f ih =>
      intro x3 x4 d h
      exact tb_X1_follows_21 hKp X hr hlk (rec21 := ix_fix (b_X1_follows_21 n z  a0 a1 x2) (fun _ _ _ => none) f)  ih h
  exact key n x3 x4 d h
set_option maxRecDepth 20000 in
theorem t_X1_follows_12 {l : Launch} {p : Program} {e : Env} {s : State} {m : MethodId} {args : Array Value} {below : List Frame} {meth : Method} {c : Code} {K : ix_Cx} (hKp : ix_Kp K) {n : Nat} {z : ix_Z} (X : ix_X p s m args c K cX1_follows RX1 6) (hr : meth.sig.returnType = (some .boolean)) (hlk : meth.locks = false)  {a0 : Nat} {a1 : Nat} {x2 : Int32} {s0 : Int32} {r : Int32} {d1 : ix_D2}  {d : ix_D2} (h : f_X1_follows_12 n z  a0 a1 x2 s0 d = some (r, d1)) : ix_G p l e (ix_rm 4 96 0 0) s m args below meth c (MQ below (ix_Post K (some (.int r)) (ix_w z d1)) args s 0 0 (ix_A K)) K 6 0 0 12 [(0, .ref (K.2.2.1 + a0)), (1, .ref (K.2.2.1 + a1)), (2, .int x2)] [.int s0] (ix_w z d) := by
  unfold f_X1_follows_12 at h
  refine ix_istore_n (i := 3) (L1 := [(3, .int s0), (0, .ref (K.2.2.1 + a0)), (1, .ref (K.2.2.1 + a1)), (2, .int x2)]) X (ix_tb_at tb_X1_follows 6 rfl) rfl (Nat.le_of_ble_eq_true rfl) rfl (pc1 := 13) rfl ?_
  refine ix_aload_n (i := 0) (j := 1) X (ix_tb_at tb_X1_follows 7 rfl) rfl rfl (pc1 := 14) rfl ?_
  refine ix_iconst (v := 1) X (ix_tb_at tb_X1_follows 8 rfl) (by decide) (pc1 := 15) rfl ?_
  obtain ⟨k_6, h⟩ := ix_ck_some h
  obtain ⟨d_7, e_8, h⟩ := ix_lt_ex h
  refine iz_putI X fp_RX1_72 k_6 (ix_tb_at tb_X1_follows 9 rfl) e_8 (pc1 := 18) rfl ?_
  refine ix_iconst (v := 0) X (ix_tb_at tb_X1_follows 10 rfl) (by decide) (pc1 := 19) rfl ?_
  refine ix_istore (i := 4) (L1 := [(4, .int 0), (3, .int s0), (0, .ref (K.2.2.1 + a0)), (1, .ref (K.2.2.1 + a1)), (2, .int x2)]) X (ix_tb_at tb_X1_follows 11 rfl) (Nat.le_of_ble_eq_true rfl) rfl (pc1 := 21) rfl ?_
  refine ix_sub (L1 := [(0, .ref (K.2.2.1 + a0)), (1, .ref (K.2.2.1 + a1)), (2, .int x2), (3, .int s0), (4, .int 0)]) [2, 3, 4, 1, 0] rfl ?_
  exact t_X1_follows_21 hKp X hr hlk  h
set_option maxRecDepth 20000 in
theorem c_X1_follows {l : Launch} {K : ix_Cx} (hKp : ix_Kp K) {n : Nat} {z : ix_Z} {a0 : Nat} {a1 : Nat} {x2 : Int32} {d : ix_D2} {r : Int32} {d1 : ix_D2} (h : f_X1_follows n z a0 a1 x2 d = some (r, d1)) : ix_M l K yX1_follows cX1_follows 6 (some .boolean) 4 96 0 0 [.ref (K.2.2.1 + a0), .ref (K.2.2.1 + a1), .int x2] (ix_w z d) (some (.int r)) (ix_w z d1) := by
  refine ix_met mf_X1_follows hKp (Nat.le_of_ble_eq_true rfl) ?_
  intro p e s m args below meth c hr hlk hnm X
  have X : ix_X p s m args c K cX1_follows RX1 6 := X
  show ix_G p l e (ix_rm 4 96 0 0) s m args below meth c (MQ below (ix_Post K (some (.int r)) (ix_w z d1)) args s 0 0 (ix_A K)) K 6 0 0 0 [(0, .ref (K.2.2.1 + a0)), (1, .ref (K.2.2.1 + a1)), (2, .int x2)] [] (ix_w z d)
  unfold f_X1_follows at h
  refine ix_aload_n (i := 0) (j := 0) X (ix_tb_at tb_X1_follows 0 rfl) rfl rfl (pc1 := 1) rfl ?_
  obtain ⟨k_3, h⟩ := ix_ck_some h
  obtain ⟨r_4, d_1, h_2, h⟩ := ix_bd2_ex h
  refine ix_callV (As := []) (rest := []) (ci := 1) (T := TX1) (nf := 17) X mf_X1_settle mi_X1_settle ms_X1_settle rfl (Nat.le_of_ble_eq_true rfl) ml_RX1_139 ⟨Nat.le_of_ble_eq_true rfl, Nat.le_of_ble_eq_true rfl⟩ ⟨Nat.le_of_ble_eq_true rfl, Nat.le_of_ble_eq_true rfl⟩ rfl (Nat.le_of_ble_eq_true rfl) (ix_tb_at tb_X1_follows 1 rfl) ⟨k_3.1, List.mem_singleton.mp k_3.2⟩ (c_X1_settle hKp h_2) rfl (pc1 := 4) rfl ?_
  refine ix_if_lt (tgt := 11) X (ix_tb_at tb_X1_follows 2 rfl) (by decide) (pc1 := 7) rfl (fun q_5 => ?_) (fun q_5 => ?_)
  · have h := ix_ift q_5 h
    refine ix_iconst (v := 0) X (ix_tb_at tb_X1_follows 5 rfl) (by decide) (pc1 := 12) rfl ?_
    refine ix_sub (L1 := [(0, .ref (K.2.2.1 + a0)), (1, .ref (K.2.2.1 + a1)), (2, .int x2)]) [0, 1, 2] rfl ?_
    exact t_X1_follows_12 hKp X hr hlk  h
  · have h := ix_iff q_5 h
    refine ix_iconst (v := 1) X (ix_tb_at tb_X1_follows 3 rfl) (by decide) (pc1 := 8) rfl ?_
    refine ix_goto (tgt := 12) X (ix_tb_at tb_X1_follows 4 rfl) (by decide) ?_
    refine ix_sub (L1 := [(0, .ref (K.2.2.1 + a0)), (1, .ref (K.2.2.1 + a1)), (2, .int x2)]) [0, 1, 2] rfl ?_
    exact t_X1_follows_12 hKp X hr hlk  h
def tab_X1_isReason : List (Nat × Instr × Nat) := [(0, .aload_n 0, 1), (1, .getfield 16, 3), (4, .getfield 85, 3), (7, .iload_n 1, 1), (8, .iaload, 1), (9, .istore_n 2, 1), (10, .iload_n 2, 1), (11, .aload_n 0, 1), (12, .getfield 16, 3), (15, .getfield 85, 3), (18, .iload_n 1, 1), (19, .iconst 1, 1), (20, .iadd, 1), (21, .iaload, 1), (22, .if_icmp .ge 42, 3), (25, .aload_n 0, 1), (26, .getfield 16, 3), (29, .getfield 82, 3), (32, .iload_n 2, 1), (33, .iaload, 1), (34, .istore_n 3, 1), (35, .aload_n 0, 1), (36, .iload_n 3, 1), (37, .invokevirtual 146, 3), (40, .ifCond .eq 18, 3), (43, .aload_n 0, 1), (44, .getfield 49, 3), (47, .iload_n 3, 1), (48, .invokestatic 108, 3), (51, .iaload, 1), (52, .iload_n 1, 1), (53, .if_icmp .ne 5, 3), (56, .iconst 1, 1), (57, .ireturn, 1), (58, .iinc 2 1, 3), (61, .goto (-51), 3), (64, .iconst 0, 1), (65, .ireturn, 1)]
theorem tb_X1_isReason : ix_tab cX1_isReason tab_X1_isReason := by
  unfold ix_tab
  decide +kernel
noncomputable def f_X1_isReason_58 (n : Nat) (z : ix_Z) (rec10 : Int32 → ix_D2 → Option (Int32 × ix_D2)) (a0 : Nat) (x1 : Int32) (x2 : Int32) (d : ix_D2) : Option (Int32 × ix_D2) :=
  ix_lt (x2 + 1) (fun x2_27 => rec10 x2_27 d)
noncomputable def b_X1_isReason_10 (n : Nat) (z : ix_Z)  (a0 : Nat) (x1 : Int32) (rec10 : Int32 → ix_D2 → Option (Int32 × ix_D2)) (x2 : Int32) (d : ix_D2) : Option (Int32 × ix_D2) :=
  ix_ck (ix_ok z [1] a0) (ix_bd1 (z.1 a0 0) (fun b_11 => ix_ck (ix_ok z [7] b_11) (ix_bd1 (z.1 b_11 1) (fun b_14 => ix_ck (ix_ix z 20 b_14 (x1 + 1)) (ix_if (d.1 b_14 (ix_n (x1 + 1)) ≤ x2) (some (0, d)) (ix_bd1 (z.1 b_11 0) (fun b_18 => ix_ck (ix_ix z 20 b_18 x2) (ix_lt (d.1 b_18 (ix_n x2)) (fun x3_21 => ix_bd2 (f_X1_isTrue n z a0 x3_21 d) (fun r_25 d_23 => ix_if (r_25 = 0) (f_X1_isReason_58 n z rec10 a0 x1 x2 d_23) (ix_bd1 (z.1 a0 10) (fun b_29 => ix_ck (ix_ix z 20 b_29 (ix_abs x3_21)) (ix_if (d_23.1 b_29 (ix_n (ix_abs x3_21)) = x1) (some (1, d_23)) (f_X1_isReason_58 n z rec10 a0 x1 x2 d_23))))))))))))))
noncomputable def f_X1_isReason_10 (n : Nat) (z : ix_Z)  (a0 : Nat) (x1 : Int32) (x2 : Int32) (d : ix_D2) : Option (Int32 × ix_D2) := ix_fix (b_X1_isReason_10 n z  a0 x1) (fun _ _ => none) n x2 d
noncomputable def f_X1_isReason (n : Nat) (z : ix_Z) (a0 : Nat) (x1 : Int32) (d : ix_D2) : Option (Int32 × ix_D2) :=
  ix_ck (ix_ok z [1] a0) (ix_bd1 (z.1 a0 0) (fun b_2 => ix_ck (ix_ok z [7] b_2) (ix_bd1 (z.1 b_2 1) (fun b_5 => ix_ck (ix_ix z 20 b_5 x1) (ix_lt (d.1 b_5 (ix_n x1)) (fun x2_8 => f_X1_isReason_10 n z  a0 x1 x2_8 d))))))
set_option maxRecDepth 20000 in
theorem t_X1_isReason_58 {l : Launch} {p : Program} {e : Env} {s : State} {m : MethodId} {args : Array Value} {below : List Frame} {meth : Method} {c : Code} {K : ix_Cx} (hKp : ix_Kp K) {n : Nat} {z : ix_Z} (X : ix_X p s m args c K cX1_isReason RX1 4) (hr : meth.sig.returnType = (some .boolean)) (hlk : meth.locks = false) {rec10 : Int32 → ix_D2 → Option (Int32 × ix_D2)} {a0 : Nat} {x1 : Int32} {x2 : Int32} {r : Int32} {d1 : ix_D2} (hrec10 : ∀ (x2 : Int32) (d : ix_D2), rec10 x2 d = some (r, d1) → ix_G p l e (ix_rm 2 42 0 0) s m args below meth c (MQ below (ix_Post K (some (.int r)) (ix_w z d1)) args s 0 0 (ix_A K)) K 4 0 0 10 [(0, .ref (K.2.2.1 + a0)), (1, .int x1), (2, .int x2)] [] (ix_w z d)) {d : ix_D2} (h : f_X1_isReason_58 n z rec10 a0 x1 x2 d = some (r, d1)) : ix_G p l e (ix_rm 2 42 0 0) s m args below meth c (MQ below (ix_Post K (some (.int r)) (ix_w z d1)) args s 0 0 (ix_A K)) K 4 0 0 58 [(0, .ref (K.2.2.1 + a0)), (1, .int x1), (2, .int x2)] [] (ix_w z d) := by
  unfold f_X1_isReason_58 at h
  obtain ⟨x2_27, e_28, h⟩ := ix_lt_ex h
  refine ix_iinc (i := 2) (j := 2) (v := x2_27) (L1 := [(2, .int x2_27), (0, .ref (K.2.2.1 + a0)), (1, .int x1)]) X (ix_tb_at tb_X1_isReason 34 rfl) rfl (by rw [oi_1]; exact e_28.symm) (Nat.le_of_ble_eq_true rfl) rfl (pc1 := 61) rfl ?_
  refine ix_goto (tgt := 10) X (ix_tb_at tb_X1_isReason 35 rfl) (by decide) ?_
  refine ix_sub (L1 := [(0, .ref (K.2.2.1 + a0)), (1, .int x1), (2, .int x2_27)]) [1, 2, 0] rfl ?_
  exact hrec10 x2_27 d h
set_option maxRecDepth 20000 in
theorem tb_X1_isReason_10 {l : Launch} {p : Program} {e : Env} {s : State} {m : MethodId} {args : Array Value} {below : List Frame} {meth : Method} {c : Code} {K : ix_Cx} (hKp : ix_Kp K) {n : Nat} {z : ix_Z} (X : ix_X p s m args c K cX1_isReason RX1 4) (hr : meth.sig.returnType = (some .boolean)) (hlk : meth.locks = false)  {a0 : Nat} {x1 : Int32} {rec10 : Int32 → ix_D2 → Option (Int32 × ix_D2)} {r : Int32} {d1 : ix_D2} (hrec10 : ∀ (x2 : Int32) (d : ix_D2), rec10 x2 d = some (r, d1) → ix_G p l e (ix_rm 2 42 0 0) s m args below meth c (MQ below (ix_Post K (some (.int r)) (ix_w z d1)) args s 0 0 (ix_A K)) K 4 0 0 10 [(0, .ref (K.2.2.1 + a0)), (1, .int x1), (2, .int x2)] [] (ix_w z d)) {x2 : Int32} {d : ix_D2} (h : b_X1_isReason_10 n z  a0 x1 rec10 x2 d = some (r, d1)) : ix_G p l e (ix_rm 2 42 0 0) s m args below meth c (MQ below (ix_Post K (some (.int r)) (ix_w z d1)) args s 0 0 (ix_A K)) K 4 0 0 10 [(0, .ref (K.2.2.1 + a0)), (1, .int x1), (2, .int x2)] [] (ix_w z d) := by
  unfold b_X1_isReason_10 at h
  refine ix_iload_n (i := 2) (j := 2) X (ix_tb_at tb_X1_isReason 6 rfl) rfl rfl (pc1 := 11) rfl ?_
  refine ix_aload_n (i := 0) (j := 0) X (ix_tb_at tb_X1_isReason 7 rfl) rfl rfl (pc1 := 12) rfl ?_
  obtain ⟨k_10, h⟩ := ix_ck_some h
  obtain ⟨b_11, q_12, h⟩ := ix_bd1_ex h
  refine iz_getR X fl_RX1_16 k_10 q_12 (ix_tb_at tb_X1_isReason 8 rfl) (pc1 := 15) rfl ?_
  obtain ⟨k_13, h⟩ := ix_ck_some h
  obtain ⟨b_14, q_15, h⟩ := ix_bd1_ex h
  refine iz_getR X fl_RX1_85 k_13 q_15 (ix_tb_at tb_X1_isReason 9 rfl) (pc1 := 18) rfl ?_
  refine ix_iload_n (i := 1) (j := 1) X (ix_tb_at tb_X1_isReason 10 rfl) rfl rfl (pc1 := 19) rfl ?_
  refine ix_iconst (v := 1) X (ix_tb_at tb_X1_isReason 11 rfl) (by decide) (pc1 := 20) rfl ?_
  refine ix_iadd X (ix_tb_at tb_X1_isReason 12 rfl) (pc1 := 21) rfl ?_
  obtain ⟨k_16, h⟩ := ix_ck_some h
  refine iz_iald X k_16 (ix_tb_at tb_X1_isReason 13 rfl) (pc1 := 22) rfl ?_
  refine ix_icmp_ge (tgt := 64) X (ix_tb_at tb_X1_isReason 14 rfl) (by decide) (pc1 := 25) rfl (fun q_17 => ?_) (fun q_17 => ?_)
  · have h := ix_ift q_17 h
    refine ix_iconst (v := 0) X (ix_tb_at tb_X1_isReason 36 rfl) (by decide) (pc1 := 65) rfl ?_
    exact ix_zret X hr hlk (by decide) (ix_r2 (f := fun r => some (.int r)) (g := ix_w z) h) (ix_tb_at tb_X1_isReason 37 rfl)
  · have h := ix_iff q_17 h
    refine ix_aload_n (i := 0) (j := 0) X (ix_tb_at tb_X1_isReason 15 rfl) rfl rfl (pc1 := 26) rfl ?_
    refine iz_getR X fl_RX1_16 k_10 q_12 (ix_tb_at tb_X1_isReason 16 rfl) (pc1 := 29) rfl ?_
    obtain ⟨b_18, q_19, h⟩ := ix_bd1_ex h
    refine iz_getR X fl_RX1_82 k_13 q_19 (ix_tb_at tb_X1_isReason 17 rfl) (pc1 := 32) rfl ?_
    refine ix_iload_n (i := 2) (j := 2) X (ix_tb_at tb_X1_isReason 18 rfl) rfl rfl (pc1 := 33) rfl ?_
    obtain ⟨k_20, h⟩ := ix_ck_some h
    refine iz_iald X k_20 (ix_tb_at tb_X1_isReason 19 rfl) (pc1 := 34) rfl ?_
    obtain ⟨x3_21, e_22, h⟩ := ix_lt_ex h
    refine ix_nmi e_22 ?_
    refine ix_istore_n (i := 3) (L1 := [(3, .int x3_21), (0, .ref (K.2.2.1 + a0)), (1, .int x1), (2, .int x2)]) X (ix_tb_at tb_X1_isReason 20 rfl) rfl (Nat.le_of_ble_eq_true rfl) rfl (pc1 := 35) rfl ?_
    refine ix_aload_n (i := 0) (j := 1) X (ix_tb_at tb_X1_isReason 21 rfl) rfl rfl (pc1 := 36) rfl ?_
    refine ix_iload_n (i := 3) (j := 0) X (ix_tb_at tb_X1_isReason 22 rfl) rfl rfl (pc1 := 37) rfl ?_
    obtain ⟨r_25, d_23, h_24, h⟩ := ix_bd2_ex h
    refine ix_callV (As := [.int x3_21]) (rest := []) (ci := 1) (T := TX1) (nf := 17) X mf_X1_isTrue mi_X1_isTrue ms_X1_isTrue rfl (Nat.le_of_ble_eq_true rfl) ml_RX1_146 ⟨Nat.le_of_ble_eq_true rfl, Nat.le_of_ble_eq_true rfl⟩ ⟨Nat.le_of_ble_eq_true rfl, Nat.le_of_ble_eq_true rfl⟩ rfl (Nat.le_of_ble_eq_true rfl) (ix_tb_at tb_X1_isReason 23 rfl) ⟨k_10.1, List.mem_singleton.mp k_10.2⟩ (c_X1_isTrue hKp h_24) rfl (pc1 := 40) rfl ?_
    refine ix_if_eq (tgt := 58) X (ix_tb_at tb_X1_isReason 24 rfl) (by decide) (pc1 := 43) rfl (fun q_26 => ?_) (fun q_26 => ?_)
    · have h := ix_ift q_26 h
      refine ix_sub (L1 := [(0, .ref (K.2.2.1 + a0)), (1, .int x1), (2, .int x2)]) [1, 2, 3] rfl ?_
      exact t_X1_isReason_58 hKp X hr hlk hrec10 h
    · have h := ix_iff q_26 h
      refine ix_aload_n (i := 0) (j := 1) X (ix_tb_at tb_X1_isReason 25 rfl) rfl rfl (pc1 := 44) rfl ?_
      obtain ⟨b_29, q_30, h⟩ := ix_bd1_ex h
      refine iz_getR X fl_RX1_49 k_10 q_30 (ix_tb_at tb_X1_isReason 26 rfl) (pc1 := 47) rfl ?_
      refine ix_iload_n (i := 3) (j := 0) X (ix_tb_at tb_X1_isReason 27 rfl) rfl rfl (pc1 := 48) rfl ?_
      refine ix_mabs X ml_RX1_108 (Nat.le_of_ble_eq_true rfl) (Nat.le_of_ble_eq_true rfl) ⟨Nat.le_of_ble_eq_true rfl, Nat.le_of_ble_eq_true rfl⟩ (ix_tb_at tb_X1_isReason 28 rfl) (pc1 := 51) rfl ?_
      obtain ⟨k_31, h⟩ := ix_ck_some h
      refine iz_iald X k_31 (ix_tb_at tb_X1_isReason 29 rfl) (pc1 := 52) rfl ?_
      refine ix_iload_n (i := 1) (j := 2) X (ix_tb_at tb_X1_isReason 30 rfl) rfl rfl (pc1 := 53) rfl ?_
      refine ix_icmp_ne (tgt := 58) X (ix_tb_at tb_X1_isReason 31 rfl) (by decide) (pc1 := 56) rfl (fun q_32 => ?_) (fun q_32 => ?_)
      · have h := ix_iff q_32 h
        refine ix_sub (L1 := [(0, .ref (K.2.2.1 + a0)), (1, .int x1), (2, .int x2)]) [1, 2, 3] rfl ?_
        exact t_X1_isReason_58 hKp X hr hlk hrec10 h
      · have h := ix_ift q_32 h
        refine ix_iconst (v := 1) X (ix_tb_at tb_X1_isReason 32 rfl) (by decide) (pc1 := 57) rfl ?_
        exact ix_zret X hr hlk (by decide) (ix_r2 (f := fun r => some (.int r)) (g := ix_w z) h) (ix_tb_at tb_X1_isReason 33 rfl)
theorem t_X1_isReason_10 {l : Launch} {p : Program} {e : Env} {s : State} {m : MethodId} {args : Array Value} {below : List Frame} {meth : Method} {c : Code} {K : ix_Cx} (hKp : ix_Kp K) {n : Nat} {z : ix_Z} (X : ix_X p s m args c K cX1_isReason RX1 4) (hr : meth.sig.returnType = (some .boolean)) (hlk : meth.locks = false)  {a0 : Nat} {x1 : Int32} {r : Int32} {d1 : ix_D2}  {x2 : Int32} {d : ix_D2} (h : f_X1_isReason_10 n z  a0 x1 x2 d = some (r, d1)) : ix_G p l e (ix_rm 2 42 0 0) s m args below meth c (MQ below (ix_Post K (some (.int r)) (ix_w z d1)) args s 0 0 (ix_A K)) K 4 0 0 10 [(0, .ref (K.2.2.1 + a0)), (1, .int x1), (2, .int x2)] [] (ix_w z d) := by
  have key : ∀ (f : Nat) (x2 : Int32) (d : ix_D2), ix_fix (b_X1_isReason_10 n z  a0 x1) (fun _ _ => none) f x2 d = some (r, d1) → ix_G p l e (ix_rm 2 42 0 0) s m args below meth c (MQ below (ix_Post K (some (.int r)) (ix_w z d1)) args s 0 0 (ix_A K)) K 4 0 0 10 [(0, .ref (K.2.2.1 + a0)), (1, .int x1), (2, .int x2)] [] (ix_w z d) := by
    intro f
    induction f with
    | zero =>
      intro x2 d h
      have h : (none : Option (Int32 × ix_D2)) = some (r, d1) := h
      cases h
    | succ f ih =>
      intro x2 d h
      exact tb_X1_isReason_10 hKp X hr hlk (rec10 := ix_fix (b_X1_isReason_10 n z  a0 x1) (fun _ _ => none) f)  ih h
  exact key n x2 d h
set_option maxRecDepth 20000 in
theorem c_X1_isReason {l : Launch} {K : ix_Cx} (hKp : ix_Kp K) {n : Nat} {z : ix_Z} {a0 : Nat} {x1 : Int32} {d : ix_D2} {r : Int32} {d1 : ix_D2} (h : f_X1_isReason n z a0 x1 d = some (r, d1)) : ix_M l K yX1_isReason cX1_isReason 4 (some .boolean) 2 42 0 0 [.ref (K.2.2.1 + a0), .int x1] (ix_w z d) (some (.int r)) (ix_w z d1) := by
  refine ix_met mf_X1_isReason hKp (Nat.le_of_ble_eq_true rfl) ?_
  intro p e s m args below meth c hr hlk hnm X
  have X : ix_X p s m args c K cX1_isReason RX1 4 := X
  show ix_G p l e (ix_rm 2 42 0 0) s m args below meth c (MQ below (ix_Post K (some (.int r)) (ix_w z d1)) args s 0 0 (ix_A K)) K 4 0 0 0 [(0, .ref (K.2.2.1 + a0)), (1, .int x1)] [] (ix_w z d)
  unfold f_X1_isReason at h
  refine ix_aload_n (i := 0) (j := 0) X (ix_tb_at tb_X1_isReason 0 rfl) rfl rfl (pc1 := 1) rfl ?_
  obtain ⟨k_1, h⟩ := ix_ck_some h
  obtain ⟨b_2, q_3, h⟩ := ix_bd1_ex h
  refine iz_getR X fl_RX1_16 k_1 q_3 (ix_tb_at tb_X1_isReason 1 rfl) (pc1 := 4) rfl ?_
  obtain ⟨k_4, h⟩ := ix_ck_some h
  obtain ⟨b_5, q_6, h⟩ := ix_bd1_ex h
  refine iz_getR X fl_RX1_85 k_4 q_6 (ix_tb_at tb_X1_isReason 2 rfl) (pc1 := 7) rfl ?_
  refine ix_iload_n (i := 1) (j := 1) X (ix_tb_at tb_X1_isReason 3 rfl) rfl rfl (pc1 := 8) rfl ?_
  obtain ⟨k_7, h⟩ := ix_ck_some h
  refine iz_iald X k_7 (ix_tb_at tb_X1_isReason 4 rfl) (pc1 := 9) rfl ?_
  obtain ⟨x2_8, e_9, h⟩ := ix_lt_ex h
  refine ix_nmi e_9 ?_
  refine ix_istore_n (i := 2) (L1 := [(2, .int x2_8), (0, .ref (K.2.2.1 + a0)), (1, .int x1)]) X (ix_tb_at tb_X1_isReason 5 rfl) rfl (Nat.le_of_ble_eq_true rfl) rfl (pc1 := 10) rfl ?_
  refine ix_sub (L1 := [(0, .ref (K.2.2.1 + a0)), (1, .int x1), (2, .int x2_8)]) [1, 2, 0] rfl ?_
  exact t_X1_isReason_10 hKp X hr hlk  h
def tab_X1_numberOf : List (Nat × Instr × Nat) := [(0, .iload_n 1, 1), (1, .aload_n 0, 1), (2, .getfield 153, 3), (5, .if_icmp .lt 14, 3), (8, .sipush 2000, 3), (11, .iload_n 1, 1), (12, .iadd, 1), (13, .aload_n 0, 1), (14, .getfield 153, 3), (17, .isub, 1), (18, .ireturn, 1), (19, .iload_n 1, 1), (20, .aload_n 0, 1), (21, .getfield 156, 3), (24, .if_icmp .lt 16, 3), (27, .sipush 1000, 3), (30, .iload_n 1, 1), (31, .iadd, 1), (32, .aload_n 0, 1), (33, .getfield 156, 3), (36, .isub, 1), (37, .goto 4, 3), (40, .iload_n 1, 1), (41, .ireturn, 1)]
theorem tb_X1_numberOf : ix_tab cX1_numberOf tab_X1_numberOf := by
  unfold ix_tab
  decide +kernel
noncomputable def f_X1_numberOf (n : Nat) (z : ix_Z) (a0 : Nat) (x1 : Int32) (d : ix_D2) : Option (Int32 × ix_D2) :=
  ix_ck (ix_ok z [1] a0) (ix_if (x1 < d.1 a0 16) (ix_if (x1 < d.1 a0 15) (some (x1, d)) (some ((1000 + x1) - (d.1 a0 15), d))) (some ((2000 + x1) - (d.1 a0 16), d)))
set_option maxRecDepth 20000 in
theorem c_X1_numberOf {l : Launch} {K : ix_Cx} (hKp : ix_Kp K) {n : Nat} {z : ix_Z} {a0 : Nat} {x1 : Int32} {d : ix_D2} {r : Int32} {d1 : ix_D2} (h : f_X1_numberOf n z a0 x1 d = some (r, d1)) : ix_M l K yX1_numberOf cX1_numberOf 2 (some .int) 0 0 0 0 [.ref (K.2.2.1 + a0), .int x1] (ix_w z d) (some (.int r)) (ix_w z d1) := by
  refine ix_met mf_X1_numberOf hKp (Nat.le_of_ble_eq_true rfl) ?_
  intro p e s m args below meth c hr hlk hnm X
  have X : ix_X p s m args c K cX1_numberOf RX1 2 := X
  show ix_G p l e (ix_rm 0 0 0 0) s m args below meth c (MQ below (ix_Post K (some (.int r)) (ix_w z d1)) args s 0 0 (ix_A K)) K 2 0 0 0 [(0, .ref (K.2.2.1 + a0)), (1, .int x1)] [] (ix_w z d)
  unfold f_X1_numberOf at h
  refine ix_iload_n (i := 1) (j := 1) X (ix_tb_at tb_X1_numberOf 0 rfl) rfl rfl (pc1 := 1) rfl ?_
  refine ix_aload_n (i := 0) (j := 0) X (ix_tb_at tb_X1_numberOf 1 rfl) rfl rfl (pc1 := 2) rfl ?_
  obtain ⟨k_1, h⟩ := ix_ck_some h
  refine iz_getI X fl_RX1_153 k_1 (ix_tb_at tb_X1_numberOf 2 rfl) (pc1 := 5) rfl ?_
  refine ix_icmp_lt (tgt := 19) X (ix_tb_at tb_X1_numberOf 3 rfl) (by decide) (pc1 := 8) rfl (fun q_2 => ?_) (fun q_2 => ?_)
  · have h := ix_ift q_2 h
    refine ix_iload_n (i := 1) (j := 1) X (ix_tb_at tb_X1_numberOf 11 rfl) rfl rfl (pc1 := 20) rfl ?_
    refine ix_aload_n (i := 0) (j := 0) X (ix_tb_at tb_X1_numberOf 12 rfl) rfl rfl (pc1 := 21) rfl ?_
    refine iz_getI X fl_RX1_156 k_1 (ix_tb_at tb_X1_numberOf 13 rfl) (pc1 := 24) rfl ?_
    refine ix_icmp_lt (tgt := 40) X (ix_tb_at tb_X1_numberOf 14 rfl) (by decide) (pc1 := 27) rfl (fun q_3 => ?_) (fun q_3 => ?_)
    · have h := ix_ift q_3 h
      refine ix_iload_n (i := 1) (j := 1) X (ix_tb_at tb_X1_numberOf 22 rfl) rfl rfl (pc1 := 41) rfl ?_
      exact ix_iret X hr hlk (ix_r2 (f := fun r => some (.int r)) (g := ix_w z) h) (ix_tb_at tb_X1_numberOf 23 rfl)
    · have h := ix_iff q_3 h
      refine ix_sipush (v := 1000) X (ix_tb_at tb_X1_numberOf 15 rfl) (by decide) (pc1 := 30) rfl ?_
      refine ix_iload_n (i := 1) (j := 1) X (ix_tb_at tb_X1_numberOf 16 rfl) rfl rfl (pc1 := 31) rfl ?_
      refine ix_iadd X (ix_tb_at tb_X1_numberOf 17 rfl) (pc1 := 32) rfl ?_
      refine ix_aload_n (i := 0) (j := 0) X (ix_tb_at tb_X1_numberOf 18 rfl) rfl rfl (pc1 := 33) rfl ?_
      refine iz_getI X fl_RX1_156 k_1 (ix_tb_at tb_X1_numberOf 19 rfl) (pc1 := 36) rfl ?_
      refine ix_isub X (ix_tb_at tb_X1_numberOf 20 rfl) (pc1 := 37) rfl ?_
      refine ix_goto (tgt := 41) X (ix_tb_at tb_X1_numberOf 21 rfl) (by decide) ?_
      exact ix_iret X hr hlk (ix_r2 (f := fun r => some (.int r)) (g := ix_w z) h) (ix_tb_at tb_X1_numberOf 23 rfl)
  · have h := ix_iff q_2 h
    refine ix_sipush (v := 2000) X (ix_tb_at tb_X1_numberOf 4 rfl) (by decide) (pc1 := 11) rfl ?_
    refine ix_iload_n (i := 1) (j := 1) X (ix_tb_at tb_X1_numberOf 5 rfl) rfl rfl (pc1 := 12) rfl ?_
    refine ix_iadd X (ix_tb_at tb_X1_numberOf 6 rfl) (pc1 := 13) rfl ?_
    refine ix_aload_n (i := 0) (j := 0) X (ix_tb_at tb_X1_numberOf 7 rfl) rfl rfl (pc1 := 14) rfl ?_
    refine iz_getI X fl_RX1_153 k_1 (ix_tb_at tb_X1_numberOf 8 rfl) (pc1 := 17) rfl ?_
    refine ix_isub X (ix_tb_at tb_X1_numberOf 9 rfl) (pc1 := 18) rfl ?_
    exact ix_iret X hr hlk (ix_r2 (f := fun r => some (.int r)) (g := ix_w z) h) (ix_tb_at tb_X1_numberOf 10 rfl)
def tab_X7_itemTotal : List (Nat × Instr × Nat) := [(0, .aload_n 0, 1), (1, .getfield 15, 3), (4, .aload_n 0, 1), (5, .getfield 18, 3), (8, .iaload, 1), (9, .ireturn, 1)]
theorem tb_X7_itemTotal : ix_tab cX7_itemTotal tab_X7_itemTotal := by
  unfold ix_tab
  decide +kernel
noncomputable def f_X7_itemTotal (n : Nat) (z : ix_Z) (a0 : Nat) (d : ix_D2) : Option (Int32 × ix_D2) :=
  ix_ck (ix_ok z [7] a0) (ix_bd1 (z.1 a0 1) (fun b_2 => ix_ck (ix_ix z 20 b_2 (d.1 a0 2)) (some (d.1 b_2 (ix_n (d.1 a0 2)), d))))
set_option maxRecDepth 20000 in
theorem c_X7_itemTotal {l : Launch} {K : ix_Cx} (hKp : ix_Kp K) {n : Nat} {z : ix_Z} {a0 : Nat} {d : ix_D2} {r : Int32} {d1 : ix_D2} (h : f_X7_itemTotal n z a0 d = some (r, d1)) : ix_M l K yX7_itemTotal cX7_itemTotal 1 (some .int) 0 0 0 0 [.ref (K.2.2.1 + a0)] (ix_w z d) (some (.int r)) (ix_w z d1) := by
  refine ix_met mf_X7_itemTotal hKp (Nat.le_of_ble_eq_true rfl) ?_
  intro p e s m args below meth c hr hlk hnm X
  have X : ix_X p s m args c K cX7_itemTotal RX7 1 := X
  show ix_G p l e (ix_rm 0 0 0 0) s m args below meth c (MQ below (ix_Post K (some (.int r)) (ix_w z d1)) args s 0 0 (ix_A K)) K 1 0 0 0 [(0, .ref (K.2.2.1 + a0))] [] (ix_w z d)
  unfold f_X7_itemTotal at h
  refine ix_aload_n (i := 0) (j := 0) X (ix_tb_at tb_X7_itemTotal 0 rfl) rfl rfl (pc1 := 1) rfl ?_
  obtain ⟨k_1, h⟩ := ix_ck_some h
  obtain ⟨b_2, q_3, h⟩ := ix_bd1_ex h
  refine iz_getR X fl_RX7_15 k_1 q_3 (ix_tb_at tb_X7_itemTotal 1 rfl) (pc1 := 4) rfl ?_
  refine ix_aload_n (i := 0) (j := 0) X (ix_tb_at tb_X7_itemTotal 2 rfl) rfl rfl (pc1 := 5) rfl ?_
  refine iz_getI X fl_RX7_18 k_1 (ix_tb_at tb_X7_itemTotal 3 rfl) (pc1 := 8) rfl ?_
  obtain ⟨k_4, h⟩ := ix_ck_some h
  refine iz_iald X k_4 (ix_tb_at tb_X7_itemTotal 4 rfl) (pc1 := 9) rfl ?_
  exact ix_iret X hr hlk (ix_r2 (f := fun r => some (.int r)) (g := ix_w z) h) (ix_tb_at tb_X7_itemTotal 5 rfl)
def tab_X1_recordTakes : List (Nat × Instr × Nat) := [(0, .aload_n 0, 1), (1, .getfield 16, 3), (4, .getfield 85, 3), (7, .aload_n 0, 1), (8, .getfield 153, 3), (11, .iaload, 1), (12, .istore_n 2, 1), (13, .aload_n 0, 1), (14, .getfield 16, 3), (17, .getfield 95, 3), (20, .aload_n 0, 1), (21, .getfield 153, 3), (24, .isub, 1), (25, .sipush 800, 3), (28, .if_icmp .ge 24, 3), (31, .iload_n 1, 1), (32, .sipush 8000, 3), (35, .aload_n 0, 1), (36, .getfield 16, 3), (39, .invokevirtual 159, 3), (42, .iload_n 2, 1), (43, .isub, 1), (44, .isub, 1), (45, .if_icmp .gt 7, 3), (48, .iconst 1, 1), (49, .goto 4, 3), (52, .iconst 0, 1), (53, .ireturn, 1)]
theorem tb_X1_recordTakes : ix_tab cX1_recordTakes tab_X1_recordTakes := by
  unfold ix_tab
  decide +kernel
noncomputable def f_X1_recordTakes (n : Nat) (z : ix_Z) (a0 : Nat) (x1 : Int32) (d : ix_D2) : Option (Int32 × ix_D2) :=
  ix_ck (ix_ok z [1] a0) (ix_bd1 (z.1 a0 0) (fun b_2 => ix_ck (ix_ok z [7] b_2) (ix_bd1 (z.1 b_2 1) (fun b_5 => ix_ck (ix_ix z 20 b_5 (d.1 a0 16)) (ix_lt (d.1 b_5 (ix_n (d.1 a0 16))) (fun x2_8 => ix_if (800 ≤ (d.1 b_2 2) - (d.1 a0 16)) (some (0, d)) (ix_bd2 (f_X7_itemTotal n z b_2 d) (fun r_13 d_11 => ix_if (8000 - (r_13 - x2_8) < x1) (some (0, d_11)) (some (1, d_11))))))))))
set_option maxRecDepth 20000 in
theorem c_X1_recordTakes {l : Launch} {K : ix_Cx} (hKp : ix_Kp K) {n : Nat} {z : ix_Z} {a0 : Nat} {x1 : Int32} {d : ix_D2} {r : Int32} {d1 : ix_D2} (h : f_X1_recordTakes n z a0 x1 d = some (r, d1)) : ix_M l K yX1_recordTakes cX1_recordTakes 3 (some .boolean) 1 20 0 0 [.ref (K.2.2.1 + a0), .int x1] (ix_w z d) (some (.int r)) (ix_w z d1) := by
  refine ix_met mf_X1_recordTakes hKp (Nat.le_of_ble_eq_true rfl) ?_
  intro p e s m args below meth c hr hlk hnm X
  have X : ix_X p s m args c K cX1_recordTakes RX1 3 := X
  show ix_G p l e (ix_rm 1 20 0 0) s m args below meth c (MQ below (ix_Post K (some (.int r)) (ix_w z d1)) args s 0 0 (ix_A K)) K 3 0 0 0 [(0, .ref (K.2.2.1 + a0)), (1, .int x1)] [] (ix_w z d)
  unfold f_X1_recordTakes at h
  refine ix_aload_n (i := 0) (j := 0) X (ix_tb_at tb_X1_recordTakes 0 rfl) rfl rfl (pc1 := 1) rfl ?_
  obtain ⟨k_1, h⟩ := ix_ck_some h
  obtain ⟨b_2, q_3, h⟩ := ix_bd1_ex h
  refine iz_getR X fl_RX1_16 k_1 q_3 (ix_tb_at tb_X1_recordTakes 1 rfl) (pc1 := 4) rfl ?_
  obtain ⟨k_4, h⟩ := ix_ck_some h
  obtain ⟨b_5, q_6, h⟩ := ix_bd1_ex h
  refine iz_getR X fl_RX1_85 k_4 q_6 (ix_tb_at tb_X1_recordTakes 2 rfl) (pc1 := 7) rfl ?_
  refine ix_aload_n (i := 0) (j := 0) X (ix_tb_at tb_X1_recordTakes 3 rfl) rfl rfl (pc1 := 8) rfl ?_
  refine iz_getI X fl_RX1_153 k_1 (ix_tb_at tb_X1_recordTakes 4 rfl) (pc1 := 11) rfl ?_
  obtain ⟨k_7, h⟩ := ix_ck_some h
  refine iz_iald X k_7 (ix_tb_at tb_X1_recordTakes 5 rfl) (pc1 := 12) rfl ?_
  obtain ⟨x2_8, e_9, h⟩ := ix_lt_ex h
  refine ix_nmi e_9 ?_
  refine ix_istore_n (i := 2) (L1 := [(2, .int x2_8), (0, .ref (K.2.2.1 + a0)), (1, .int x1)]) X (ix_tb_at tb_X1_recordTakes 6 rfl) rfl (Nat.le_of_ble_eq_true rfl) rfl (pc1 := 13) rfl ?_
  refine ix_aload_n (i := 0) (j := 1) X (ix_tb_at tb_X1_recordTakes 7 rfl) rfl rfl (pc1 := 14) rfl ?_
  refine iz_getR X fl_RX1_16 k_1 q_3 (ix_tb_at tb_X1_recordTakes 8 rfl) (pc1 := 17) rfl ?_
  refine iz_getI X fl_RX1_95 k_4 (ix_tb_at tb_X1_recordTakes 9 rfl) (pc1 := 20) rfl ?_
  refine ix_aload_n (i := 0) (j := 1) X (ix_tb_at tb_X1_recordTakes 10 rfl) rfl rfl (pc1 := 21) rfl ?_
  refine iz_getI X fl_RX1_153 k_1 (ix_tb_at tb_X1_recordTakes 11 rfl) (pc1 := 24) rfl ?_
  refine ix_isub X (ix_tb_at tb_X1_recordTakes 12 rfl) (pc1 := 25) rfl ?_
  refine ix_sipush (v := 800) X (ix_tb_at tb_X1_recordTakes 13 rfl) (by decide) (pc1 := 28) rfl ?_
  refine ix_icmp_ge (tgt := 52) X (ix_tb_at tb_X1_recordTakes 14 rfl) (by decide) (pc1 := 31) rfl (fun q_10 => ?_) (fun q_10 => ?_)
  · have h := ix_ift q_10 h
    refine ix_iconst (v := 0) X (ix_tb_at tb_X1_recordTakes 26 rfl) (by decide) (pc1 := 53) rfl ?_
    exact ix_zret X hr hlk (by decide) (ix_r2 (f := fun r => some (.int r)) (g := ix_w z) h) (ix_tb_at tb_X1_recordTakes 27 rfl)
  · have h := ix_iff q_10 h
    refine ix_iload_n (i := 1) (j := 2) X (ix_tb_at tb_X1_recordTakes 15 rfl) rfl rfl (pc1 := 32) rfl ?_
    refine ix_sipush (v := 8000) X (ix_tb_at tb_X1_recordTakes 16 rfl) (by decide) (pc1 := 35) rfl ?_
    refine ix_aload_n (i := 0) (j := 1) X (ix_tb_at tb_X1_recordTakes 17 rfl) rfl rfl (pc1 := 36) rfl ?_
    refine iz_getR X fl_RX1_16 k_1 q_3 (ix_tb_at tb_X1_recordTakes 18 rfl) (pc1 := 39) rfl ?_
    obtain ⟨r_13, d_11, h_12, h⟩ := ix_bd2_ex h
    refine ix_callV (As := []) (rest := [.int 8000, .int x1]) (ci := 7) (T := TX7) (nf := 3) X mf_X7_itemTotal mi_X7_itemTotal ms_X7_itemTotal rfl (Nat.le_of_ble_eq_true rfl) ml_RX1_159 ⟨Nat.le_of_ble_eq_true rfl, Nat.le_of_ble_eq_true rfl⟩ ⟨Nat.le_of_ble_eq_true rfl, Nat.le_of_ble_eq_true rfl⟩ rfl (Nat.le_of_ble_eq_true rfl) (ix_tb_at tb_X1_recordTakes 19 rfl) ⟨k_4.1, List.mem_singleton.mp k_4.2⟩ (c_X7_itemTotal hKp h_12) rfl (pc1 := 42) rfl ?_
    refine ix_iload_n (i := 2) (j := 0) X (ix_tb_at tb_X1_recordTakes 20 rfl) rfl rfl (pc1 := 43) rfl ?_
    refine ix_isub X (ix_tb_at tb_X1_recordTakes 21 rfl) (pc1 := 44) rfl ?_
    refine ix_isub X (ix_tb_at tb_X1_recordTakes 22 rfl) (pc1 := 45) rfl ?_
    refine ix_icmp_gt (tgt := 52) X (ix_tb_at tb_X1_recordTakes 23 rfl) (by decide) (pc1 := 48) rfl (fun q_14 => ?_) (fun q_14 => ?_)
    · have h := ix_ift q_14 h
      refine ix_iconst (v := 0) X (ix_tb_at tb_X1_recordTakes 26 rfl) (by decide) (pc1 := 53) rfl ?_
      exact ix_zret X hr hlk (by decide) (ix_r2 (f := fun r => some (.int r)) (g := ix_w z) h) (ix_tb_at tb_X1_recordTakes 27 rfl)
    · have h := ix_iff q_14 h
      refine ix_iconst (v := 1) X (ix_tb_at tb_X1_recordTakes 24 rfl) (by decide) (pc1 := 49) rfl ?_
      refine ix_goto (tgt := 53) X (ix_tb_at tb_X1_recordTakes 25 rfl) (by decide) ?_
      exact ix_zret X hr hlk (by decide) (ix_r2 (f := fun r => some (.int r)) (g := ix_w z) h) (ix_tb_at tb_X1_recordTakes 27 rfl)
def tab_X2_look : List (Nat × Instr × Nat) := [(0, .iload_n 1, 1), (1, .ifCond .eq 17, 3), (4, .iload_n 1, 1), (5, .sipush 300, 3), (8, .if_icmp .gt 10, 3), (11, .iload_n 1, 1), (12, .sipush (-300), 3), (15, .if_icmp .ge 7, 3), (18, .sipush (-1012), 3), (21, .ireturn, 1), (22, .iload_n 1, 1), (23, .invokestatic 34, 3), (26, .aload_n 0, 1), (27, .getfield 40, 3), (30, .if_icmp .le 9, 3), (33, .sipush (-1011), 3), (36, .goto 4, 3), (39, .iconst 0, 1), (40, .ireturn, 1)]
theorem tb_X2_look : ix_tab cX2_look tab_X2_look := by
  unfold ix_tab
  decide +kernel
noncomputable def f_X2_look_18 (n : Nat) (z : ix_Z)   (d : ix_D2) : Option (Int32 × ix_D2) :=
  some ((-1012), d)
noncomputable def f_X2_look (n : Nat) (z : ix_Z) (a0 : Nat) (x1 : Int32) (d : ix_D2) : Option (Int32 × ix_D2) :=
  ix_if (x1 = 0) (f_X2_look_18 n z   d) (ix_if (300 < x1) (f_X2_look_18 n z   d) (ix_if ((-300) ≤ x1) (ix_ck (ix_ok z [2] a0) (ix_if (ix_abs x1 ≤ d.1 a0 5) (some (0, d)) (some ((-1011), d)))) (f_X2_look_18 n z   d)))
set_option maxRecDepth 20000 in
theorem t_X2_look_18 {l : Launch} {p : Program} {e : Env} {s : State} {m : MethodId} {args : Array Value} {below : List Frame} {meth : Method} {c : Code} {K : ix_Cx} (hKp : ix_Kp K) {n : Nat} {z : ix_Z} (X : ix_X p s m args c K cX2_look RX2 2) (hr : meth.sig.returnType = (some .int)) (hlk : meth.locks = false)   {r : Int32} {d1 : ix_D2}  {d : ix_D2} (h : f_X2_look_18 n z   d = some (r, d1)) : ix_G p l e (ix_rm 1 23 0 0) s m args below meth c (MQ below (ix_Post K (some (.int r)) (ix_w z d1)) args s 0 0 (ix_A K)) K 2 0 0 18 [] [] (ix_w z d) := by
  unfold f_X2_look_18 at h
  refine ix_sipush (v := (-1012)) X (ix_tb_at tb_X2_look 8 rfl) (by decide) (pc1 := 21) rfl ?_
  exact ix_iret X hr hlk (ix_r2 (f := fun r => some (.int r)) (g := ix_w z) h) (ix_tb_at tb_X2_look 9 rfl)
set_option maxRecDepth 20000 in
theorem c_X2_look {l : Launch} {K : ix_Cx} (hKp : ix_Kp K) {n : Nat} {z : ix_Z} {a0 : Nat} {x1 : Int32} {d : ix_D2} {r : Int32} {d1 : ix_D2} (h : f_X2_look n z a0 x1 d = some (r, d1)) : ix_M l K yX2_look cX2_look 2 (some .int) 1 23 0 0 [.ref (K.2.2.1 + a0), .int x1] (ix_w z d) (some (.int r)) (ix_w z d1) := by
  refine ix_met mf_X2_look hKp (Nat.le_of_ble_eq_true rfl) ?_
  intro p e s m args below meth c hr hlk hnm X
  have X : ix_X p s m args c K cX2_look RX2 2 := X
  show ix_G p l e (ix_rm 1 23 0 0) s m args below meth c (MQ below (ix_Post K (some (.int r)) (ix_w z d1)) args s 0 0 (ix_A K)) K 2 0 0 0 [(0, .ref (K.2.2.1 + a0)), (1, .int x1)] [] (ix_w z d)
  unfold f_X2_look at h
  refine ix_iload_n (i := 1) (j := 1) X (ix_tb_at tb_X2_look 0 rfl) rfl rfl (pc1 := 1) rfl ?_
  refine ix_if_eq (tgt := 18) X (ix_tb_at tb_X2_look 1 rfl) (by decide) (pc1 := 4) rfl (fun q_1 => ?_) (fun q_1 => ?_)
  · have h := ix_ift q_1 h
    refine ix_sub (L1 := []) [] rfl ?_
    exact t_X2_look_18 hKp X hr hlk  h
  · have h := ix_iff q_1 h
    refine ix_iload_n (i := 1) (j := 1) X (ix_tb_at tb_X2_look 2 rfl) rfl rfl (pc1 := 5) rfl ?_
    refine ix_sipush (v := 300) X (ix_tb_at tb_X2_look 3 rfl) (by decide) (pc1 := 8) rfl ?_
    refine ix_icmp_gt (tgt := 18) X (ix_tb_at tb_X2_look 4 rfl) (by decide) (pc1 := 11) rfl (fun q_2 => ?_) (fun q_2 => ?_)
    · have h := ix_ift q_2 h
      refine ix_sub (L1 := []) [] rfl ?_
      exact t_X2_look_18 hKp X hr hlk  h
    · have h := ix_iff q_2 h
      refine ix_iload_n (i := 1) (j := 1) X (ix_tb_at tb_X2_look 5 rfl) rfl rfl (pc1 := 12) rfl ?_
      refine ix_sipush (v := (-300)) X (ix_tb_at tb_X2_look 6 rfl) (by decide) (pc1 := 15) rfl ?_
      refine ix_icmp_ge (tgt := 22) X (ix_tb_at tb_X2_look 7 rfl) (by decide) (pc1 := 18) rfl (fun q_3 => ?_) (fun q_3 => ?_)
      · have h := ix_ift q_3 h
        refine ix_iload_n (i := 1) (j := 1) X (ix_tb_at tb_X2_look 10 rfl) rfl rfl (pc1 := 23) rfl ?_
        refine ix_mabs X ml_RX2_34 (Nat.le_of_ble_eq_true rfl) (Nat.le_of_ble_eq_true rfl) ⟨Nat.le_of_ble_eq_true rfl, Nat.le_of_ble_eq_true rfl⟩ (ix_tb_at tb_X2_look 11 rfl) (pc1 := 26) rfl ?_
        refine ix_aload_n (i := 0) (j := 0) X (ix_tb_at tb_X2_look 12 rfl) rfl rfl (pc1 := 27) rfl ?_
        obtain ⟨k_4, h⟩ := ix_ck_some h
        refine iz_getI X fl_RX2_40 k_4 (ix_tb_at tb_X2_look 13 rfl) (pc1 := 30) rfl ?_
        refine ix_icmp_le (tgt := 39) X (ix_tb_at tb_X2_look 14 rfl) (by decide) (pc1 := 33) rfl (fun q_5 => ?_) (fun q_5 => ?_)
        · have h := ix_ift q_5 h
          refine ix_iconst (v := 0) X (ix_tb_at tb_X2_look 17 rfl) (by decide) (pc1 := 40) rfl ?_
          exact ix_iret X hr hlk (ix_r2 (f := fun r => some (.int r)) (g := ix_w z) h) (ix_tb_at tb_X2_look 18 rfl)
        · have h := ix_iff q_5 h
          refine ix_sipush (v := (-1011)) X (ix_tb_at tb_X2_look 15 rfl) (by decide) (pc1 := 36) rfl ?_
          refine ix_goto (tgt := 40) X (ix_tb_at tb_X2_look 16 rfl) (by decide) ?_
          exact ix_iret X hr hlk (ix_r2 (f := fun r => some (.int r)) (g := ix_w z) h) (ix_tb_at tb_X2_look 18 rfl)
      · have h := ix_iff q_3 h
        refine ix_sub (L1 := []) [] rfl ?_
        exact t_X2_look_18 hKp X hr hlk  h
def tab_X2_isAssumed : List (Nat × Instr × Nat) := [(0, .iconst 0, 1), (1, .istore_n 2, 1), (2, .iload_n 2, 1), (3, .aload_n 0, 1), (4, .getfield 44, 3), (7, .if_icmp .ge 21, 3), (10, .aload_n 0, 1), (11, .getfield 28, 3), (14, .iload_n 2, 1), (15, .iaload, 1), (16, .iload_n 1, 1), (17, .if_icmp .ne 5, 3), (20, .iconst 1, 1), (21, .ireturn, 1), (22, .iinc 2 1, 3), (25, .goto (-23), 3), (28, .iconst 0, 1), (29, .ireturn, 1)]
theorem tb_X2_isAssumed : ix_tab cX2_isAssumed tab_X2_isAssumed := by
  unfold ix_tab
  decide +kernel
noncomputable def b_X2_isAssumed_2 (n : Nat) (z : ix_Z)  (a0 : Nat) (x1 : Int32) (rec2 : Int32 → ix_D2 → Option (Int32 × ix_D2)) (x2 : Int32) (d : ix_D2) : Option (Int32 × ix_D2) :=
  ix_ck (ix_ok z [2] a0) (ix_if (d.1 a0 7 ≤ x2) (some (0, d)) (ix_bd1 (z.1 a0 3) (fun b_3 => ix_ck (ix_ix z 20 b_3 x2) (ix_if (d.1 b_3 (ix_n x2) = x1) (some (1, d)) (ix_lt (x2 + 1) (fun x2_7 => rec2 x2_7 d))))))
noncomputable def f_X2_isAssumed_2 (n : Nat) (z : ix_Z)  (a0 : Nat) (x1 : Int32) (x2 : Int32) (d : ix_D2) : Option (Int32 × ix_D2) := ix_fix (b_X2_isAssumed_2 n z  a0 x1) (fun _ _ => none) n x2 d
noncomputable def f_X2_isAssumed (n : Nat) (z : ix_Z) (a0 : Nat) (x1 : Int32) (d : ix_D2) : Option (Int32 × ix_D2) :=
  f_X2_isAssumed_2 n z  a0 x1 0 d
set_option maxRecDepth 20000 in
theorem tb_X2_isAssumed_2 {l : Launch} {p : Program} {e : Env} {s : State} {m : MethodId} {args : Array Value} {below : List Frame} {meth : Method} {c : Code} {K : ix_Cx} (hKp : ix_Kp K) {n : Nat} {z : ix_Z} (X : ix_X p s m args c K cX2_isAssumed RX2 3) (hr : meth.sig.returnType = (some .boolean)) (hlk : meth.locks = false)  {a0 : Nat} {x1 : Int32} {rec2 : Int32 → ix_D2 → Option (Int32 × ix_D2)} {r : Int32} {d1 : ix_D2} (hrec2 : ∀ (x2 : Int32) (d : ix_D2), rec2 x2 d = some (r, d1) → ix_G p l e (ix_rm 0 0 0 0) s m args below meth c (MQ below (ix_Post K (some (.int r)) (ix_w z d1)) args s 0 0 (ix_A K)) K 3 0 0 2 [(0, .ref (K.2.2.1 + a0)), (1, .int x1), (2, .int x2)] [] (ix_w z d)) {x2 : Int32} {d : ix_D2} (h : b_X2_isAssumed_2 n z  a0 x1 rec2 x2 d = some (r, d1)) : ix_G p l e (ix_rm 0 0 0 0) s m args below meth c (MQ below (ix_Post K (some (.int r)) (ix_w z d1)) args s 0 0 (ix_A K)) K 3 0 0 2 [(0, .ref (K.2.2.1 + a0)), (1, .int x1), (2, .int x2)] [] (ix_w z d) := by
  unfold b_X2_isAssumed_2 at h
  refine ix_iload_n (i := 2) (j := 2) X (ix_tb_at tb_X2_isAssumed 2 rfl) rfl rfl (pc1 := 3) rfl ?_
  refine ix_aload_n (i := 0) (j := 0) X (ix_tb_at tb_X2_isAssumed 3 rfl) rfl rfl (pc1 := 4) rfl ?_
  obtain ⟨k_1, h⟩ := ix_ck_some h
  refine iz_getI X fl_RX2_44 k_1 (ix_tb_at tb_X2_isAssumed 4 rfl) (pc1 := 7) rfl ?_
  refine ix_icmp_ge (tgt := 28) X (ix_tb_at tb_X2_isAssumed 5 rfl) (by decide) (pc1 := 10) rfl (fun q_2 => ?_) (fun q_2 => ?_)
  · have h := ix_ift q_2 h
    refine ix_iconst (v := 0) X (ix_tb_at tb_X2_isAssumed 16 rfl) (by decide) (pc1 := 29) rfl ?_
    exact ix_zret X hr hlk (by decide) (ix_r2 (f := fun r => some (.int r)) (g := ix_w z) h) (ix_tb_at tb_X2_isAssumed 17 rfl)
  · have h := ix_iff q_2 h
    refine ix_aload_n (i := 0) (j := 0) X (ix_tb_at tb_X2_isAssumed 6 rfl) rfl rfl (pc1 := 11) rfl ?_
    obtain ⟨b_3, q_4, h⟩ := ix_bd1_ex h
    refine iz_getR X fl_RX2_28 k_1 q_4 (ix_tb_at tb_X2_isAssumed 7 rfl) (pc1 := 14) rfl ?_
    refine ix_iload_n (i := 2) (j := 2) X (ix_tb_at tb_X2_isAssumed 8 rfl) rfl rfl (pc1 := 15) rfl ?_
    obtain ⟨k_5, h⟩ := ix_ck_some h
    refine iz_iald X k_5 (ix_tb_at tb_X2_isAssumed 9 rfl) (pc1 := 16) rfl ?_
    refine ix_iload_n (i := 1) (j := 1) X (ix_tb_at tb_X2_isAssumed 10 rfl) rfl rfl (pc1 := 17) rfl ?_
    refine ix_icmp_ne (tgt := 22) X (ix_tb_at tb_X2_isAssumed 11 rfl) (by decide) (pc1 := 20) rfl (fun q_6 => ?_) (fun q_6 => ?_)
    · have h := ix_iff q_6 h
      obtain ⟨x2_7, e_8, h⟩ := ix_lt_ex h
      refine ix_iinc (i := 2) (j := 2) (v := x2_7) (L1 := [(2, .int x2_7), (0, .ref (K.2.2.1 + a0)), (1, .int x1)]) X (ix_tb_at tb_X2_isAssumed 14 rfl) rfl (by rw [oi_1]; exact e_8.symm) (Nat.le_of_ble_eq_true rfl) rfl (pc1 := 25) rfl ?_
      refine ix_goto (tgt := 2) X (ix_tb_at tb_X2_isAssumed 15 rfl) (by decide) ?_
      refine ix_sub (L1 := [(0, .ref (K.2.2.1 + a0)), (1, .int x1), (2, .int x2_7)]) [1, 2, 0] rfl ?_
      exact hrec2 x2_7 d h
    · have h := ix_ift q_6 h
      refine ix_iconst (v := 1) X (ix_tb_at tb_X2_isAssumed 12 rfl) (by decide) (pc1 := 21) rfl ?_
      exact ix_zret X hr hlk (by decide) (ix_r2 (f := fun r => some (.int r)) (g := ix_w z) h) (ix_tb_at tb_X2_isAssumed 13 rfl)
theorem t_X2_isAssumed_2 {l : Launch} {p : Program} {e : Env} {s : State} {m : MethodId} {args : Array Value} {below : List Frame} {meth : Method} {c : Code} {K : ix_Cx} (hKp : ix_Kp K) {n : Nat} {z : ix_Z} (X : ix_X p s m args c K cX2_isAssumed RX2 3) (hr : meth.sig.returnType = (some .boolean)) (hlk : meth.locks = false)  {a0 : Nat} {x1 : Int32} {r : Int32} {d1 : ix_D2}  {x2 : Int32} {d : ix_D2} (h : f_X2_isAssumed_2 n z  a0 x1 x2 d = some (r, d1)) : ix_G p l e (ix_rm 0 0 0 0) s m args below meth c (MQ below (ix_Post K (some (.int r)) (ix_w z d1)) args s 0 0 (ix_A K)) K 3 0 0 2 [(0, .ref (K.2.2.1 + a0)), (1, .int x1), (2, .int x2)] [] (ix_w z d) := by
  have key : ∀ (f : Nat) (x2 : Int32) (d : ix_D2), ix_fix (b_X2_isAssumed_2 n z  a0 x1) (fun _ _ => none) f x2 d = some (r, d1) → ix_G p l e (ix_rm 0 0 0 0) s m args below meth c (MQ below (ix_Post K (some (.int r)) (ix_w z d1)) args s 0 0 (ix_A K)) K 3 0 0 2 [(0, .ref (K.2.2.1 + a0)), (1, .int x1), (2, .int x2)] [] (ix_w z d) := by
    intro f
    induction f with
    | zero =>
      intro x2 d h
      have h : (none : Option (Int32 × ix_D2)) = some (r, d1) := h
      cases h
    | succ f ih =>
      intro x2 d h
      exact tb_X2_isAssumed_2 hKp X hr hlk (rec2 := ix_fix (b_X2_isAssumed_2 n z  a0 x1) (fun _ _ => none) f)  ih h
  exact key n x2 d h
set_option maxRecDepth 20000 in
theorem c_X2_isAssumed {l : Launch} {K : ix_Cx} (hKp : ix_Kp K) {n : Nat} {z : ix_Z} {a0 : Nat} {x1 : Int32} {d : ix_D2} {r : Int32} {d1 : ix_D2} (h : f_X2_isAssumed n z a0 x1 d = some (r, d1)) : ix_M l K yX2_isAssumed cX2_isAssumed 3 (some .boolean) 0 0 0 0 [.ref (K.2.2.1 + a0), .int x1] (ix_w z d) (some (.int r)) (ix_w z d1) := by
  refine ix_met mf_X2_isAssumed hKp (Nat.le_of_ble_eq_true rfl) ?_
  intro p e s m args below meth c hr hlk hnm X
  have X : ix_X p s m args c K cX2_isAssumed RX2 3 := X
  show ix_G p l e (ix_rm 0 0 0 0) s m args below meth c (MQ below (ix_Post K (some (.int r)) (ix_w z d1)) args s 0 0 (ix_A K)) K 3 0 0 0 [(0, .ref (K.2.2.1 + a0)), (1, .int x1)] [] (ix_w z d)
  unfold f_X2_isAssumed at h
  refine ix_iconst (v := 0) X (ix_tb_at tb_X2_isAssumed 0 rfl) (by decide) (pc1 := 1) rfl ?_
  refine ix_istore_n (i := 2) (L1 := [(2, .int 0), (0, .ref (K.2.2.1 + a0)), (1, .int x1)]) X (ix_tb_at tb_X2_isAssumed 1 rfl) rfl (Nat.le_of_ble_eq_true rfl) rfl (pc1 := 2) rfl ?_
  refine ix_sub (L1 := [(0, .ref (K.2.2.1 + a0)), (1, .int x1), (2, .int 0)]) [1, 2, 0] rfl ?_
  exact t_X2_isAssumed_2 hKp X hr hlk  h
def tab_X3_kindNumber : List (Nat × Instr × Nat) := [(0, .iconst 0, 1), (1, .ireturn, 1)]
theorem tb_X3_kindNumber : ix_tab cX3_kindNumber tab_X3_kindNumber := by
  unfold ix_tab
  decide +kernel
noncomputable def f_X3_kindNumber (n : Nat) (z : ix_Z) (a0 : Nat) (d : ix_D2) : Option (Int32 × ix_D2) :=
  some (0, d)
set_option maxRecDepth 20000 in
theorem c_X3_kindNumber {l : Launch} {K : ix_Cx} (hKp : ix_Kp K) {n : Nat} {z : ix_Z} {a0 : Nat} {d : ix_D2} {r : Int32} {d1 : ix_D2} (h : f_X3_kindNumber n z a0 d = some (r, d1)) : ix_M l K yX3_kindNumber cX3_kindNumber 1 (some .int) 0 0 0 0 [.ref (K.2.2.1 + a0)] (ix_w z d) (some (.int r)) (ix_w z d1) := by
  refine ix_met mf_X3_kindNumber hKp (Nat.le_of_ble_eq_true rfl) ?_
  intro p e s m args below meth c hr hlk hnm X
  have X : ix_X p s m args c K cX3_kindNumber RX3 1 := X
  show ix_G p l e (ix_rm 0 0 0 0) s m args below meth c (MQ below (ix_Post K (some (.int r)) (ix_w z d1)) args s 0 0 (ix_A K)) K 1 0 0 0 [(0, .ref (K.2.2.1 + a0))] [] (ix_w z d)
  unfold f_X3_kindNumber at h
  refine ix_iconst (v := 0) X (ix_tb_at tb_X3_kindNumber 0 rfl) (by decide) (pc1 := 1) rfl ?_
  exact ix_iret X hr hlk (ix_r2 (f := fun r => some (.int r)) (g := ix_w z) h) (ix_tb_at tb_X3_kindNumber 1 rfl)
def tab_X3_layInto : List (Nat × Instr × Nat) := [(0, .iconst 0, 1), (1, .istore_n 2, 1), (2, .iload_n 2, 1), (3, .aload_n 0, 1), (4, .getfield 7, 3), (7, .arraylength, 1), (8, .if_icmp .ge 19, 3), (11, .aload_n 1, 1), (12, .aload_n 0, 1), (13, .getfield 7, 3), (16, .iload_n 2, 1), (17, .iaload, 1), (18, .invokevirtual 13, 3), (21, .iinc 2 1, 3), (24, .goto (-22), 3), (27, .aload_n 1, 1), (28, .invokevirtual 19, 3), (31, .return_, 1)]
theorem tb_X3_layInto : ix_tab cX3_layInto tab_X3_layInto := by
  unfold ix_tab
  decide +kernel
noncomputable def b_X3_layInto_2 (n : Nat) (z : ix_Z)  (a0 : Nat) (a1 : Nat) (rec2 : Int32 → ix_D2 → Option (ix_D2)) (x2 : Int32) (d : ix_D2) : Option (ix_D2) :=
  ix_ck (ix_ok z [0, 3, 5, 9] a0) (ix_bd1 (z.1 a0 0) (fun b_2 => ix_ck (b_2 < z.2.2 ∧ 20 ≤ (z.2.1 b_2).1 ∧ (z.2.1 b_2).1 < 26) (ix_if (nI (z.2.1 b_2).2 ≤ x2) (ix_ck (ix_ok z [2] a1) (ix_bd1 (f_X2_layDraft n z a1 d) (fun d_6 => some d_6))) (ix_ck (ix_ix z 20 b_2 x2) (ix_ck (ix_ok z [2] a1) (ix_bd1 (f_X2_add n z a1 (d.1 b_2 (ix_n x2)) d) (fun d_10 => ix_lt (x2 + 1) (fun x2_13 => rec2 x2_13 d_10))))))))
noncomputable def f_X3_layInto_2 (n : Nat) (z : ix_Z)  (a0 : Nat) (a1 : Nat) (x2 : Int32) (d : ix_D2) : Option (ix_D2) := ix_fix (b_X3_layInto_2 n z  a0 a1) (fun _ _ => none) n x2 d
noncomputable def f_X3_layInto (n : Nat) (z : ix_Z) (a0 : Nat) (a1 : Nat) (d : ix_D2) : Option (ix_D2) :=
  f_X3_layInto_2 n z  a0 a1 0 d
set_option maxRecDepth 20000 in
theorem tb_X3_layInto_2 {l : Launch} {p : Program} {e : Env} {s : State} {m : MethodId} {args : Array Value} {below : List Frame} {meth : Method} {c : Code} {K : ix_Cx} (hKp : ix_Kp K) {n : Nat} {z : ix_Z} (X : ix_X p s m args c K cX3_layInto RX3 3) (hr : meth.sig.returnType = (none : Option Jvm.ClassFile.FieldType)) (hlk : meth.locks = false)  {a0 : Nat} {a1 : Nat} {rec2 : Int32 → ix_D2 → Option (ix_D2)} {d1 : ix_D2} (hrec2 : ∀ (x2 : Int32) (d : ix_D2), rec2 x2 d = some d1 → ix_G p l e (ix_rm 3 71 0 0) s m args below meth c (MQ below (ix_Post K none (ix_w z d1)) args s 0 0 (ix_A K)) K 3 0 0 2 [(0, .ref (K.2.2.1 + a0)), (1, .ref (K.2.2.1 + a1)), (2, .int x2)] [] (ix_w z d)) {x2 : Int32} {d : ix_D2} (h : b_X3_layInto_2 n z  a0 a1 rec2 x2 d = some d1) : ix_G p l e (ix_rm 3 71 0 0) s m args below meth c (MQ below (ix_Post K none (ix_w z d1)) args s 0 0 (ix_A K)) K 3 0 0 2 [(0, .ref (K.2.2.1 + a0)), (1, .ref (K.2.2.1 + a1)), (2, .int x2)] [] (ix_w z d) := by
  unfold b_X3_layInto_2 at h
  refine ix_iload_n (i := 2) (j := 2) X (ix_tb_at tb_X3_layInto 2 rfl) rfl rfl (pc1 := 3) rfl ?_
  refine ix_aload_n (i := 0) (j := 0) X (ix_tb_at tb_X3_layInto 3 rfl) rfl rfl (pc1 := 4) rfl ?_
  obtain ⟨k_1, h⟩ := ix_ck_some h
  obtain ⟨b_2, q_3, h⟩ := ix_bd1_ex h
  refine iz_getR X fl_RX3_7 k_1 q_3 (ix_tb_at tb_X3_layInto 4 rfl) (pc1 := 7) rfl ?_
  obtain ⟨k_4, h⟩ := ix_ck_some h
  refine iz_alen X k_4 (ix_tb_at tb_X3_layInto 5 rfl) (pc1 := 8) rfl ?_
  refine ix_icmp_ge (tgt := 27) X (ix_tb_at tb_X3_layInto 6 rfl) (by decide) (pc1 := 11) rfl (fun q_5 => ?_) (fun q_5 => ?_)
  · have h := ix_ift q_5 h
    refine ix_aload_n (i := 1) (j := 1) X (ix_tb_at tb_X3_layInto 15 rfl) rfl rfl (pc1 := 28) rfl ?_
    obtain ⟨k_8, h⟩ := ix_ck_some h
    obtain ⟨d_6, h_7, h⟩ := ix_bd1_ex h
    refine ix_callV (As := []) (rest := []) (ci := 2) (T := TX2) (nf := 12) X mf_X2_layDraft mi_X2_layDraft ms_X2_layDraft rfl (Nat.le_of_ble_eq_true rfl) ml_RX3_19 ⟨Nat.le_of_ble_eq_true rfl, Nat.le_of_ble_eq_true rfl⟩ ⟨Nat.le_of_ble_eq_true rfl, Nat.le_of_ble_eq_true rfl⟩ rfl (Nat.le_of_ble_eq_true rfl) (ix_tb_at tb_X3_layInto 16 rfl) ⟨k_8.1, List.mem_singleton.mp k_8.2⟩ (c_X2_layDraft hKp h_7) rfl (pc1 := 31) rfl ?_
    exact ix_vret X hr hlk (ix_r1 (g := ix_w z) h) (ix_tb_at tb_X3_layInto 17 rfl)
  · have h := ix_iff q_5 h
    refine ix_aload_n (i := 1) (j := 1) X (ix_tb_at tb_X3_layInto 7 rfl) rfl rfl (pc1 := 12) rfl ?_
    refine ix_aload_n (i := 0) (j := 0) X (ix_tb_at tb_X3_layInto 8 rfl) rfl rfl (pc1 := 13) rfl ?_
    refine iz_getR X fl_RX3_7 k_1 q_3 (ix_tb_at tb_X3_layInto 9 rfl) (pc1 := 16) rfl ?_
    refine ix_iload_n (i := 2) (j := 2) X (ix_tb_at tb_X3_layInto 10 rfl) rfl rfl (pc1 := 17) rfl ?_
    obtain ⟨k_9, h⟩ := ix_ck_some h
    refine iz_iald X k_9 (ix_tb_at tb_X3_layInto 11 rfl) (pc1 := 18) rfl ?_
    obtain ⟨k_12, h⟩ := ix_ck_some h
    obtain ⟨d_10, h_11, h⟩ := ix_bd1_ex h
    refine ix_callV (As := [.int (d.1 b_2 (ix_n x2))]) (rest := []) (ci := 2) (T := TX2) (nf := 12) X mf_X2_add mi_X2_add ms_X2_add rfl (Nat.le_of_ble_eq_true rfl) ml_RX3_13 ⟨Nat.le_of_ble_eq_true rfl, Nat.le_of_ble_eq_true rfl⟩ ⟨Nat.le_of_ble_eq_true rfl, Nat.le_of_ble_eq_true rfl⟩ rfl (Nat.le_of_ble_eq_true rfl) (ix_tb_at tb_X3_layInto 12 rfl) ⟨k_12.1, List.mem_singleton.mp k_12.2⟩ (c_X2_add hKp h_11) rfl (pc1 := 21) rfl ?_
    obtain ⟨x2_13, e_14, h⟩ := ix_lt_ex h
    refine ix_iinc (i := 2) (j := 2) (v := x2_13) (L1 := [(2, .int x2_13), (0, .ref (K.2.2.1 + a0)), (1, .ref (K.2.2.1 + a1))]) X (ix_tb_at tb_X3_layInto 13 rfl) rfl (by rw [oi_1]; exact e_14.symm) (Nat.le_of_ble_eq_true rfl) rfl (pc1 := 24) rfl ?_
    refine ix_goto (tgt := 2) X (ix_tb_at tb_X3_layInto 14 rfl) (by decide) ?_
    refine ix_sub (L1 := [(0, .ref (K.2.2.1 + a0)), (1, .ref (K.2.2.1 + a1)), (2, .int x2_13)]) [1, 2, 0] rfl ?_
    exact hrec2 x2_13 d_10 h
theorem t_X3_layInto_2 {l : Launch} {p : Program} {e : Env} {s : State} {m : MethodId} {args : Array Value} {below : List Frame} {meth : Method} {c : Code} {K : ix_Cx} (hKp : ix_Kp K) {n : Nat} {z : ix_Z} (X : ix_X p s m args c K cX3_layInto RX3 3) (hr : meth.sig.returnType = (none : Option Jvm.ClassFile.FieldType)) (hlk : meth.locks = false)  {a0 : Nat} {a1 : Nat} {d1 : ix_D2}  {x2 : Int32} {d : ix_D2} (h : f_X3_layInto_2 n z  a0 a1 x2 d = some d1) : ix_G p l e (ix_rm 3 71 0 0) s m args below meth c (MQ below (ix_Post K none (ix_w z d1)) args s 0 0 (ix_A K)) K 3 0 0 2 [(0, .ref (K.2.2.1 + a0)), (1, .ref (K.2.2.1 + a1)), (2, .int x2)] [] (ix_w z d) := by
  have key : ∀ (f : Nat) (x2 : Int32) (d : ix_D2), ix_fix (b_X3_layInto_2 n z  a0 a1) (fun _ _ => none) f x2 d = some d1 → ix_G p l e (ix_rm 3 71 0 0) s m args below meth c (MQ below (ix_Post K none (ix_w z d1)) args s 0 0 (ix_A K)) K 3 0 0 2 [(0, .ref (K.2.2.1 + a0)), (1, .ref (K.2.2.1 + a1)), (2, .int x2)] [] (ix_w z d) := by
    intro f
    induction f with
    | zero =>
      intro x2 d h
      have h : (none : Option (ix_D2)) = some d1 := h
      cases h
    | succ f ih =>
      intro x2 d h
      exact tb_X3_layInto_2 hKp X hr hlk (rec2 := ix_fix (b_X3_layInto_2 n z  a0 a1) (fun _ _ => none) f)  ih h
  exact key n x2 d h
set_option maxRecDepth 20000 in
theorem c_X3_layInto {l : Launch} {K : ix_Cx} (hKp : ix_Kp K) {n : Nat} {z : ix_Z} {a0 : Nat} {a1 : Nat} {d : ix_D2} {d1 : ix_D2} (h : f_X3_layInto n z a0 a1 d = some d1) : ix_M l K yX3_layInto cX3_layInto 3 (none : Option Jvm.ClassFile.FieldType) 3 71 0 0 [.ref (K.2.2.1 + a0), .ref (K.2.2.1 + a1)] (ix_w z d) none (ix_w z d1) := by
  refine ix_met mf_X3_layInto hKp (Nat.le_of_ble_eq_true rfl) ?_
  intro p e s m args below meth c hr hlk hnm X
  have X : ix_X p s m args c K cX3_layInto RX3 3 := X
  show ix_G p l e (ix_rm 3 71 0 0) s m args below meth c (MQ below (ix_Post K none (ix_w z d1)) args s 0 0 (ix_A K)) K 3 0 0 0 [(0, .ref (K.2.2.1 + a0)), (1, .ref (K.2.2.1 + a1))] [] (ix_w z d)
  unfold f_X3_layInto at h
  refine ix_iconst (v := 0) X (ix_tb_at tb_X3_layInto 0 rfl) (by decide) (pc1 := 1) rfl ?_
  refine ix_istore_n (i := 2) (L1 := [(2, .int 0), (0, .ref (K.2.2.1 + a0)), (1, .ref (K.2.2.1 + a1))]) X (ix_tb_at tb_X3_layInto 1 rfl) rfl (Nat.le_of_ble_eq_true rfl) rfl (pc1 := 2) rfl ?_
  refine ix_sub (L1 := [(0, .ref (K.2.2.1 + a0)), (1, .ref (K.2.2.1 + a1)), (2, .int 0)]) [1, 2, 0] rfl ?_
  exact t_X3_layInto_2 hKp X hr hlk  h
def tab_X3_holds : List (Nat × Instr × Nat) := [(0, .aload_n 2, 1), (1, .iconst 0, 1), (2, .invokevirtual 23, 3), (5, .aload_n 0, 1), (6, .aload_n 1, 1), (7, .invokevirtual 28, 3), (10, .ifCond .le 7, 3), (13, .iconst 1, 1), (14, .goto 4, 3), (17, .iconst 0, 1), (18, .ireturn, 1)]
theorem tb_X3_holds : ix_tab cX3_holds tab_X3_holds := by
  unfold ix_tab
  decide +kernel
noncomputable def v_RX3_28 (n : Nat) (z : ix_Z) (b : Nat) (p0 : Nat) (d : ix_D2) : Option (Int32 × ix_D2) := ix_if ((z.2.1 b).1 = 0) (f_X8_trueOnes n z b p0 d) (ix_if ((z.2.1 b).1 = 3) (f_X8_trueOnes n z b p0 d) (ix_if ((z.2.1 b).1 = 5) (f_X8_trueOnes n z b p0 d) (f_X8_trueOnes n z b p0 d)))
theorem tv_RX3_28 {l : Launch} {p : Program} {e : Env} {s : State} {m : MethodId} {args : Array Value} {below : List Frame} {meth : Method} {c : Code} {K : ix_Cx} {R : Room} {Q : State → Prop} {nL k n pc : Nat} {cc : ByteArray} {L : List (Nat × Value)} {rest : List Value} (hKp : ix_Kp K) (X : ix_X p s m args c K cc RX3 nL) {N : Nat} {z : ix_Z} {b : Nat} {p0 : Nat} {d : ix_D2} {r : Int32} {d1 : ix_D2} (hk : ix_ok z [0, 3, 5, 9] b) (hcall : v_RX3_28 N z b p0 d = some (r, d1)) (hfr : 3 ≤ R.frames) (hlo : 65 ≤ R.locals) (hcs : k + 0 ≤ R.cells ∧ n + 0 ≤ R.slots) (hrm : (rest.map fun v => v.category).sum ≤ 8) (hd : decode cc pc = .ok (.invokevirtual 28, 3)) {pc1 : Nat} (hp : pc + 3 = pc1) (kk : ix_G p l e R s m args below meth c Q K nL k n pc1 L (.int r :: rest) (ix_w z d1)) : ix_G p l e R s m args below meth c Q K nL k n pc L (.ref (K.2.2.1 + p0) :: .ref (K.2.2.1 + b) :: rest) (ix_w z d) := by
  unfold v_RX3_28 at hcall
  have h2 := hk.2
  simp only [List.mem_cons, List.not_mem_nil, or_false] at h2
  rcases h2 with h2 | h2 | h2 | h2
  · have hcall := ix_ift h2 hcall
    exact ix_callU (As := [.ref (K.2.2.1 + p0)]) (rest := rest) (x := (⟨"ClauseCourt$Clause", "trueOnes", "(LClauseCourt$Board;)I"⟩ : MethodName)) (owner := "ClauseCourt$Rule") (C := RX0) (T := TX0) (nf := 4) (ci := 0) X mf_X8_trueOnes mi_X8_trueOnes (ix_wm (i := 934) (by decide +kernel)) (ix_wm (i := 933) (by decide +kernel)) (Or.inl (ix_wm (i := 915) (by decide +kernel))) ⟨by decide, by decide⟩ (by decide +kernel) rfl (by decide) ml_RX3_28 ⟨Nat.le_trans (Nat.le_of_ble_eq_true rfl) hfr, Nat.le_trans (Nat.le_of_ble_eq_true rfl) hlo⟩ hcs rfl hrm hd ⟨hk.1, h2⟩ (c_X8_trueOnes hKp hcall) rfl hp kk
  · have hcall := ix_iff (by rw [h2]; decide) hcall
    have hcall := ix_ift h2 hcall
    exact ix_callU (As := [.ref (K.2.2.1 + p0)]) (rest := rest) (x := (⟨"ClauseCourt$Clause", "trueOnes", "(LClauseCourt$Board;)I"⟩ : MethodName)) (owner := "ClauseCourt$Rule") (C := RX3) (T := TX3) (nf := 3) (ci := 3) X mf_X8_trueOnes mi_X8_trueOnes (ix_wm (i := 935) (by decide +kernel)) (ix_wm (i := 933) (by decide +kernel)) (Or.inl (ix_wm (i := 915) (by decide +kernel))) ⟨by decide, by decide⟩ (by decide +kernel) rfl (by decide) ml_RX3_28 ⟨Nat.le_trans (Nat.le_of_ble_eq_true rfl) hfr, Nat.le_trans (Nat.le_of_ble_eq_true rfl) hlo⟩ hcs rfl hrm hd ⟨hk.1, h2⟩ (c_X8_trueOnes hKp hcall) rfl hp kk
  · have hcall := ix_iff (by rw [h2]; decide) hcall
    have hcall := ix_iff (by rw [h2]; decide) hcall
    have hcall := ix_ift h2 hcall
    exact ix_callU (As := [.ref (K.2.2.1 + p0)]) (rest := rest) (x := (⟨"ClauseCourt$Clause", "trueOnes", "(LClauseCourt$Board;)I"⟩ : MethodName)) (owner := "ClauseCourt$Rule") (C := RX5) (T := TX5) (nf := 4) (ci := 5) X mf_X8_trueOnes mi_X8_trueOnes (ix_wm (i := 936) (by decide +kernel)) (ix_wm (i := 933) (by decide +kernel)) (Or.inl (ix_wm (i := 915) (by decide +kernel))) ⟨by decide, by decide⟩ (by decide +kernel) rfl (by decide) ml_RX3_28 ⟨Nat.le_trans (Nat.le_of_ble_eq_true rfl) hfr, Nat.le_trans (Nat.le_of_ble_eq_true rfl) hlo⟩ hcs rfl hrm hd ⟨hk.1, h2⟩ (c_X8_trueOnes hKp hcall) rfl hp kk
  · have hcall := ix_iff (by rw [h2]; decide) hcall
    have hcall := ix_iff (by rw [h2]; decide) hcall
    have hcall := ix_iff (by rw [h2]; decide) hcall
    exact ix_callU (As := [.ref (K.2.2.1 + p0)]) (rest := rest) (x := (⟨"ClauseCourt$Clause", "trueOnes", "(LClauseCourt$Board;)I"⟩ : MethodName)) (owner := "ClauseCourt$Rule") (C := RX10) (T := TX10) (nf := 6) (ci := 9) X mf_X8_trueOnes mi_X8_trueOnes (ix_wm (i := 937) (by decide +kernel)) (ix_wm (i := 933) (by decide +kernel)) (Or.inl (ix_wm (i := 915) (by decide +kernel))) ⟨by decide, by decide⟩ (by decide +kernel) rfl (by decide) ml_RX3_28 ⟨Nat.le_trans (Nat.le_of_ble_eq_true rfl) hfr, Nat.le_trans (Nat.le_of_ble_eq_true rfl) hlo⟩ hcs rfl hrm hd ⟨hk.1, h2⟩ (c_X8_trueOnes hKp hcall) rfl hp kk
noncomputable def f_X3_holds (n : Nat) (z : ix_Z) (a0 : Nat) (a1 : Nat) (a2 : Nat) (d : ix_D2) : Option (Int32 × ix_D2) :=
  ix_ck (ix_ok z [4] a2) (ix_bd1 (f_X4_note n z a2 0 d) (fun d_1 => ix_ck (ix_ok z [0, 3, 5, 9] a0) (ix_bd2 (v_RX3_28 n z a0 a1 d_1) (fun r_7 d_5 => ix_if (r_7 ≤ 0) (some (0, d_5)) (some (1, d_5))))))
set_option maxRecDepth 20000 in
theorem c_X3_holds {l : Launch} {K : ix_Cx} (hKp : ix_Kp K) {n : Nat} {z : ix_Z} {a0 : Nat} {a1 : Nat} {a2 : Nat} {d : ix_D2} {r : Int32} {d1 : ix_D2} (h : f_X3_holds n z a0 a1 a2 d = some (r, d1)) : ix_M l K yX3_holds cX3_holds 3 (some .boolean) 3 65 0 0 [.ref (K.2.2.1 + a0), .ref (K.2.2.1 + a1), .ref (K.2.2.1 + a2)] (ix_w z d) (some (.int r)) (ix_w z d1) := by
  refine ix_met mf_X3_holds hKp (Nat.le_of_ble_eq_true rfl) ?_
  intro p e s m args below meth c hr hlk hnm X
  have X : ix_X p s m args c K cX3_holds RX3 3 := X
  show ix_G p l e (ix_rm 3 65 0 0) s m args below meth c (MQ below (ix_Post K (some (.int r)) (ix_w z d1)) args s 0 0 (ix_A K)) K 3 0 0 0 [(0, .ref (K.2.2.1 + a0)), (1, .ref (K.2.2.1 + a1)), (2, .ref (K.2.2.1 + a2))] [] (ix_w z d)
  unfold f_X3_holds at h
  refine ix_aload_n (i := 2) (j := 2) X (ix_tb_at tb_X3_holds 0 rfl) rfl rfl (pc1 := 1) rfl ?_
  refine ix_iconst (v := 0) X (ix_tb_at tb_X3_holds 1 rfl) (by decide) (pc1 := 2) rfl ?_
  obtain ⟨k_3, h⟩ := ix_ck_some h
  obtain ⟨d_1, h_2, h⟩ := ix_bd1_ex h
  refine ix_callV (As := [.int 0]) (rest := []) (ci := 4) (T := TX4) (nf := 17) X mf_X4_note mi_X4_note ms_X4_note rfl (Nat.le_of_ble_eq_true rfl) ml_RX3_23 ⟨Nat.le_of_ble_eq_true rfl, Nat.le_of_ble_eq_true rfl⟩ ⟨Nat.le_of_ble_eq_true rfl, Nat.le_of_ble_eq_true rfl⟩ rfl (Nat.le_of_ble_eq_true rfl) (ix_tb_at tb_X3_holds 2 rfl) ⟨k_3.1, List.mem_singleton.mp k_3.2⟩ (c_X4_note hKp h_2) rfl (pc1 := 5) rfl ?_
  refine ix_aload_n (i := 0) (j := 0) X (ix_tb_at tb_X3_holds 3 rfl) rfl rfl (pc1 := 6) rfl ?_
  refine ix_aload_n (i := 1) (j := 1) X (ix_tb_at tb_X3_holds 4 rfl) rfl rfl (pc1 := 7) rfl ?_
  obtain ⟨k_4, h⟩ := ix_ck_some h
  obtain ⟨r_7, d_5, h_6, h⟩ := ix_bd2_ex h
  refine tv_RX3_28 (rest := []) hKp X k_4 h_6 (Nat.le_of_ble_eq_true rfl) (Nat.le_of_ble_eq_true rfl) ⟨Nat.le_of_ble_eq_true rfl, Nat.le_of_ble_eq_true rfl⟩ (Nat.le_of_ble_eq_true rfl) (ix_tb_at tb_X3_holds 5 rfl) (pc1 := 10) rfl ?_
  refine ix_if_le (tgt := 17) X (ix_tb_at tb_X3_holds 6 rfl) (by decide) (pc1 := 13) rfl (fun q_8 => ?_) (fun q_8 => ?_)
  · have h := ix_ift q_8 h
    refine ix_iconst (v := 0) X (ix_tb_at tb_X3_holds 9 rfl) (by decide) (pc1 := 18) rfl ?_
    exact ix_zret X hr hlk (by decide) (ix_r2 (f := fun r => some (.int r)) (g := ix_w z) h) (ix_tb_at tb_X3_holds 10 rfl)
  · have h := ix_iff q_8 h
    refine ix_iconst (v := 1) X (ix_tb_at tb_X3_holds 7 rfl) (by decide) (pc1 := 14) rfl ?_
    refine ix_goto (tgt := 18) X (ix_tb_at tb_X3_holds 8 rfl) (by decide) ?_
    exact ix_zret X hr hlk (by decide) (ix_r2 (f := fun r => some (.int r)) (g := ix_w z) h) (ix_tb_at tb_X3_holds 10 rfl)
def tab_X3_write : List (Nat × Instr × Nat) := [(0, .aload_n 1, 1), (1, .iconst 4, 1), (2, .invokevirtual 23, 3), (5, .aload_n 1, 1), (6, .ldc 36, 2), (8, .invokevirtual 38, 3), (11, .aload_n 1, 1), (12, .aload_n 0, 1), (13, .getfield 7, 3), (16, .invokevirtual 42, 3), (19, .return_, 1)]
theorem tb_X3_write : ix_tab cX3_write tab_X3_write := by
  unfold ix_tab
  decide +kernel
noncomputable def f_X3_write (n : Nat) (z : ix_Z) (a0 : Nat) (a1 : Nat) (d : ix_D2) : Option (ix_D2) :=
  ix_ck (ix_ok z [4] a1) (ix_bd1 (f_X4_note n z a1 4 d) (fun d_1 => ix_bd1 (f_X4_writeText n z a1 2 d_1) (fun d_4 => ix_ck (ix_ok z [0, 3, 5, 9] a0) (ix_bd1 (z.1 a0 0) (fun b_7 => ix_bd1 (f_X4_writeList n z a1 b_7 d_4) (fun d_9 => some d_9))))))
set_option maxRecDepth 20000 in
theorem c_X3_write {l : Launch} {K : ix_Cx} (hKp : ix_Kp K) (hT : ix_Tc K) {n : Nat} {z : ix_Z} {a0 : Nat} {a1 : Nat} {d : ix_D2} {d1 : ix_D2} (h : f_X3_write n z a0 a1 d = some d1) : ix_M l K yX3_write cX3_write 2 (none : Option Jvm.ClassFile.FieldType) 5 107 0 0 [.ref (K.2.2.1 + a0), .ref (K.2.2.1 + a1)] (ix_w z d) none (ix_w z d1) := by
  refine ix_met mf_X3_write hKp (Nat.le_of_ble_eq_true rfl) ?_
  intro p e s m args below meth c hr hlk hnm X
  have X : ix_X p s m args c K cX3_write RX3 2 := X
  show ix_G p l e (ix_rm 5 107 0 0) s m args below meth c (MQ below (ix_Post K none (ix_w z d1)) args s 0 0 (ix_A K)) K 2 0 0 0 [(0, .ref (K.2.2.1 + a0)), (1, .ref (K.2.2.1 + a1))] [] (ix_w z d)
  unfold f_X3_write at h
  refine ix_aload_n (i := 1) (j := 1) X (ix_tb_at tb_X3_write 0 rfl) rfl rfl (pc1 := 1) rfl ?_
  refine ix_iconst (v := 4) X (ix_tb_at tb_X3_write 1 rfl) (by decide) (pc1 := 2) rfl ?_
  obtain ⟨k_3, h⟩ := ix_ck_some h
  obtain ⟨d_1, h_2, h⟩ := ix_bd1_ex h
  refine ix_callV (As := [.int 4]) (rest := []) (ci := 4) (T := TX4) (nf := 17) X mf_X4_note mi_X4_note ms_X4_note rfl (Nat.le_of_ble_eq_true rfl) ml_RX3_23 ⟨Nat.le_of_ble_eq_true rfl, Nat.le_of_ble_eq_true rfl⟩ ⟨Nat.le_of_ble_eq_true rfl, Nat.le_of_ble_eq_true rfl⟩ rfl (Nat.le_of_ble_eq_true rfl) (ix_tb_at tb_X3_write 2 rfl) ⟨k_3.1, List.mem_singleton.mp k_3.2⟩ (c_X4_note hKp h_2) rfl (pc1 := 5) rfl ?_
  refine ix_aload_n (i := 1) (j := 1) X (ix_tb_at tb_X3_write 3 rfl) rfl rfl (pc1 := 6) rfl ?_
  refine ix_ldcS (j := 2) (tx := "some") X hT rfl (ix_tb_at tb_X3_write 4 rfl) (pc1 := 8) rfl ?_
  obtain ⟨d_4, h_5, h⟩ := ix_bd1_ex h
  refine ix_callV (As := [.ref (K.2.1 (100 + 2))]) (rest := []) (ci := 4) (T := TX4) (nf := 17) X mf_X4_writeText mi_X4_writeText ms_X4_writeText rfl (Nat.le_of_ble_eq_true rfl) ml_RX3_38 ⟨Nat.le_of_ble_eq_true rfl, Nat.le_of_ble_eq_true rfl⟩ ⟨Nat.le_of_ble_eq_true rfl, Nat.le_of_ble_eq_true rfl⟩ rfl (Nat.le_of_ble_eq_true rfl) (ix_tb_at tb_X3_write 5 rfl) ⟨k_3.1, List.mem_singleton.mp k_3.2⟩ (c_X4_writeText hKp hT h_5) rfl (pc1 := 11) rfl ?_
  refine ix_aload_n (i := 1) (j := 1) X (ix_tb_at tb_X3_write 6 rfl) rfl rfl (pc1 := 12) rfl ?_
  refine ix_aload_n (i := 0) (j := 0) X (ix_tb_at tb_X3_write 7 rfl) rfl rfl (pc1 := 13) rfl ?_
  obtain ⟨k_6, h⟩ := ix_ck_some h
  obtain ⟨b_7, q_8, h⟩ := ix_bd1_ex h
  refine iz_getR X fl_RX3_7 k_6 q_8 (ix_tb_at tb_X3_write 8 rfl) (pc1 := 16) rfl ?_
  obtain ⟨d_9, h_10, h⟩ := ix_bd1_ex h
  refine ix_callV (As := [.ref (K.2.2.1 + b_7)]) (rest := []) (ci := 4) (T := TX4) (nf := 17) X mf_X4_writeList mi_X4_writeList ms_X4_writeList rfl (Nat.le_of_ble_eq_true rfl) ml_RX3_42 ⟨Nat.le_of_ble_eq_true rfl, Nat.le_of_ble_eq_true rfl⟩ ⟨Nat.le_of_ble_eq_true rfl, Nat.le_of_ble_eq_true rfl⟩ rfl (Nat.le_of_ble_eq_true rfl) (ix_tb_at tb_X3_write 9 rfl) ⟨k_3.1, List.mem_singleton.mp k_3.2⟩ (c_X4_writeList hKp h_10) rfl (pc1 := 19) rfl ?_
  exact ix_vret X hr hlk (ix_r1 (g := ix_w z) h) (ix_tb_at tb_X3_write 10 rfl)
def tab_X4_takesBytes : List (Nat × Instr × Nat) := [(0, .iload_n 1, 1), (1, .ifCond .lt 18, 3), (4, .iload_n 1, 1), (5, .bipush 60, 2), (7, .aload_n 0, 1), (8, .getfield 34, 3), (11, .isub, 1), (12, .if_icmp .gt 7, 3), (15, .iconst 1, 1), (16, .goto 4, 3), (19, .iconst 0, 1), (20, .ireturn, 1)]
theorem tb_X4_takesBytes : ix_tab cX4_takesBytes tab_X4_takesBytes := by
  unfold ix_tab
  decide +kernel
noncomputable def f_X4_takesBytes (n : Nat) (z : ix_Z) (a0 : Nat) (x1 : Int32) (d : ix_D2) : Option (Int32 × ix_D2) :=
  ix_if (x1 < 0) (some (0, d)) (ix_ck (ix_ok z [4] a0) (ix_if (60 - (d.1 a0 1) < x1) (some (0, d)) (some (1, d))))
set_option maxRecDepth 20000 in
theorem c_X4_takesBytes {l : Launch} {K : ix_Cx} (hKp : ix_Kp K) {n : Nat} {z : ix_Z} {a0 : Nat} {x1 : Int32} {d : ix_D2} {r : Int32} {d1 : ix_D2} (h : f_X4_takesBytes n z a0 x1 d = some (r, d1)) : ix_M l K yX4_takesBytes cX4_takesBytes 2 (some .boolean) 0 0 0 0 [.ref (K.2.2.1 + a0), .int x1] (ix_w z d) (some (.int r)) (ix_w z d1) := by
  refine ix_met mf_X4_takesBytes hKp (Nat.le_of_ble_eq_true rfl) ?_
  intro p e s m args below meth c hr hlk hnm X
  have X : ix_X p s m args c K cX4_takesBytes RX4 2 := X
  show ix_G p l e (ix_rm 0 0 0 0) s m args below meth c (MQ below (ix_Post K (some (.int r)) (ix_w z d1)) args s 0 0 (ix_A K)) K 2 0 0 0 [(0, .ref (K.2.2.1 + a0)), (1, .int x1)] [] (ix_w z d)
  unfold f_X4_takesBytes at h
  refine ix_iload_n (i := 1) (j := 1) X (ix_tb_at tb_X4_takesBytes 0 rfl) rfl rfl (pc1 := 1) rfl ?_
  refine ix_if_lt (tgt := 19) X (ix_tb_at tb_X4_takesBytes 1 rfl) (by decide) (pc1 := 4) rfl (fun q_1 => ?_) (fun q_1 => ?_)
  · have h := ix_ift q_1 h
    refine ix_iconst (v := 0) X (ix_tb_at tb_X4_takesBytes 10 rfl) (by decide) (pc1 := 20) rfl ?_
    exact ix_zret X hr hlk (by decide) (ix_r2 (f := fun r => some (.int r)) (g := ix_w z) h) (ix_tb_at tb_X4_takesBytes 11 rfl)
  · have h := ix_iff q_1 h
    refine ix_iload_n (i := 1) (j := 1) X (ix_tb_at tb_X4_takesBytes 2 rfl) rfl rfl (pc1 := 5) rfl ?_
    refine ix_bipush (v := 60) X (ix_tb_at tb_X4_takesBytes 3 rfl) (by decide) (pc1 := 7) rfl ?_
    refine ix_aload_n (i := 0) (j := 0) X (ix_tb_at tb_X4_takesBytes 4 rfl) rfl rfl (pc1 := 8) rfl ?_
    obtain ⟨k_2, h⟩ := ix_ck_some h
    refine iz_getI X fl_RX4_34 k_2 (ix_tb_at tb_X4_takesBytes 5 rfl) (pc1 := 11) rfl ?_
    refine ix_isub X (ix_tb_at tb_X4_takesBytes 6 rfl) (pc1 := 12) rfl ?_
    refine ix_icmp_gt (tgt := 19) X (ix_tb_at tb_X4_takesBytes 7 rfl) (by decide) (pc1 := 15) rfl (fun q_3 => ?_) (fun q_3 => ?_)
    · have h := ix_ift q_3 h
      refine ix_iconst (v := 0) X (ix_tb_at tb_X4_takesBytes 10 rfl) (by decide) (pc1 := 20) rfl ?_
      exact ix_zret X hr hlk (by decide) (ix_r2 (f := fun r => some (.int r)) (g := ix_w z) h) (ix_tb_at tb_X4_takesBytes 11 rfl)
    · have h := ix_iff q_3 h
      refine ix_iconst (v := 1) X (ix_tb_at tb_X4_takesBytes 8 rfl) (by decide) (pc1 := 16) rfl ?_
      refine ix_goto (tgt := 20) X (ix_tb_at tb_X4_takesBytes 9 rfl) (by decide) ?_
      exact ix_zret X hr hlk (by decide) (ix_r2 (f := fun r => some (.int r)) (g := ix_w z) h) (ix_tb_at tb_X4_takesBytes 11 rfl)
def tab_X4_takeBytes : List (Nat × Instr × Nat) := [(0, .iload_n 3, 1), (1, .iconst 1, 1), (2, .isub, 1), (3, .istore 4, 2), (5, .iload 4, 2), (7, .ifCond .lt 46, 3), (10, .aload_n 0, 1), (11, .getfield 34, 3), (14, .bipush 60, 2), (16, .if_icmp .ge 37, 3), (19, .aload_n 0, 1), (20, .getfield 11, 3), (23, .aload_n 0, 1), (24, .getfield 34, 3), (27, .lload_n 1, 1), (28, .bipush 8, 2), (30, .iload 4, 2), (32, .imul, 1), (33, .lshr, 1), (34, .l2i, 1), (35, .i2b, 1), (36, .bastore, 1), (37, .aload_n 0, 1), (38, .dup, 1), (39, .getfield 34, 3), (42, .iconst 1, 1), (43, .iadd, 1), (44, .putfield 34, 3), (47, .iinc 4 (-1), 3), (50, .goto (-45), 3), (53, .aload_n 0, 1), (54, .getfield 34, 3), (57, .ireturn, 1)]
theorem tb_X4_takeBytes : ix_tab cX4_takeBytes tab_X4_takeBytes := by
  unfold ix_tab
  decide +kernel
noncomputable def f_X4_takeBytes_53 (n : Nat) (z : ix_Z)  (a0 : Nat) (d : ix_D2) : Option (Int32 × ix_D2) :=
  ix_ck (ix_ok z [4] a0) (some (d.1 a0 1, d))
noncomputable def b_X4_takeBytes_5 (n : Nat) (z : ix_Z)  (a0 : Nat) (y1 : Int64) (rec5 : Int32 → ix_D2 → Option (Int32 × ix_D2)) (x4 : Int32) (d : ix_D2) : Option (Int32 × ix_D2) :=
  ix_if (x4 < 0) (f_X4_takeBytes_53 n z  a0 d) (ix_ck (ix_ok z [4] a0) (ix_if (60 ≤ d.1 a0 1) (f_X4_takeBytes_53 n z  a0 d) (ix_bd1 (z.1 a0 0) (fun b_7 => ix_ck (ix_ix z 21 b_7 (d.1 a0 1)) (ix_lt (ix_di d b_7 (ix_n (d.1 a0 1)) (vp_nar .byte (((y1 >>> ((8 * x4).toInt64 &&& 63)).toInt32).toInt8.toInt32))) (fun d_10 => ix_lt (ix_di d_10 a0 1 ((d_10.1 a0 1) + 1)) (fun d_12 => ix_lt (x4 + (-1)) (fun x4_14 => rec5 x4_14 d_12))))))))
noncomputable def f_X4_takeBytes_5 (n : Nat) (z : ix_Z)  (a0 : Nat) (y1 : Int64) (x4 : Int32) (d : ix_D2) : Option (Int32 × ix_D2) := ix_fix (b_X4_takeBytes_5 n z  a0 y1) (fun _ _ => none) n x4 d
noncomputable def f_X4_takeBytes (n : Nat) (z : ix_Z) (a0 : Nat) (y1 : Int64) (x3 : Int32) (d : ix_D2) : Option (Int32 × ix_D2) :=
  ix_lt (x3 - 1) (fun x4_1 => f_X4_takeBytes_5 n z  a0 y1 x4_1 d)
set_option maxRecDepth 20000 in
theorem t_X4_takeBytes_53 {l : Launch} {p : Program} {e : Env} {s : State} {m : MethodId} {args : Array Value} {below : List Frame} {meth : Method} {c : Code} {K : ix_Cx} (hKp : ix_Kp K) {n : Nat} {z : ix_Z} (X : ix_X p s m args c K cX4_takeBytes RX4 5) (hr : meth.sig.returnType = (some .int)) (hlk : meth.locks = false)  {a0 : Nat} {r : Int32} {d1 : ix_D2}  {d : ix_D2} (h : f_X4_takeBytes_53 n z  a0 d = some (r, d1)) : ix_G p l e (ix_rm 0 0 0 0) s m args below meth c (MQ below (ix_Post K (some (.int r)) (ix_w z d1)) args s 0 0 (ix_A K)) K 5 0 0 53 [(0, .ref (K.2.2.1 + a0))] [] (ix_w z d) := by
  unfold f_X4_takeBytes_53 at h
  refine ix_aload_n (i := 0) (j := 0) X (ix_tb_at tb_X4_takeBytes 30 rfl) rfl rfl (pc1 := 54) rfl ?_
  obtain ⟨k_4, h⟩ := ix_ck_some h
  refine iz_getI X fl_RX4_34 k_4 (ix_tb_at tb_X4_takeBytes 31 rfl) (pc1 := 57) rfl ?_
  exact ix_iret X hr hlk (ix_r2 (f := fun r => some (.int r)) (g := ix_w z) h) (ix_tb_at tb_X4_takeBytes 32 rfl)
set_option maxRecDepth 20000 in
theorem tb_X4_takeBytes_5 {l : Launch} {p : Program} {e : Env} {s : State} {m : MethodId} {args : Array Value} {below : List Frame} {meth : Method} {c : Code} {K : ix_Cx} (hKp : ix_Kp K) {n : Nat} {z : ix_Z} (X : ix_X p s m args c K cX4_takeBytes RX4 5) (hr : meth.sig.returnType = (some .int)) (hlk : meth.locks = false)  {a0 : Nat} {y1 : Int64} {rec5 : Int32 → ix_D2 → Option (Int32 × ix_D2)} {r : Int32} {d1 : ix_D2} (hrec5 : ∀ (x4 : Int32) (d : ix_D2), rec5 x4 d = some (r, d1) → ix_G p l e (ix_rm 0 0 0 0) s m args below meth c (MQ below (ix_Post K (some (.int r)) (ix_w z d1)) args s 0 0 (ix_A K)) K 5 0 0 5 [(0, .ref (K.2.2.1 + a0)), (1, .long y1), (4, .int x4)] [] (ix_w z d)) {x4 : Int32} {d : ix_D2} (h : b_X4_takeBytes_5 n z  a0 y1 rec5 x4 d = some (r, d1)) : ix_G p l e (ix_rm 0 0 0 0) s m args below meth c (MQ below (ix_Post K (some (.int r)) (ix_w z d1)) args s 0 0 (ix_A K)) K 5 0 0 5 [(0, .ref (K.2.2.1 + a0)), (1, .long y1), (4, .int x4)] [] (ix_w z d) := by
  unfold b_X4_takeBytes_5 at h
  refine ix_iload (i := 4) (j := 2) X (ix_tb_at tb_X4_takeBytes 4 rfl) rfl (pc1 := 7) rfl ?_
  refine ix_if_lt (tgt := 53) X (ix_tb_at tb_X4_takeBytes 5 rfl) (by decide) (pc1 := 10) rfl (fun q_3 => ?_) (fun q_3 => ?_)
  · have h := ix_ift q_3 h
    refine ix_sub (L1 := [(0, .ref (K.2.2.1 + a0))]) [0] rfl ?_
    exact t_X4_takeBytes_53 hKp X hr hlk  h
  · have h := ix_iff q_3 h
    refine ix_aload_n (i := 0) (j := 0) X (ix_tb_at tb_X4_takeBytes 6 rfl) rfl rfl (pc1 := 11) rfl ?_
    obtain ⟨k_5, h⟩ := ix_ck_some h
    refine iz_getI X fl_RX4_34 k_5 (ix_tb_at tb_X4_takeBytes 7 rfl) (pc1 := 14) rfl ?_
    refine ix_bipush (v := 60) X (ix_tb_at tb_X4_takeBytes 8 rfl) (by decide) (pc1 := 16) rfl ?_
    refine ix_icmp_ge (tgt := 53) X (ix_tb_at tb_X4_takeBytes 9 rfl) (by decide) (pc1 := 19) rfl (fun q_6 => ?_) (fun q_6 => ?_)
    · have h := ix_ift q_6 h
      refine ix_sub (L1 := [(0, .ref (K.2.2.1 + a0))]) [0] rfl ?_
      exact t_X4_takeBytes_53 hKp X hr hlk  h
    · have h := ix_iff q_6 h
      refine ix_aload_n (i := 0) (j := 0) X (ix_tb_at tb_X4_takeBytes 10 rfl) rfl rfl (pc1 := 20) rfl ?_
      obtain ⟨b_7, q_8, h⟩ := ix_bd1_ex h
      refine iz_getR X fl_RX4_11 k_5 q_8 (ix_tb_at tb_X4_takeBytes 11 rfl) (pc1 := 23) rfl ?_
      refine ix_aload_n (i := 0) (j := 0) X (ix_tb_at tb_X4_takeBytes 12 rfl) rfl rfl (pc1 := 24) rfl ?_
      refine iz_getI X fl_RX4_34 k_5 (ix_tb_at tb_X4_takeBytes 13 rfl) (pc1 := 27) rfl ?_
      refine ix_lload_n (i := 1) (j := 1) X (ix_tb_at tb_X4_takeBytes 14 rfl) rfl rfl (pc1 := 28) rfl ?_
      refine ix_bipush (v := 8) X (ix_tb_at tb_X4_takeBytes 15 rfl) (by decide) (pc1 := 30) rfl ?_
      refine ix_iload (i := 4) (j := 2) X (ix_tb_at tb_X4_takeBytes 16 rfl) rfl (pc1 := 32) rfl ?_
      refine ix_imul X (ix_tb_at tb_X4_takeBytes 17 rfl) (pc1 := 33) rfl ?_
      refine ix_lshr X (ix_tb_at tb_X4_takeBytes 18 rfl) (pc1 := 34) rfl ?_
      refine ix_l2i X (ix_tb_at tb_X4_takeBytes 19 rfl) (pc1 := 35) rfl ?_
      refine ix_i2b X (ix_tb_at tb_X4_takeBytes 20 rfl) (pc1 := 36) rfl ?_
      obtain ⟨k_9, h⟩ := ix_ck_some h
      obtain ⟨d_10, e_11, h⟩ := ix_lt_ex h
      refine iz_bast X k_9 (ix_tb_at tb_X4_takeBytes 21 rfl) e_11 (pc1 := 37) rfl ?_
      refine ix_aload_n (i := 0) (j := 0) X (ix_tb_at tb_X4_takeBytes 22 rfl) rfl rfl (pc1 := 38) rfl ?_
      refine ix_dup X (ix_tb_at tb_X4_takeBytes 23 rfl) rfl (pc1 := 39) rfl ?_
      refine iz_getI X fl_RX4_34 k_5 (ix_tb_at tb_X4_takeBytes 24 rfl) (pc1 := 42) rfl ?_
      refine ix_iconst (v := 1) X (ix_tb_at tb_X4_takeBytes 25 rfl) (by decide) (pc1 := 43) rfl ?_
      refine ix_iadd X (ix_tb_at tb_X4_takeBytes 26 rfl) (pc1 := 44) rfl ?_
      obtain ⟨d_12, e_13, h⟩ := ix_lt_ex h
      refine iz_putI X fp_RX4_34 k_5 (ix_tb_at tb_X4_takeBytes 27 rfl) e_13 (pc1 := 47) rfl ?_
      obtain ⟨x4_14, e_15, h⟩ := ix_lt_ex h
      refine ix_iinc (i := 4) (j := 2) (v := x4_14) (L1 := [(4, .int x4_14), (0, .ref (K.2.2.1 + a0)), (1, .long y1)]) X (ix_tb_at tb_X4_takeBytes 28 rfl) rfl (by rw [oi_m1]; exact e_15.symm) (Nat.le_of_ble_eq_true rfl) rfl (pc1 := 50) rfl ?_
      refine ix_goto (tgt := 5) X (ix_tb_at tb_X4_takeBytes 29 rfl) (by decide) ?_
      refine ix_sub (L1 := [(0, .ref (K.2.2.1 + a0)), (1, .long y1), (4, .int x4_14)]) [1, 2, 0] rfl ?_
      exact hrec5 x4_14 d_12 h
theorem t_X4_takeBytes_5 {l : Launch} {p : Program} {e : Env} {s : State} {m : MethodId} {args : Array Value} {below : List Frame} {meth : Method} {c : Code} {K : ix_Cx} (hKp : ix_Kp K) {n : Nat} {z : ix_Z} (X : ix_X p s m args c K cX4_takeBytes RX4 5) (hr : meth.sig.returnType = (some .int)) (hlk : meth.locks = false)  {a0 : Nat} {y1 : Int64} {r : Int32} {d1 : ix_D2}  {x4 : Int32} {d : ix_D2} (h : f_X4_takeBytes_5 n z  a0 y1 x4 d = some (r, d1)) : ix_G p l e (ix_rm 0 0 0 0) s m args below meth c (MQ below (ix_Post K (some (.int r)) (ix_w z d1)) args s 0 0 (ix_A K)) K 5 0 0 5 [(0, .ref (K.2.2.1 + a0)), (1, .long y1), (4, .int x4)] [] (ix_w z d) := by
  have key : ∀ (f : Nat) (x4 : Int32) (d : ix_D2), ix_fix (b_X4_takeBytes_5 n z  a0 y1) (fun _ _ => none) f x4 d = some (r, d1) → ix_G p l e (ix_rm 0 0 0 0) s m args below meth c (MQ below (ix_Post K (some (.int r)) (ix_w z d1)) args s 0 0 (ix_A K)) K 5 0 0 5 [(0, .ref (K.2.2.1 + a0)), (1, .long y1), (4, .int x4)] [] (ix_w z d) := by
    intro f
    induction f with
    | zero =>
      intro x4 d h
      have h : (none : Option (Int32 × ix_D2)) = some (r, d1) := h
      cases h
    | succ f ih =>
      intro x4 d h
      exact tb_X4_takeBytes_5 hKp X hr hlk (rec5 := ix_fix (b_X4_takeBytes_5 n z  a0 y1) (fun _ _ => none) f)  ih h
  exact key n x4 d h
set_option maxRecDepth 20000 in
theorem c_X4_takeBytes {l : Launch} {K : ix_Cx} (hKp : ix_Kp K) {n : Nat} {z : ix_Z} {a0 : Nat} {y1 : Int64} {x3 : Int32} {d : ix_D2} {r : Int32} {d1 : ix_D2} (h : f_X4_takeBytes n z a0 y1 x3 d = some (r, d1)) : ix_M l K yX4_takeBytes cX4_takeBytes 5 (some .int) 0 0 0 0 [.ref (K.2.2.1 + a0), .long y1, .int x3] (ix_w z d) (some (.int r)) (ix_w z d1) := by
  refine ix_met mf_X4_takeBytes hKp (Nat.le_of_ble_eq_true rfl) ?_
  intro p e s m args below meth c hr hlk hnm X
  have X : ix_X p s m args c K cX4_takeBytes RX4 5 := X
  show ix_G p l e (ix_rm 0 0 0 0) s m args below meth c (MQ below (ix_Post K (some (.int r)) (ix_w z d1)) args s 0 0 (ix_A K)) K 5 0 0 0 [(0, .ref (K.2.2.1 + a0)), (1, .long y1), (3, .int x3)] [] (ix_w z d)
  unfold f_X4_takeBytes at h
  refine ix_iload_n (i := 3) (j := 2) X (ix_tb_at tb_X4_takeBytes 0 rfl) rfl rfl (pc1 := 1) rfl ?_
  refine ix_iconst (v := 1) X (ix_tb_at tb_X4_takeBytes 1 rfl) (by decide) (pc1 := 2) rfl ?_
  refine ix_isub X (ix_tb_at tb_X4_takeBytes 2 rfl) (pc1 := 3) rfl ?_
  obtain ⟨x4_1, e_2, h⟩ := ix_lt_ex h
  refine ix_nmi e_2 ?_
  refine ix_istore (i := 4) (L1 := [(4, .int x4_1), (0, .ref (K.2.2.1 + a0)), (1, .long y1), (3, .int x3)]) X (ix_tb_at tb_X4_takeBytes 3 rfl) (Nat.le_of_ble_eq_true rfl) rfl (pc1 := 5) rfl ?_
  refine ix_sub (L1 := [(0, .ref (K.2.2.1 + a0)), (1, .long y1), (4, .int x4_1)]) [1, 2, 0] rfl ?_
  exact t_X4_takeBytes_5 hKp X hr hlk  h
def tab_X4_emptyTape : List (Nat × Instr × Nat) := [(0, .aload_n 0, 1), (1, .getfield 34, 3), (4, .istore_n 1, 1), (5, .aload_n 0, 1), (6, .iconst 0, 1), (7, .putfield 34, 3), (10, .iload_n 1, 1), (11, .ireturn, 1)]
theorem tb_X4_emptyTape : ix_tab cX4_emptyTape tab_X4_emptyTape := by
  unfold ix_tab
  decide +kernel
noncomputable def f_X4_emptyTape (n : Nat) (z : ix_Z) (a0 : Nat) (d : ix_D2) : Option (Int32 × ix_D2) :=
  ix_ck (ix_ok z [4] a0) (ix_lt (d.1 a0 1) (fun x1_2 => ix_lt (ix_di d a0 1 0) (fun d_4 => some (x1_2, d_4))))
set_option maxRecDepth 20000 in
theorem c_X4_emptyTape {l : Launch} {K : ix_Cx} (hKp : ix_Kp K) {n : Nat} {z : ix_Z} {a0 : Nat} {d : ix_D2} {r : Int32} {d1 : ix_D2} (h : f_X4_emptyTape n z a0 d = some (r, d1)) : ix_M l K yX4_emptyTape cX4_emptyTape 2 (some .int) 0 0 0 0 [.ref (K.2.2.1 + a0)] (ix_w z d) (some (.int r)) (ix_w z d1) := by
  refine ix_met mf_X4_emptyTape hKp (Nat.le_of_ble_eq_true rfl) ?_
  intro p e s m args below meth c hr hlk hnm X
  have X : ix_X p s m args c K cX4_emptyTape RX4 2 := X
  show ix_G p l e (ix_rm 0 0 0 0) s m args below meth c (MQ below (ix_Post K (some (.int r)) (ix_w z d1)) args s 0 0 (ix_A K)) K 2 0 0 0 [(0, .ref (K.2.2.1 + a0))] [] (ix_w z d)
  unfold f_X4_emptyTape at h
  refine ix_aload_n (i := 0) (j := 0) X (ix_tb_at tb_X4_emptyTape 0 rfl) rfl rfl (pc1 := 1) rfl ?_
  obtain ⟨k_1, h⟩ := ix_ck_some h
  refine iz_getI X fl_RX4_34 k_1 (ix_tb_at tb_X4_emptyTape 1 rfl) (pc1 := 4) rfl ?_
  obtain ⟨x1_2, e_3, h⟩ := ix_lt_ex h
  refine ix_nmi e_3 ?_
  refine ix_istore_n (i := 1) (L1 := [(1, .int x1_2), (0, .ref (K.2.2.1 + a0))]) X (ix_tb_at tb_X4_emptyTape 2 rfl) rfl (Nat.le_of_ble_eq_true rfl) rfl (pc1 := 5) rfl ?_
  refine ix_aload_n (i := 0) (j := 1) X (ix_tb_at tb_X4_emptyTape 3 rfl) rfl rfl (pc1 := 6) rfl ?_
  refine ix_iconst (v := 0) X (ix_tb_at tb_X4_emptyTape 4 rfl) (by decide) (pc1 := 7) rfl ?_
  obtain ⟨d_4, e_5, h⟩ := ix_lt_ex h
  refine iz_putI X fp_RX4_34 k_1 (ix_tb_at tb_X4_emptyTape 5 rfl) e_5 (pc1 := 10) rfl ?_
  refine ix_iload_n (i := 1) (j := 0) X (ix_tb_at tb_X4_emptyTape 6 rfl) rfl rfl (pc1 := 11) rfl ?_
  exact ix_iret X hr hlk (ix_r2 (f := fun r => some (.int r)) (g := ix_w z) h) (ix_tb_at tb_X4_emptyTape 7 rfl)
def tab_X4_isDigit : List (Nat × Instr × Nat) := [(0, .iload_n 0, 1), (1, .bipush 48, 2), (3, .if_icmp .lt 13, 3), (6, .iload_n 0, 1), (7, .bipush 57, 2), (9, .if_icmp .gt 7, 3), (12, .iconst 1, 1), (13, .goto 4, 3), (16, .iconst 0, 1), (17, .ireturn, 1)]
theorem tb_X4_isDigit : ix_tab cX4_isDigit tab_X4_isDigit := by
  unfold ix_tab
  decide +kernel
noncomputable def f_X4_isDigit (n : Nat) (z : ix_Z) (x0 : Int32) (d : ix_D2) : Option (Int32 × ix_D2) :=
  ix_if (x0 < 48) (some (0, d)) (ix_if (57 < x0) (some (0, d)) (some (1, d)))
set_option maxRecDepth 20000 in
theorem c_X4_isDigit {l : Launch} {K : ix_Cx} (hKp : ix_Kp K) {n : Nat} {z : ix_Z} {x0 : Int32} {d : ix_D2} {r : Int32} {d1 : ix_D2} (h : f_X4_isDigit n z x0 d = some (r, d1)) : ix_M l K yX4_isDigit cX4_isDigit 1 (some .boolean) 0 0 0 0 [.int x0] (ix_w z d) (some (.int r)) (ix_w z d1) := by
  refine ix_met mf_X4_isDigit hKp (Nat.le_of_ble_eq_true rfl) ?_
  intro p e s m args below meth c hr hlk hnm X
  have X : ix_X p s m args c K cX4_isDigit RX4 1 := X
  show ix_G p l e (ix_rm 0 0 0 0) s m args below meth c (MQ below (ix_Post K (some (.int r)) (ix_w z d1)) args s 0 0 (ix_A K)) K 1 0 0 0 [(0, .int x0)] [] (ix_w z d)
  unfold f_X4_isDigit at h
  refine ix_iload_n (i := 0) (j := 0) X (ix_tb_at tb_X4_isDigit 0 rfl) rfl rfl (pc1 := 1) rfl ?_
  refine ix_bipush (v := 48) X (ix_tb_at tb_X4_isDigit 1 rfl) (by decide) (pc1 := 3) rfl ?_
  refine ix_icmp_lt (tgt := 16) X (ix_tb_at tb_X4_isDigit 2 rfl) (by decide) (pc1 := 6) rfl (fun q_1 => ?_) (fun q_1 => ?_)
  · have h := ix_ift q_1 h
    refine ix_iconst (v := 0) X (ix_tb_at tb_X4_isDigit 8 rfl) (by decide) (pc1 := 17) rfl ?_
    exact ix_zret X hr hlk (by decide) (ix_r2 (f := fun r => some (.int r)) (g := ix_w z) h) (ix_tb_at tb_X4_isDigit 9 rfl)
  · have h := ix_iff q_1 h
    refine ix_iload_n (i := 0) (j := 0) X (ix_tb_at tb_X4_isDigit 3 rfl) rfl rfl (pc1 := 7) rfl ?_
    refine ix_bipush (v := 57) X (ix_tb_at tb_X4_isDigit 4 rfl) (by decide) (pc1 := 9) rfl ?_
    refine ix_icmp_gt (tgt := 16) X (ix_tb_at tb_X4_isDigit 5 rfl) (by decide) (pc1 := 12) rfl (fun q_2 => ?_) (fun q_2 => ?_)
    · have h := ix_ift q_2 h
      refine ix_iconst (v := 0) X (ix_tb_at tb_X4_isDigit 8 rfl) (by decide) (pc1 := 17) rfl ?_
      exact ix_zret X hr hlk (by decide) (ix_r2 (f := fun r => some (.int r)) (g := ix_w z) h) (ix_tb_at tb_X4_isDigit 9 rfl)
    · have h := ix_iff q_2 h
      refine ix_iconst (v := 1) X (ix_tb_at tb_X4_isDigit 6 rfl) (by decide) (pc1 := 13) rfl ?_
      refine ix_goto (tgt := 17) X (ix_tb_at tb_X4_isDigit 7 rfl) (by decide) ?_
      exact ix_zret X hr hlk (by decide) (ix_r2 (f := fun r => some (.int r)) (g := ix_w z) h) (ix_tb_at tb_X4_isDigit 9 rfl)
def tab_X4_acceptsDigit : List (Nat × Instr × Nat) := [(0, .aload_n 0, 1), (1, .bipush 10, 2), (3, .aload_n 0, 1), (4, .getfield 69, 3), (7, .imul, 1), (8, .iload_n 1, 1), (9, .iadd, 1), (10, .bipush 48, 2), (12, .isub, 1), (13, .putfield 69, 3), (16, .aload_n 0, 1), (17, .dup, 1), (18, .getfield 72, 3), (21, .iconst 1, 1), (22, .iadd, 1), (23, .putfield 72, 3), (26, .aload_n 0, 1), (27, .getfield 72, 3), (30, .iconst 3, 1), (31, .if_icmp .gt 7, 3), (34, .iconst 1, 1), (35, .goto 4, 3), (38, .iconst 0, 1), (39, .ireturn, 1)]
theorem tb_X4_acceptsDigit : ix_tab cX4_acceptsDigit tab_X4_acceptsDigit := by
  unfold ix_tab
  decide +kernel
noncomputable def f_X4_acceptsDigit (n : Nat) (z : ix_Z) (a0 : Nat) (x1 : Int32) (d : ix_D2) : Option (Int32 × ix_D2) :=
  ix_ck (ix_ok z [4] a0) (ix_lt (ix_di d a0 15 (((10 * (d.1 a0 15)) + x1) - 48)) (fun d_2 => ix_lt (ix_di d_2 a0 16 ((d_2.1 a0 16) + 1)) (fun d_4 => ix_if (3 < d_4.1 a0 16) (some (0, d_4)) (some (1, d_4)))))
set_option maxRecDepth 20000 in
theorem c_X4_acceptsDigit {l : Launch} {K : ix_Cx} (hKp : ix_Kp K) {n : Nat} {z : ix_Z} {a0 : Nat} {x1 : Int32} {d : ix_D2} {r : Int32} {d1 : ix_D2} (h : f_X4_acceptsDigit n z a0 x1 d = some (r, d1)) : ix_M l K yX4_acceptsDigit cX4_acceptsDigit 2 (some .boolean) 0 0 0 0 [.ref (K.2.2.1 + a0), .int x1] (ix_w z d) (some (.int r)) (ix_w z d1) := by
  refine ix_met mf_X4_acceptsDigit hKp (Nat.le_of_ble_eq_true rfl) ?_
  intro p e s m args below meth c hr hlk hnm X
  have X : ix_X p s m args c K cX4_acceptsDigit RX4 2 := X
  show ix_G p l e (ix_rm 0 0 0 0) s m args below meth c (MQ below (ix_Post K (some (.int r)) (ix_w z d1)) args s 0 0 (ix_A K)) K 2 0 0 0 [(0, .ref (K.2.2.1 + a0)), (1, .int x1)] [] (ix_w z d)
  unfold f_X4_acceptsDigit at h
  refine ix_aload_n (i := 0) (j := 0) X (ix_tb_at tb_X4_acceptsDigit 0 rfl) rfl rfl (pc1 := 1) rfl ?_
  refine ix_bipush (v := 10) X (ix_tb_at tb_X4_acceptsDigit 1 rfl) (by decide) (pc1 := 3) rfl ?_
  refine ix_aload_n (i := 0) (j := 0) X (ix_tb_at tb_X4_acceptsDigit 2 rfl) rfl rfl (pc1 := 4) rfl ?_
  obtain ⟨k_1, h⟩ := ix_ck_some h
  refine iz_getI X fl_RX4_69 k_1 (ix_tb_at tb_X4_acceptsDigit 3 rfl) (pc1 := 7) rfl ?_
  refine ix_imul X (ix_tb_at tb_X4_acceptsDigit 4 rfl) (pc1 := 8) rfl ?_
  refine ix_iload_n (i := 1) (j := 1) X (ix_tb_at tb_X4_acceptsDigit 5 rfl) rfl rfl (pc1 := 9) rfl ?_
  refine ix_iadd X (ix_tb_at tb_X4_acceptsDigit 6 rfl) (pc1 := 10) rfl ?_
  refine ix_bipush (v := 48) X (ix_tb_at tb_X4_acceptsDigit 7 rfl) (by decide) (pc1 := 12) rfl ?_
  refine ix_isub X (ix_tb_at tb_X4_acceptsDigit 8 rfl) (pc1 := 13) rfl ?_
  obtain ⟨d_2, e_3, h⟩ := ix_lt_ex h
  refine iz_putI X fp_RX4_69 k_1 (ix_tb_at tb_X4_acceptsDigit 9 rfl) e_3 (pc1 := 16) rfl ?_
  refine ix_aload_n (i := 0) (j := 0) X (ix_tb_at tb_X4_acceptsDigit 10 rfl) rfl rfl (pc1 := 17) rfl ?_
  refine ix_dup X (ix_tb_at tb_X4_acceptsDigit 11 rfl) rfl (pc1 := 18) rfl ?_
  refine iz_getI X fl_RX4_72 k_1 (ix_tb_at tb_X4_acceptsDigit 12 rfl) (pc1 := 21) rfl ?_
  refine ix_iconst (v := 1) X (ix_tb_at tb_X4_acceptsDigit 13 rfl) (by decide) (pc1 := 22) rfl ?_
  refine ix_iadd X (ix_tb_at tb_X4_acceptsDigit 14 rfl) (pc1 := 23) rfl ?_
  obtain ⟨d_4, e_5, h⟩ := ix_lt_ex h
  refine iz_putI X fp_RX4_72 k_1 (ix_tb_at tb_X4_acceptsDigit 15 rfl) e_5 (pc1 := 26) rfl ?_
  refine ix_aload_n (i := 0) (j := 0) X (ix_tb_at tb_X4_acceptsDigit 16 rfl) rfl rfl (pc1 := 27) rfl ?_
  refine iz_getI X fl_RX4_72 k_1 (ix_tb_at tb_X4_acceptsDigit 17 rfl) (pc1 := 30) rfl ?_
  refine ix_iconst (v := 3) X (ix_tb_at tb_X4_acceptsDigit 18 rfl) (by decide) (pc1 := 31) rfl ?_
  refine ix_icmp_gt (tgt := 38) X (ix_tb_at tb_X4_acceptsDigit 19 rfl) (by decide) (pc1 := 34) rfl (fun q_6 => ?_) (fun q_6 => ?_)
  · have h := ix_ift q_6 h
    refine ix_iconst (v := 0) X (ix_tb_at tb_X4_acceptsDigit 22 rfl) (by decide) (pc1 := 39) rfl ?_
    exact ix_zret X hr hlk (by decide) (ix_r2 (f := fun r => some (.int r)) (g := ix_w z) h) (ix_tb_at tb_X4_acceptsDigit 23 rfl)
  · have h := ix_iff q_6 h
    refine ix_iconst (v := 1) X (ix_tb_at tb_X4_acceptsDigit 20 rfl) (by decide) (pc1 := 35) rfl ?_
    refine ix_goto (tgt := 39) X (ix_tb_at tb_X4_acceptsDigit 21 rfl) (by decide) ?_
    exact ix_zret X hr hlk (by decide) (ix_r2 (f := fun r => some (.int r)) (g := ix_w z) h) (ix_tb_at tb_X4_acceptsDigit 23 rfl)
def tab_X4_endPart : List (Nat × Instr × Nat) := [(0, .aload_n 0, 1), (1, .getfield 38, 3), (4, .aload_n 0, 1), (5, .getfield 22, 3), (8, .arraylength, 1), (9, .if_icmp .ge 23, 3), (12, .aload_n 0, 1), (13, .getfield 22, 3), (16, .aload_n 0, 1), (17, .getfield 38, 3), (20, .iload_n 1, 1), (21, .iastore, 1), (22, .aload_n 0, 1), (23, .dup, 1), (24, .getfield 38, 3), (27, .iconst 1, 1), (28, .iadd, 1), (29, .putfield 38, 3), (32, .aload_n 0, 1), (33, .getfield 41, 3), (36, .ifCond .le 18, 3), (39, .aload_n 0, 1), (40, .getfield 28, 3), (43, .aload_n 0, 1), (44, .getfield 41, 3), (47, .iconst 1, 1), (48, .isub, 1), (49, .dup2, 1), (50, .iaload, 1), (51, .iconst 1, 1), (52, .iadd, 1), (53, .iastore, 1), (54, .aload_n 0, 1), (55, .iconst 4, 1), (56, .putfield 47, 3), (59, .return_, 1)]
theorem tb_X4_endPart : ix_tab cX4_endPart tab_X4_endPart := by
  unfold ix_tab
  decide +kernel
noncomputable def f_X4_endPart_54 (n : Nat) (z : ix_Z)  (a0 : Nat) (d : ix_D2) : Option (ix_D2) :=
  ix_ck (ix_ok z [4] a0) (ix_lt (ix_di d a0 12 4) (fun d_9 => some d_9))
noncomputable def f_X4_endPart_32 (n : Nat) (z : ix_Z)  (a0 : Nat) (d : ix_D2) : Option (ix_D2) :=
  ix_ck (ix_ok z [4] a0) (ix_if (d.1 a0 11 ≤ 0) (f_X4_endPart_54 n z  a0 d) (ix_bd1 (z.1 a0 9) (fun b_11 => ix_ck (ix_ix z 20 b_11 ((d.1 a0 11) - 1)) (ix_lt (ix_di d b_11 (ix_n ((d.1 a0 11) - 1)) ((d.1 b_11 (ix_n ((d.1 a0 11) - 1))) + 1)) (fun d_14 => f_X4_endPart_54 n z  a0 d_14)))))
noncomputable def f_X4_endPart (n : Nat) (z : ix_Z) (a0 : Nat) (x1 : Int32) (d : ix_D2) : Option (ix_D2) :=
  ix_ck (ix_ok z [4] a0) (ix_bd1 (z.1 a0 6) (fun b_2 => ix_ck (b_2 < z.2.2 ∧ 20 ≤ (z.2.1 b_2).1 ∧ (z.2.1 b_2).1 < 26) (ix_if (nI (z.2.1 b_2).2 ≤ d.1 a0 7) (f_X4_endPart_32 n z  a0 d) (ix_ck (ix_ix z 20 b_2 (d.1 a0 7)) (ix_lt (ix_di d b_2 (ix_n (d.1 a0 7)) x1) (fun d_17 => ix_lt (ix_di d_17 a0 7 ((d_17.1 a0 7) + 1)) (fun d_19 => f_X4_endPart_32 n z  a0 d_19)))))))
set_option maxRecDepth 20000 in
theorem t_X4_endPart_54 {l : Launch} {p : Program} {e : Env} {s : State} {m : MethodId} {args : Array Value} {below : List Frame} {meth : Method} {c : Code} {K : ix_Cx} (hKp : ix_Kp K) {n : Nat} {z : ix_Z} (X : ix_X p s m args c K cX4_endPart RX4 2) (hr : meth.sig.returnType = (none : Option Jvm.ClassFile.FieldType)) (hlk : meth.locks = false)  {a0 : Nat} {d1 : ix_D2}  {d : ix_D2} (h : f_X4_endPart_54 n z  a0 d = some d1) : ix_G p l e (ix_rm 0 0 0 0) s m args below meth c (MQ below (ix_Post K none (ix_w z d1)) args s 0 0 (ix_A K)) K 2 0 0 54 [(0, .ref (K.2.2.1 + a0))] [] (ix_w z d) := by
  unfold f_X4_endPart_54 at h
  refine ix_aload_n (i := 0) (j := 0) X (ix_tb_at tb_X4_endPart 32 rfl) rfl rfl (pc1 := 55) rfl ?_
  refine ix_iconst (v := 4) X (ix_tb_at tb_X4_endPart 33 rfl) (by decide) (pc1 := 56) rfl ?_
  obtain ⟨k_8, h⟩ := ix_ck_some h
  obtain ⟨d_9, e_10, h⟩ := ix_lt_ex h
  refine iz_putI X fp_RX4_47 k_8 (ix_tb_at tb_X4_endPart 34 rfl) e_10 (pc1 := 59) rfl ?_
  exact ix_vret X hr hlk (ix_r1 (g := ix_w z) h) (ix_tb_at tb_X4_endPart 35 rfl)
set_option maxRecDepth 20000 in
theorem t_X4_endPart_32 {l : Launch} {p : Program} {e : Env} {s : State} {m : MethodId} {args : Array Value} {below : List Frame} {meth : Method} {c : Code} {K : ix_Cx} (hKp : ix_Kp K) {n : Nat} {z : ix_Z} (X : ix_X p s m args c K cX4_endPart RX4 2) (hr : meth.sig.returnType = (none : Option Jvm.ClassFile.FieldType)) (hlk : meth.locks = false)  {a0 : Nat} {d1 : ix_D2}  {d : ix_D2} (h : f_X4_endPart_32 n z  a0 d = some d1) : ix_G p l e (ix_rm 0 0 0 0) s m args below meth c (MQ below (ix_Post K none (ix_w z d1)) args s 0 0 (ix_A K)) K 2 0 0 32 [(0, .ref (K.2.2.1 + a0))] [] (ix_w z d) := by
  unfold f_X4_endPart_32 at h
  refine ix_aload_n (i := 0) (j := 0) X (ix_tb_at tb_X4_endPart 18 rfl) rfl rfl (pc1 := 33) rfl ?_
  obtain ⟨k_6, h⟩ := ix_ck_some h
  refine iz_getI X fl_RX4_41 k_6 (ix_tb_at tb_X4_endPart 19 rfl) (pc1 := 36) rfl ?_
  refine ix_if_le (tgt := 54) X (ix_tb_at tb_X4_endPart 20 rfl) (by decide) (pc1 := 39) rfl (fun q_7 => ?_) (fun q_7 => ?_)
  · have h := ix_ift q_7 h
    refine ix_sub (L1 := [(0, .ref (K.2.2.1 + a0))]) [0] rfl ?_
    exact t_X4_endPart_54 hKp X hr hlk  h
  · have h := ix_iff q_7 h
    refine ix_aload_n (i := 0) (j := 0) X (ix_tb_at tb_X4_endPart 21 rfl) rfl rfl (pc1 := 40) rfl ?_
    obtain ⟨b_11, q_12, h⟩ := ix_bd1_ex h
    refine iz_getR X fl_RX4_28 k_6 q_12 (ix_tb_at tb_X4_endPart 22 rfl) (pc1 := 43) rfl ?_
    refine ix_aload_n (i := 0) (j := 0) X (ix_tb_at tb_X4_endPart 23 rfl) rfl rfl (pc1 := 44) rfl ?_
    refine iz_getI X fl_RX4_41 k_6 (ix_tb_at tb_X4_endPart 24 rfl) (pc1 := 47) rfl ?_
    refine ix_iconst (v := 1) X (ix_tb_at tb_X4_endPart 25 rfl) (by decide) (pc1 := 48) rfl ?_
    refine ix_isub X (ix_tb_at tb_X4_endPart 26 rfl) (pc1 := 49) rfl ?_
    refine ix_dup2 X (ix_tb_at tb_X4_endPart 27 rfl) rfl rfl (pc1 := 50) rfl ?_
    obtain ⟨k_13, h⟩ := ix_ck_some h
    refine iz_iald X k_13 (ix_tb_at tb_X4_endPart 28 rfl) (pc1 := 51) rfl ?_
    refine ix_iconst (v := 1) X (ix_tb_at tb_X4_endPart 29 rfl) (by decide) (pc1 := 52) rfl ?_
    refine ix_iadd X (ix_tb_at tb_X4_endPart 30 rfl) (pc1 := 53) rfl ?_
    obtain ⟨d_14, e_15, h⟩ := ix_lt_ex h
    refine iz_iast X k_13 (ix_tb_at tb_X4_endPart 31 rfl) e_15 (pc1 := 54) rfl ?_
    refine ix_sub (L1 := [(0, .ref (K.2.2.1 + a0))]) [0] rfl ?_
    exact t_X4_endPart_54 hKp X hr hlk  h
set_option maxRecDepth 20000 in
theorem c_X4_endPart {l : Launch} {K : ix_Cx} (hKp : ix_Kp K) {n : Nat} {z : ix_Z} {a0 : Nat} {x1 : Int32} {d : ix_D2} {d1 : ix_D2} (h : f_X4_endPart n z a0 x1 d = some d1) : ix_M l K yX4_endPart cX4_endPart 2 (none : Option Jvm.ClassFile.FieldType) 0 0 0 0 [.ref (K.2.2.1 + a0), .int x1] (ix_w z d) none (ix_w z d1) := by
  refine ix_met mf_X4_endPart hKp (Nat.le_of_ble_eq_true rfl) ?_
  intro p e s m args below meth c hr hlk hnm X
  have X : ix_X p s m args c K cX4_endPart RX4 2 := X
  show ix_G p l e (ix_rm 0 0 0 0) s m args below meth c (MQ below (ix_Post K none (ix_w z d1)) args s 0 0 (ix_A K)) K 2 0 0 0 [(0, .ref (K.2.2.1 + a0)), (1, .int x1)] [] (ix_w z d)
  unfold f_X4_endPart at h
  refine ix_aload_n (i := 0) (j := 0) X (ix_tb_at tb_X4_endPart 0 rfl) rfl rfl (pc1 := 1) rfl ?_
  obtain ⟨k_1, h⟩ := ix_ck_some h
  refine iz_getI X fl_RX4_38 k_1 (ix_tb_at tb_X4_endPart 1 rfl) (pc1 := 4) rfl ?_
  refine ix_aload_n (i := 0) (j := 0) X (ix_tb_at tb_X4_endPart 2 rfl) rfl rfl (pc1 := 5) rfl ?_
  obtain ⟨b_2, q_3, h⟩ := ix_bd1_ex h
  refine iz_getR X fl_RX4_22 k_1 q_3 (ix_tb_at tb_X4_endPart 3 rfl) (pc1 := 8) rfl ?_
  obtain ⟨k_4, h⟩ := ix_ck_some h
  refine iz_alen X k_4 (ix_tb_at tb_X4_endPart 4 rfl) (pc1 := 9) rfl ?_
  refine ix_icmp_ge (tgt := 32) X (ix_tb_at tb_X4_endPart 5 rfl) (by decide) (pc1 := 12) rfl (fun q_5 => ?_) (fun q_5 => ?_)
  · have h := ix_ift q_5 h
    refine ix_sub (L1 := [(0, .ref (K.2.2.1 + a0))]) [0] rfl ?_
    exact t_X4_endPart_32 hKp X hr hlk  h
  · have h := ix_iff q_5 h
    refine ix_aload_n (i := 0) (j := 0) X (ix_tb_at tb_X4_endPart 6 rfl) rfl rfl (pc1 := 13) rfl ?_
    refine iz_getR X fl_RX4_22 k_1 q_3 (ix_tb_at tb_X4_endPart 7 rfl) (pc1 := 16) rfl ?_
    refine ix_aload_n (i := 0) (j := 0) X (ix_tb_at tb_X4_endPart 8 rfl) rfl rfl (pc1 := 17) rfl ?_
    refine iz_getI X fl_RX4_38 k_1 (ix_tb_at tb_X4_endPart 9 rfl) (pc1 := 20) rfl ?_
    refine ix_iload_n (i := 1) (j := 1) X (ix_tb_at tb_X4_endPart 10 rfl) rfl rfl (pc1 := 21) rfl ?_
    obtain ⟨k_16, h⟩ := ix_ck_some h
    obtain ⟨d_17, e_18, h⟩ := ix_lt_ex h
    refine iz_iast X k_16 (ix_tb_at tb_X4_endPart 11 rfl) e_18 (pc1 := 22) rfl ?_
    refine ix_aload_n (i := 0) (j := 0) X (ix_tb_at tb_X4_endPart 12 rfl) rfl rfl (pc1 := 23) rfl ?_
    refine ix_dup X (ix_tb_at tb_X4_endPart 13 rfl) rfl (pc1 := 24) rfl ?_
    refine iz_getI X fl_RX4_38 k_1 (ix_tb_at tb_X4_endPart 14 rfl) (pc1 := 27) rfl ?_
    refine ix_iconst (v := 1) X (ix_tb_at tb_X4_endPart 15 rfl) (by decide) (pc1 := 28) rfl ?_
    refine ix_iadd X (ix_tb_at tb_X4_endPart 16 rfl) (pc1 := 29) rfl ?_
    obtain ⟨d_19, e_20, h⟩ := ix_lt_ex h
    refine iz_putI X fp_RX4_38 k_1 (ix_tb_at tb_X4_endPart 17 rfl) e_20 (pc1 := 32) rfl ?_
    refine ix_sub (L1 := [(0, .ref (K.2.2.1 + a0))]) [0] rfl ?_
    exact t_X4_endPart_32 hKp X hr hlk  h
def tab_X4_endNumber : List (Nat × Instr × Nat) := [(0, .aload_n 0, 1), (1, .aload_n 0, 1), (2, .getfield 44, 3), (5, .iconst 1, 1), (6, .if_icmp .ne 11, 3), (9, .aload_n 0, 1), (10, .getfield 69, 3), (13, .ineg, 1), (14, .goto 7, 3), (17, .aload_n 0, 1), (18, .getfield 69, 3), (21, .invokevirtual 89, 3), (24, .aload_n 0, 1), (25, .iconst 0, 1), (26, .putfield 44, 3), (29, .return_, 1)]
theorem tb_X4_endNumber : ix_tab cX4_endNumber tab_X4_endNumber := by
  unfold ix_tab
  decide +kernel
noncomputable def f_X4_endNumber_21 (n : Nat) (z : ix_Z)  (a0 : Nat) (s0 : Int32) (s1 : Nat) (d : ix_D2) : Option (ix_D2) :=
  ix_ck (ix_ok z [4] s1) (ix_bd1 (f_X4_endPart n z s1 s0 d) (fun d_3 => ix_ck (ix_ok z [4] a0) (ix_lt (ix_di d_3 a0 14 0) (fun d_7 => some d_7))))
noncomputable def f_X4_endNumber (n : Nat) (z : ix_Z) (a0 : Nat) (d : ix_D2) : Option (ix_D2) :=
  ix_ck (ix_ok z [4] a0) (ix_if (d.1 a0 14 = 1) (f_X4_endNumber_21 n z  a0 (-(d.1 a0 15)) a0 d) (f_X4_endNumber_21 n z  a0 (d.1 a0 15) a0 d))
set_option maxRecDepth 20000 in
theorem t_X4_endNumber_21 {l : Launch} {p : Program} {e : Env} {s : State} {m : MethodId} {args : Array Value} {below : List Frame} {meth : Method} {c : Code} {K : ix_Cx} (hKp : ix_Kp K) {n : Nat} {z : ix_Z} (X : ix_X p s m args c K cX4_endNumber RX4 1) (hr : meth.sig.returnType = (none : Option Jvm.ClassFile.FieldType)) (hlk : meth.locks = false)  {a0 : Nat} {s0 : Int32} {s1 : Nat} {d1 : ix_D2}  {d : ix_D2} (h : f_X4_endNumber_21 n z  a0 s0 s1 d = some d1) : ix_G p l e (ix_rm 1 21 0 0) s m args below meth c (MQ below (ix_Post K none (ix_w z d1)) args s 0 0 (ix_A K)) K 1 0 0 21 [(0, .ref (K.2.2.1 + a0))] [.int s0, .ref (K.2.2.1 + s1)] (ix_w z d) := by
  unfold f_X4_endNumber_21 at h
  obtain ⟨k_5, h⟩ := ix_ck_some h
  obtain ⟨d_3, h_4, h⟩ := ix_bd1_ex h
  refine ix_callV (As := [.int s0]) (rest := []) (ci := 4) (T := TX4) (nf := 17) X mf_X4_endPart mi_X4_endPart ms_X4_endPart rfl (Nat.le_of_ble_eq_true rfl) ml_RX4_89 ⟨Nat.le_of_ble_eq_true rfl, Nat.le_of_ble_eq_true rfl⟩ ⟨Nat.le_of_ble_eq_true rfl, Nat.le_of_ble_eq_true rfl⟩ rfl (Nat.le_of_ble_eq_true rfl) (ix_tb_at tb_X4_endNumber 11 rfl) ⟨k_5.1, List.mem_singleton.mp k_5.2⟩ (c_X4_endPart hKp h_4) rfl (pc1 := 24) rfl ?_
  refine ix_aload_n (i := 0) (j := 0) X (ix_tb_at tb_X4_endNumber 12 rfl) rfl rfl (pc1 := 25) rfl ?_
  refine ix_iconst (v := 0) X (ix_tb_at tb_X4_endNumber 13 rfl) (by decide) (pc1 := 26) rfl ?_
  obtain ⟨k_6, h⟩ := ix_ck_some h
  obtain ⟨d_7, e_8, h⟩ := ix_lt_ex h
  refine iz_putI X fp_RX4_44 k_6 (ix_tb_at tb_X4_endNumber 14 rfl) e_8 (pc1 := 29) rfl ?_
  exact ix_vret X hr hlk (ix_r1 (g := ix_w z) h) (ix_tb_at tb_X4_endNumber 15 rfl)
set_option maxRecDepth 20000 in
theorem c_X4_endNumber {l : Launch} {K : ix_Cx} (hKp : ix_Kp K) {n : Nat} {z : ix_Z} {a0 : Nat} {d : ix_D2} {d1 : ix_D2} (h : f_X4_endNumber n z a0 d = some d1) : ix_M l K yX4_endNumber cX4_endNumber 1 (none : Option Jvm.ClassFile.FieldType) 1 21 0 0 [.ref (K.2.2.1 + a0)] (ix_w z d) none (ix_w z d1) := by
  refine ix_met mf_X4_endNumber hKp (Nat.le_of_ble_eq_true rfl) ?_
  intro p e s m args below meth c hr hlk hnm X
  have X : ix_X p s m args c K cX4_endNumber RX4 1 := X
  show ix_G p l e (ix_rm 1 21 0 0) s m args below meth c (MQ below (ix_Post K none (ix_w z d1)) args s 0 0 (ix_A K)) K 1 0 0 0 [(0, .ref (K.2.2.1 + a0))] [] (ix_w z d)
  unfold f_X4_endNumber at h
  refine ix_aload_n (i := 0) (j := 0) X (ix_tb_at tb_X4_endNumber 0 rfl) rfl rfl (pc1 := 1) rfl ?_
  refine ix_aload_n (i := 0) (j := 0) X (ix_tb_at tb_X4_endNumber 1 rfl) rfl rfl (pc1 := 2) rfl ?_
  obtain ⟨k_1, h⟩ := ix_ck_some h
  refine iz_getI X fl_RX4_44 k_1 (ix_tb_at tb_X4_endNumber 2 rfl) (pc1 := 5) rfl ?_
  refine ix_iconst (v := 1) X (ix_tb_at tb_X4_endNumber 3 rfl) (by decide) (pc1 := 6) rfl ?_
  refine ix_icmp_ne (tgt := 17) X (ix_tb_at tb_X4_endNumber 4 rfl) (by decide) (pc1 := 9) rfl (fun q_2 => ?_) (fun q_2 => ?_)
  · have h := ix_iff q_2 h
    refine ix_aload_n (i := 0) (j := 0) X (ix_tb_at tb_X4_endNumber 9 rfl) rfl rfl (pc1 := 18) rfl ?_
    refine iz_getI X fl_RX4_69 k_1 (ix_tb_at tb_X4_endNumber 10 rfl) (pc1 := 21) rfl ?_
    refine ix_sub (L1 := [(0, .ref (K.2.2.1 + a0))]) [0] rfl ?_
    exact t_X4_endNumber_21 hKp X hr hlk  h
  · have h := ix_ift q_2 h
    refine ix_aload_n (i := 0) (j := 0) X (ix_tb_at tb_X4_endNumber 5 rfl) rfl rfl (pc1 := 10) rfl ?_
    refine iz_getI X fl_RX4_69 k_1 (ix_tb_at tb_X4_endNumber 6 rfl) (pc1 := 13) rfl ?_
    refine ix_ineg X (ix_tb_at tb_X4_endNumber 7 rfl) (pc1 := 14) rfl ?_
    refine ix_goto (tgt := 21) X (ix_tb_at tb_X4_endNumber 8 rfl) (by decide) ?_
    refine ix_sub (L1 := [(0, .ref (K.2.2.1 + a0))]) [0] rfl ?_
    exact t_X4_endNumber_21 hKp X hr hlk  h
def tab_X4_acceptsPart : List (Nat × Instr × Nat) := [(0, .aload_n 0, 1), (1, .getfield 41, 3), (4, .ifCond .le 21, 3), (7, .aload_n 0, 1), (8, .getfield 28, 3), (11, .aload_n 0, 1), (12, .getfield 41, 3), (15, .iconst 1, 1), (16, .isub, 1), (17, .iaload, 1), (18, .bipush 8, 2), (20, .if_icmp .lt 5, 3), (23, .iconst 0, 1), (24, .ireturn, 1), (25, .iload_n 1, 1), (26, .bipush 33, 2), (28, .if_icmp .ne 15, 3), (31, .aload_n 0, 1), (32, .iconst 1, 1), (33, .aload_n 0, 1), (34, .getfield 44, 3), (37, .isub, 1), (38, .putfield 44, 3), (41, .iconst 1, 1), (42, .ireturn, 1), (43, .aload_n 0, 1), (44, .ldc 78, 2), (46, .iload_n 1, 1), (47, .sipush 255, 3), (50, .iand, 1), (51, .i2c, 1), (52, .invokevirtual 80, 3), (55, .putfield 86, 3), (58, .aload_n 0, 1), (59, .iload_n 1, 1), (60, .bipush 120, 2), (62, .if_icmp .ne 7, 3), (65, .iconst 2, 1), (66, .goto 4, 3), (69, .iconst 1, 1), (70, .putfield 47, 3), (73, .iload_n 1, 1), (74, .bipush 120, 2), (76, .if_icmp .eq 10, 3), (79, .aload_n 0, 1), (80, .getfield 86, 3), (83, .ifCond .lt 7, 3), (86, .iconst 1, 1), (87, .goto 4, 3), (90, .iconst 0, 1), (91, .ireturn, 1)]
theorem tb_X4_acceptsPart : ix_tab cX4_acceptsPart tab_X4_acceptsPart := by
  unfold ix_tab
  decide +kernel
noncomputable def f_X4_acceptsPart_86 (n : Nat) (z : ix_Z)   (d : ix_D2) : Option (Int32 × ix_D2) :=
  some (1, d)
noncomputable def f_X4_acceptsPart_70 (n : Nat) (z : ix_Z)  (a0 : Nat) (x1 : Int32) (s0 : Int32) (s1 : Nat) (d : ix_D2) : Option (Int32 × ix_D2) :=
  ix_ck (ix_ok z [4] s1) (ix_lt (ix_di d s1 12 s0) (fun d_12 => ix_if (x1 = 120) (f_X4_acceptsPart_86 n z   d_12) (ix_ck (ix_ok z [4] a0) (ix_if (d_12.1 a0 13 < 0) (some (0, d_12)) (f_X4_acceptsPart_86 n z   d_12)))))
noncomputable def f_X4_acceptsPart_25 (n : Nat) (z : ix_Z)  (a0 : Nat) (x1 : Int32) (d : ix_D2) : Option (Int32 × ix_D2) :=
  ix_if (x1 = 33) (ix_ck (ix_ok z [4] a0) (ix_lt (ix_di d a0 14 (1 - (d.1 a0 14))) (fun d_18 => some (1, d_18)))) (ix_bd2 (f_J0_indexOf_0f7a4 n z 0 (((x1 &&& 255).toUInt32 % 65536).toInt32) d) (fun r_4 d_5 => ix_ck (ix_ok z [4] a0) (ix_lt (ix_di d_5 a0 13 r_4) (fun d_8 => ix_if (x1 = 120) (f_X4_acceptsPart_70 n z  a0 x1 2 a0 d_8) (f_X4_acceptsPart_70 n z  a0 x1 1 a0 d_8)))))
noncomputable def f_X4_acceptsPart (n : Nat) (z : ix_Z) (a0 : Nat) (x1 : Int32) (d : ix_D2) : Option (Int32 × ix_D2) :=
  ix_ck (ix_ok z [4] a0) (ix_if (d.1 a0 11 ≤ 0) (f_X4_acceptsPart_25 n z  a0 x1 d) (ix_bd1 (z.1 a0 9) (fun b_20 => ix_ck (ix_ix z 20 b_20 ((d.1 a0 11) - 1)) (ix_if (d.1 b_20 (ix_n ((d.1 a0 11) - 1)) < 8) (f_X4_acceptsPart_25 n z  a0 x1 d) (some (0, d))))))
set_option maxRecDepth 20000 in
theorem t_X4_acceptsPart_86 {l : Launch} {p : Program} {e : Env} {s : State} {m : MethodId} {args : Array Value} {below : List Frame} {meth : Method} {c : Code} {K : ix_Cx} (hKp : ix_Kp K) {n : Nat} {z : ix_Z} (hT : ix_Tc K) (X : ix_X p s m args c K cX4_acceptsPart RX4 2) (hr : meth.sig.returnType = (some .boolean)) (hlk : meth.locks = false)   {r : Int32} {d1 : ix_D2}  {d : ix_D2} (h : f_X4_acceptsPart_86 n z   d = some (r, d1)) : ix_G p l e (ix_rm 4 91 0 0) s m args below meth c (MQ below (ix_Post K (some (.int r)) (ix_w z d1)) args s 0 0 (ix_A K)) K 2 0 0 86 [] [] (ix_w z d) := by
  unfold f_X4_acceptsPart_86 at h
  refine ix_iconst (v := 1) X (ix_tb_at tb_X4_acceptsPart 47 rfl) (by decide) (pc1 := 87) rfl ?_
  refine ix_goto (tgt := 91) X (ix_tb_at tb_X4_acceptsPart 48 rfl) (by decide) ?_
  exact ix_zret X hr hlk (by decide) (ix_r2 (f := fun r => some (.int r)) (g := ix_w z) h) (ix_tb_at tb_X4_acceptsPart 50 rfl)
set_option maxRecDepth 20000 in
theorem t_X4_acceptsPart_70 {l : Launch} {p : Program} {e : Env} {s : State} {m : MethodId} {args : Array Value} {below : List Frame} {meth : Method} {c : Code} {K : ix_Cx} (hKp : ix_Kp K) {n : Nat} {z : ix_Z} (hT : ix_Tc K) (X : ix_X p s m args c K cX4_acceptsPart RX4 2) (hr : meth.sig.returnType = (some .boolean)) (hlk : meth.locks = false)  {a0 : Nat} {x1 : Int32} {s0 : Int32} {s1 : Nat} {r : Int32} {d1 : ix_D2}  {d : ix_D2} (h : f_X4_acceptsPart_70 n z  a0 x1 s0 s1 d = some (r, d1)) : ix_G p l e (ix_rm 4 91 0 0) s m args below meth c (MQ below (ix_Post K (some (.int r)) (ix_w z d1)) args s 0 0 (ix_A K)) K 2 0 0 70 [(0, .ref (K.2.2.1 + a0)), (1, .int x1)] [.int s0, .ref (K.2.2.1 + s1)] (ix_w z d) := by
  unfold f_X4_acceptsPart_70 at h
  obtain ⟨k_11, h⟩ := ix_ck_some h
  obtain ⟨d_12, e_13, h⟩ := ix_lt_ex h
  refine iz_putI X fp_RX4_47 k_11 (ix_tb_at tb_X4_acceptsPart 40 rfl) e_13 (pc1 := 73) rfl ?_
  refine ix_iload_n (i := 1) (j := 1) X (ix_tb_at tb_X4_acceptsPart 41 rfl) rfl rfl (pc1 := 74) rfl ?_
  refine ix_bipush (v := 120) X (ix_tb_at tb_X4_acceptsPart 42 rfl) (by decide) (pc1 := 76) rfl ?_
  refine ix_icmp_eq (tgt := 86) X (ix_tb_at tb_X4_acceptsPart 43 rfl) (by decide) (pc1 := 79) rfl (fun q_14 => ?_) (fun q_14 => ?_)
  · have h := ix_ift q_14 h
    refine ix_sub (L1 := []) [] rfl ?_
    exact t_X4_acceptsPart_86 hKp hT X hr hlk  h
  · have h := ix_iff q_14 h
    refine ix_aload_n (i := 0) (j := 0) X (ix_tb_at tb_X4_acceptsPart 44 rfl) rfl rfl (pc1 := 80) rfl ?_
    obtain ⟨k_15, h⟩ := ix_ck_some h
    refine iz_getI X fl_RX4_86 k_15 (ix_tb_at tb_X4_acceptsPart 45 rfl) (pc1 := 83) rfl ?_
    refine ix_if_lt (tgt := 90) X (ix_tb_at tb_X4_acceptsPart 46 rfl) (by decide) (pc1 := 86) rfl (fun q_16 => ?_) (fun q_16 => ?_)
    · have h := ix_ift q_16 h
      refine ix_iconst (v := 0) X (ix_tb_at tb_X4_acceptsPart 49 rfl) (by decide) (pc1 := 91) rfl ?_
      exact ix_zret X hr hlk (by decide) (ix_r2 (f := fun r => some (.int r)) (g := ix_w z) h) (ix_tb_at tb_X4_acceptsPart 50 rfl)
    · have h := ix_iff q_16 h
      refine ix_sub (L1 := []) [] rfl ?_
      exact t_X4_acceptsPart_86 hKp hT X hr hlk  h
set_option maxRecDepth 20000 in
theorem t_X4_acceptsPart_25 {l : Launch} {p : Program} {e : Env} {s : State} {m : MethodId} {args : Array Value} {below : List Frame} {meth : Method} {c : Code} {K : ix_Cx} (hKp : ix_Kp K) {n : Nat} {z : ix_Z} (hT : ix_Tc K) (X : ix_X p s m args c K cX4_acceptsPart RX4 2) (hr : meth.sig.returnType = (some .boolean)) (hlk : meth.locks = false)  {a0 : Nat} {x1 : Int32} {r : Int32} {d1 : ix_D2}  {d : ix_D2} (h : f_X4_acceptsPart_25 n z  a0 x1 d = some (r, d1)) : ix_G p l e (ix_rm 4 91 0 0) s m args below meth c (MQ below (ix_Post K (some (.int r)) (ix_w z d1)) args s 0 0 (ix_A K)) K 2 0 0 25 [(0, .ref (K.2.2.1 + a0)), (1, .int x1)] [] (ix_w z d) := by
  unfold f_X4_acceptsPart_25 at h
  refine ix_iload_n (i := 1) (j := 1) X (ix_tb_at tb_X4_acceptsPart 14 rfl) rfl rfl (pc1 := 26) rfl ?_
  refine ix_bipush (v := 33) X (ix_tb_at tb_X4_acceptsPart 15 rfl) (by decide) (pc1 := 28) rfl ?_
  refine ix_icmp_ne (tgt := 43) X (ix_tb_at tb_X4_acceptsPart 16 rfl) (by decide) (pc1 := 31) rfl (fun q_3 => ?_) (fun q_3 => ?_)
  · have h := ix_iff q_3 h
    refine ix_aload_n (i := 0) (j := 0) X (ix_tb_at tb_X4_acceptsPart 25 rfl) rfl rfl (pc1 := 44) rfl ?_
    refine ix_ldcS (j := 0) (tx := "&|>j") X hT rfl (ix_tb_at tb_X4_acceptsPart 26 rfl) (pc1 := 46) rfl ?_
    refine ix_iload_n (i := 1) (j := 1) X (ix_tb_at tb_X4_acceptsPart 27 rfl) rfl rfl (pc1 := 47) rfl ?_
    refine ix_sipush (v := 255) X (ix_tb_at tb_X4_acceptsPart 28 rfl) (by decide) (pc1 := 50) rfl ?_
    refine ix_iand X (ix_tb_at tb_X4_acceptsPart 29 rfl) (pc1 := 51) rfl ?_
    refine ix_i2c X (ix_tb_at tb_X4_acceptsPart 30 rfl) (pc1 := 52) rfl ?_
    obtain ⟨r_4, d_5, h_6, h⟩ := ix_bd2_ex h
    refine ix_callT (As := [.int (((x1 &&& 255).toUInt32 % 65536).toInt32)]) (rest := [.ref (K.2.2.1 + a0)]) X hT (by decide) rfl mf_J0_indexOf_0f7a4 mi_J0_indexOf_0f7a4 ms_J0_indexOf_0f7a4 ml_RX4_80 ⟨Nat.le_of_ble_eq_true rfl, Nat.le_of_ble_eq_true rfl⟩ ⟨Nat.le_of_ble_eq_true rfl, Nat.le_of_ble_eq_true rfl⟩ rfl (Nat.le_of_ble_eq_true rfl) (ix_tb_at tb_X4_acceptsPart 31 rfl) (c_J0_indexOf_0f7a4 hKp hT h_6) rfl (pc1 := 55) rfl ?_
    obtain ⟨k_7, h⟩ := ix_ck_some h
    obtain ⟨d_8, e_9, h⟩ := ix_lt_ex h
    refine iz_putI X fp_RX4_86 k_7 (ix_tb_at tb_X4_acceptsPart 32 rfl) e_9 (pc1 := 58) rfl ?_
    refine ix_aload_n (i := 0) (j := 0) X (ix_tb_at tb_X4_acceptsPart 33 rfl) rfl rfl (pc1 := 59) rfl ?_
    refine ix_iload_n (i := 1) (j := 1) X (ix_tb_at tb_X4_acceptsPart 34 rfl) rfl rfl (pc1 := 60) rfl ?_
    refine ix_bipush (v := 120) X (ix_tb_at tb_X4_acceptsPart 35 rfl) (by decide) (pc1 := 62) rfl ?_
    refine ix_icmp_ne (tgt := 69) X (ix_tb_at tb_X4_acceptsPart 36 rfl) (by decide) (pc1 := 65) rfl (fun q_10 => ?_) (fun q_10 => ?_)
    · have h := ix_iff q_10 h
      refine ix_iconst (v := 1) X (ix_tb_at tb_X4_acceptsPart 39 rfl) (by decide) (pc1 := 70) rfl ?_
      refine ix_sub (L1 := [(0, .ref (K.2.2.1 + a0)), (1, .int x1)]) [0, 1] rfl ?_
      exact t_X4_acceptsPart_70 hKp hT X hr hlk  h
    · have h := ix_ift q_10 h
      refine ix_iconst (v := 2) X (ix_tb_at tb_X4_acceptsPart 37 rfl) (by decide) (pc1 := 66) rfl ?_
      refine ix_goto (tgt := 70) X (ix_tb_at tb_X4_acceptsPart 38 rfl) (by decide) ?_
      refine ix_sub (L1 := [(0, .ref (K.2.2.1 + a0)), (1, .int x1)]) [0, 1] rfl ?_
      exact t_X4_acceptsPart_70 hKp hT X hr hlk  h
  · have h := ix_ift q_3 h
    refine ix_aload_n (i := 0) (j := 0) X (ix_tb_at tb_X4_acceptsPart 17 rfl) rfl rfl (pc1 := 32) rfl ?_
    refine ix_iconst (v := 1) X (ix_tb_at tb_X4_acceptsPart 18 rfl) (by decide) (pc1 := 33) rfl ?_
    refine ix_aload_n (i := 0) (j := 0) X (ix_tb_at tb_X4_acceptsPart 19 rfl) rfl rfl (pc1 := 34) rfl ?_
    obtain ⟨k_17, h⟩ := ix_ck_some h
    refine iz_getI X fl_RX4_44 k_17 (ix_tb_at tb_X4_acceptsPart 20 rfl) (pc1 := 37) rfl ?_
    refine ix_isub X (ix_tb_at tb_X4_acceptsPart 21 rfl) (pc1 := 38) rfl ?_
    obtain ⟨d_18, e_19, h⟩ := ix_lt_ex h
    refine iz_putI X fp_RX4_44 k_17 (ix_tb_at tb_X4_acceptsPart 22 rfl) e_19 (pc1 := 41) rfl ?_
    refine ix_iconst (v := 1) X (ix_tb_at tb_X4_acceptsPart 23 rfl) (by decide) (pc1 := 42) rfl ?_
    exact ix_zret X hr hlk (by decide) (ix_r2 (f := fun r => some (.int r)) (g := ix_w z) h) (ix_tb_at tb_X4_acceptsPart 24 rfl)
set_option maxRecDepth 20000 in
theorem c_X4_acceptsPart {l : Launch} {K : ix_Cx} (hKp : ix_Kp K) (hT : ix_Tc K) {n : Nat} {z : ix_Z} {a0 : Nat} {x1 : Int32} {d : ix_D2} {r : Int32} {d1 : ix_D2} (h : f_X4_acceptsPart n z a0 x1 d = some (r, d1)) : ix_M l K yX4_acceptsPart cX4_acceptsPart 2 (some .boolean) 4 91 0 0 [.ref (K.2.2.1 + a0), .int x1] (ix_w z d) (some (.int r)) (ix_w z d1) := by
  refine ix_met mf_X4_acceptsPart hKp (Nat.le_of_ble_eq_true rfl) ?_
  intro p e s m args below meth c hr hlk hnm X
  have X : ix_X p s m args c K cX4_acceptsPart RX4 2 := X
  show ix_G p l e (ix_rm 4 91 0 0) s m args below meth c (MQ below (ix_Post K (some (.int r)) (ix_w z d1)) args s 0 0 (ix_A K)) K 2 0 0 0 [(0, .ref (K.2.2.1 + a0)), (1, .int x1)] [] (ix_w z d)
  unfold f_X4_acceptsPart at h
  refine ix_aload_n (i := 0) (j := 0) X (ix_tb_at tb_X4_acceptsPart 0 rfl) rfl rfl (pc1 := 1) rfl ?_
  obtain ⟨k_1, h⟩ := ix_ck_some h
  refine iz_getI X fl_RX4_41 k_1 (ix_tb_at tb_X4_acceptsPart 1 rfl) (pc1 := 4) rfl ?_
  refine ix_if_le (tgt := 25) X (ix_tb_at tb_X4_acceptsPart 2 rfl) (by decide) (pc1 := 7) rfl (fun q_2 => ?_) (fun q_2 => ?_)
  · have h := ix_ift q_2 h
    refine ix_sub (L1 := [(0, .ref (K.2.2.1 + a0)), (1, .int x1)]) [0, 1] rfl ?_
    exact t_X4_acceptsPart_25 hKp hT X hr hlk  h
  · have h := ix_iff q_2 h
    refine ix_aload_n (i := 0) (j := 0) X (ix_tb_at tb_X4_acceptsPart 3 rfl) rfl rfl (pc1 := 8) rfl ?_
    obtain ⟨b_20, q_21, h⟩ := ix_bd1_ex h
    refine iz_getR X fl_RX4_28 k_1 q_21 (ix_tb_at tb_X4_acceptsPart 4 rfl) (pc1 := 11) rfl ?_
    refine ix_aload_n (i := 0) (j := 0) X (ix_tb_at tb_X4_acceptsPart 5 rfl) rfl rfl (pc1 := 12) rfl ?_
    refine iz_getI X fl_RX4_41 k_1 (ix_tb_at tb_X4_acceptsPart 6 rfl) (pc1 := 15) rfl ?_
    refine ix_iconst (v := 1) X (ix_tb_at tb_X4_acceptsPart 7 rfl) (by decide) (pc1 := 16) rfl ?_
    refine ix_isub X (ix_tb_at tb_X4_acceptsPart 8 rfl) (pc1 := 17) rfl ?_
    obtain ⟨k_22, h⟩ := ix_ck_some h
    refine iz_iald X k_22 (ix_tb_at tb_X4_acceptsPart 9 rfl) (pc1 := 18) rfl ?_
    refine ix_bipush (v := 8) X (ix_tb_at tb_X4_acceptsPart 10 rfl) (by decide) (pc1 := 20) rfl ?_
    refine ix_icmp_lt (tgt := 25) X (ix_tb_at tb_X4_acceptsPart 11 rfl) (by decide) (pc1 := 23) rfl (fun q_23 => ?_) (fun q_23 => ?_)
    · have h := ix_ift q_23 h
      refine ix_sub (L1 := [(0, .ref (K.2.2.1 + a0)), (1, .int x1)]) [0, 1] rfl ?_
      exact t_X4_acceptsPart_25 hKp hT X hr hlk  h
    · have h := ix_iff q_23 h
      refine ix_iconst (v := 0) X (ix_tb_at tb_X4_acceptsPart 12 rfl) (by decide) (pc1 := 24) rfl ?_
      exact ix_zret X hr hlk (by decide) (ix_r2 (f := fun r => some (.int r)) (g := ix_w z) h) (ix_tb_at tb_X4_acceptsPart 13 rfl)
def tab_X4_acceptsParen : List (Nat × Instr × Nat) := [(0, .iload_n 1, 1), (1, .bipush 40, 2), (3, .if_icmp .ne 12, 3), (6, .aload_n 0, 1), (7, .getfield 41, 3), (10, .bipush 8, 2), (12, .if_icmp .lt 5, 3), (15, .iconst 0, 1), (16, .ireturn, 1), (17, .aload_n 0, 1), (18, .getfield 25, 3), (21, .aload_n 0, 1), (22, .getfield 41, 3), (25, .aload_n 0, 1), (26, .getfield 86, 3), (29, .iastore, 1), (30, .aload_n 0, 1), (31, .getfield 28, 3), (34, .aload_n 0, 1), (35, .getfield 41, 3), (38, .iconst 0, 1), (39, .iastore, 1), (40, .aload_n 0, 1), (41, .getfield 31, 3), (44, .aload_n 0, 1), (45, .getfield 41, 3), (48, .aload_n 0, 1), (49, .getfield 44, 3), (52, .iastore, 1), (53, .aload_n 0, 1), (54, .dup, 1), (55, .getfield 41, 3), (58, .iconst 1, 1), (59, .iadd, 1), (60, .putfield 41, 3), (63, .aload_n 0, 1), (64, .iconst 0, 1), (65, .putfield 44, 3), (68, .aload_n 0, 1), (69, .iconst 0, 1), (70, .putfield 47, 3), (73, .iconst 1, 1), (74, .ireturn, 1)]
theorem tb_X4_acceptsParen : ix_tab cX4_acceptsParen tab_X4_acceptsParen := by
  unfold ix_tab
  decide +kernel
noncomputable def f_X4_acceptsParen (n : Nat) (z : ix_Z) (a0 : Nat) (x1 : Int32) (d : ix_D2) : Option (Int32 × ix_D2) :=
  ix_if (x1 = 40) (ix_ck (ix_ok z [4] a0) (ix_if (d.1 a0 11 < 8) (ix_bd1 (z.1 a0 8) (fun b_4 => ix_ck (ix_ix z 20 b_4 (d.1 a0 11)) (ix_lt (ix_di d b_4 (ix_n (d.1 a0 11)) (d.1 a0 13)) (fun d_7 => ix_bd1 (z.1 a0 9) (fun b_9 => ix_ck (ix_ix z 20 b_9 (d_7.1 a0 11)) (ix_lt (ix_di d_7 b_9 (ix_n (d_7.1 a0 11)) 0) (fun d_12 => ix_bd1 (z.1 a0 10) (fun b_14 => ix_ck (ix_ix z 20 b_14 (d_12.1 a0 11)) (ix_lt (ix_di d_12 b_14 (ix_n (d_12.1 a0 11)) (d_12.1 a0 14)) (fun d_17 => ix_lt (ix_di d_17 a0 11 ((d_17.1 a0 11) + 1)) (fun d_19 => ix_lt (ix_di d_19 a0 14 0) (fun d_21 => ix_lt (ix_di d_21 a0 12 0) (fun d_23 => some (1, d_23)))))))))))))) (some (0, d)))) (some (0, d))
set_option maxRecDepth 20000 in
theorem c_X4_acceptsParen {l : Launch} {K : ix_Cx} (hKp : ix_Kp K) {n : Nat} {z : ix_Z} {a0 : Nat} {x1 : Int32} {d : ix_D2} {r : Int32} {d1 : ix_D2} (h : f_X4_acceptsParen n z a0 x1 d = some (r, d1)) : ix_M l K yX4_acceptsParen cX4_acceptsParen 2 (some .boolean) 0 0 0 0 [.ref (K.2.2.1 + a0), .int x1] (ix_w z d) (some (.int r)) (ix_w z d1) := by
  refine ix_met mf_X4_acceptsParen hKp (Nat.le_of_ble_eq_true rfl) ?_
  intro p e s m args below meth c hr hlk hnm X
  have X : ix_X p s m args c K cX4_acceptsParen RX4 2 := X
  show ix_G p l e (ix_rm 0 0 0 0) s m args below meth c (MQ below (ix_Post K (some (.int r)) (ix_w z d1)) args s 0 0 (ix_A K)) K 2 0 0 0 [(0, .ref (K.2.2.1 + a0)), (1, .int x1)] [] (ix_w z d)
  unfold f_X4_acceptsParen at h
  refine ix_iload_n (i := 1) (j := 1) X (ix_tb_at tb_X4_acceptsParen 0 rfl) rfl rfl (pc1 := 1) rfl ?_
  refine ix_bipush (v := 40) X (ix_tb_at tb_X4_acceptsParen 1 rfl) (by decide) (pc1 := 3) rfl ?_
  refine ix_icmp_ne (tgt := 15) X (ix_tb_at tb_X4_acceptsParen 2 rfl) (by decide) (pc1 := 6) rfl (fun q_1 => ?_) (fun q_1 => ?_)
  · have h := ix_iff q_1 h
    refine ix_iconst (v := 0) X (ix_tb_at tb_X4_acceptsParen 7 rfl) (by decide) (pc1 := 16) rfl ?_
    exact ix_zret X hr hlk (by decide) (ix_r2 (f := fun r => some (.int r)) (g := ix_w z) h) (ix_tb_at tb_X4_acceptsParen 8 rfl)
  · have h := ix_ift q_1 h
    refine ix_aload_n (i := 0) (j := 0) X (ix_tb_at tb_X4_acceptsParen 3 rfl) rfl rfl (pc1 := 7) rfl ?_
    obtain ⟨k_2, h⟩ := ix_ck_some h
    refine iz_getI X fl_RX4_41 k_2 (ix_tb_at tb_X4_acceptsParen 4 rfl) (pc1 := 10) rfl ?_
    refine ix_bipush (v := 8) X (ix_tb_at tb_X4_acceptsParen 5 rfl) (by decide) (pc1 := 12) rfl ?_
    refine ix_icmp_lt (tgt := 17) X (ix_tb_at tb_X4_acceptsParen 6 rfl) (by decide) (pc1 := 15) rfl (fun q_3 => ?_) (fun q_3 => ?_)
    · have h := ix_ift q_3 h
      refine ix_aload_n (i := 0) (j := 0) X (ix_tb_at tb_X4_acceptsParen 9 rfl) rfl rfl (pc1 := 18) rfl ?_
      obtain ⟨b_4, q_5, h⟩ := ix_bd1_ex h
      refine iz_getR X fl_RX4_25 k_2 q_5 (ix_tb_at tb_X4_acceptsParen 10 rfl) (pc1 := 21) rfl ?_
      refine ix_aload_n (i := 0) (j := 0) X (ix_tb_at tb_X4_acceptsParen 11 rfl) rfl rfl (pc1 := 22) rfl ?_
      refine iz_getI X fl_RX4_41 k_2 (ix_tb_at tb_X4_acceptsParen 12 rfl) (pc1 := 25) rfl ?_
      refine ix_aload_n (i := 0) (j := 0) X (ix_tb_at tb_X4_acceptsParen 13 rfl) rfl rfl (pc1 := 26) rfl ?_
      refine iz_getI X fl_RX4_86 k_2 (ix_tb_at tb_X4_acceptsParen 14 rfl) (pc1 := 29) rfl ?_
      obtain ⟨k_6, h⟩ := ix_ck_some h
      obtain ⟨d_7, e_8, h⟩ := ix_lt_ex h
      refine iz_iast X k_6 (ix_tb_at tb_X4_acceptsParen 15 rfl) e_8 (pc1 := 30) rfl ?_
      refine ix_aload_n (i := 0) (j := 0) X (ix_tb_at tb_X4_acceptsParen 16 rfl) rfl rfl (pc1 := 31) rfl ?_
      obtain ⟨b_9, q_10, h⟩ := ix_bd1_ex h
      refine iz_getR X fl_RX4_28 k_2 q_10 (ix_tb_at tb_X4_acceptsParen 17 rfl) (pc1 := 34) rfl ?_
      refine ix_aload_n (i := 0) (j := 0) X (ix_tb_at tb_X4_acceptsParen 18 rfl) rfl rfl (pc1 := 35) rfl ?_
      refine iz_getI X fl_RX4_41 k_2 (ix_tb_at tb_X4_acceptsParen 19 rfl) (pc1 := 38) rfl ?_
      refine ix_iconst (v := 0) X (ix_tb_at tb_X4_acceptsParen 20 rfl) (by decide) (pc1 := 39) rfl ?_
      obtain ⟨k_11, h⟩ := ix_ck_some h
      obtain ⟨d_12, e_13, h⟩ := ix_lt_ex h
      refine iz_iast X k_11 (ix_tb_at tb_X4_acceptsParen 21 rfl) e_13 (pc1 := 40) rfl ?_
      refine ix_aload_n (i := 0) (j := 0) X (ix_tb_at tb_X4_acceptsParen 22 rfl) rfl rfl (pc1 := 41) rfl ?_
      obtain ⟨b_14, q_15, h⟩ := ix_bd1_ex h
      refine iz_getR X fl_RX4_31 k_2 q_15 (ix_tb_at tb_X4_acceptsParen 23 rfl) (pc1 := 44) rfl ?_
      refine ix_aload_n (i := 0) (j := 0) X (ix_tb_at tb_X4_acceptsParen 24 rfl) rfl rfl (pc1 := 45) rfl ?_
      refine iz_getI X fl_RX4_41 k_2 (ix_tb_at tb_X4_acceptsParen 25 rfl) (pc1 := 48) rfl ?_
      refine ix_aload_n (i := 0) (j := 0) X (ix_tb_at tb_X4_acceptsParen 26 rfl) rfl rfl (pc1 := 49) rfl ?_
      refine iz_getI X fl_RX4_44 k_2 (ix_tb_at tb_X4_acceptsParen 27 rfl) (pc1 := 52) rfl ?_
      obtain ⟨k_16, h⟩ := ix_ck_some h
      obtain ⟨d_17, e_18, h⟩ := ix_lt_ex h
      refine iz_iast X k_16 (ix_tb_at tb_X4_acceptsParen 28 rfl) e_18 (pc1 := 53) rfl ?_
      refine ix_aload_n (i := 0) (j := 0) X (ix_tb_at tb_X4_acceptsParen 29 rfl) rfl rfl (pc1 := 54) rfl ?_
      refine ix_dup X (ix_tb_at tb_X4_acceptsParen 30 rfl) rfl (pc1 := 55) rfl ?_
      refine iz_getI X fl_RX4_41 k_2 (ix_tb_at tb_X4_acceptsParen 31 rfl) (pc1 := 58) rfl ?_
      refine ix_iconst (v := 1) X (ix_tb_at tb_X4_acceptsParen 32 rfl) (by decide) (pc1 := 59) rfl ?_
      refine ix_iadd X (ix_tb_at tb_X4_acceptsParen 33 rfl) (pc1 := 60) rfl ?_
      obtain ⟨d_19, e_20, h⟩ := ix_lt_ex h
      refine iz_putI X fp_RX4_41 k_2 (ix_tb_at tb_X4_acceptsParen 34 rfl) e_20 (pc1 := 63) rfl ?_
      refine ix_aload_n (i := 0) (j := 0) X (ix_tb_at tb_X4_acceptsParen 35 rfl) rfl rfl (pc1 := 64) rfl ?_
      refine ix_iconst (v := 0) X (ix_tb_at tb_X4_acceptsParen 36 rfl) (by decide) (pc1 := 65) rfl ?_
      obtain ⟨d_21, e_22, h⟩ := ix_lt_ex h
      refine iz_putI X fp_RX4_44 k_2 (ix_tb_at tb_X4_acceptsParen 37 rfl) e_22 (pc1 := 68) rfl ?_
      refine ix_aload_n (i := 0) (j := 0) X (ix_tb_at tb_X4_acceptsParen 38 rfl) rfl rfl (pc1 := 69) rfl ?_
      refine ix_iconst (v := 0) X (ix_tb_at tb_X4_acceptsParen 39 rfl) (by decide) (pc1 := 70) rfl ?_
      obtain ⟨d_23, e_24, h⟩ := ix_lt_ex h
      refine iz_putI X fp_RX4_47 k_2 (ix_tb_at tb_X4_acceptsParen 40 rfl) e_24 (pc1 := 73) rfl ?_
      refine ix_iconst (v := 1) X (ix_tb_at tb_X4_acceptsParen 41 rfl) (by decide) (pc1 := 74) rfl ?_
      exact ix_zret X hr hlk (by decide) (ix_r2 (f := fun r => some (.int r)) (g := ix_w z) h) (ix_tb_at tb_X4_acceptsParen 42 rfl)
    · have h := ix_iff q_3 h
      refine ix_iconst (v := 0) X (ix_tb_at tb_X4_acceptsParen 7 rfl) (by decide) (pc1 := 16) rfl ?_
      exact ix_zret X hr hlk (by decide) (ix_r2 (f := fun r => some (.int r)) (g := ix_w z) h) (ix_tb_at tb_X4_acceptsParen 8 rfl)
def tab_X4_acceptsBehind : List (Nat × Instr × Nat) := [(0, .aload_n 0, 1), (1, .getfield 41, 3), (4, .ifCond .ne 5, 3), (7, .iconst 0, 1), (8, .ireturn, 1), (9, .aload_n 0, 1), (10, .getfield 28, 3), (13, .aload_n 0, 1), (14, .getfield 41, 3), (17, .iconst 1, 1), (18, .isub, 1), (19, .iaload, 1), (20, .istore_n 2, 1), (21, .aload_n 0, 1), (22, .getfield 25, 3), (25, .aload_n 0, 1), (26, .getfield 41, 3), (29, .iconst 1, 1), (30, .isub, 1), (31, .iaload, 1), (32, .iconst 2, 1), (33, .if_icmp .ne 7, 3), (36, .iconst 1, 1), (37, .goto 4, 3), (40, .iconst 0, 1), (41, .istore_n 3, 1), (42, .iload_n 1, 1), (43, .bipush 44, 2), (45, .if_icmp .ne 23, 3), (48, .aload_n 0, 1), (49, .iconst 0, 1), (50, .putfield 47, 3), (53, .iload_n 3, 1), (54, .ifCond .eq 8, 3), (57, .iload_n 2, 1), (58, .iconst 2, 1), (59, .if_icmp .ge 7, 3), (62, .iconst 1, 1), (63, .goto 4, 3), (66, .iconst 0, 1), (67, .ireturn, 1), (68, .iload_n 1, 1), (69, .bipush 41, 2), (71, .if_icmp .ne 12, 3), (74, .iload_n 3, 1), (75, .ifCond .eq 10, 3), (78, .iload_n 2, 1), (79, .iconst 2, 1), (80, .if_icmp .ge 5, 3), (83, .iconst 0, 1), (84, .ireturn, 1), (85, .aload_n 0, 1), (86, .dup, 1), (87, .getfield 41, 3), (90, .iconst 1, 1), (91, .isub, 1), (92, .putfield 41, 3), (95, .aload_n 0, 1), (96, .sipush 10000, 3), (99, .sipush 1000, 3), (102, .aload_n 0, 1), (103, .getfield 25, 3), (106, .aload_n 0, 1), (107, .getfield 41, 3), (110, .iaload, 1), (111, .imul, 1), (112, .iadd, 1), (113, .bipush 10, 2), (115, .iload_n 2, 1), (116, .imul, 1), (117, .iadd, 1), (118, .aload_n 0, 1), (119, .getfield 31, 3), (122, .aload_n 0, 1), (123, .getfield 41, 3), (126, .iaload, 1), (127, .iadd, 1), (128, .invokevirtual 89, 3), (131, .iconst 1, 1), (132, .ireturn, 1)]
theorem tb_X4_acceptsBehind : ix_tab cX4_acceptsBehind tab_X4_acceptsBehind := by
  unfold ix_tab
  decide +kernel
noncomputable def f_X4_acceptsBehind_85 (n : Nat) (z : ix_Z)  (a0 : Nat) (x2 : Int32) (d : ix_D2) : Option (Int32 × ix_D2) :=
  ix_ck (ix_ok z [4] a0) (ix_lt (ix_di d a0 11 ((d.1 a0 11) - 1)) (fun d_16 => ix_bd1 (z.1 a0 8) (fun b_18 => ix_ck (ix_ix z 20 b_18 (d_16.1 a0 11)) (ix_bd1 (z.1 a0 10) (fun b_21 => ix_ck (ix_ix z 20 b_21 (d_16.1 a0 11)) (ix_bd1 (f_X4_endPart n z a0 (((10000 + (1000 * (d_16.1 b_18 (ix_n (d_16.1 a0 11))))) + (10 * x2)) + (d_16.1 b_21 (ix_n (d_16.1 a0 11)))) d_16) (fun d_24 => some (1, d_24))))))))
noncomputable def f_X4_acceptsBehind_62 (n : Nat) (z : ix_Z)   (d : ix_D2) : Option (Int32 × ix_D2) :=
  some (1, d)
noncomputable def f_X4_acceptsBehind_41 (n : Nat) (z : ix_Z)  (a0 : Nat) (x1 : Int32) (x2 : Int32) (s0 : Int32) (d : ix_D2) : Option (Int32 × ix_D2) :=
  ix_if (x1 = 44) (ix_ck (ix_ok z [4] a0) (ix_lt (ix_di d a0 12 0) (fun d_28 => ix_if (s0 = 0) (f_X4_acceptsBehind_62 n z   d_28) (ix_if (2 ≤ x2) (some (0, d_28)) (f_X4_acceptsBehind_62 n z   d_28))))) (ix_if (x1 = 41) (ix_if (s0 = 0) (f_X4_acceptsBehind_85 n z  a0 x2 d) (ix_if (2 ≤ x2) (f_X4_acceptsBehind_85 n z  a0 x2 d) (some (0, d)))) (some (0, d)))
noncomputable def f_X4_acceptsBehind (n : Nat) (z : ix_Z) (a0 : Nat) (x1 : Int32) (d : ix_D2) : Option (Int32 × ix_D2) :=
  ix_ck (ix_ok z [4] a0) (ix_if (d.1 a0 11 = 0) (some (0, d)) (ix_bd1 (z.1 a0 9) (fun b_3 => ix_ck (ix_ix z 20 b_3 ((d.1 a0 11) - 1)) (ix_lt (d.1 b_3 (ix_n ((d.1 a0 11) - 1))) (fun x2_6 => ix_bd1 (z.1 a0 8) (fun b_8 => ix_ck (ix_ix z 20 b_8 ((d.1 a0 11) - 1)) (ix_if (d.1 b_8 (ix_n ((d.1 a0 11) - 1)) = 2) (f_X4_acceptsBehind_41 n z  a0 x1 x2_6 1 d) (f_X4_acceptsBehind_41 n z  a0 x1 x2_6 0 d))))))))
set_option maxRecDepth 20000 in
theorem t_X4_acceptsBehind_85 {l : Launch} {p : Program} {e : Env} {s : State} {m : MethodId} {args : Array Value} {below : List Frame} {meth : Method} {c : Code} {K : ix_Cx} (hKp : ix_Kp K) {n : Nat} {z : ix_Z} (X : ix_X p s m args c K cX4_acceptsBehind RX4 4) (hr : meth.sig.returnType = (some .boolean)) (hlk : meth.locks = false)  {a0 : Nat} {x2 : Int32} {r : Int32} {d1 : ix_D2}  {d : ix_D2} (h : f_X4_acceptsBehind_85 n z  a0 x2 d = some (r, d1)) : ix_G p l e (ix_rm 1 21 0 0) s m args below meth c (MQ below (ix_Post K (some (.int r)) (ix_w z d1)) args s 0 0 (ix_A K)) K 4 0 0 85 [(0, .ref (K.2.2.1 + a0)), (2, .int x2)] [] (ix_w z d) := by
  unfold f_X4_acceptsBehind_85 at h
  refine ix_aload_n (i := 0) (j := 0) X (ix_tb_at tb_X4_acceptsBehind 51 rfl) rfl rfl (pc1 := 86) rfl ?_
  refine ix_dup X (ix_tb_at tb_X4_acceptsBehind 52 rfl) rfl (pc1 := 87) rfl ?_
  obtain ⟨k_15, h⟩ := ix_ck_some h
  refine iz_getI X fl_RX4_41 k_15 (ix_tb_at tb_X4_acceptsBehind 53 rfl) (pc1 := 90) rfl ?_
  refine ix_iconst (v := 1) X (ix_tb_at tb_X4_acceptsBehind 54 rfl) (by decide) (pc1 := 91) rfl ?_
  refine ix_isub X (ix_tb_at tb_X4_acceptsBehind 55 rfl) (pc1 := 92) rfl ?_
  obtain ⟨d_16, e_17, h⟩ := ix_lt_ex h
  refine iz_putI X fp_RX4_41 k_15 (ix_tb_at tb_X4_acceptsBehind 56 rfl) e_17 (pc1 := 95) rfl ?_
  refine ix_aload_n (i := 0) (j := 0) X (ix_tb_at tb_X4_acceptsBehind 57 rfl) rfl rfl (pc1 := 96) rfl ?_
  refine ix_sipush (v := 10000) X (ix_tb_at tb_X4_acceptsBehind 58 rfl) (by decide) (pc1 := 99) rfl ?_
  refine ix_sipush (v := 1000) X (ix_tb_at tb_X4_acceptsBehind 59 rfl) (by decide) (pc1 := 102) rfl ?_
  refine ix_aload_n (i := 0) (j := 0) X (ix_tb_at tb_X4_acceptsBehind 60 rfl) rfl rfl (pc1 := 103) rfl ?_
  obtain ⟨b_18, q_19, h⟩ := ix_bd1_ex h
  refine iz_getR X fl_RX4_25 k_15 q_19 (ix_tb_at tb_X4_acceptsBehind 61 rfl) (pc1 := 106) rfl ?_
  refine ix_aload_n (i := 0) (j := 0) X (ix_tb_at tb_X4_acceptsBehind 62 rfl) rfl rfl (pc1 := 107) rfl ?_
  refine iz_getI X fl_RX4_41 k_15 (ix_tb_at tb_X4_acceptsBehind 63 rfl) (pc1 := 110) rfl ?_
  obtain ⟨k_20, h⟩ := ix_ck_some h
  refine iz_iald X k_20 (ix_tb_at tb_X4_acceptsBehind 64 rfl) (pc1 := 111) rfl ?_
  refine ix_imul X (ix_tb_at tb_X4_acceptsBehind 65 rfl) (pc1 := 112) rfl ?_
  refine ix_iadd X (ix_tb_at tb_X4_acceptsBehind 66 rfl) (pc1 := 113) rfl ?_
  refine ix_bipush (v := 10) X (ix_tb_at tb_X4_acceptsBehind 67 rfl) (by decide) (pc1 := 115) rfl ?_
  refine ix_iload_n (i := 2) (j := 1) X (ix_tb_at tb_X4_acceptsBehind 68 rfl) rfl rfl (pc1 := 116) rfl ?_
  refine ix_imul X (ix_tb_at tb_X4_acceptsBehind 69 rfl) (pc1 := 117) rfl ?_
  refine ix_iadd X (ix_tb_at tb_X4_acceptsBehind 70 rfl) (pc1 := 118) rfl ?_
  refine ix_aload_n (i := 0) (j := 0) X (ix_tb_at tb_X4_acceptsBehind 71 rfl) rfl rfl (pc1 := 119) rfl ?_
  obtain ⟨b_21, q_22, h⟩ := ix_bd1_ex h
  refine iz_getR X fl_RX4_31 k_15 q_22 (ix_tb_at tb_X4_acceptsBehind 72 rfl) (pc1 := 122) rfl ?_
  refine ix_aload_n (i := 0) (j := 0) X (ix_tb_at tb_X4_acceptsBehind 73 rfl) rfl rfl (pc1 := 123) rfl ?_
  refine iz_getI X fl_RX4_41 k_15 (ix_tb_at tb_X4_acceptsBehind 74 rfl) (pc1 := 126) rfl ?_
  obtain ⟨k_23, h⟩ := ix_ck_some h
  refine iz_iald X k_23 (ix_tb_at tb_X4_acceptsBehind 75 rfl) (pc1 := 127) rfl ?_
  refine ix_iadd X (ix_tb_at tb_X4_acceptsBehind 76 rfl) (pc1 := 128) rfl ?_
  obtain ⟨d_24, h_25, h⟩ := ix_bd1_ex h
  refine ix_callV (As := [.int (((10000 + (1000 * (d_16.1 b_18 (ix_n (d_16.1 a0 11))))) + (10 * x2)) + (d_16.1 b_21 (ix_n (d_16.1 a0 11))))]) (rest := []) (ci := 4) (T := TX4) (nf := 17) X mf_X4_endPart mi_X4_endPart ms_X4_endPart rfl (Nat.le_of_ble_eq_true rfl) ml_RX4_89 ⟨Nat.le_of_ble_eq_true rfl, Nat.le_of_ble_eq_true rfl⟩ ⟨Nat.le_of_ble_eq_true rfl, Nat.le_of_ble_eq_true rfl⟩ rfl (Nat.le_of_ble_eq_true rfl) (ix_tb_at tb_X4_acceptsBehind 77 rfl) ⟨k_15.1, List.mem_singleton.mp k_15.2⟩ (c_X4_endPart hKp h_25) rfl (pc1 := 131) rfl ?_
  refine ix_iconst (v := 1) X (ix_tb_at tb_X4_acceptsBehind 78 rfl) (by decide) (pc1 := 132) rfl ?_
  exact ix_zret X hr hlk (by decide) (ix_r2 (f := fun r => some (.int r)) (g := ix_w z) h) (ix_tb_at tb_X4_acceptsBehind 79 rfl)
set_option maxRecDepth 20000 in
theorem t_X4_acceptsBehind_62 {l : Launch} {p : Program} {e : Env} {s : State} {m : MethodId} {args : Array Value} {below : List Frame} {meth : Method} {c : Code} {K : ix_Cx} (hKp : ix_Kp K) {n : Nat} {z : ix_Z} (X : ix_X p s m args c K cX4_acceptsBehind RX4 4) (hr : meth.sig.returnType = (some .boolean)) (hlk : meth.locks = false)   {r : Int32} {d1 : ix_D2}  {d : ix_D2} (h : f_X4_acceptsBehind_62 n z   d = some (r, d1)) : ix_G p l e (ix_rm 1 21 0 0) s m args below meth c (MQ below (ix_Post K (some (.int r)) (ix_w z d1)) args s 0 0 (ix_A K)) K 4 0 0 62 [] [] (ix_w z d) := by
  unfold f_X4_acceptsBehind_62 at h
  refine ix_iconst (v := 1) X (ix_tb_at tb_X4_acceptsBehind 37 rfl) (by decide) (pc1 := 63) rfl ?_
  refine ix_goto (tgt := 67) X (ix_tb_at tb_X4_acceptsBehind 38 rfl) (by decide) ?_
  exact ix_zret X hr hlk (by decide) (ix_r2 (f := fun r => some (.int r)) (g := ix_w z) h) (ix_tb_at tb_X4_acceptsBehind 40 rfl)
set_option maxRecDepth 20000 in
theorem t_X4_acceptsBehind_41 {l : Launch} {p : Program} {e : Env} {s : State} {m : MethodId} {args : Array Value} {below : List Frame} {meth : Method} {c : Code} {K : ix_Cx} (hKp : ix_Kp K) {n : Nat} {z : ix_Z} (X : ix_X p s m args c K cX4_acceptsBehind RX4 4) (hr : meth.sig.returnType = (some .boolean)) (hlk : meth.locks = false)  {a0 : Nat} {x1 : Int32} {x2 : Int32} {s0 : Int32} {r : Int32} {d1 : ix_D2}  {d : ix_D2} (h : f_X4_acceptsBehind_41 n z  a0 x1 x2 s0 d = some (r, d1)) : ix_G p l e (ix_rm 1 21 0 0) s m args below meth c (MQ below (ix_Post K (some (.int r)) (ix_w z d1)) args s 0 0 (ix_A K)) K 4 0 0 41 [(0, .ref (K.2.2.1 + a0)), (1, .int x1), (2, .int x2)] [.int s0] (ix_w z d) := by
  unfold f_X4_acceptsBehind_41 at h
  refine ix_istore_n (i := 3) (L1 := [(3, .int s0), (0, .ref (K.2.2.1 + a0)), (1, .int x1), (2, .int x2)]) X (ix_tb_at tb_X4_acceptsBehind 25 rfl) rfl (Nat.le_of_ble_eq_true rfl) rfl (pc1 := 42) rfl ?_
  refine ix_iload_n (i := 1) (j := 2) X (ix_tb_at tb_X4_acceptsBehind 26 rfl) rfl rfl (pc1 := 43) rfl ?_
  refine ix_bipush (v := 44) X (ix_tb_at tb_X4_acceptsBehind 27 rfl) (by decide) (pc1 := 45) rfl ?_
  refine ix_icmp_ne (tgt := 68) X (ix_tb_at tb_X4_acceptsBehind 28 rfl) (by decide) (pc1 := 48) rfl (fun q_12 => ?_) (fun q_12 => ?_)
  · have h := ix_iff q_12 h
    refine ix_iload_n (i := 1) (j := 2) X (ix_tb_at tb_X4_acceptsBehind 41 rfl) rfl rfl (pc1 := 69) rfl ?_
    refine ix_bipush (v := 41) X (ix_tb_at tb_X4_acceptsBehind 42 rfl) (by decide) (pc1 := 71) rfl ?_
    refine ix_icmp_ne (tgt := 83) X (ix_tb_at tb_X4_acceptsBehind 43 rfl) (by decide) (pc1 := 74) rfl (fun q_13 => ?_) (fun q_13 => ?_)
    · have h := ix_iff q_13 h
      refine ix_iconst (v := 0) X (ix_tb_at tb_X4_acceptsBehind 49 rfl) (by decide) (pc1 := 84) rfl ?_
      exact ix_zret X hr hlk (by decide) (ix_r2 (f := fun r => some (.int r)) (g := ix_w z) h) (ix_tb_at tb_X4_acceptsBehind 50 rfl)
    · have h := ix_ift q_13 h
      refine ix_iload_n (i := 3) (j := 0) X (ix_tb_at tb_X4_acceptsBehind 44 rfl) rfl rfl (pc1 := 75) rfl ?_
      refine ix_if_eq (tgt := 85) X (ix_tb_at tb_X4_acceptsBehind 45 rfl) (by decide) (pc1 := 78) rfl (fun q_14 => ?_) (fun q_14 => ?_)
      · have h := ix_ift q_14 h
        refine ix_sub (L1 := [(0, .ref (K.2.2.1 + a0)), (2, .int x2)]) [1, 3] rfl ?_
        exact t_X4_acceptsBehind_85 hKp X hr hlk  h
      · have h := ix_iff q_14 h
        refine ix_iload_n (i := 2) (j := 3) X (ix_tb_at tb_X4_acceptsBehind 46 rfl) rfl rfl (pc1 := 79) rfl ?_
        refine ix_iconst (v := 2) X (ix_tb_at tb_X4_acceptsBehind 47 rfl) (by decide) (pc1 := 80) rfl ?_
        refine ix_icmp_ge (tgt := 85) X (ix_tb_at tb_X4_acceptsBehind 48 rfl) (by decide) (pc1 := 83) rfl (fun q_26 => ?_) (fun q_26 => ?_)
        · have h := ix_ift q_26 h
          refine ix_sub (L1 := [(0, .ref (K.2.2.1 + a0)), (2, .int x2)]) [1, 3] rfl ?_
          exact t_X4_acceptsBehind_85 hKp X hr hlk  h
        · have h := ix_iff q_26 h
          refine ix_iconst (v := 0) X (ix_tb_at tb_X4_acceptsBehind 49 rfl) (by decide) (pc1 := 84) rfl ?_
          exact ix_zret X hr hlk (by decide) (ix_r2 (f := fun r => some (.int r)) (g := ix_w z) h) (ix_tb_at tb_X4_acceptsBehind 50 rfl)
  · have h := ix_ift q_12 h
    refine ix_aload_n (i := 0) (j := 1) X (ix_tb_at tb_X4_acceptsBehind 29 rfl) rfl rfl (pc1 := 49) rfl ?_
    refine ix_iconst (v := 0) X (ix_tb_at tb_X4_acceptsBehind 30 rfl) (by decide) (pc1 := 50) rfl ?_
    obtain ⟨k_27, h⟩ := ix_ck_some h
    obtain ⟨d_28, e_29, h⟩ := ix_lt_ex h
    refine iz_putI X fp_RX4_47 k_27 (ix_tb_at tb_X4_acceptsBehind 31 rfl) e_29 (pc1 := 53) rfl ?_
    refine ix_iload_n (i := 3) (j := 0) X (ix_tb_at tb_X4_acceptsBehind 32 rfl) rfl rfl (pc1 := 54) rfl ?_
    refine ix_if_eq (tgt := 62) X (ix_tb_at tb_X4_acceptsBehind 33 rfl) (by decide) (pc1 := 57) rfl (fun q_30 => ?_) (fun q_30 => ?_)
    · have h := ix_ift q_30 h
      refine ix_sub (L1 := []) [] rfl ?_
      exact t_X4_acceptsBehind_62 hKp X hr hlk  h
    · have h := ix_iff q_30 h
      refine ix_iload_n (i := 2) (j := 3) X (ix_tb_at tb_X4_acceptsBehind 34 rfl) rfl rfl (pc1 := 58) rfl ?_
      refine ix_iconst (v := 2) X (ix_tb_at tb_X4_acceptsBehind 35 rfl) (by decide) (pc1 := 59) rfl ?_
      refine ix_icmp_ge (tgt := 66) X (ix_tb_at tb_X4_acceptsBehind 36 rfl) (by decide) (pc1 := 62) rfl (fun q_31 => ?_) (fun q_31 => ?_)
      · have h := ix_ift q_31 h
        refine ix_iconst (v := 0) X (ix_tb_at tb_X4_acceptsBehind 39 rfl) (by decide) (pc1 := 67) rfl ?_
        exact ix_zret X hr hlk (by decide) (ix_r2 (f := fun r => some (.int r)) (g := ix_w z) h) (ix_tb_at tb_X4_acceptsBehind 40 rfl)
      · have h := ix_iff q_31 h
        refine ix_sub (L1 := []) [] rfl ?_
        exact t_X4_acceptsBehind_62 hKp X hr hlk  h
set_option maxRecDepth 20000 in
theorem c_X4_acceptsBehind {l : Launch} {K : ix_Cx} (hKp : ix_Kp K) {n : Nat} {z : ix_Z} {a0 : Nat} {x1 : Int32} {d : ix_D2} {r : Int32} {d1 : ix_D2} (h : f_X4_acceptsBehind n z a0 x1 d = some (r, d1)) : ix_M l K yX4_acceptsBehind cX4_acceptsBehind 4 (some .boolean) 1 21 0 0 [.ref (K.2.2.1 + a0), .int x1] (ix_w z d) (some (.int r)) (ix_w z d1) := by
  refine ix_met mf_X4_acceptsBehind hKp (Nat.le_of_ble_eq_true rfl) ?_
  intro p e s m args below meth c hr hlk hnm X
  have X : ix_X p s m args c K cX4_acceptsBehind RX4 4 := X
  show ix_G p l e (ix_rm 1 21 0 0) s m args below meth c (MQ below (ix_Post K (some (.int r)) (ix_w z d1)) args s 0 0 (ix_A K)) K 4 0 0 0 [(0, .ref (K.2.2.1 + a0)), (1, .int x1)] [] (ix_w z d)
  unfold f_X4_acceptsBehind at h
  refine ix_aload_n (i := 0) (j := 0) X (ix_tb_at tb_X4_acceptsBehind 0 rfl) rfl rfl (pc1 := 1) rfl ?_
  obtain ⟨k_1, h⟩ := ix_ck_some h
  refine iz_getI X fl_RX4_41 k_1 (ix_tb_at tb_X4_acceptsBehind 1 rfl) (pc1 := 4) rfl ?_
  refine ix_if_ne (tgt := 9) X (ix_tb_at tb_X4_acceptsBehind 2 rfl) (by decide) (pc1 := 7) rfl (fun q_2 => ?_) (fun q_2 => ?_)
  · have h := ix_iff q_2 h
    refine ix_aload_n (i := 0) (j := 0) X (ix_tb_at tb_X4_acceptsBehind 5 rfl) rfl rfl (pc1 := 10) rfl ?_
    obtain ⟨b_3, q_4, h⟩ := ix_bd1_ex h
    refine iz_getR X fl_RX4_28 k_1 q_4 (ix_tb_at tb_X4_acceptsBehind 6 rfl) (pc1 := 13) rfl ?_
    refine ix_aload_n (i := 0) (j := 0) X (ix_tb_at tb_X4_acceptsBehind 7 rfl) rfl rfl (pc1 := 14) rfl ?_
    refine iz_getI X fl_RX4_41 k_1 (ix_tb_at tb_X4_acceptsBehind 8 rfl) (pc1 := 17) rfl ?_
    refine ix_iconst (v := 1) X (ix_tb_at tb_X4_acceptsBehind 9 rfl) (by decide) (pc1 := 18) rfl ?_
    refine ix_isub X (ix_tb_at tb_X4_acceptsBehind 10 rfl) (pc1 := 19) rfl ?_
    obtain ⟨k_5, h⟩ := ix_ck_some h
    refine iz_iald X k_5 (ix_tb_at tb_X4_acceptsBehind 11 rfl) (pc1 := 20) rfl ?_
    obtain ⟨x2_6, e_7, h⟩ := ix_lt_ex h
    refine ix_nmi e_7 ?_
    refine ix_istore_n (i := 2) (L1 := [(2, .int x2_6), (0, .ref (K.2.2.1 + a0)), (1, .int x1)]) X (ix_tb_at tb_X4_acceptsBehind 12 rfl) rfl (Nat.le_of_ble_eq_true rfl) rfl (pc1 := 21) rfl ?_
    refine ix_aload_n (i := 0) (j := 1) X (ix_tb_at tb_X4_acceptsBehind 13 rfl) rfl rfl (pc1 := 22) rfl ?_
    obtain ⟨b_8, q_9, h⟩ := ix_bd1_ex h
    refine iz_getR X fl_RX4_25 k_1 q_9 (ix_tb_at tb_X4_acceptsBehind 14 rfl) (pc1 := 25) rfl ?_
    refine ix_aload_n (i := 0) (j := 1) X (ix_tb_at tb_X4_acceptsBehind 15 rfl) rfl rfl (pc1 := 26) rfl ?_
    refine iz_getI X fl_RX4_41 k_1 (ix_tb_at tb_X4_acceptsBehind 16 rfl) (pc1 := 29) rfl ?_
    refine ix_iconst (v := 1) X (ix_tb_at tb_X4_acceptsBehind 17 rfl) (by decide) (pc1 := 30) rfl ?_
    refine ix_isub X (ix_tb_at tb_X4_acceptsBehind 18 rfl) (pc1 := 31) rfl ?_
    obtain ⟨k_10, h⟩ := ix_ck_some h
    refine iz_iald X k_10 (ix_tb_at tb_X4_acceptsBehind 19 rfl) (pc1 := 32) rfl ?_
    refine ix_iconst (v := 2) X (ix_tb_at tb_X4_acceptsBehind 20 rfl) (by decide) (pc1 := 33) rfl ?_
    refine ix_icmp_ne (tgt := 40) X (ix_tb_at tb_X4_acceptsBehind 21 rfl) (by decide) (pc1 := 36) rfl (fun q_11 => ?_) (fun q_11 => ?_)
    · have h := ix_iff q_11 h
      refine ix_iconst (v := 0) X (ix_tb_at tb_X4_acceptsBehind 24 rfl) (by decide) (pc1 := 41) rfl ?_
      refine ix_sub (L1 := [(0, .ref (K.2.2.1 + a0)), (1, .int x1), (2, .int x2_6)]) [1, 2, 0] rfl ?_
      exact t_X4_acceptsBehind_41 hKp X hr hlk  h
    · have h := ix_ift q_11 h
      refine ix_iconst (v := 1) X (ix_tb_at tb_X4_acceptsBehind 22 rfl) (by decide) (pc1 := 37) rfl ?_
      refine ix_goto (tgt := 41) X (ix_tb_at tb_X4_acceptsBehind 23 rfl) (by decide) ?_
      refine ix_sub (L1 := [(0, .ref (K.2.2.1 + a0)), (1, .int x1), (2, .int x2_6)]) [1, 2, 0] rfl ?_
      exact t_X4_acceptsBehind_41 hKp X hr hlk  h
  · have h := ix_ift q_2 h
    refine ix_iconst (v := 0) X (ix_tb_at tb_X4_acceptsBehind 3 rfl) (by decide) (pc1 := 8) rfl ?_
    exact ix_zret X hr hlk (by decide) (ix_r2 (f := fun r => some (.int r)) (g := ix_w z) h) (ix_tb_at tb_X4_acceptsBehind 4 rfl)
def tab_X4_accepts : List (Nat × Instr × Nat) := [(0, .aload_n 0, 1), (1, .getfield 47, 3), (4, .iconst 3, 1), (5, .if_icmp .ne 20, 3), (8, .iload_n 1, 1), (9, .invokestatic 57, 3), (12, .ifCond .eq 9, 3), (15, .aload_n 0, 1), (16, .iload_n 1, 1), (17, .invokevirtual 60, 3), (20, .ireturn, 1), (21, .aload_n 0, 1), (22, .invokevirtual 54, 3), (25, .aload_n 0, 1), (26, .getfield 47, 3), (29, .tableswitch 75 0 2 #[27, 33, 39], 27), (56, .aload_n 0, 1), (57, .iload_n 1, 1), (58, .invokevirtual 63, 3), (61, .ireturn, 1), (62, .aload_n 0, 1), (63, .iload_n 1, 1), (64, .invokevirtual 66, 3), (67, .ireturn, 1), (68, .aload_n 0, 1), (69, .iconst 0, 1), (70, .putfield 69, 3), (73, .aload_n 0, 1), (74, .iconst 0, 1), (75, .putfield 72, 3), (78, .aload_n 0, 1), (79, .iconst 3, 1), (80, .putfield 47, 3), (83, .iload_n 1, 1), (84, .invokestatic 57, 3), (87, .ifCond .eq 15, 3), (90, .aload_n 0, 1), (91, .iload_n 1, 1), (92, .invokevirtual 60, 3), (95, .ifCond .eq 7, 3), (98, .iconst 1, 1), (99, .goto 4, 3), (102, .iconst 0, 1), (103, .ireturn, 1), (104, .aload_n 0, 1), (105, .iload_n 1, 1), (106, .invokevirtual 75, 3), (109, .ireturn, 1)]
theorem tb_X4_accepts : ix_tab cX4_accepts tab_X4_accepts := by
  unfold ix_tab
  decide +kernel
noncomputable def f_X4_accepts_25 (n : Nat) (z : ix_Z)  (a0 : Nat) (x1 : Int32) (d : ix_D2) : Option (Int32 × ix_D2) :=
  ix_ck (ix_ok z [4] a0) (ix_if (d.1 a0 12 = 0) (ix_bd2 (f_X4_acceptsPart n z a0 x1 d) (fun r_7 d_5 => ix_ck (r_7 = 0 ∨ r_7 = 1) (some (r_7, d_5)))) (ix_if (d.1 a0 12 = 1) (ix_bd2 (f_X4_acceptsParen n z a0 x1 d) (fun r_12 d_10 => ix_ck (r_12 = 0 ∨ r_12 = 1) (some (r_12, d_10)))) (ix_if (d.1 a0 12 = 2) (ix_lt (ix_di d a0 15 0) (fun d_15 => ix_lt (ix_di d_15 a0 16 0) (fun d_17 => ix_lt (ix_di d_17 a0 12 3) (fun d_19 => ix_bd2 (f_X4_isDigit n z x1 d_19) (fun r_23 d_21 => ix_if (r_23 = 0) (some (0, d_21)) (ix_bd2 (f_X4_acceptsDigit n z a0 x1 d_21) (fun r_27 d_25 => ix_if (r_27 = 0) (some (0, d_25)) (some (1, d_25))))))))) (ix_bd2 (f_X4_acceptsBehind n z a0 x1 d) (fun r_31 d_29 => ix_ck (r_31 = 0 ∨ r_31 = 1) (some (r_31, d_29)))))))
noncomputable def f_X4_accepts (n : Nat) (z : ix_Z) (a0 : Nat) (x1 : Int32) (d : ix_D2) : Option (Int32 × ix_D2) :=
  ix_ck (ix_ok z [4] a0) (ix_if (d.1 a0 12 = 3) (ix_bd2 (f_X4_isDigit n z x1 d) (fun r_35 d_33 => ix_if (r_35 = 0) (ix_bd1 (f_X4_endNumber n z a0 d_33) (fun d_37 => f_X4_accepts_25 n z  a0 x1 d_37)) (ix_bd2 (f_X4_acceptsDigit n z a0 x1 d_33) (fun r_41 d_39 => ix_ck (r_41 = 0 ∨ r_41 = 1) (some (r_41, d_39)))))) (f_X4_accepts_25 n z  a0 x1 d))
set_option maxRecDepth 20000 in
theorem t_X4_accepts_25 {l : Launch} {p : Program} {e : Env} {s : State} {m : MethodId} {args : Array Value} {below : List Frame} {meth : Method} {c : Code} {K : ix_Cx} (hKp : ix_Kp K) {n : Nat} {z : ix_Z} (hT : ix_Tc K) (X : ix_X p s m args c K cX4_accepts RX4 2) (hr : meth.sig.returnType = (some .boolean)) (hlk : meth.locks = false)  {a0 : Nat} {x1 : Int32} {r : Int32} {d1 : ix_D2}  {d : ix_D2} (h : f_X4_accepts_25 n z  a0 x1 d = some (r, d1)) : ix_G p l e (ix_rm 5 112 0 0) s m args below meth c (MQ below (ix_Post K (some (.int r)) (ix_w z d1)) args s 0 0 (ix_A K)) K 2 0 0 25 [(0, .ref (K.2.2.1 + a0)), (1, .int x1)] [] (ix_w z d) := by
  unfold f_X4_accepts_25 at h
  refine ix_aload_n (i := 0) (j := 0) X (ix_tb_at tb_X4_accepts 13 rfl) rfl rfl (pc1 := 26) rfl ?_
  obtain ⟨k_3, h⟩ := ix_ck_some h
  refine iz_getI X fl_RX4_47 k_3 (ix_tb_at tb_X4_accepts 14 rfl) (pc1 := 29) rfl ?_
  rcases Classical.em (d.1 a0 12 = 0) with q_4 | q_4
  · have h := ix_ift q_4 h
    refine ix_swin (tgt := 56) X (ix_tb_at tb_X4_accepts 15 rfl) (by rw [q_4]; decide) (by rw [q_4]; decide) (by rw [q_4]; rfl) (by decide) ?_
    refine ix_aload_n (i := 0) (j := 0) X (ix_tb_at tb_X4_accepts 16 rfl) rfl rfl (pc1 := 57) rfl ?_
    refine ix_iload_n (i := 1) (j := 1) X (ix_tb_at tb_X4_accepts 17 rfl) rfl rfl (pc1 := 58) rfl ?_
    obtain ⟨r_7, d_5, h_6, h⟩ := ix_bd2_ex h
    refine ix_callV (As := [.int x1]) (rest := []) (ci := 4) (T := TX4) (nf := 17) X mf_X4_acceptsPart mi_X4_acceptsPart ms_X4_acceptsPart rfl (Nat.le_of_ble_eq_true rfl) ml_RX4_63 ⟨Nat.le_of_ble_eq_true rfl, Nat.le_of_ble_eq_true rfl⟩ ⟨Nat.le_of_ble_eq_true rfl, Nat.le_of_ble_eq_true rfl⟩ rfl (Nat.le_of_ble_eq_true rfl) (ix_tb_at tb_X4_accepts 18 rfl) ⟨k_3.1, List.mem_singleton.mp k_3.2⟩ (c_X4_acceptsPart hKp hT h_6) rfl (pc1 := 61) rfl ?_
    obtain ⟨k_8, h⟩ := ix_ck_some h
    exact ix_zret X hr hlk k_8 (ix_r2 (f := fun r => some (.int r)) (g := ix_w z) h) (ix_tb_at tb_X4_accepts 19 rfl)
  · have h := ix_iff q_4 h
    rcases Classical.em (d.1 a0 12 = 1) with q_9 | q_9
    · have h := ix_ift q_9 h
      refine ix_swin (tgt := 62) X (ix_tb_at tb_X4_accepts 15 rfl) (by rw [q_9]; decide) (by rw [q_9]; decide) (by rw [q_9]; rfl) (by decide) ?_
      refine ix_aload_n (i := 0) (j := 0) X (ix_tb_at tb_X4_accepts 20 rfl) rfl rfl (pc1 := 63) rfl ?_
      refine ix_iload_n (i := 1) (j := 1) X (ix_tb_at tb_X4_accepts 21 rfl) rfl rfl (pc1 := 64) rfl ?_
      obtain ⟨r_12, d_10, h_11, h⟩ := ix_bd2_ex h
      refine ix_callV (As := [.int x1]) (rest := []) (ci := 4) (T := TX4) (nf := 17) X mf_X4_acceptsParen mi_X4_acceptsParen ms_X4_acceptsParen rfl (Nat.le_of_ble_eq_true rfl) ml_RX4_66 ⟨Nat.le_of_ble_eq_true rfl, Nat.le_of_ble_eq_true rfl⟩ ⟨Nat.le_of_ble_eq_true rfl, Nat.le_of_ble_eq_true rfl⟩ rfl (Nat.le_of_ble_eq_true rfl) (ix_tb_at tb_X4_accepts 22 rfl) ⟨k_3.1, List.mem_singleton.mp k_3.2⟩ (c_X4_acceptsParen hKp h_11) rfl (pc1 := 67) rfl ?_
      obtain ⟨k_13, h⟩ := ix_ck_some h
      exact ix_zret X hr hlk k_13 (ix_r2 (f := fun r => some (.int r)) (g := ix_w z) h) (ix_tb_at tb_X4_accepts 23 rfl)
    · have h := ix_iff q_9 h
      rcases Classical.em (d.1 a0 12 = 2) with q_14 | q_14
      · have h := ix_ift q_14 h
        refine ix_swin (tgt := 68) X (ix_tb_at tb_X4_accepts 15 rfl) (by rw [q_14]; decide) (by rw [q_14]; decide) (by rw [q_14]; rfl) (by decide) ?_
        refine ix_aload_n (i := 0) (j := 0) X (ix_tb_at tb_X4_accepts 24 rfl) rfl rfl (pc1 := 69) rfl ?_
        refine ix_iconst (v := 0) X (ix_tb_at tb_X4_accepts 25 rfl) (by decide) (pc1 := 70) rfl ?_
        obtain ⟨d_15, e_16, h⟩ := ix_lt_ex h
        refine iz_putI X fp_RX4_69 k_3 (ix_tb_at tb_X4_accepts 26 rfl) e_16 (pc1 := 73) rfl ?_
        refine ix_aload_n (i := 0) (j := 0) X (ix_tb_at tb_X4_accepts 27 rfl) rfl rfl (pc1 := 74) rfl ?_
        refine ix_iconst (v := 0) X (ix_tb_at tb_X4_accepts 28 rfl) (by decide) (pc1 := 75) rfl ?_
        obtain ⟨d_17, e_18, h⟩ := ix_lt_ex h
        refine iz_putI X fp_RX4_72 k_3 (ix_tb_at tb_X4_accepts 29 rfl) e_18 (pc1 := 78) rfl ?_
        refine ix_aload_n (i := 0) (j := 0) X (ix_tb_at tb_X4_accepts 30 rfl) rfl rfl (pc1 := 79) rfl ?_
        refine ix_iconst (v := 3) X (ix_tb_at tb_X4_accepts 31 rfl) (by decide) (pc1 := 80) rfl ?_
        obtain ⟨d_19, e_20, h⟩ := ix_lt_ex h
        refine iz_putI X fp_RX4_47 k_3 (ix_tb_at tb_X4_accepts 32 rfl) e_20 (pc1 := 83) rfl ?_
        refine ix_iload_n (i := 1) (j := 1) X (ix_tb_at tb_X4_accepts 33 rfl) rfl rfl (pc1 := 84) rfl ?_
        obtain ⟨r_23, d_21, h_22, h⟩ := ix_bd2_ex h
        refine ix_callS (As := [.int x1]) (rest := []) X mf_X4_isDigit st_X4_isDigit ml_RX4_57 ⟨Nat.le_of_ble_eq_true rfl, Nat.le_of_ble_eq_true rfl⟩ ⟨Nat.le_of_ble_eq_true rfl, Nat.le_of_ble_eq_true rfl⟩ rfl (Nat.le_of_ble_eq_true rfl) (ix_tb_at tb_X4_accepts 34 rfl) (c_X4_isDigit hKp h_22) rfl (pc1 := 87) rfl ?_
        refine ix_if_eq (tgt := 102) X (ix_tb_at tb_X4_accepts 35 rfl) (by decide) (pc1 := 90) rfl (fun q_24 => ?_) (fun q_24 => ?_)
        · have h := ix_ift q_24 h
          refine ix_iconst (v := 0) X (ix_tb_at tb_X4_accepts 42 rfl) (by decide) (pc1 := 103) rfl ?_
          exact ix_zret X hr hlk (by decide) (ix_r2 (f := fun r => some (.int r)) (g := ix_w z) h) (ix_tb_at tb_X4_accepts 43 rfl)
        · have h := ix_iff q_24 h
          refine ix_aload_n (i := 0) (j := 0) X (ix_tb_at tb_X4_accepts 36 rfl) rfl rfl (pc1 := 91) rfl ?_
          refine ix_iload_n (i := 1) (j := 1) X (ix_tb_at tb_X4_accepts 37 rfl) rfl rfl (pc1 := 92) rfl ?_
          obtain ⟨r_27, d_25, h_26, h⟩ := ix_bd2_ex h
          refine ix_callV (As := [.int x1]) (rest := []) (ci := 4) (T := TX4) (nf := 17) X mf_X4_acceptsDigit mi_X4_acceptsDigit ms_X4_acceptsDigit rfl (Nat.le_of_ble_eq_true rfl) ml_RX4_60 ⟨Nat.le_of_ble_eq_true rfl, Nat.le_of_ble_eq_true rfl⟩ ⟨Nat.le_of_ble_eq_true rfl, Nat.le_of_ble_eq_true rfl⟩ rfl (Nat.le_of_ble_eq_true rfl) (ix_tb_at tb_X4_accepts 38 rfl) ⟨k_3.1, List.mem_singleton.mp k_3.2⟩ (c_X4_acceptsDigit hKp h_26) rfl (pc1 := 95) rfl ?_
          refine ix_if_eq (tgt := 102) X (ix_tb_at tb_X4_accepts 39 rfl) (by decide) (pc1 := 98) rfl (fun q_28 => ?_) (fun q_28 => ?_)
          · have h := ix_ift q_28 h
            refine ix_iconst (v := 0) X (ix_tb_at tb_X4_accepts 42 rfl) (by decide) (pc1 := 103) rfl ?_
            exact ix_zret X hr hlk (by decide) (ix_r2 (f := fun r => some (.int r)) (g := ix_w z) h) (ix_tb_at tb_X4_accepts 43 rfl)
          · have h := ix_iff q_28 h
            refine ix_iconst (v := 1) X (ix_tb_at tb_X4_accepts 40 rfl) (by decide) (pc1 := 99) rfl ?_
            refine ix_goto (tgt := 103) X (ix_tb_at tb_X4_accepts 41 rfl) (by decide) ?_
            exact ix_zret X hr hlk (by decide) (ix_r2 (f := fun r => some (.int r)) (g := ix_w z) h) (ix_tb_at tb_X4_accepts 43 rfl)
      · have h := ix_iff q_14 h
        refine ix_swout (tgt := 104) X (ix_tb_at tb_X4_accepts 15 rfl) (by have wq_4 := ix_ne (a := 0) (by decide) q_4; have wq_9 := ix_ne (a := 1) (by decide) q_9; have wq_14 := ix_ne (a := 2) (by decide) q_14; omega) (by decide) ?_
        refine ix_aload_n (i := 0) (j := 0) X (ix_tb_at tb_X4_accepts 44 rfl) rfl rfl (pc1 := 105) rfl ?_
        refine ix_iload_n (i := 1) (j := 1) X (ix_tb_at tb_X4_accepts 45 rfl) rfl rfl (pc1 := 106) rfl ?_
        obtain ⟨r_31, d_29, h_30, h⟩ := ix_bd2_ex h
        refine ix_callV (As := [.int x1]) (rest := []) (ci := 4) (T := TX4) (nf := 17) X mf_X4_acceptsBehind mi_X4_acceptsBehind ms_X4_acceptsBehind rfl (Nat.le_of_ble_eq_true rfl) ml_RX4_75 ⟨Nat.le_of_ble_eq_true rfl, Nat.le_of_ble_eq_true rfl⟩ ⟨Nat.le_of_ble_eq_true rfl, Nat.le_of_ble_eq_true rfl⟩ rfl (Nat.le_of_ble_eq_true rfl) (ix_tb_at tb_X4_accepts 46 rfl) ⟨k_3.1, List.mem_singleton.mp k_3.2⟩ (c_X4_acceptsBehind hKp h_30) rfl (pc1 := 109) rfl ?_
        obtain ⟨k_32, h⟩ := ix_ck_some h
        exact ix_zret X hr hlk k_32 (ix_r2 (f := fun r => some (.int r)) (g := ix_w z) h) (ix_tb_at tb_X4_accepts 47 rfl)
set_option maxRecDepth 20000 in
theorem c_X4_accepts {l : Launch} {K : ix_Cx} (hKp : ix_Kp K) (hT : ix_Tc K) {n : Nat} {z : ix_Z} {a0 : Nat} {x1 : Int32} {d : ix_D2} {r : Int32} {d1 : ix_D2} (h : f_X4_accepts n z a0 x1 d = some (r, d1)) : ix_M l K yX4_accepts cX4_accepts 2 (some .boolean) 5 112 0 0 [.ref (K.2.2.1 + a0), .int x1] (ix_w z d) (some (.int r)) (ix_w z d1) := by
  refine ix_met mf_X4_accepts hKp (Nat.le_of_ble_eq_true rfl) ?_
  intro p e s m args below meth c hr hlk hnm X
  have X : ix_X p s m args c K cX4_accepts RX4 2 := X
  show ix_G p l e (ix_rm 5 112 0 0) s m args below meth c (MQ below (ix_Post K (some (.int r)) (ix_w z d1)) args s 0 0 (ix_A K)) K 2 0 0 0 [(0, .ref (K.2.2.1 + a0)), (1, .int x1)] [] (ix_w z d)
  unfold f_X4_accepts at h
  refine ix_aload_n (i := 0) (j := 0) X (ix_tb_at tb_X4_accepts 0 rfl) rfl rfl (pc1 := 1) rfl ?_
  obtain ⟨k_1, h⟩ := ix_ck_some h
  refine iz_getI X fl_RX4_47 k_1 (ix_tb_at tb_X4_accepts 1 rfl) (pc1 := 4) rfl ?_
  refine ix_iconst (v := 3) X (ix_tb_at tb_X4_accepts 2 rfl) (by decide) (pc1 := 5) rfl ?_
  refine ix_icmp_ne (tgt := 25) X (ix_tb_at tb_X4_accepts 3 rfl) (by decide) (pc1 := 8) rfl (fun q_2 => ?_) (fun q_2 => ?_)
  · have h := ix_iff q_2 h
    refine ix_sub (L1 := [(0, .ref (K.2.2.1 + a0)), (1, .int x1)]) [0, 1] rfl ?_
    exact t_X4_accepts_25 hKp hT X hr hlk  h
  · have h := ix_ift q_2 h
    refine ix_iload_n (i := 1) (j := 1) X (ix_tb_at tb_X4_accepts 4 rfl) rfl rfl (pc1 := 9) rfl ?_
    obtain ⟨r_35, d_33, h_34, h⟩ := ix_bd2_ex h
    refine ix_callS (As := [.int x1]) (rest := []) X mf_X4_isDigit st_X4_isDigit ml_RX4_57 ⟨Nat.le_of_ble_eq_true rfl, Nat.le_of_ble_eq_true rfl⟩ ⟨Nat.le_of_ble_eq_true rfl, Nat.le_of_ble_eq_true rfl⟩ rfl (Nat.le_of_ble_eq_true rfl) (ix_tb_at tb_X4_accepts 5 rfl) (c_X4_isDigit hKp h_34) rfl (pc1 := 12) rfl ?_
    refine ix_if_eq (tgt := 21) X (ix_tb_at tb_X4_accepts 6 rfl) (by decide) (pc1 := 15) rfl (fun q_36 => ?_) (fun q_36 => ?_)
    · have h := ix_ift q_36 h
      refine ix_aload_n (i := 0) (j := 0) X (ix_tb_at tb_X4_accepts 11 rfl) rfl rfl (pc1 := 22) rfl ?_
      obtain ⟨d_37, h_38, h⟩ := ix_bd1_ex h
      refine ix_callV (As := []) (rest := []) (ci := 4) (T := TX4) (nf := 17) X mf_X4_endNumber mi_X4_endNumber ms_X4_endNumber rfl (Nat.le_of_ble_eq_true rfl) ml_RX4_54 ⟨Nat.le_of_ble_eq_true rfl, Nat.le_of_ble_eq_true rfl⟩ ⟨Nat.le_of_ble_eq_true rfl, Nat.le_of_ble_eq_true rfl⟩ rfl (Nat.le_of_ble_eq_true rfl) (ix_tb_at tb_X4_accepts 12 rfl) ⟨k_1.1, List.mem_singleton.mp k_1.2⟩ (c_X4_endNumber hKp h_38) rfl (pc1 := 25) rfl ?_
      refine ix_sub (L1 := [(0, .ref (K.2.2.1 + a0)), (1, .int x1)]) [0, 1] rfl ?_
      exact t_X4_accepts_25 hKp hT X hr hlk  h
    · have h := ix_iff q_36 h
      refine ix_aload_n (i := 0) (j := 0) X (ix_tb_at tb_X4_accepts 7 rfl) rfl rfl (pc1 := 16) rfl ?_
      refine ix_iload_n (i := 1) (j := 1) X (ix_tb_at tb_X4_accepts 8 rfl) rfl rfl (pc1 := 17) rfl ?_
      obtain ⟨r_41, d_39, h_40, h⟩ := ix_bd2_ex h
      refine ix_callV (As := [.int x1]) (rest := []) (ci := 4) (T := TX4) (nf := 17) X mf_X4_acceptsDigit mi_X4_acceptsDigit ms_X4_acceptsDigit rfl (Nat.le_of_ble_eq_true rfl) ml_RX4_60 ⟨Nat.le_of_ble_eq_true rfl, Nat.le_of_ble_eq_true rfl⟩ ⟨Nat.le_of_ble_eq_true rfl, Nat.le_of_ble_eq_true rfl⟩ rfl (Nat.le_of_ble_eq_true rfl) (ix_tb_at tb_X4_accepts 9 rfl) ⟨k_1.1, List.mem_singleton.mp k_1.2⟩ (c_X4_acceptsDigit hKp h_40) rfl (pc1 := 20) rfl ?_
      obtain ⟨k_42, h⟩ := ix_ck_some h
      exact ix_zret X hr hlk k_42 (ix_r2 (f := fun r => some (.int r)) (g := ix_w z) h) (ix_tb_at tb_X4_accepts 10 rfl)
def tab_X4_readTape : List (Nat × Instr × Nat) := [(0, .aload_n 0, 1), (1, .iconst 0, 1), (2, .putfield 38, 3), (5, .aload_n 0, 1), (6, .iconst 0, 1), (7, .putfield 41, 3), (10, .aload_n 0, 1), (11, .iconst 0, 1), (12, .putfield 44, 3), (15, .aload_n 0, 1), (16, .iconst 0, 1), (17, .putfield 47, 3), (20, .iconst 0, 1), (21, .istore_n 1, 1), (22, .iload_n 1, 1), (23, .aload_n 0, 1), (24, .getfield 34, 3), (27, .if_icmp .ge 24, 3), (30, .aload_n 0, 1), (31, .aload_n 0, 1), (32, .getfield 11, 3), (35, .iload_n 1, 1), (36, .baload, 1), (37, .invokevirtual 50, 3), (40, .ifCond .ne 5, 3), (43, .iload_n 1, 1), (44, .ireturn, 1), (45, .iinc 1 1, 3), (48, .goto (-26), 3), (51, .aload_n 0, 1), (52, .getfield 47, 3), (55, .iconst 3, 1), (56, .if_icmp .ne 7, 3), (59, .aload_n 0, 1), (60, .invokevirtual 54, 3), (63, .aload_n 0, 1), (64, .getfield 47, 3), (67, .iconst 4, 1), (68, .if_icmp .ne 14, 3), (71, .aload_n 0, 1), (72, .getfield 41, 3), (75, .ifCond .ne 7, 3), (78, .iconst (-1), 1), (79, .goto 7, 3), (82, .aload_n 0, 1), (83, .getfield 34, 3), (86, .ireturn, 1)]
theorem tb_X4_readTape : ix_tab cX4_readTape tab_X4_readTape := by
  unfold ix_tab
  decide +kernel
noncomputable def f_X4_readTape_82 (n : Nat) (z : ix_Z)  (a0 : Nat) (d : ix_D2) : Option (Int32 × ix_D2) :=
  ix_ck (ix_ok z [4] a0) (some (d.1 a0 1, d))
noncomputable def f_X4_readTape_63 (n : Nat) (z : ix_Z)  (a0 : Nat) (d : ix_D2) : Option (Int32 × ix_D2) :=
  ix_ck (ix_ok z [4] a0) (ix_if (d.1 a0 12 = 4) (ix_if (d.1 a0 11 = 0) (some ((-1), d)) (f_X4_readTape_82 n z  a0 d)) (f_X4_readTape_82 n z  a0 d))
noncomputable def b_X4_readTape_22 (n : Nat) (z : ix_Z)  (a0 : Nat) (rec22 : Int32 → ix_D2 → Option (Int32 × ix_D2)) (x1 : Int32) (d : ix_D2) : Option (Int32 × ix_D2) :=
  ix_ck (ix_ok z [4] a0) (ix_if (d.1 a0 1 ≤ x1) (ix_if (d.1 a0 12 = 3) (ix_bd1 (f_X4_endNumber n z a0 d) (fun d_17 => f_X4_readTape_63 n z  a0 d_17)) (f_X4_readTape_63 n z  a0 d)) (ix_bd1 (z.1 a0 0) (fun b_19 => ix_ck (ix_ix z 21 b_19 x1) (ix_bd2 (f_X4_accepts n z a0 (d.1 b_19 (ix_n x1)) d) (fun r_24 d_22 => ix_if (r_24 = 0) (some (x1, d_22)) (ix_lt (x1 + 1) (fun x1_26 => rec22 x1_26 d_22)))))))
noncomputable def f_X4_readTape_22 (n : Nat) (z : ix_Z)  (a0 : Nat) (x1 : Int32) (d : ix_D2) : Option (Int32 × ix_D2) := ix_fix (b_X4_readTape_22 n z  a0) (fun _ _ => none) n x1 d
noncomputable def f_X4_readTape (n : Nat) (z : ix_Z) (a0 : Nat) (d : ix_D2) : Option (Int32 × ix_D2) :=
  ix_ck (ix_ok z [4] a0) (ix_lt (ix_di d a0 7 0) (fun d_2 => ix_lt (ix_di d_2 a0 11 0) (fun d_4 => ix_lt (ix_di d_4 a0 14 0) (fun d_6 => ix_lt (ix_di d_6 a0 12 0) (fun d_8 => f_X4_readTape_22 n z  a0 0 d_8)))))
set_option maxRecDepth 20000 in
theorem t_X4_readTape_82 {l : Launch} {p : Program} {e : Env} {s : State} {m : MethodId} {args : Array Value} {below : List Frame} {meth : Method} {c : Code} {K : ix_Cx} (hKp : ix_Kp K) {n : Nat} {z : ix_Z} (hT : ix_Tc K) (X : ix_X p s m args c K cX4_readTape RX4 2) (hr : meth.sig.returnType = (some .int)) (hlk : meth.locks = false)  {a0 : Nat} {r : Int32} {d1 : ix_D2}  {d : ix_D2} (h : f_X4_readTape_82 n z  a0 d = some (r, d1)) : ix_G p l e (ix_rm 6 133 0 0) s m args below meth c (MQ below (ix_Post K (some (.int r)) (ix_w z d1)) args s 0 0 (ix_A K)) K 2 0 0 82 [(0, .ref (K.2.2.1 + a0))] [] (ix_w z d) := by
  unfold f_X4_readTape_82 at h
  refine ix_aload_n (i := 0) (j := 0) X (ix_tb_at tb_X4_readTape 44 rfl) rfl rfl (pc1 := 83) rfl ?_
  obtain ⟨k_15, h⟩ := ix_ck_some h
  refine iz_getI X fl_RX4_34 k_15 (ix_tb_at tb_X4_readTape 45 rfl) (pc1 := 86) rfl ?_
  exact ix_iret X hr hlk (ix_r2 (f := fun r => some (.int r)) (g := ix_w z) h) (ix_tb_at tb_X4_readTape 46 rfl)
set_option maxRecDepth 20000 in
theorem t_X4_readTape_63 {l : Launch} {p : Program} {e : Env} {s : State} {m : MethodId} {args : Array Value} {below : List Frame} {meth : Method} {c : Code} {K : ix_Cx} (hKp : ix_Kp K) {n : Nat} {z : ix_Z} (hT : ix_Tc K) (X : ix_X p s m args c K cX4_readTape RX4 2) (hr : meth.sig.returnType = (some .int)) (hlk : meth.locks = false)  {a0 : Nat} {r : Int32} {d1 : ix_D2}  {d : ix_D2} (h : f_X4_readTape_63 n z  a0 d = some (r, d1)) : ix_G p l e (ix_rm 6 133 0 0) s m args below meth c (MQ below (ix_Post K (some (.int r)) (ix_w z d1)) args s 0 0 (ix_A K)) K 2 0 0 63 [(0, .ref (K.2.2.1 + a0))] [] (ix_w z d) := by
  unfold f_X4_readTape_63 at h
  refine ix_aload_n (i := 0) (j := 0) X (ix_tb_at tb_X4_readTape 35 rfl) rfl rfl (pc1 := 64) rfl ?_
  obtain ⟨k_13, h⟩ := ix_ck_some h
  refine iz_getI X fl_RX4_47 k_13 (ix_tb_at tb_X4_readTape 36 rfl) (pc1 := 67) rfl ?_
  refine ix_iconst (v := 4) X (ix_tb_at tb_X4_readTape 37 rfl) (by decide) (pc1 := 68) rfl ?_
  refine ix_icmp_ne (tgt := 82) X (ix_tb_at tb_X4_readTape 38 rfl) (by decide) (pc1 := 71) rfl (fun q_14 => ?_) (fun q_14 => ?_)
  · have h := ix_iff q_14 h
    refine ix_sub (L1 := [(0, .ref (K.2.2.1 + a0))]) [0] rfl ?_
    exact t_X4_readTape_82 hKp hT X hr hlk  h
  · have h := ix_ift q_14 h
    refine ix_aload_n (i := 0) (j := 0) X (ix_tb_at tb_X4_readTape 39 rfl) rfl rfl (pc1 := 72) rfl ?_
    refine iz_getI X fl_RX4_41 k_13 (ix_tb_at tb_X4_readTape 40 rfl) (pc1 := 75) rfl ?_
    refine ix_if_ne (tgt := 82) X (ix_tb_at tb_X4_readTape 41 rfl) (by decide) (pc1 := 78) rfl (fun q_16 => ?_) (fun q_16 => ?_)
    · have h := ix_iff q_16 h
      refine ix_sub (L1 := [(0, .ref (K.2.2.1 + a0))]) [0] rfl ?_
      exact t_X4_readTape_82 hKp hT X hr hlk  h
    · have h := ix_ift q_16 h
      refine ix_iconst (v := (-1)) X (ix_tb_at tb_X4_readTape 42 rfl) (by decide) (pc1 := 79) rfl ?_
      refine ix_goto (tgt := 86) X (ix_tb_at tb_X4_readTape 43 rfl) (by decide) ?_
      exact ix_iret X hr hlk (ix_r2 (f := fun r => some (.int r)) (g := ix_w z) h) (ix_tb_at tb_X4_readTape 46 rfl)
set_option maxRecDepth 20000 in
theorem tb_X4_readTape_22 {l : Launch} {p : Program} {e : Env} {s : State} {m : MethodId} {args : Array Value} {below : List Frame} {meth : Method} {c : Code} {K : ix_Cx} (hKp : ix_Kp K) {n : Nat} {z : ix_Z} (hT : ix_Tc K) (X : ix_X p s m args c K cX4_readTape RX4 2) (hr : meth.sig.returnType = (some .int)) (hlk : meth.locks = false)  {a0 : Nat} {rec22 : Int32 → ix_D2 → Option (Int32 × ix_D2)} {r : Int32} {d1 : ix_D2} (hrec22 : ∀ (x1 : Int32) (d : ix_D2), rec22 x1 d = some (r, d1) → ix_G p l e (ix_rm 6 133 0 0) s m args below meth c (MQ below (ix_Post K (some (.int r)) (ix_w z d1)) args s 0 0 (ix_A K)) K 2 0 0 22 [(0, .ref (K.2.2.1 + a0)), (1, .int x1)] [] (ix_w z d)) {x1 : Int32} {d : ix_D2} (h : b_X4_readTape_22 n z  a0 rec22 x1 d = some (r, d1)) : ix_G p l e (ix_rm 6 133 0 0) s m args below meth c (MQ below (ix_Post K (some (.int r)) (ix_w z d1)) args s 0 0 (ix_A K)) K 2 0 0 22 [(0, .ref (K.2.2.1 + a0)), (1, .int x1)] [] (ix_w z d) := by
  unfold b_X4_readTape_22 at h
  refine ix_iload_n (i := 1) (j := 1) X (ix_tb_at tb_X4_readTape 14 rfl) rfl rfl (pc1 := 23) rfl ?_
  refine ix_aload_n (i := 0) (j := 0) X (ix_tb_at tb_X4_readTape 15 rfl) rfl rfl (pc1 := 24) rfl ?_
  obtain ⟨k_10, h⟩ := ix_ck_some h
  refine iz_getI X fl_RX4_34 k_10 (ix_tb_at tb_X4_readTape 16 rfl) (pc1 := 27) rfl ?_
  refine ix_icmp_ge (tgt := 51) X (ix_tb_at tb_X4_readTape 17 rfl) (by decide) (pc1 := 30) rfl (fun q_11 => ?_) (fun q_11 => ?_)
  · have h := ix_ift q_11 h
    refine ix_aload_n (i := 0) (j := 0) X (ix_tb_at tb_X4_readTape 29 rfl) rfl rfl (pc1 := 52) rfl ?_
    refine iz_getI X fl_RX4_47 k_10 (ix_tb_at tb_X4_readTape 30 rfl) (pc1 := 55) rfl ?_
    refine ix_iconst (v := 3) X (ix_tb_at tb_X4_readTape 31 rfl) (by decide) (pc1 := 56) rfl ?_
    refine ix_icmp_ne (tgt := 63) X (ix_tb_at tb_X4_readTape 32 rfl) (by decide) (pc1 := 59) rfl (fun q_12 => ?_) (fun q_12 => ?_)
    · have h := ix_iff q_12 h
      refine ix_sub (L1 := [(0, .ref (K.2.2.1 + a0))]) [0] rfl ?_
      exact t_X4_readTape_63 hKp hT X hr hlk  h
    · have h := ix_ift q_12 h
      refine ix_aload_n (i := 0) (j := 0) X (ix_tb_at tb_X4_readTape 33 rfl) rfl rfl (pc1 := 60) rfl ?_
      obtain ⟨d_17, h_18, h⟩ := ix_bd1_ex h
      refine ix_callV (As := []) (rest := []) (ci := 4) (T := TX4) (nf := 17) X mf_X4_endNumber mi_X4_endNumber ms_X4_endNumber rfl (Nat.le_of_ble_eq_true rfl) ml_RX4_54 ⟨Nat.le_of_ble_eq_true rfl, Nat.le_of_ble_eq_true rfl⟩ ⟨Nat.le_of_ble_eq_true rfl, Nat.le_of_ble_eq_true rfl⟩ rfl (Nat.le_of_ble_eq_true rfl) (ix_tb_at tb_X4_readTape 34 rfl) ⟨k_10.1, List.mem_singleton.mp k_10.2⟩ (c_X4_endNumber hKp h_18) rfl (pc1 := 63) rfl ?_
      refine ix_sub (L1 := [(0, .ref (K.2.2.1 + a0))]) [0] rfl ?_
      exact t_X4_readTape_63 hKp hT X hr hlk  h
  · have h := ix_iff q_11 h
    refine ix_aload_n (i := 0) (j := 0) X (ix_tb_at tb_X4_readTape 18 rfl) rfl rfl (pc1 := 31) rfl ?_
    refine ix_aload_n (i := 0) (j := 0) X (ix_tb_at tb_X4_readTape 19 rfl) rfl rfl (pc1 := 32) rfl ?_
    obtain ⟨b_19, q_20, h⟩ := ix_bd1_ex h
    refine iz_getR X fl_RX4_11 k_10 q_20 (ix_tb_at tb_X4_readTape 20 rfl) (pc1 := 35) rfl ?_
    refine ix_iload_n (i := 1) (j := 1) X (ix_tb_at tb_X4_readTape 21 rfl) rfl rfl (pc1 := 36) rfl ?_
    obtain ⟨k_21, h⟩ := ix_ck_some h
    refine iz_bald X k_21 (ix_tb_at tb_X4_readTape 22 rfl) (pc1 := 37) rfl ?_
    obtain ⟨r_24, d_22, h_23, h⟩ := ix_bd2_ex h
    refine ix_callV (As := [.int (d.1 b_19 (ix_n x1))]) (rest := []) (ci := 4) (T := TX4) (nf := 17) X mf_X4_accepts mi_X4_accepts ms_X4_accepts rfl (Nat.le_of_ble_eq_true rfl) ml_RX4_50 ⟨Nat.le_of_ble_eq_true rfl, Nat.le_of_ble_eq_true rfl⟩ ⟨Nat.le_of_ble_eq_true rfl, Nat.le_of_ble_eq_true rfl⟩ rfl (Nat.le_of_ble_eq_true rfl) (ix_tb_at tb_X4_readTape 23 rfl) ⟨k_10.1, List.mem_singleton.mp k_10.2⟩ (c_X4_accepts hKp hT h_23) rfl (pc1 := 40) rfl ?_
    refine ix_if_ne (tgt := 45) X (ix_tb_at tb_X4_readTape 24 rfl) (by decide) (pc1 := 43) rfl (fun q_25 => ?_) (fun q_25 => ?_)
    · have h := ix_iff q_25 h
      obtain ⟨x1_26, e_27, h⟩ := ix_lt_ex h
      refine ix_iinc (i := 1) (j := 1) (v := x1_26) (L1 := [(1, .int x1_26), (0, .ref (K.2.2.1 + a0))]) X (ix_tb_at tb_X4_readTape 27 rfl) rfl (by rw [oi_1]; exact e_27.symm) (Nat.le_of_ble_eq_true rfl) rfl (pc1 := 48) rfl ?_
      refine ix_goto (tgt := 22) X (ix_tb_at tb_X4_readTape 28 rfl) (by decide) ?_
      refine ix_sub (L1 := [(0, .ref (K.2.2.1 + a0)), (1, .int x1_26)]) [1, 0] rfl ?_
      exact hrec22 x1_26 d_22 h
    · have h := ix_ift q_25 h
      refine ix_iload_n (i := 1) (j := 1) X (ix_tb_at tb_X4_readTape 25 rfl) rfl rfl (pc1 := 44) rfl ?_
      exact ix_iret X hr hlk (ix_r2 (f := fun r => some (.int r)) (g := ix_w z) h) (ix_tb_at tb_X4_readTape 26 rfl)
theorem t_X4_readTape_22 {l : Launch} {p : Program} {e : Env} {s : State} {m : MethodId} {args : Array Value} {below : List Frame} {meth : Method} {c : Code} {K : ix_Cx} (hKp : ix_Kp K) {n : Nat} {z : ix_Z} (hT : ix_Tc K) (X : ix_X p s m args c K cX4_readTape RX4 2) (hr : meth.sig.returnType = (some .int)) (hlk : meth.locks = false)  {a0 : Nat} {r : Int32} {d1 : ix_D2}  {x1 : Int32} {d : ix_D2} (h : f_X4_readTape_22 n z  a0 x1 d = some (r, d1)) : ix_G p l e (ix_rm 6 133 0 0) s m args below meth c (MQ below (ix_Post K (some (.int r)) (ix_w z d1)) args s 0 0 (ix_A K)) K 2 0 0 22 [(0, .ref (K.2.2.1 + a0)), (1, .int x1)] [] (ix_w z d) := by
  have key : ∀ (f : Nat) (x1 : Int32) (d : ix_D2), ix_fix (b_X4_readTape_22 n z  a0) (fun _ _ => none) f x1 d = some (r, d1) → ix_G p l e (ix_rm 6 133 0 0) s m args below meth c (MQ below (ix_Post K (some (.int r)) (ix_w z d1)) args s 0 0 (ix_A K)) K 2 0 0 22 [(0, .ref (K.2.2.1 + a0)), (1, .int x1)] [] (ix_w z d) := by
    intro f
    induction f with
    | zero =>
      intro x1 d h
      have h : (none : Option (Int32 × ix_D2)) = some (r, d1) := h
      cases h
    | succ f ih =>
      intro x1 d h
      exact tb_X4_readTape_22 hKp hT X hr hlk (rec22 := ix_fix (b_X4_readTape_22 n z  a0) (fun _ _ => none) f)  ih h
  exact key n x1 d h
set_option maxRecDepth 20000 in
theorem c_X4_readTape {l : Launch} {K : ix_Cx} (hKp : ix_Kp K) (hT : ix_Tc K) {n : Nat} {z : ix_Z} {a0 : Nat} {d : ix_D2} {r : Int32} {d1 : ix_D2} (h : f_X4_readTape n z a0 d = some (r, d1)) : ix_M l K yX4_readTape cX4_readTape 2 (some .int) 6 133 0 0 [.ref (K.2.2.1 + a0)] (ix_w z d) (some (.int r)) (ix_w z d1) := by
  refine ix_met mf_X4_readTape hKp (Nat.le_of_ble_eq_true rfl) ?_
  intro p e s m args below meth c hr hlk hnm X
  have X : ix_X p s m args c K cX4_readTape RX4 2 := X
  show ix_G p l e (ix_rm 6 133 0 0) s m args below meth c (MQ below (ix_Post K (some (.int r)) (ix_w z d1)) args s 0 0 (ix_A K)) K 2 0 0 0 [(0, .ref (K.2.2.1 + a0))] [] (ix_w z d)
  unfold f_X4_readTape at h
  refine ix_aload_n (i := 0) (j := 0) X (ix_tb_at tb_X4_readTape 0 rfl) rfl rfl (pc1 := 1) rfl ?_
  refine ix_iconst (v := 0) X (ix_tb_at tb_X4_readTape 1 rfl) (by decide) (pc1 := 2) rfl ?_
  obtain ⟨k_1, h⟩ := ix_ck_some h
  obtain ⟨d_2, e_3, h⟩ := ix_lt_ex h
  refine iz_putI X fp_RX4_38 k_1 (ix_tb_at tb_X4_readTape 2 rfl) e_3 (pc1 := 5) rfl ?_
  refine ix_aload_n (i := 0) (j := 0) X (ix_tb_at tb_X4_readTape 3 rfl) rfl rfl (pc1 := 6) rfl ?_
  refine ix_iconst (v := 0) X (ix_tb_at tb_X4_readTape 4 rfl) (by decide) (pc1 := 7) rfl ?_
  obtain ⟨d_4, e_5, h⟩ := ix_lt_ex h
  refine iz_putI X fp_RX4_41 k_1 (ix_tb_at tb_X4_readTape 5 rfl) e_5 (pc1 := 10) rfl ?_
  refine ix_aload_n (i := 0) (j := 0) X (ix_tb_at tb_X4_readTape 6 rfl) rfl rfl (pc1 := 11) rfl ?_
  refine ix_iconst (v := 0) X (ix_tb_at tb_X4_readTape 7 rfl) (by decide) (pc1 := 12) rfl ?_
  obtain ⟨d_6, e_7, h⟩ := ix_lt_ex h
  refine iz_putI X fp_RX4_44 k_1 (ix_tb_at tb_X4_readTape 8 rfl) e_7 (pc1 := 15) rfl ?_
  refine ix_aload_n (i := 0) (j := 0) X (ix_tb_at tb_X4_readTape 9 rfl) rfl rfl (pc1 := 16) rfl ?_
  refine ix_iconst (v := 0) X (ix_tb_at tb_X4_readTape 10 rfl) (by decide) (pc1 := 17) rfl ?_
  obtain ⟨d_8, e_9, h⟩ := ix_lt_ex h
  refine iz_putI X fp_RX4_47 k_1 (ix_tb_at tb_X4_readTape 11 rfl) e_9 (pc1 := 20) rfl ?_
  refine ix_iconst (v := 0) X (ix_tb_at tb_X4_readTape 12 rfl) (by decide) (pc1 := 21) rfl ?_
  refine ix_istore_n (i := 1) (L1 := [(1, .int 0), (0, .ref (K.2.2.1 + a0))]) X (ix_tb_at tb_X4_readTape 13 rfl) rfl (Nat.le_of_ble_eq_true rfl) rfl (pc1 := 22) rfl ?_
  refine ix_sub (L1 := [(0, .ref (K.2.2.1 + a0)), (1, .int 0)]) [1, 0] rfl ?_
  exact t_X4_readTape_22 hKp hT X hr hlk  h
def tab_X4_lookForNames : List (Nat × Instr × Nat) := [(0, .iconst 0, 1), (1, .istore_n 2, 1), (2, .iload_n 2, 1), (3, .aload_n 0, 1), (4, .getfield 38, 3), (7, .if_icmp .ge 42, 3), (10, .aload_n 0, 1), (11, .getfield 22, 3), (14, .iload_n 2, 1), (15, .iaload, 1), (16, .sipush 10000, 3), (19, .if_icmp .ge 16, 3), (22, .aload_n 1, 1), (23, .aload_n 0, 1), (24, .getfield 22, 3), (27, .iload_n 2, 1), (28, .iaload, 1), (29, .invokevirtual 93, 3), (32, .goto 4, 3), (35, .iconst 0, 1), (36, .istore_n 3, 1), (37, .iload_n 3, 1), (38, .ifCond .eq 5, 3), (41, .iload_n 3, 1), (42, .ireturn, 1), (43, .iinc 2 1, 3), (46, .goto (-44), 3), (49, .iconst 0, 1), (50, .ireturn, 1)]
theorem tb_X4_lookForNames : ix_tab cX4_lookForNames tab_X4_lookForNames := by
  unfold ix_tab
  decide +kernel
noncomputable def f_X4_lookForNames_36 (n : Nat) (z : ix_Z) (rec2 : Int32 → ix_D2 → Option (Int32 × ix_D2)) (a0 : Nat) (a1 : Nat) (x2 : Int32) (s0 : Int32) (d : ix_D2) : Option (Int32 × ix_D2) :=
  ix_if (s0 = 0) (ix_lt (x2 + 1) (fun x2_8 => rec2 x2_8 d)) (some (s0, d))
noncomputable def b_X4_lookForNames_2 (n : Nat) (z : ix_Z)  (a0 : Nat) (a1 : Nat) (rec2 : Int32 → ix_D2 → Option (Int32 × ix_D2)) (x2 : Int32) (d : ix_D2) : Option (Int32 × ix_D2) :=
  ix_ck (ix_ok z [4] a0) (ix_if (d.1 a0 7 ≤ x2) (some (0, d)) (ix_bd1 (z.1 a0 6) (fun b_3 => ix_ck (ix_ix z 20 b_3 x2) (ix_if (10000 ≤ d.1 b_3 (ix_n x2)) (f_X4_lookForNames_36 n z rec2 a0 a1 x2 0 d) (ix_ck (ix_ok z [2] a1) (ix_bd2 (f_X2_look n z a1 (d.1 b_3 (ix_n x2)) d) (fun r_13 d_10 => f_X4_lookForNames_36 n z rec2 a0 a1 x2 r_13 d_10)))))))
noncomputable def f_X4_lookForNames_2 (n : Nat) (z : ix_Z)  (a0 : Nat) (a1 : Nat) (x2 : Int32) (d : ix_D2) : Option (Int32 × ix_D2) := ix_fix (b_X4_lookForNames_2 n z  a0 a1) (fun _ _ => none) n x2 d
noncomputable def f_X4_lookForNames (n : Nat) (z : ix_Z) (a0 : Nat) (a1 : Nat) (d : ix_D2) : Option (Int32 × ix_D2) :=
  f_X4_lookForNames_2 n z  a0 a1 0 d
set_option maxRecDepth 20000 in
theorem t_X4_lookForNames_36 {l : Launch} {p : Program} {e : Env} {s : State} {m : MethodId} {args : Array Value} {below : List Frame} {meth : Method} {c : Code} {K : ix_Cx} (hKp : ix_Kp K) {n : Nat} {z : ix_Z} (X : ix_X p s m args c K cX4_lookForNames RX4 4) (hr : meth.sig.returnType = (some .int)) (hlk : meth.locks = false) {rec2 : Int32 → ix_D2 → Option (Int32 × ix_D2)} {a0 : Nat} {a1 : Nat} {x2 : Int32} {s0 : Int32} {r : Int32} {d1 : ix_D2} (hrec2 : ∀ (x2 : Int32) (d : ix_D2), rec2 x2 d = some (r, d1) → ix_G p l e (ix_rm 2 44 0 0) s m args below meth c (MQ below (ix_Post K (some (.int r)) (ix_w z d1)) args s 0 0 (ix_A K)) K 4 0 0 2 [(0, .ref (K.2.2.1 + a0)), (1, .ref (K.2.2.1 + a1)), (2, .int x2)] [] (ix_w z d)) {d : ix_D2} (h : f_X4_lookForNames_36 n z rec2 a0 a1 x2 s0 d = some (r, d1)) : ix_G p l e (ix_rm 2 44 0 0) s m args below meth c (MQ below (ix_Post K (some (.int r)) (ix_w z d1)) args s 0 0 (ix_A K)) K 4 0 0 36 [(0, .ref (K.2.2.1 + a0)), (1, .ref (K.2.2.1 + a1)), (2, .int x2)] [.int s0] (ix_w z d) := by
  unfold f_X4_lookForNames_36 at h
  refine ix_istore_n (i := 3) (L1 := [(3, .int s0), (0, .ref (K.2.2.1 + a0)), (1, .ref (K.2.2.1 + a1)), (2, .int x2)]) X (ix_tb_at tb_X4_lookForNames 20 rfl) rfl (Nat.le_of_ble_eq_true rfl) rfl (pc1 := 37) rfl ?_
  refine ix_iload_n (i := 3) (j := 0) X (ix_tb_at tb_X4_lookForNames 21 rfl) rfl rfl (pc1 := 38) rfl ?_
  refine ix_if_eq (tgt := 43) X (ix_tb_at tb_X4_lookForNames 22 rfl) (by decide) (pc1 := 41) rfl (fun q_7 => ?_) (fun q_7 => ?_)
  · have h := ix_ift q_7 h
    obtain ⟨x2_8, e_9, h⟩ := ix_lt_ex h
    refine ix_iinc (i := 2) (j := 3) (v := x2_8) (L1 := [(2, .int x2_8), (3, .int s0), (0, .ref (K.2.2.1 + a0)), (1, .ref (K.2.2.1 + a1))]) X (ix_tb_at tb_X4_lookForNames 25 rfl) rfl (by rw [oi_1]; exact e_9.symm) (Nat.le_of_ble_eq_true rfl) rfl (pc1 := 46) rfl ?_
    refine ix_goto (tgt := 2) X (ix_tb_at tb_X4_lookForNames 26 rfl) (by decide) ?_
    refine ix_sub (L1 := [(0, .ref (K.2.2.1 + a0)), (1, .ref (K.2.2.1 + a1)), (2, .int x2_8)]) [2, 3, 0] rfl ?_
    exact hrec2 x2_8 d h
  · have h := ix_iff q_7 h
    refine ix_iload_n (i := 3) (j := 0) X (ix_tb_at tb_X4_lookForNames 23 rfl) rfl rfl (pc1 := 42) rfl ?_
    exact ix_iret X hr hlk (ix_r2 (f := fun r => some (.int r)) (g := ix_w z) h) (ix_tb_at tb_X4_lookForNames 24 rfl)
set_option maxRecDepth 20000 in
theorem tb_X4_lookForNames_2 {l : Launch} {p : Program} {e : Env} {s : State} {m : MethodId} {args : Array Value} {below : List Frame} {meth : Method} {c : Code} {K : ix_Cx} (hKp : ix_Kp K) {n : Nat} {z : ix_Z} (X : ix_X p s m args c K cX4_lookForNames RX4 4) (hr : meth.sig.returnType = (some .int)) (hlk : meth.locks = false)  {a0 : Nat} {a1 : Nat} {rec2 : Int32 → ix_D2 → Option (Int32 × ix_D2)} {r : Int32} {d1 : ix_D2} (hrec2 : ∀ (x2 : Int32) (d : ix_D2), rec2 x2 d = some (r, d1) → ix_G p l e (ix_rm 2 44 0 0) s m args below meth c (MQ below (ix_Post K (some (.int r)) (ix_w z d1)) args s 0 0 (ix_A K)) K 4 0 0 2 [(0, .ref (K.2.2.1 + a0)), (1, .ref (K.2.2.1 + a1)), (2, .int x2)] [] (ix_w z d)) {x2 : Int32} {d : ix_D2} (h : b_X4_lookForNames_2 n z  a0 a1 rec2 x2 d = some (r, d1)) : ix_G p l e (ix_rm 2 44 0 0) s m args below meth c (MQ below (ix_Post K (some (.int r)) (ix_w z d1)) args s 0 0 (ix_A K)) K 4 0 0 2 [(0, .ref (K.2.2.1 + a0)), (1, .ref (K.2.2.1 + a1)), (2, .int x2)] [] (ix_w z d) := by
  unfold b_X4_lookForNames_2 at h
  refine ix_iload_n (i := 2) (j := 2) X (ix_tb_at tb_X4_lookForNames 2 rfl) rfl rfl (pc1 := 3) rfl ?_
  refine ix_aload_n (i := 0) (j := 0) X (ix_tb_at tb_X4_lookForNames 3 rfl) rfl rfl (pc1 := 4) rfl ?_
  obtain ⟨k_1, h⟩ := ix_ck_some h
  refine iz_getI X fl_RX4_38 k_1 (ix_tb_at tb_X4_lookForNames 4 rfl) (pc1 := 7) rfl ?_
  refine ix_icmp_ge (tgt := 49) X (ix_tb_at tb_X4_lookForNames 5 rfl) (by decide) (pc1 := 10) rfl (fun q_2 => ?_) (fun q_2 => ?_)
  · have h := ix_ift q_2 h
    refine ix_iconst (v := 0) X (ix_tb_at tb_X4_lookForNames 27 rfl) (by decide) (pc1 := 50) rfl ?_
    exact ix_iret X hr hlk (ix_r2 (f := fun r => some (.int r)) (g := ix_w z) h) (ix_tb_at tb_X4_lookForNames 28 rfl)
  · have h := ix_iff q_2 h
    refine ix_aload_n (i := 0) (j := 0) X (ix_tb_at tb_X4_lookForNames 6 rfl) rfl rfl (pc1 := 11) rfl ?_
    obtain ⟨b_3, q_4, h⟩ := ix_bd1_ex h
    refine iz_getR X fl_RX4_22 k_1 q_4 (ix_tb_at tb_X4_lookForNames 7 rfl) (pc1 := 14) rfl ?_
    refine ix_iload_n (i := 2) (j := 2) X (ix_tb_at tb_X4_lookForNames 8 rfl) rfl rfl (pc1 := 15) rfl ?_
    obtain ⟨k_5, h⟩ := ix_ck_some h
    refine iz_iald X k_5 (ix_tb_at tb_X4_lookForNames 9 rfl) (pc1 := 16) rfl ?_
    refine ix_sipush (v := 10000) X (ix_tb_at tb_X4_lookForNames 10 rfl) (by decide) (pc1 := 19) rfl ?_
    refine ix_icmp_ge (tgt := 35) X (ix_tb_at tb_X4_lookForNames 11 rfl) (by decide) (pc1 := 22) rfl (fun q_6 => ?_) (fun q_6 => ?_)
    · have h := ix_ift q_6 h
      refine ix_iconst (v := 0) X (ix_tb_at tb_X4_lookForNames 19 rfl) (by decide) (pc1 := 36) rfl ?_
      refine ix_sub (L1 := [(0, .ref (K.2.2.1 + a0)), (1, .ref (K.2.2.1 + a1)), (2, .int x2)]) [0, 1, 2] rfl ?_
      exact t_X4_lookForNames_36 hKp X hr hlk hrec2 h
    · have h := ix_iff q_6 h
      refine ix_aload_n (i := 1) (j := 1) X (ix_tb_at tb_X4_lookForNames 12 rfl) rfl rfl (pc1 := 23) rfl ?_
      refine ix_aload_n (i := 0) (j := 0) X (ix_tb_at tb_X4_lookForNames 13 rfl) rfl rfl (pc1 := 24) rfl ?_
      refine iz_getR X fl_RX4_22 k_1 q_4 (ix_tb_at tb_X4_lookForNames 14 rfl) (pc1 := 27) rfl ?_
      refine ix_iload_n (i := 2) (j := 2) X (ix_tb_at tb_X4_lookForNames 15 rfl) rfl rfl (pc1 := 28) rfl ?_
      refine iz_iald X k_5 (ix_tb_at tb_X4_lookForNames 16 rfl) (pc1 := 29) rfl ?_
      obtain ⟨k_12, h⟩ := ix_ck_some h
      obtain ⟨r_13, d_10, h_11, h⟩ := ix_bd2_ex h
      refine ix_callV (As := [.int (d.1 b_3 (ix_n x2))]) (rest := []) (ci := 2) (T := TX2) (nf := 12) X mf_X2_look mi_X2_look ms_X2_look rfl (Nat.le_of_ble_eq_true rfl) ml_RX4_93 ⟨Nat.le_of_ble_eq_true rfl, Nat.le_of_ble_eq_true rfl⟩ ⟨Nat.le_of_ble_eq_true rfl, Nat.le_of_ble_eq_true rfl⟩ rfl (Nat.le_of_ble_eq_true rfl) (ix_tb_at tb_X4_lookForNames 17 rfl) ⟨k_12.1, List.mem_singleton.mp k_12.2⟩ (c_X2_look hKp h_11) rfl (pc1 := 32) rfl ?_
      refine ix_goto (tgt := 36) X (ix_tb_at tb_X4_lookForNames 18 rfl) (by decide) ?_
      refine ix_sub (L1 := [(0, .ref (K.2.2.1 + a0)), (1, .ref (K.2.2.1 + a1)), (2, .int x2)]) [0, 1, 2] rfl ?_
      exact t_X4_lookForNames_36 hKp X hr hlk hrec2 h
theorem t_X4_lookForNames_2 {l : Launch} {p : Program} {e : Env} {s : State} {m : MethodId} {args : Array Value} {below : List Frame} {meth : Method} {c : Code} {K : ix_Cx} (hKp : ix_Kp K) {n : Nat} {z : ix_Z} (X : ix_X p s m args c K cX4_lookForNames RX4 4) (hr : meth.sig.returnType = (some .int)) (hlk : meth.locks = false)  {a0 : Nat} {a1 : Nat} {r : Int32} {d1 : ix_D2}  {x2 : Int32} {d : ix_D2} (h : f_X4_lookForNames_2 n z  a0 a1 x2 d = some (r, d1)) : ix_G p l e (ix_rm 2 44 0 0) s m args below meth c (MQ below (ix_Post K (some (.int r)) (ix_w z d1)) args s 0 0 (ix_A K)) K 4 0 0 2 [(0, .ref (K.2.2.1 + a0)), (1, .ref (K.2.2.1 + a1)), (2, .int x2)] [] (ix_w z d) := by
  have key : ∀ (f : Nat) (x2 : Int32) (d : ix_D2), ix_fix (b_X4_lookForNames_2 n z  a0 a1) (fun _ _ => none) f x2 d = some (r, d1) → ix_G p l e (ix_rm 2 44 0 0) s m args below meth c (MQ below (ix_Post K (some (.int r)) (ix_w z d1)) args s 0 0 (ix_A K)) K 4 0 0 2 [(0, .ref (K.2.2.1 + a0)), (1, .ref (K.2.2.1 + a1)), (2, .int x2)] [] (ix_w z d) := by
    intro f
    induction f with
    | zero =>
      intro x2 d h
      have h : (none : Option (Int32 × ix_D2)) = some (r, d1) := h
      cases h
    | succ f ih =>
      intro x2 d h
      exact tb_X4_lookForNames_2 hKp X hr hlk (rec2 := ix_fix (b_X4_lookForNames_2 n z  a0 a1) (fun _ _ => none) f)  ih h
  exact key n x2 d h
set_option maxRecDepth 20000 in
theorem c_X4_lookForNames {l : Launch} {K : ix_Cx} (hKp : ix_Kp K) {n : Nat} {z : ix_Z} {a0 : Nat} {a1 : Nat} {d : ix_D2} {r : Int32} {d1 : ix_D2} (h : f_X4_lookForNames n z a0 a1 d = some (r, d1)) : ix_M l K yX4_lookForNames cX4_lookForNames 4 (some .int) 2 44 0 0 [.ref (K.2.2.1 + a0), .ref (K.2.2.1 + a1)] (ix_w z d) (some (.int r)) (ix_w z d1) := by
  refine ix_met mf_X4_lookForNames hKp (Nat.le_of_ble_eq_true rfl) ?_
  intro p e s m args below meth c hr hlk hnm X
  have X : ix_X p s m args c K cX4_lookForNames RX4 4 := X
  show ix_G p l e (ix_rm 2 44 0 0) s m args below meth c (MQ below (ix_Post K (some (.int r)) (ix_w z d1)) args s 0 0 (ix_A K)) K 4 0 0 0 [(0, .ref (K.2.2.1 + a0)), (1, .ref (K.2.2.1 + a1))] [] (ix_w z d)
  unfold f_X4_lookForNames at h
  refine ix_iconst (v := 0) X (ix_tb_at tb_X4_lookForNames 0 rfl) (by decide) (pc1 := 1) rfl ?_
  refine ix_istore_n (i := 2) (L1 := [(2, .int 0), (0, .ref (K.2.2.1 + a0)), (1, .ref (K.2.2.1 + a1))]) X (ix_tb_at tb_X4_lookForNames 1 rfl) rfl (Nat.le_of_ble_eq_true rfl) rfl (pc1 := 2) rfl ?_
  refine ix_sub (L1 := [(0, .ref (K.2.2.1 + a0)), (1, .ref (K.2.2.1 + a1)), (2, .int 0)]) [1, 2, 0] rfl ?_
  exact t_X4_lookForNames_2 hKp X hr hlk  h
def tab_X4_writeRow : List (Nat × Instr × Nat) := [(0, .iconst 0, 1), (1, .istore_n 3, 1), (2, .iload_n 3, 1), (3, .aload_n 1, 1), (4, .iload_n 2, 1), (5, .invokevirtual 123, 3), (8, .if_icmp .ge 25, 3), (11, .aload_n 0, 1), (12, .aload_n 1, 1), (13, .iload_n 2, 1), (14, .iload_n 3, 1), (15, .invokevirtual 128, 3), (18, .invokevirtual 120, 3), (21, .aload_n 0, 1), (22, .bipush 32, 2), (24, .invokevirtual 114, 3), (27, .iinc 3 1, 3), (30, .goto (-28), 3), (33, .aload_n 0, 1), (34, .bipush 48, 2), (36, .invokevirtual 114, 3), (39, .aload_n 0, 1), (40, .bipush 10, 2), (42, .invokevirtual 114, 3), (45, .return_, 1)]
theorem tb_X4_writeRow : ix_tab cX4_writeRow tab_X4_writeRow := by
  unfold ix_tab
  decide +kernel
noncomputable def b_X4_writeRow_2 (n : Nat) (z : ix_Z)  (a0 : Nat) (a1 : Nat) (x2 : Int32) (rec2 : Int32 → ix_D2 → Option (ix_D2)) (x3 : Int32) (d : ix_D2) : Option (ix_D2) :=
  ix_ck (ix_ok z [7] a1) (ix_bd2 (f_X7_size n z a1 x2 d) (fun r_4 d_1 => ix_if (r_4 ≤ x3) (ix_ck (ix_ok z [4] a0) (ix_bd1 (f_X4_writeByte n z a0 48 d_1) (fun d_6 => ix_bd1 (f_X4_writeByte n z a0 10 d_6) (fun d_9 => some d_9)))) (ix_bd2 (f_X7_tell n z a1 x2 x3 d_1) (fun r_13 d_11 => ix_ck (ix_ok z [4] a0) (ix_bd1 (f_X4_writeNumber n z a0 r_13 d_11) (fun d_14 => ix_bd1 (f_X4_writeByte n z a0 32 d_14) (fun d_17 => ix_lt (x3 + 1) (fun x3_19 => rec2 x3_19 d_17))))))))
noncomputable def f_X4_writeRow_2 (n : Nat) (z : ix_Z)  (a0 : Nat) (a1 : Nat) (x2 : Int32) (x3 : Int32) (d : ix_D2) : Option (ix_D2) := ix_fix (b_X4_writeRow_2 n z  a0 a1 x2) (fun _ _ => none) n x3 d
noncomputable def f_X4_writeRow (n : Nat) (z : ix_Z) (a0 : Nat) (a1 : Nat) (x2 : Int32) (d : ix_D2) : Option (ix_D2) :=
  f_X4_writeRow_2 n z  a0 a1 x2 0 d
set_option maxRecDepth 20000 in
theorem tb_X4_writeRow_2 {l : Launch} {p : Program} {e : Env} {s : State} {m : MethodId} {args : Array Value} {below : List Frame} {meth : Method} {c : Code} {K : ix_Cx} (hKp : ix_Kp K) {n : Nat} {z : ix_Z} (X : ix_X p s m args c K cX4_writeRow RX4 4) (hr : meth.sig.returnType = (none : Option Jvm.ClassFile.FieldType)) (hlk : meth.locks = false)  {a0 : Nat} {a1 : Nat} {x2 : Int32} {rec2 : Int32 → ix_D2 → Option (ix_D2)} {d1 : ix_D2} (hrec2 : ∀ (x3 : Int32) (d : ix_D2), rec2 x3 d = some d1 → ix_G p l e (ix_rm 3 64 0 0) s m args below meth c (MQ below (ix_Post K none (ix_w z d1)) args s 0 0 (ix_A K)) K 4 0 0 2 [(0, .ref (K.2.2.1 + a0)), (1, .ref (K.2.2.1 + a1)), (2, .int x2), (3, .int x3)] [] (ix_w z d)) {x3 : Int32} {d : ix_D2} (h : b_X4_writeRow_2 n z  a0 a1 x2 rec2 x3 d = some d1) : ix_G p l e (ix_rm 3 64 0 0) s m args below meth c (MQ below (ix_Post K none (ix_w z d1)) args s 0 0 (ix_A K)) K 4 0 0 2 [(0, .ref (K.2.2.1 + a0)), (1, .ref (K.2.2.1 + a1)), (2, .int x2), (3, .int x3)] [] (ix_w z d) := by
  unfold b_X4_writeRow_2 at h
  refine ix_iload_n (i := 3) (j := 3) X (ix_tb_at tb_X4_writeRow 2 rfl) rfl rfl (pc1 := 3) rfl ?_
  refine ix_aload_n (i := 1) (j := 1) X (ix_tb_at tb_X4_writeRow 3 rfl) rfl rfl (pc1 := 4) rfl ?_
  refine ix_iload_n (i := 2) (j := 2) X (ix_tb_at tb_X4_writeRow 4 rfl) rfl rfl (pc1 := 5) rfl ?_
  obtain ⟨k_3, h⟩ := ix_ck_some h
  obtain ⟨r_4, d_1, h_2, h⟩ := ix_bd2_ex h
  refine ix_callV (As := [.int x2]) (rest := [.int x3]) (ci := 7) (T := TX7) (nf := 3) X mf_X7_size mi_X7_size ms_X7_size rfl (Nat.le_of_ble_eq_true rfl) ml_RX4_123 ⟨Nat.le_of_ble_eq_true rfl, Nat.le_of_ble_eq_true rfl⟩ ⟨Nat.le_of_ble_eq_true rfl, Nat.le_of_ble_eq_true rfl⟩ rfl (Nat.le_of_ble_eq_true rfl) (ix_tb_at tb_X4_writeRow 5 rfl) ⟨k_3.1, List.mem_singleton.mp k_3.2⟩ (c_X7_size hKp h_2) rfl (pc1 := 8) rfl ?_
  refine ix_icmp_ge (tgt := 33) X (ix_tb_at tb_X4_writeRow 6 rfl) (by decide) (pc1 := 11) rfl (fun q_5 => ?_) (fun q_5 => ?_)
  · have h := ix_ift q_5 h
    refine ix_aload_n (i := 0) (j := 0) X (ix_tb_at tb_X4_writeRow 18 rfl) rfl rfl (pc1 := 34) rfl ?_
    refine ix_bipush (v := 48) X (ix_tb_at tb_X4_writeRow 19 rfl) (by decide) (pc1 := 36) rfl ?_
    obtain ⟨k_8, h⟩ := ix_ck_some h
    obtain ⟨d_6, h_7, h⟩ := ix_bd1_ex h
    refine ix_callV (As := [.int 48]) (rest := []) (ci := 4) (T := TX4) (nf := 17) X mf_X4_writeByte mi_X4_writeByte ms_X4_writeByte rfl (Nat.le_of_ble_eq_true rfl) ml_RX4_114 ⟨Nat.le_of_ble_eq_true rfl, Nat.le_of_ble_eq_true rfl⟩ ⟨Nat.le_of_ble_eq_true rfl, Nat.le_of_ble_eq_true rfl⟩ rfl (Nat.le_of_ble_eq_true rfl) (ix_tb_at tb_X4_writeRow 20 rfl) ⟨k_8.1, List.mem_singleton.mp k_8.2⟩ (c_X4_writeByte hKp h_7) rfl (pc1 := 39) rfl ?_
    refine ix_aload_n (i := 0) (j := 0) X (ix_tb_at tb_X4_writeRow 21 rfl) rfl rfl (pc1 := 40) rfl ?_
    refine ix_bipush (v := 10) X (ix_tb_at tb_X4_writeRow 22 rfl) (by decide) (pc1 := 42) rfl ?_
    obtain ⟨d_9, h_10, h⟩ := ix_bd1_ex h
    refine ix_callV (As := [.int 10]) (rest := []) (ci := 4) (T := TX4) (nf := 17) X mf_X4_writeByte mi_X4_writeByte ms_X4_writeByte rfl (Nat.le_of_ble_eq_true rfl) ml_RX4_114 ⟨Nat.le_of_ble_eq_true rfl, Nat.le_of_ble_eq_true rfl⟩ ⟨Nat.le_of_ble_eq_true rfl, Nat.le_of_ble_eq_true rfl⟩ rfl (Nat.le_of_ble_eq_true rfl) (ix_tb_at tb_X4_writeRow 23 rfl) ⟨k_8.1, List.mem_singleton.mp k_8.2⟩ (c_X4_writeByte hKp h_10) rfl (pc1 := 45) rfl ?_
    exact ix_vret X hr hlk (ix_r1 (g := ix_w z) h) (ix_tb_at tb_X4_writeRow 24 rfl)
  · have h := ix_iff q_5 h
    refine ix_aload_n (i := 0) (j := 0) X (ix_tb_at tb_X4_writeRow 7 rfl) rfl rfl (pc1 := 12) rfl ?_
    refine ix_aload_n (i := 1) (j := 1) X (ix_tb_at tb_X4_writeRow 8 rfl) rfl rfl (pc1 := 13) rfl ?_
    refine ix_iload_n (i := 2) (j := 2) X (ix_tb_at tb_X4_writeRow 9 rfl) rfl rfl (pc1 := 14) rfl ?_
    refine ix_iload_n (i := 3) (j := 3) X (ix_tb_at tb_X4_writeRow 10 rfl) rfl rfl (pc1 := 15) rfl ?_
    obtain ⟨r_13, d_11, h_12, h⟩ := ix_bd2_ex h
    refine ix_callV (As := [.int x2, .int x3]) (rest := [.ref (K.2.2.1 + a0)]) (ci := 7) (T := TX7) (nf := 3) X mf_X7_tell mi_X7_tell ms_X7_tell rfl (Nat.le_of_ble_eq_true rfl) ml_RX4_128 ⟨Nat.le_of_ble_eq_true rfl, Nat.le_of_ble_eq_true rfl⟩ ⟨Nat.le_of_ble_eq_true rfl, Nat.le_of_ble_eq_true rfl⟩ rfl (Nat.le_of_ble_eq_true rfl) (ix_tb_at tb_X4_writeRow 11 rfl) ⟨k_3.1, List.mem_singleton.mp k_3.2⟩ (c_X7_tell hKp h_12) rfl (pc1 := 18) rfl ?_
    obtain ⟨k_16, h⟩ := ix_ck_some h
    obtain ⟨d_14, h_15, h⟩ := ix_bd1_ex h
    refine ix_callV (As := [.int r_13]) (rest := []) (ci := 4) (T := TX4) (nf := 17) X mf_X4_writeNumber mi_X4_writeNumber ms_X4_writeNumber rfl (Nat.le_of_ble_eq_true rfl) ml_RX4_120 ⟨Nat.le_of_ble_eq_true rfl, Nat.le_of_ble_eq_true rfl⟩ ⟨Nat.le_of_ble_eq_true rfl, Nat.le_of_ble_eq_true rfl⟩ rfl (Nat.le_of_ble_eq_true rfl) (ix_tb_at tb_X4_writeRow 12 rfl) ⟨k_16.1, List.mem_singleton.mp k_16.2⟩ (c_X4_writeNumber hKp h_15) rfl (pc1 := 21) rfl ?_
    refine ix_aload_n (i := 0) (j := 0) X (ix_tb_at tb_X4_writeRow 13 rfl) rfl rfl (pc1 := 22) rfl ?_
    refine ix_bipush (v := 32) X (ix_tb_at tb_X4_writeRow 14 rfl) (by decide) (pc1 := 24) rfl ?_
    obtain ⟨d_17, h_18, h⟩ := ix_bd1_ex h
    refine ix_callV (As := [.int 32]) (rest := []) (ci := 4) (T := TX4) (nf := 17) X mf_X4_writeByte mi_X4_writeByte ms_X4_writeByte rfl (Nat.le_of_ble_eq_true rfl) ml_RX4_114 ⟨Nat.le_of_ble_eq_true rfl, Nat.le_of_ble_eq_true rfl⟩ ⟨Nat.le_of_ble_eq_true rfl, Nat.le_of_ble_eq_true rfl⟩ rfl (Nat.le_of_ble_eq_true rfl) (ix_tb_at tb_X4_writeRow 15 rfl) ⟨k_16.1, List.mem_singleton.mp k_16.2⟩ (c_X4_writeByte hKp h_18) rfl (pc1 := 27) rfl ?_
    obtain ⟨x3_19, e_20, h⟩ := ix_lt_ex h
    refine ix_iinc (i := 3) (j := 3) (v := x3_19) (L1 := [(3, .int x3_19), (0, .ref (K.2.2.1 + a0)), (1, .ref (K.2.2.1 + a1)), (2, .int x2)]) X (ix_tb_at tb_X4_writeRow 16 rfl) rfl (by rw [oi_1]; exact e_20.symm) (Nat.le_of_ble_eq_true rfl) rfl (pc1 := 30) rfl ?_
    refine ix_goto (tgt := 2) X (ix_tb_at tb_X4_writeRow 17 rfl) (by decide) ?_
    refine ix_sub (L1 := [(0, .ref (K.2.2.1 + a0)), (1, .ref (K.2.2.1 + a1)), (2, .int x2), (3, .int x3_19)]) [1, 2, 3, 0] rfl ?_
    exact hrec2 x3_19 d_17 h
theorem t_X4_writeRow_2 {l : Launch} {p : Program} {e : Env} {s : State} {m : MethodId} {args : Array Value} {below : List Frame} {meth : Method} {c : Code} {K : ix_Cx} (hKp : ix_Kp K) {n : Nat} {z : ix_Z} (X : ix_X p s m args c K cX4_writeRow RX4 4) (hr : meth.sig.returnType = (none : Option Jvm.ClassFile.FieldType)) (hlk : meth.locks = false)  {a0 : Nat} {a1 : Nat} {x2 : Int32} {d1 : ix_D2}  {x3 : Int32} {d : ix_D2} (h : f_X4_writeRow_2 n z  a0 a1 x2 x3 d = some d1) : ix_G p l e (ix_rm 3 64 0 0) s m args below meth c (MQ below (ix_Post K none (ix_w z d1)) args s 0 0 (ix_A K)) K 4 0 0 2 [(0, .ref (K.2.2.1 + a0)), (1, .ref (K.2.2.1 + a1)), (2, .int x2), (3, .int x3)] [] (ix_w z d) := by
  have key : ∀ (f : Nat) (x3 : Int32) (d : ix_D2), ix_fix (b_X4_writeRow_2 n z  a0 a1 x2) (fun _ _ => none) f x3 d = some d1 → ix_G p l e (ix_rm 3 64 0 0) s m args below meth c (MQ below (ix_Post K none (ix_w z d1)) args s 0 0 (ix_A K)) K 4 0 0 2 [(0, .ref (K.2.2.1 + a0)), (1, .ref (K.2.2.1 + a1)), (2, .int x2), (3, .int x3)] [] (ix_w z d) := by
    intro f
    induction f with
    | zero =>
      intro x3 d h
      have h : (none : Option (ix_D2)) = some d1 := h
      cases h
    | succ f ih =>
      intro x3 d h
      exact tb_X4_writeRow_2 hKp X hr hlk (rec2 := ix_fix (b_X4_writeRow_2 n z  a0 a1 x2) (fun _ _ => none) f)  ih h
  exact key n x3 d h
set_option maxRecDepth 20000 in
theorem c_X4_writeRow {l : Launch} {K : ix_Cx} (hKp : ix_Kp K) {n : Nat} {z : ix_Z} {a0 : Nat} {a1 : Nat} {x2 : Int32} {d : ix_D2} {d1 : ix_D2} (h : f_X4_writeRow n z a0 a1 x2 d = some d1) : ix_M l K yX4_writeRow cX4_writeRow 4 (none : Option Jvm.ClassFile.FieldType) 3 64 0 0 [.ref (K.2.2.1 + a0), .ref (K.2.2.1 + a1), .int x2] (ix_w z d) none (ix_w z d1) := by
  refine ix_met mf_X4_writeRow hKp (Nat.le_of_ble_eq_true rfl) ?_
  intro p e s m args below meth c hr hlk hnm X
  have X : ix_X p s m args c K cX4_writeRow RX4 4 := X
  show ix_G p l e (ix_rm 3 64 0 0) s m args below meth c (MQ below (ix_Post K none (ix_w z d1)) args s 0 0 (ix_A K)) K 4 0 0 0 [(0, .ref (K.2.2.1 + a0)), (1, .ref (K.2.2.1 + a1)), (2, .int x2)] [] (ix_w z d)
  unfold f_X4_writeRow at h
  refine ix_iconst (v := 0) X (ix_tb_at tb_X4_writeRow 0 rfl) (by decide) (pc1 := 1) rfl ?_
  refine ix_istore_n (i := 3) (L1 := [(3, .int 0), (0, .ref (K.2.2.1 + a0)), (1, .ref (K.2.2.1 + a1)), (2, .int x2)]) X (ix_tb_at tb_X4_writeRow 1 rfl) rfl (Nat.le_of_ble_eq_true rfl) rfl (pc1 := 2) rfl ?_
  refine ix_sub (L1 := [(0, .ref (K.2.2.1 + a0)), (1, .ref (K.2.2.1 + a1)), (2, .int x2), (3, .int 0)]) [1, 2, 3, 0] rfl ?_
  exact t_X4_writeRow_2 hKp X hr hlk  h
def tab_X4_noted : List (Nat × Instr × Nat) := [(0, .iload_n 1, 1), (1, .ifCond .lt 36, 3), (4, .iload_n 1, 1), (5, .bipush 100, 2), (7, .if_icmp .ge 30, 3), (10, .iload_n 1, 1), (11, .aload_n 0, 1), (12, .getfield 132, 3), (15, .if_icmp .ge 22, 3), (18, .aload_n 0, 1), (19, .getfield 18, 3), (22, .aload_n 0, 1), (23, .getfield 132, 3), (26, .iconst 1, 1), (27, .isub, 1), (28, .iload_n 1, 1), (29, .isub, 1), (30, .bipush 100, 2), (32, .irem, 1), (33, .iaload, 1), (34, .goto 6, 3), (37, .sipush (-1005), 3), (40, .ireturn, 1)]
theorem tb_X4_noted : ix_tab cX4_noted tab_X4_noted := by
  unfold ix_tab
  decide +kernel
noncomputable def f_X4_noted_37 (n : Nat) (z : ix_Z)   (d : ix_D2) : Option (Int32 × ix_D2) :=
  some ((-1005), d)
noncomputable def f_X4_noted (n : Nat) (z : ix_Z) (a0 : Nat) (x1 : Int32) (d : ix_D2) : Option (Int32 × ix_D2) :=
  ix_if (x1 < 0) (f_X4_noted_37 n z   d) (ix_if (100 ≤ x1) (f_X4_noted_37 n z   d) (ix_ck (ix_ok z [4] a0) (ix_if (d.1 a0 5 ≤ x1) (f_X4_noted_37 n z   d) (ix_bd1 (z.1 a0 4) (fun b_5 => ix_ck (ix_ix z 20 b_5 ((((d.1 a0 5) - 1) - x1) - (((d.1 a0 5) - 1) - x1) / 100 * 100)) (some (d.1 b_5 (ix_n ((((d.1 a0 5) - 1) - x1) - (((d.1 a0 5) - 1) - x1) / 100 * 100)), d)))))))
set_option maxRecDepth 20000 in
theorem t_X4_noted_37 {l : Launch} {p : Program} {e : Env} {s : State} {m : MethodId} {args : Array Value} {below : List Frame} {meth : Method} {c : Code} {K : ix_Cx} (hKp : ix_Kp K) {n : Nat} {z : ix_Z} (X : ix_X p s m args c K cX4_noted RX4 2) (hr : meth.sig.returnType = (some .int)) (hlk : meth.locks = false)   {r : Int32} {d1 : ix_D2}  {d : ix_D2} (h : f_X4_noted_37 n z   d = some (r, d1)) : ix_G p l e (ix_rm 0 0 0 0) s m args below meth c (MQ below (ix_Post K (some (.int r)) (ix_w z d1)) args s 0 0 (ix_A K)) K 2 0 0 37 [] [] (ix_w z d) := by
  unfold f_X4_noted_37 at h
  refine ix_sipush (v := (-1005)) X (ix_tb_at tb_X4_noted 21 rfl) (by decide) (pc1 := 40) rfl ?_
  exact ix_iret X hr hlk (ix_r2 (f := fun r => some (.int r)) (g := ix_w z) h) (ix_tb_at tb_X4_noted 22 rfl)
set_option maxRecDepth 20000 in
theorem c_X4_noted {l : Launch} {K : ix_Cx} (hKp : ix_Kp K) {n : Nat} {z : ix_Z} {a0 : Nat} {x1 : Int32} {d : ix_D2} {r : Int32} {d1 : ix_D2} (h : f_X4_noted n z a0 x1 d = some (r, d1)) : ix_M l K yX4_noted cX4_noted 2 (some .int) 0 0 0 0 [.ref (K.2.2.1 + a0), .int x1] (ix_w z d) (some (.int r)) (ix_w z d1) := by
  refine ix_met mf_X4_noted hKp (Nat.le_of_ble_eq_true rfl) ?_
  intro p e s m args below meth c hr hlk hnm X
  have X : ix_X p s m args c K cX4_noted RX4 2 := X
  show ix_G p l e (ix_rm 0 0 0 0) s m args below meth c (MQ below (ix_Post K (some (.int r)) (ix_w z d1)) args s 0 0 (ix_A K)) K 2 0 0 0 [(0, .ref (K.2.2.1 + a0)), (1, .int x1)] [] (ix_w z d)
  unfold f_X4_noted at h
  refine ix_iload_n (i := 1) (j := 1) X (ix_tb_at tb_X4_noted 0 rfl) rfl rfl (pc1 := 1) rfl ?_
  refine ix_if_lt (tgt := 37) X (ix_tb_at tb_X4_noted 1 rfl) (by decide) (pc1 := 4) rfl (fun q_1 => ?_) (fun q_1 => ?_)
  · have h := ix_ift q_1 h
    refine ix_sub (L1 := []) [] rfl ?_
    exact t_X4_noted_37 hKp X hr hlk  h
  · have h := ix_iff q_1 h
    refine ix_iload_n (i := 1) (j := 1) X (ix_tb_at tb_X4_noted 2 rfl) rfl rfl (pc1 := 5) rfl ?_
    refine ix_bipush (v := 100) X (ix_tb_at tb_X4_noted 3 rfl) (by decide) (pc1 := 7) rfl ?_
    refine ix_icmp_ge (tgt := 37) X (ix_tb_at tb_X4_noted 4 rfl) (by decide) (pc1 := 10) rfl (fun q_2 => ?_) (fun q_2 => ?_)
    · have h := ix_ift q_2 h
      refine ix_sub (L1 := []) [] rfl ?_
      exact t_X4_noted_37 hKp X hr hlk  h
    · have h := ix_iff q_2 h
      refine ix_iload_n (i := 1) (j := 1) X (ix_tb_at tb_X4_noted 5 rfl) rfl rfl (pc1 := 11) rfl ?_
      refine ix_aload_n (i := 0) (j := 0) X (ix_tb_at tb_X4_noted 6 rfl) rfl rfl (pc1 := 12) rfl ?_
      obtain ⟨k_3, h⟩ := ix_ck_some h
      refine iz_getI X fl_RX4_132 k_3 (ix_tb_at tb_X4_noted 7 rfl) (pc1 := 15) rfl ?_
      refine ix_icmp_ge (tgt := 37) X (ix_tb_at tb_X4_noted 8 rfl) (by decide) (pc1 := 18) rfl (fun q_4 => ?_) (fun q_4 => ?_)
      · have h := ix_ift q_4 h
        refine ix_sub (L1 := []) [] rfl ?_
        exact t_X4_noted_37 hKp X hr hlk  h
      · have h := ix_iff q_4 h
        refine ix_aload_n (i := 0) (j := 0) X (ix_tb_at tb_X4_noted 9 rfl) rfl rfl (pc1 := 19) rfl ?_
        obtain ⟨b_5, q_6, h⟩ := ix_bd1_ex h
        refine iz_getR X fl_RX4_18 k_3 q_6 (ix_tb_at tb_X4_noted 10 rfl) (pc1 := 22) rfl ?_
        refine ix_aload_n (i := 0) (j := 0) X (ix_tb_at tb_X4_noted 11 rfl) rfl rfl (pc1 := 23) rfl ?_
        refine iz_getI X fl_RX4_132 k_3 (ix_tb_at tb_X4_noted 12 rfl) (pc1 := 26) rfl ?_
        refine ix_iconst (v := 1) X (ix_tb_at tb_X4_noted 13 rfl) (by decide) (pc1 := 27) rfl ?_
        refine ix_isub X (ix_tb_at tb_X4_noted 14 rfl) (pc1 := 28) rfl ?_
        refine ix_iload_n (i := 1) (j := 1) X (ix_tb_at tb_X4_noted 15 rfl) rfl rfl (pc1 := 29) rfl ?_
        refine ix_isub X (ix_tb_at tb_X4_noted 16 rfl) (pc1 := 30) rfl ?_
        refine ix_bipush (v := 100) X (ix_tb_at tb_X4_noted 17 rfl) (by decide) (pc1 := 32) rfl ?_
        refine ix_irem X (ix_tb_at tb_X4_noted 18 rfl) (by decide) (pc1 := 33) rfl ?_
        obtain ⟨k_7, h⟩ := ix_ck_some h
        refine iz_iald X k_7 (ix_tb_at tb_X4_noted 19 rfl) (pc1 := 34) rfl ?_
        refine ix_goto (tgt := 40) X (ix_tb_at tb_X4_noted 20 rfl) (by decide) ?_
        exact ix_iret X hr hlk (ix_r2 (f := fun r => some (.int r)) (g := ix_w z) h) (ix_tb_at tb_X4_noted 22 rfl)
def tab_X5_kindNumber : List (Nat × Instr × Nat) := [(0, .iconst 2, 1), (1, .ireturn, 1)]
theorem tb_X5_kindNumber : ix_tab cX5_kindNumber tab_X5_kindNumber := by
  unfold ix_tab
  decide +kernel
noncomputable def f_X5_kindNumber (n : Nat) (z : ix_Z) (a0 : Nat) (d : ix_D2) : Option (Int32 × ix_D2) :=
  some (2, d)
set_option maxRecDepth 20000 in
theorem c_X5_kindNumber {l : Launch} {K : ix_Cx} (hKp : ix_Kp K) {n : Nat} {z : ix_Z} {a0 : Nat} {d : ix_D2} {r : Int32} {d1 : ix_D2} (h : f_X5_kindNumber n z a0 d = some (r, d1)) : ix_M l K yX5_kindNumber cX5_kindNumber 1 (some .int) 0 0 0 0 [.ref (K.2.2.1 + a0)] (ix_w z d) (some (.int r)) (ix_w z d1) := by
  refine ix_met mf_X5_kindNumber hKp (Nat.le_of_ble_eq_true rfl) ?_
  intro p e s m args below meth c hr hlk hnm X
  have X : ix_X p s m args c K cX5_kindNumber RX5 1 := X
  show ix_G p l e (ix_rm 0 0 0 0) s m args below meth c (MQ below (ix_Post K (some (.int r)) (ix_w z d1)) args s 0 0 (ix_A K)) K 1 0 0 0 [(0, .ref (K.2.2.1 + a0))] [] (ix_w z d)
  unfold f_X5_kindNumber at h
  refine ix_iconst (v := 2) X (ix_tb_at tb_X5_kindNumber 0 rfl) (by decide) (pc1 := 1) rfl ?_
  exact ix_iret X hr hlk (ix_r2 (f := fun r => some (.int r)) (g := ix_w z) h) (ix_tb_at tb_X5_kindNumber 1 rfl)
def tab_X5_holds : List (Nat × Instr × Nat) := [(0, .aload_n 2, 1), (1, .bipush 20, 2), (3, .invokevirtual 31, 3), (6, .aload_n 0, 1), (7, .aload_n 1, 1), (8, .aload_n 2, 1), (9, .invokespecial 37, 3), (12, .ifCond .eq 19, 3), (15, .aload_n 0, 1), (16, .aload_n 1, 1), (17, .invokevirtual 41, 3), (20, .aload_n 0, 1), (21, .getfield 17, 3), (24, .if_icmp .lt 7, 3), (27, .iconst 1, 1), (28, .goto 4, 3), (31, .iconst 0, 1), (32, .ireturn, 1)]
theorem tb_X5_holds : ix_tab cX5_holds tab_X5_holds := by
  unfold ix_tab
  decide +kernel
noncomputable def v_RX5_37 (n : Nat) (z : ix_Z) (b : Nat) (p0 : Nat) (p1 : Nat) (d : ix_D2) : Option (Int32 × ix_D2) := f_X0_holds n z b p0 p1 d
theorem tv_RX5_37 {l : Launch} {p : Program} {e : Env} {s : State} {m : MethodId} {args : Array Value} {below : List Frame} {meth : Method} {c : Code} {K : ix_Cx} {R : Room} {Q : State → Prop} {nL k n pc : Nat} {cc : ByteArray} {L : List (Nat × Value)} {rest : List Value} (hKp : ix_Kp K) (X : ix_X p s m args c K cc RX5 nL) {N : Nat} {z : ix_Z} {b : Nat} {p0 : Nat} {p1 : Nat} {d : ix_D2} {r : Int32} {d1 : ix_D2} (hk : ix_ok z [5] b) (hcall : v_RX5_37 N z b p0 p1 d = some (r, d1)) (hfr : 4 ≤ R.frames) (hlo : 87 ≤ R.locals) (hcs : k + 0 ≤ R.cells ∧ n + 0 ≤ R.slots) (hrm : (rest.map fun v => v.category).sum ≤ 8) (hd : decode cc pc = .ok (.invokespecial 37, 3)) {pc1 : Nat} (hp : pc + 3 = pc1) (kk : ix_G p l e R s m args below meth c Q K nL k n pc1 L (.int r :: rest) (ix_w z d1)) : ix_G p l e R s m args below meth c Q K nL k n pc L (.ref (K.2.2.1 + p1) :: .ref (K.2.2.1 + p0) :: .ref (K.2.2.1 + b) :: rest) (ix_w z d) := by
  unfold v_RX5_37 at hcall
  have h2 := hk.2
  simp only [List.mem_cons, List.not_mem_nil, or_false] at h2
  rcases h2 with h2
  · exact ix_callSU (As := [.ref (K.2.2.1 + p0), .ref (K.2.2.1 + p1)]) (rest := rest) (C := RX5) (T := TX5) (nf := 4) (ci := 5) X mf_X0_holds mi_X0_holds (ix_wm (i := 2472) (by decide +kernel)) (ix_wm (i := 661) (by decide +kernel)) (by decide) rfl (by decide) ml_RX5_37 ⟨Nat.le_trans (Nat.le_of_ble_eq_true rfl) hfr, Nat.le_trans (Nat.le_of_ble_eq_true rfl) hlo⟩ hcs rfl hrm hd ⟨hk.1, h2⟩ (c_X0_holds hKp hcall) rfl hp kk
noncomputable def v_RX5_41 (n : Nat) (z : ix_Z) (b : Nat) (p0 : Nat) (d : ix_D2) : Option (Int32 × ix_D2) := f_X8_trueOnes n z b p0 d
theorem tv_RX5_41 {l : Launch} {p : Program} {e : Env} {s : State} {m : MethodId} {args : Array Value} {below : List Frame} {meth : Method} {c : Code} {K : ix_Cx} {R : Room} {Q : State → Prop} {nL k n pc : Nat} {cc : ByteArray} {L : List (Nat × Value)} {rest : List Value} (hKp : ix_Kp K) (X : ix_X p s m args c K cc RX5 nL) {N : Nat} {z : ix_Z} {b : Nat} {p0 : Nat} {d : ix_D2} {r : Int32} {d1 : ix_D2} (hk : ix_ok z [5] b) (hcall : v_RX5_41 N z b p0 d = some (r, d1)) (hfr : 3 ≤ R.frames) (hlo : 65 ≤ R.locals) (hcs : k + 0 ≤ R.cells ∧ n + 0 ≤ R.slots) (hrm : (rest.map fun v => v.category).sum ≤ 8) (hd : decode cc pc = .ok (.invokevirtual 41, 3)) {pc1 : Nat} (hp : pc + 3 = pc1) (kk : ix_G p l e R s m args below meth c Q K nL k n pc1 L (.int r :: rest) (ix_w z d1)) : ix_G p l e R s m args below meth c Q K nL k n pc L (.ref (K.2.2.1 + p0) :: .ref (K.2.2.1 + b) :: rest) (ix_w z d) := by
  unfold v_RX5_41 at hcall
  have h2 := hk.2
  simp only [List.mem_cons, List.not_mem_nil, or_false] at h2
  rcases h2 with h2
  · exact ix_callU (As := [.ref (K.2.2.1 + p0)]) (rest := rest) (x := (⟨"ClauseCourt$Group", "trueOnes", "(LClauseCourt$Board;)I"⟩ : MethodName)) (owner := "ClauseCourt$Rule") (C := RX5) (T := TX5) (nf := 4) (ci := 5) X mf_X8_trueOnes mi_X8_trueOnes (ix_wm (i := 945) (by decide +kernel)) (ix_wm (i := 944) (by decide +kernel)) (Or.inl (ix_wm (i := 915) (by decide +kernel))) ⟨by decide, by decide⟩ (by decide +kernel) rfl (by decide) ml_RX5_41 ⟨Nat.le_trans (Nat.le_of_ble_eq_true rfl) hfr, Nat.le_trans (Nat.le_of_ble_eq_true rfl) hlo⟩ hcs rfl hrm hd ⟨hk.1, h2⟩ (c_X8_trueOnes hKp hcall) rfl hp kk
noncomputable def f_X5_holds (n : Nat) (z : ix_Z) (a0 : Nat) (a1 : Nat) (a2 : Nat) (d : ix_D2) : Option (Int32 × ix_D2) :=
  ix_ck (ix_ok z [4] a2) (ix_bd1 (f_X4_note n z a2 20 d) (fun d_1 => ix_ck (ix_ok z [5] a0) (ix_bd2 (v_RX5_37 n z a0 a1 a2 d_1) (fun r_7 d_5 => ix_if (r_7 = 0) (some (0, d_5)) (ix_bd2 (v_RX5_41 n z a0 a1 d_5) (fun r_11 d_9 => ix_if (r_11 < d_9.1 a0 3) (some (0, d_9)) (some (1, d_9))))))))
set_option maxRecDepth 20000 in
theorem c_X5_holds {l : Launch} {K : ix_Cx} (hKp : ix_Kp K) {n : Nat} {z : ix_Z} {a0 : Nat} {a1 : Nat} {a2 : Nat} {d : ix_D2} {r : Int32} {d1 : ix_D2} (h : f_X5_holds n z a0 a1 a2 d = some (r, d1)) : ix_M l K yX5_holds cX5_holds 3 (some .boolean) 4 87 0 0 [.ref (K.2.2.1 + a0), .ref (K.2.2.1 + a1), .ref (K.2.2.1 + a2)] (ix_w z d) (some (.int r)) (ix_w z d1) := by
  refine ix_met mf_X5_holds hKp (Nat.le_of_ble_eq_true rfl) ?_
  intro p e s m args below meth c hr hlk hnm X
  have X : ix_X p s m args c K cX5_holds RX5 3 := X
  show ix_G p l e (ix_rm 4 87 0 0) s m args below meth c (MQ below (ix_Post K (some (.int r)) (ix_w z d1)) args s 0 0 (ix_A K)) K 3 0 0 0 [(0, .ref (K.2.2.1 + a0)), (1, .ref (K.2.2.1 + a1)), (2, .ref (K.2.2.1 + a2))] [] (ix_w z d)
  unfold f_X5_holds at h
  refine ix_aload_n (i := 2) (j := 2) X (ix_tb_at tb_X5_holds 0 rfl) rfl rfl (pc1 := 1) rfl ?_
  refine ix_bipush (v := 20) X (ix_tb_at tb_X5_holds 1 rfl) (by decide) (pc1 := 3) rfl ?_
  obtain ⟨k_3, h⟩ := ix_ck_some h
  obtain ⟨d_1, h_2, h⟩ := ix_bd1_ex h
  refine ix_callV (As := [.int 20]) (rest := []) (ci := 4) (T := TX4) (nf := 17) X mf_X4_note mi_X4_note ms_X4_note rfl (Nat.le_of_ble_eq_true rfl) ml_RX5_31 ⟨Nat.le_of_ble_eq_true rfl, Nat.le_of_ble_eq_true rfl⟩ ⟨Nat.le_of_ble_eq_true rfl, Nat.le_of_ble_eq_true rfl⟩ rfl (Nat.le_of_ble_eq_true rfl) (ix_tb_at tb_X5_holds 2 rfl) ⟨k_3.1, List.mem_singleton.mp k_3.2⟩ (c_X4_note hKp h_2) rfl (pc1 := 6) rfl ?_
  refine ix_aload_n (i := 0) (j := 0) X (ix_tb_at tb_X5_holds 3 rfl) rfl rfl (pc1 := 7) rfl ?_
  refine ix_aload_n (i := 1) (j := 1) X (ix_tb_at tb_X5_holds 4 rfl) rfl rfl (pc1 := 8) rfl ?_
  refine ix_aload_n (i := 2) (j := 2) X (ix_tb_at tb_X5_holds 5 rfl) rfl rfl (pc1 := 9) rfl ?_
  obtain ⟨k_4, h⟩ := ix_ck_some h
  obtain ⟨r_7, d_5, h_6, h⟩ := ix_bd2_ex h
  refine tv_RX5_37 (rest := []) hKp X k_4 h_6 (Nat.le_of_ble_eq_true rfl) (Nat.le_of_ble_eq_true rfl) ⟨Nat.le_of_ble_eq_true rfl, Nat.le_of_ble_eq_true rfl⟩ (Nat.le_of_ble_eq_true rfl) (ix_tb_at tb_X5_holds 6 rfl) (pc1 := 12) rfl ?_
  refine ix_if_eq (tgt := 31) X (ix_tb_at tb_X5_holds 7 rfl) (by decide) (pc1 := 15) rfl (fun q_8 => ?_) (fun q_8 => ?_)
  · have h := ix_ift q_8 h
    refine ix_iconst (v := 0) X (ix_tb_at tb_X5_holds 16 rfl) (by decide) (pc1 := 32) rfl ?_
    exact ix_zret X hr hlk (by decide) (ix_r2 (f := fun r => some (.int r)) (g := ix_w z) h) (ix_tb_at tb_X5_holds 17 rfl)
  · have h := ix_iff q_8 h
    refine ix_aload_n (i := 0) (j := 0) X (ix_tb_at tb_X5_holds 8 rfl) rfl rfl (pc1 := 16) rfl ?_
    refine ix_aload_n (i := 1) (j := 1) X (ix_tb_at tb_X5_holds 9 rfl) rfl rfl (pc1 := 17) rfl ?_
    obtain ⟨r_11, d_9, h_10, h⟩ := ix_bd2_ex h
    refine tv_RX5_41 (rest := []) hKp X k_4 h_10 (Nat.le_of_ble_eq_true rfl) (Nat.le_of_ble_eq_true rfl) ⟨Nat.le_of_ble_eq_true rfl, Nat.le_of_ble_eq_true rfl⟩ (Nat.le_of_ble_eq_true rfl) (ix_tb_at tb_X5_holds 10 rfl) (pc1 := 20) rfl ?_
    refine ix_aload_n (i := 0) (j := 0) X (ix_tb_at tb_X5_holds 11 rfl) rfl rfl (pc1 := 21) rfl ?_
    refine iz_getI X fl_RX5_17 k_4 (ix_tb_at tb_X5_holds 12 rfl) (pc1 := 24) rfl ?_
    refine ix_icmp_lt (tgt := 31) X (ix_tb_at tb_X5_holds 13 rfl) (by decide) (pc1 := 27) rfl (fun q_12 => ?_) (fun q_12 => ?_)
    · have h := ix_ift q_12 h
      refine ix_iconst (v := 0) X (ix_tb_at tb_X5_holds 16 rfl) (by decide) (pc1 := 32) rfl ?_
      exact ix_zret X hr hlk (by decide) (ix_r2 (f := fun r => some (.int r)) (g := ix_w z) h) (ix_tb_at tb_X5_holds 17 rfl)
    · have h := ix_iff q_12 h
      refine ix_iconst (v := 1) X (ix_tb_at tb_X5_holds 14 rfl) (by decide) (pc1 := 28) rfl ?_
      refine ix_goto (tgt := 32) X (ix_tb_at tb_X5_holds 15 rfl) (by decide) ?_
      exact ix_zret X hr hlk (by decide) (ix_r2 (f := fun r => some (.int r)) (g := ix_w z) h) (ix_tb_at tb_X5_holds 17 rfl)
def tab_X5_fewest : List (Nat × Instr × Nat) := [(0, .aload_n 1, 1), (1, .bipush 21, 2), (3, .invokevirtual 31, 3), (6, .aload_n 0, 1), (7, .getfield 17, 3), (10, .ireturn, 1)]
theorem tb_X5_fewest : ix_tab cX5_fewest tab_X5_fewest := by
  unfold ix_tab
  decide +kernel
noncomputable def f_X5_fewest (n : Nat) (z : ix_Z) (a0 : Nat) (a1 : Nat) (d : ix_D2) : Option (Int32 × ix_D2) :=
  ix_ck (ix_ok z [4] a1) (ix_bd1 (f_X4_note n z a1 21 d) (fun d_1 => ix_ck (ix_ok z [5] a0) (some (d_1.1 a0 3, d_1))))
set_option maxRecDepth 20000 in
theorem c_X5_fewest {l : Launch} {K : ix_Cx} (hKp : ix_Kp K) {n : Nat} {z : ix_Z} {a0 : Nat} {a1 : Nat} {d : ix_D2} {r : Int32} {d1 : ix_D2} (h : f_X5_fewest n z a0 a1 d = some (r, d1)) : ix_M l K yX5_fewest cX5_fewest 2 (some .int) 1 21 0 0 [.ref (K.2.2.1 + a0), .ref (K.2.2.1 + a1)] (ix_w z d) (some (.int r)) (ix_w z d1) := by
  refine ix_met mf_X5_fewest hKp (Nat.le_of_ble_eq_true rfl) ?_
  intro p e s m args below meth c hr hlk hnm X
  have X : ix_X p s m args c K cX5_fewest RX5 2 := X
  show ix_G p l e (ix_rm 1 21 0 0) s m args below meth c (MQ below (ix_Post K (some (.int r)) (ix_w z d1)) args s 0 0 (ix_A K)) K 2 0 0 0 [(0, .ref (K.2.2.1 + a0)), (1, .ref (K.2.2.1 + a1))] [] (ix_w z d)
  unfold f_X5_fewest at h
  refine ix_aload_n (i := 1) (j := 1) X (ix_tb_at tb_X5_fewest 0 rfl) rfl rfl (pc1 := 1) rfl ?_
  refine ix_bipush (v := 21) X (ix_tb_at tb_X5_fewest 1 rfl) (by decide) (pc1 := 3) rfl ?_
  obtain ⟨k_3, h⟩ := ix_ck_some h
  obtain ⟨d_1, h_2, h⟩ := ix_bd1_ex h
  refine ix_callV (As := [.int 21]) (rest := []) (ci := 4) (T := TX4) (nf := 17) X mf_X4_note mi_X4_note ms_X4_note rfl (Nat.le_of_ble_eq_true rfl) ml_RX5_31 ⟨Nat.le_of_ble_eq_true rfl, Nat.le_of_ble_eq_true rfl⟩ ⟨Nat.le_of_ble_eq_true rfl, Nat.le_of_ble_eq_true rfl⟩ rfl (Nat.le_of_ble_eq_true rfl) (ix_tb_at tb_X5_fewest 2 rfl) ⟨k_3.1, List.mem_singleton.mp k_3.2⟩ (c_X4_note hKp h_2) rfl (pc1 := 6) rfl ?_
  refine ix_aload_n (i := 0) (j := 0) X (ix_tb_at tb_X5_fewest 3 rfl) rfl rfl (pc1 := 7) rfl ?_
  obtain ⟨k_4, h⟩ := ix_ck_some h
  refine iz_getI X fl_RX5_17 k_4 (ix_tb_at tb_X5_fewest 4 rfl) (pc1 := 10) rfl ?_
  exact ix_iret X hr hlk (ix_r2 (f := fun r => some (.int r)) (g := ix_w z) h) (ix_tb_at tb_X5_fewest 5 rfl)
def tab_X5_write : List (Nat × Instr × Nat) := [(0, .aload_n 1, 1), (1, .bipush 24, 2), (3, .invokevirtual 31, 3), (6, .aload_n 1, 1), (7, .ldc 45, 2), (9, .invokevirtual 47, 3), (12, .aload_n 0, 1), (13, .aload_n 1, 1), (14, .invokespecial 51, 3), (17, .return_, 1)]
theorem tb_X5_write : ix_tab cX5_write tab_X5_write := by
  unfold ix_tab
  decide +kernel
noncomputable def v_RX5_51 (n : Nat) (z : ix_Z) (b : Nat) (p0 : Nat) (d : ix_D2) : Option (ix_D2) := f_X0_write n z b p0 d
theorem tv_RX5_51 {l : Launch} {p : Program} {e : Env} {s : State} {m : MethodId} {args : Array Value} {below : List Frame} {meth : Method} {c : Code} {K : ix_Cx} {R : Room} {Q : State → Prop} {nL k n pc : Nat} {cc : ByteArray} {L : List (Nat × Value)} {rest : List Value} (hKp : ix_Kp K) (hT : ix_Tc K) (X : ix_X p s m args c K cc RX5 nL) {N : Nat} {z : ix_Z} {b : Nat} {p0 : Nat} {d : ix_D2} {d1 : ix_D2} (hk : ix_ok z [5] b) (hcall : v_RX5_51 N z b p0 d = some d1) (hfr : 6 ≤ R.frames) (hlo : 128 ≤ R.locals) (hcs : k + 0 ≤ R.cells ∧ n + 0 ≤ R.slots) (hrm : (rest.map fun v => v.category).sum ≤ 8) (hd : decode cc pc = .ok (.invokespecial 51, 3)) {pc1 : Nat} (hp : pc + 3 = pc1) (kk : ix_G p l e R s m args below meth c Q K nL k n pc1 L (rest) (ix_w z d1)) : ix_G p l e R s m args below meth c Q K nL k n pc L (.ref (K.2.2.1 + p0) :: .ref (K.2.2.1 + b) :: rest) (ix_w z d) := by
  unfold v_RX5_51 at hcall
  have h2 := hk.2
  simp only [List.mem_cons, List.not_mem_nil, or_false] at h2
  rcases h2 with h2
  · exact ix_callSU (As := [.ref (K.2.2.1 + p0)]) (rest := rest) (C := RX5) (T := TX5) (nf := 4) (ci := 5) X mf_X0_write mi_X0_write (ix_wm (i := 2474) (by decide +kernel)) (ix_wm (i := 661) (by decide +kernel)) (by decide) rfl (by decide) ml_RX5_51 ⟨Nat.le_trans (Nat.le_of_ble_eq_true rfl) hfr, Nat.le_trans (Nat.le_of_ble_eq_true rfl) hlo⟩ hcs rfl hrm hd ⟨hk.1, h2⟩ (c_X0_write hKp hT hcall) rfl hp kk
noncomputable def f_X5_write (n : Nat) (z : ix_Z) (a0 : Nat) (a1 : Nat) (d : ix_D2) : Option (ix_D2) :=
  ix_ck (ix_ok z [4] a1) (ix_bd1 (f_X4_note n z a1 24 d) (fun d_1 => ix_bd1 (f_X4_writeText n z a1 3 d_1) (fun d_4 => ix_ck (ix_ok z [5] a0) (ix_bd1 (v_RX5_51 n z a0 a1 d_4) (fun d_7 => some d_7)))))
set_option maxRecDepth 20000 in
theorem c_X5_write {l : Launch} {K : ix_Cx} (hKp : ix_Kp K) (hT : ix_Tc K) {n : Nat} {z : ix_Z} {a0 : Nat} {a1 : Nat} {d : ix_D2} {d1 : ix_D2} (h : f_X5_write n z a0 a1 d = some d1) : ix_M l K yX5_write cX5_write 2 (none : Option Jvm.ClassFile.FieldType) 6 128 0 0 [.ref (K.2.2.1 + a0), .ref (K.2.2.1 + a1)] (ix_w z d) none (ix_w z d1) := by
  refine ix_met mf_X5_write hKp (Nat.le_of_ble_eq_true rfl) ?_
  intro p e s m args below meth c hr hlk hnm X
  have X : ix_X p s m args c K cX5_write RX5 2 := X
  show ix_G p l e (ix_rm 6 128 0 0) s m args below meth c (MQ below (ix_Post K none (ix_w z d1)) args s 0 0 (ix_A K)) K 2 0 0 0 [(0, .ref (K.2.2.1 + a0)), (1, .ref (K.2.2.1 + a1))] [] (ix_w z d)
  unfold f_X5_write at h
  refine ix_aload_n (i := 1) (j := 1) X (ix_tb_at tb_X5_write 0 rfl) rfl rfl (pc1 := 1) rfl ?_
  refine ix_bipush (v := 24) X (ix_tb_at tb_X5_write 1 rfl) (by decide) (pc1 := 3) rfl ?_
  obtain ⟨k_3, h⟩ := ix_ck_some h
  obtain ⟨d_1, h_2, h⟩ := ix_bd1_ex h
  refine ix_callV (As := [.int 24]) (rest := []) (ci := 4) (T := TX4) (nf := 17) X mf_X4_note mi_X4_note ms_X4_note rfl (Nat.le_of_ble_eq_true rfl) ml_RX5_31 ⟨Nat.le_of_ble_eq_true rfl, Nat.le_of_ble_eq_true rfl⟩ ⟨Nat.le_of_ble_eq_true rfl, Nat.le_of_ble_eq_true rfl⟩ rfl (Nat.le_of_ble_eq_true rfl) (ix_tb_at tb_X5_write 2 rfl) ⟨k_3.1, List.mem_singleton.mp k_3.2⟩ (c_X4_note hKp h_2) rfl (pc1 := 6) rfl ?_
  refine ix_aload_n (i := 1) (j := 1) X (ix_tb_at tb_X5_write 3 rfl) rfl rfl (pc1 := 7) rfl ?_
  refine ix_ldcS (j := 3) (tx := "just ") X hT rfl (ix_tb_at tb_X5_write 4 rfl) (pc1 := 9) rfl ?_
  obtain ⟨d_4, h_5, h⟩ := ix_bd1_ex h
  refine ix_callV (As := [.ref (K.2.1 (100 + 3))]) (rest := []) (ci := 4) (T := TX4) (nf := 17) X mf_X4_writeText mi_X4_writeText ms_X4_writeText rfl (Nat.le_of_ble_eq_true rfl) ml_RX5_47 ⟨Nat.le_of_ble_eq_true rfl, Nat.le_of_ble_eq_true rfl⟩ ⟨Nat.le_of_ble_eq_true rfl, Nat.le_of_ble_eq_true rfl⟩ rfl (Nat.le_of_ble_eq_true rfl) (ix_tb_at tb_X5_write 5 rfl) ⟨k_3.1, List.mem_singleton.mp k_3.2⟩ (c_X4_writeText hKp hT h_5) rfl (pc1 := 12) rfl ?_
  refine ix_aload_n (i := 0) (j := 0) X (ix_tb_at tb_X5_write 6 rfl) rfl rfl (pc1 := 13) rfl ?_
  refine ix_aload_n (i := 1) (j := 1) X (ix_tb_at tb_X5_write 7 rfl) rfl rfl (pc1 := 14) rfl ?_
  obtain ⟨k_6, h⟩ := ix_ck_some h
  obtain ⟨d_7, h_8, h⟩ := ix_bd1_ex h
  refine tv_RX5_51 (rest := []) hKp hT X k_6 h_8 (Nat.le_of_ble_eq_true rfl) (Nat.le_of_ble_eq_true rfl) ⟨Nat.le_of_ble_eq_true rfl, Nat.le_of_ble_eq_true rfl⟩ (Nat.le_of_ble_eq_true rfl) (ix_tb_at tb_X5_write 8 rfl) (pc1 := 17) rfl ?_
  exact ix_vret X hr hlk (ix_r1 (g := ix_w z) h) (ix_tb_at tb_X5_write 9 rfl)
def tab_X6_kindNumber : List (Nat × Instr × Nat) := [(0, .iconst 3, 1), (1, .ireturn, 1)]
theorem tb_X6_kindNumber : ix_tab cX6_kindNumber tab_X6_kindNumber := by
  unfold ix_tab
  decide +kernel
noncomputable def f_X6_kindNumber (n : Nat) (z : ix_Z) (a0 : Nat) (d : ix_D2) : Option (Int32 × ix_D2) :=
  some (3, d)
set_option maxRecDepth 20000 in
theorem c_X6_kindNumber {l : Launch} {K : ix_Cx} (hKp : ix_Kp K) {n : Nat} {z : ix_Z} {a0 : Nat} {d : ix_D2} {r : Int32} {d1 : ix_D2} (h : f_X6_kindNumber n z a0 d = some (r, d1)) : ix_M l K yX6_kindNumber cX6_kindNumber 1 (some .int) 0 0 0 0 [.ref (K.2.2.1 + a0)] (ix_w z d) (some (.int r)) (ix_w z d1) := by
  refine ix_met mf_X6_kindNumber hKp (Nat.le_of_ble_eq_true rfl) ?_
  intro p e s m args below meth c hr hlk hnm X
  have X : ix_X p s m args c K cX6_kindNumber RX6 1 := X
  show ix_G p l e (ix_rm 0 0 0 0) s m args below meth c (MQ below (ix_Post K (some (.int r)) (ix_w z d1)) args s 0 0 (ix_A K)) K 1 0 0 0 [(0, .ref (K.2.2.1 + a0))] [] (ix_w z d)
  unfold f_X6_kindNumber at h
  refine ix_iconst (v := 3) X (ix_tb_at tb_X6_kindNumber 0 rfl) (by decide) (pc1 := 1) rfl ?_
  exact ix_iret X hr hlk (ix_r2 (f := fun r => some (.int r)) (g := ix_w z) h) (ix_tb_at tb_X6_kindNumber 1 rfl)
def tab_X6_layPair : List (Nat × Instr × Nat) := [(0, .aload_n 0, 1), (1, .invokevirtual 27, 3), (4, .istore_n 3, 1), (5, .aload_n 0, 1), (6, .iload_n 1, 1), (7, .ineg, 1), (8, .iload_n 2, 1), (9, .ineg, 1), (10, .iload_n 3, 1), (11, .ineg, 1), (12, .invokevirtual 21, 3), (15, .aload_n 0, 1), (16, .iload_n 1, 1), (17, .iload_n 2, 1), (18, .iload_n 3, 1), (19, .ineg, 1), (20, .invokevirtual 21, 3), (23, .aload_n 0, 1), (24, .iload_n 1, 1), (25, .iload_n 2, 1), (26, .ineg, 1), (27, .iload_n 3, 1), (28, .invokevirtual 21, 3), (31, .aload_n 0, 1), (32, .iload_n 1, 1), (33, .ineg, 1), (34, .iload_n 2, 1), (35, .iload_n 3, 1), (36, .invokevirtual 21, 3), (39, .iload_n 3, 1), (40, .ireturn, 1)]
theorem tb_X6_layPair : ix_tab cX6_layPair tab_X6_layPair := by
  unfold ix_tab
  decide +kernel
noncomputable def f_X6_layPair (n : Nat) (z : ix_Z) (a0 : Nat) (x1 : Int32) (x2 : Int32) (d : ix_D2) : Option (Int32 × ix_D2) :=
  ix_ck (ix_ok z [2] a0) (ix_bd2 (f_X2_makeName n z a0 d) (fun r_4 d_1 => ix_bd1 (f_X2_lay n z a0 (-x1) (-x2) (-r_4) d_1) (fun d_5 => ix_bd1 (f_X2_lay n z a0 x1 x2 (-r_4) d_5) (fun d_7 => ix_bd1 (f_X2_lay n z a0 x1 (-x2) r_4 d_7) (fun d_9 => ix_bd1 (f_X2_lay n z a0 (-x1) x2 r_4 d_9) (fun d_11 => some (r_4, d_11)))))))
set_option maxRecDepth 20000 in
theorem c_X6_layPair {l : Launch} {K : ix_Cx} (hKp : ix_Kp K) {n : Nat} {z : ix_Z} {a0 : Nat} {x1 : Int32} {x2 : Int32} {d : ix_D2} {r : Int32} {d1 : ix_D2} (h : f_X6_layPair n z a0 x1 x2 d = some (r, d1)) : ix_M l K yX6_layPair cX6_layPair 4 (some .int) 4 94 0 0 [.ref (K.2.2.1 + a0), .int x1, .int x2] (ix_w z d) (some (.int r)) (ix_w z d1) := by
  refine ix_met mf_X6_layPair hKp (Nat.le_of_ble_eq_true rfl) ?_
  intro p e s m args below meth c hr hlk hnm X
  have X : ix_X p s m args c K cX6_layPair RX6 4 := X
  show ix_G p l e (ix_rm 4 94 0 0) s m args below meth c (MQ below (ix_Post K (some (.int r)) (ix_w z d1)) args s 0 0 (ix_A K)) K 4 0 0 0 [(0, .ref (K.2.2.1 + a0)), (1, .int x1), (2, .int x2)] [] (ix_w z d)
  unfold f_X6_layPair at h
  refine ix_aload_n (i := 0) (j := 0) X (ix_tb_at tb_X6_layPair 0 rfl) rfl rfl (pc1 := 1) rfl ?_
  obtain ⟨k_3, h⟩ := ix_ck_some h
  obtain ⟨r_4, d_1, h_2, h⟩ := ix_bd2_ex h
  refine ix_callV (As := []) (rest := []) (ci := 2) (T := TX2) (nf := 12) X mf_X2_makeName mi_X2_makeName ms_X2_makeName rfl (Nat.le_of_ble_eq_true rfl) ml_RX6_27 ⟨Nat.le_of_ble_eq_true rfl, Nat.le_of_ble_eq_true rfl⟩ ⟨Nat.le_of_ble_eq_true rfl, Nat.le_of_ble_eq_true rfl⟩ rfl (Nat.le_of_ble_eq_true rfl) (ix_tb_at tb_X6_layPair 1 rfl) ⟨k_3.1, List.mem_singleton.mp k_3.2⟩ (c_X2_makeName hKp h_2) rfl (pc1 := 4) rfl ?_
  refine ix_istore_n (i := 3) (L1 := [(3, .int r_4), (0, .ref (K.2.2.1 + a0)), (1, .int x1), (2, .int x2)]) X (ix_tb_at tb_X6_layPair 2 rfl) rfl (Nat.le_of_ble_eq_true rfl) rfl (pc1 := 5) rfl ?_
  refine ix_aload_n (i := 0) (j := 1) X (ix_tb_at tb_X6_layPair 3 rfl) rfl rfl (pc1 := 6) rfl ?_
  refine ix_iload_n (i := 1) (j := 2) X (ix_tb_at tb_X6_layPair 4 rfl) rfl rfl (pc1 := 7) rfl ?_
  refine ix_ineg X (ix_tb_at tb_X6_layPair 5 rfl) (pc1 := 8) rfl ?_
  refine ix_iload_n (i := 2) (j := 3) X (ix_tb_at tb_X6_layPair 6 rfl) rfl rfl (pc1 := 9) rfl ?_
  refine ix_ineg X (ix_tb_at tb_X6_layPair 7 rfl) (pc1 := 10) rfl ?_
  refine ix_iload_n (i := 3) (j := 0) X (ix_tb_at tb_X6_layPair 8 rfl) rfl rfl (pc1 := 11) rfl ?_
  refine ix_ineg X (ix_tb_at tb_X6_layPair 9 rfl) (pc1 := 12) rfl ?_
  obtain ⟨d_5, h_6, h⟩ := ix_bd1_ex h
  refine ix_callV (As := [.int (-x1), .int (-x2), .int (-r_4)]) (rest := []) (ci := 2) (T := TX2) (nf := 12) X mf_X2_lay mi_X2_lay ms_X2_lay rfl (Nat.le_of_ble_eq_true rfl) ml_RX6_21 ⟨Nat.le_of_ble_eq_true rfl, Nat.le_of_ble_eq_true rfl⟩ ⟨Nat.le_of_ble_eq_true rfl, Nat.le_of_ble_eq_true rfl⟩ rfl (Nat.le_of_ble_eq_true rfl) (ix_tb_at tb_X6_layPair 10 rfl) ⟨k_3.1, List.mem_singleton.mp k_3.2⟩ (c_X2_lay hKp h_6) rfl (pc1 := 15) rfl ?_
  refine ix_aload_n (i := 0) (j := 1) X (ix_tb_at tb_X6_layPair 11 rfl) rfl rfl (pc1 := 16) rfl ?_
  refine ix_iload_n (i := 1) (j := 2) X (ix_tb_at tb_X6_layPair 12 rfl) rfl rfl (pc1 := 17) rfl ?_
  refine ix_iload_n (i := 2) (j := 3) X (ix_tb_at tb_X6_layPair 13 rfl) rfl rfl (pc1 := 18) rfl ?_
  refine ix_iload_n (i := 3) (j := 0) X (ix_tb_at tb_X6_layPair 14 rfl) rfl rfl (pc1 := 19) rfl ?_
  refine ix_ineg X (ix_tb_at tb_X6_layPair 15 rfl) (pc1 := 20) rfl ?_
  obtain ⟨d_7, h_8, h⟩ := ix_bd1_ex h
  refine ix_callV (As := [.int x1, .int x2, .int (-r_4)]) (rest := []) (ci := 2) (T := TX2) (nf := 12) X mf_X2_lay mi_X2_lay ms_X2_lay rfl (Nat.le_of_ble_eq_true rfl) ml_RX6_21 ⟨Nat.le_of_ble_eq_true rfl, Nat.le_of_ble_eq_true rfl⟩ ⟨Nat.le_of_ble_eq_true rfl, Nat.le_of_ble_eq_true rfl⟩ rfl (Nat.le_of_ble_eq_true rfl) (ix_tb_at tb_X6_layPair 16 rfl) ⟨k_3.1, List.mem_singleton.mp k_3.2⟩ (c_X2_lay hKp h_8) rfl (pc1 := 23) rfl ?_
  refine ix_aload_n (i := 0) (j := 1) X (ix_tb_at tb_X6_layPair 17 rfl) rfl rfl (pc1 := 24) rfl ?_
  refine ix_iload_n (i := 1) (j := 2) X (ix_tb_at tb_X6_layPair 18 rfl) rfl rfl (pc1 := 25) rfl ?_
  refine ix_iload_n (i := 2) (j := 3) X (ix_tb_at tb_X6_layPair 19 rfl) rfl rfl (pc1 := 26) rfl ?_
  refine ix_ineg X (ix_tb_at tb_X6_layPair 20 rfl) (pc1 := 27) rfl ?_
  refine ix_iload_n (i := 3) (j := 0) X (ix_tb_at tb_X6_layPair 21 rfl) rfl rfl (pc1 := 28) rfl ?_
  obtain ⟨d_9, h_10, h⟩ := ix_bd1_ex h
  refine ix_callV (As := [.int x1, .int (-x2), .int r_4]) (rest := []) (ci := 2) (T := TX2) (nf := 12) X mf_X2_lay mi_X2_lay ms_X2_lay rfl (Nat.le_of_ble_eq_true rfl) ml_RX6_21 ⟨Nat.le_of_ble_eq_true rfl, Nat.le_of_ble_eq_true rfl⟩ ⟨Nat.le_of_ble_eq_true rfl, Nat.le_of_ble_eq_true rfl⟩ rfl (Nat.le_of_ble_eq_true rfl) (ix_tb_at tb_X6_layPair 22 rfl) ⟨k_3.1, List.mem_singleton.mp k_3.2⟩ (c_X2_lay hKp h_10) rfl (pc1 := 31) rfl ?_
  refine ix_aload_n (i := 0) (j := 1) X (ix_tb_at tb_X6_layPair 23 rfl) rfl rfl (pc1 := 32) rfl ?_
  refine ix_iload_n (i := 1) (j := 2) X (ix_tb_at tb_X6_layPair 24 rfl) rfl rfl (pc1 := 33) rfl ?_
  refine ix_ineg X (ix_tb_at tb_X6_layPair 25 rfl) (pc1 := 34) rfl ?_
  refine ix_iload_n (i := 2) (j := 3) X (ix_tb_at tb_X6_layPair 26 rfl) rfl rfl (pc1 := 35) rfl ?_
  refine ix_iload_n (i := 3) (j := 0) X (ix_tb_at tb_X6_layPair 27 rfl) rfl rfl (pc1 := 36) rfl ?_
  obtain ⟨d_11, h_12, h⟩ := ix_bd1_ex h
  refine ix_callV (As := [.int (-x1), .int x2, .int r_4]) (rest := []) (ci := 2) (T := TX2) (nf := 12) X mf_X2_lay mi_X2_lay ms_X2_lay rfl (Nat.le_of_ble_eq_true rfl) ml_RX6_21 ⟨Nat.le_of_ble_eq_true rfl, Nat.le_of_ble_eq_true rfl⟩ ⟨Nat.le_of_ble_eq_true rfl, Nat.le_of_ble_eq_true rfl⟩ rfl (Nat.le_of_ble_eq_true rfl) (ix_tb_at tb_X6_layPair 28 rfl) ⟨k_3.1, List.mem_singleton.mp k_3.2⟩ (c_X2_lay hKp h_12) rfl (pc1 := 39) rfl ?_
  refine ix_iload_n (i := 3) (j := 0) X (ix_tb_at tb_X6_layPair 29 rfl) rfl rfl (pc1 := 40) rfl ?_
  exact ix_iret X hr hlk (ix_r2 (f := fun r => some (.int r)) (g := ix_w z) h) (ix_tb_at tb_X6_layPair 30 rfl)
def tab_X6_layInto : List (Nat × Instr × Nat) := [(0, .aload_n 0, 1), (1, .getfield 13, 3), (4, .arraylength, 1), (5, .ifCond .le 12, 3), (8, .aload_n 0, 1), (9, .getfield 13, 3), (12, .iconst 0, 1), (13, .iaload, 1), (14, .goto 4, 3), (17, .iconst 0, 1), (18, .istore_n 2, 1), (19, .iconst 1, 1), (20, .istore_n 3, 1), (21, .iload_n 3, 1), (22, .aload_n 0, 1), (23, .getfield 13, 3), (26, .arraylength, 1), (27, .if_icmp .ge 21, 3), (30, .aload_n 1, 1), (31, .iload_n 2, 1), (32, .aload_n 0, 1), (33, .getfield 13, 3), (36, .iload_n 3, 1), (37, .iaload, 1), (38, .invokestatic 17, 3), (41, .istore_n 2, 1), (42, .iinc 3 1, 3), (45, .goto (-24), 3), (48, .aload_n 0, 1), (49, .getfield 13, 3), (52, .arraylength, 1), (53, .ifCond .gt 10, 3), (56, .aload_n 0, 1), (57, .getfield 7, 3), (60, .ifCond .eq 22, 3), (63, .aload_n 1, 1), (64, .aload_n 0, 1), (65, .getfield 7, 3), (68, .ifCond .eq 7, 3), (71, .iload_n 2, 1), (72, .goto 5, 3), (75, .iload_n 2, 1), (76, .ineg, 1), (77, .iconst 0, 1), (78, .iconst 0, 1), (79, .invokevirtual 21, 3), (82, .return_, 1)]
theorem tb_X6_layInto : ix_tab cX6_layInto tab_X6_layInto := by
  unfold ix_tab
  decide +kernel
noncomputable def f_X6_layInto_77 (n : Nat) (z : ix_Z)  (s0 : Int32) (s1 : Nat) (d : ix_D2) : Option (ix_D2) :=
  ix_ck (ix_ok z [2] s1) (ix_bd1 (f_X2_lay n z s1 s0 0 0 d) (fun d_14 => some d_14))
noncomputable def f_X6_layInto_63 (n : Nat) (z : ix_Z)  (a0 : Nat) (a1 : Nat) (x2 : Int32) (d : ix_D2) : Option (ix_D2) :=
  ix_ck (ix_ok z [6] a0) (ix_if (d.1 a0 3 = 0) (f_X6_layInto_77 n z  (-x2) a1 d) (f_X6_layInto_77 n z  x2 a1 d))
noncomputable def b_X6_layInto_21 (n : Nat) (z : ix_Z)  (a0 : Nat) (a1 : Nat) (rec21 : Int32 → Int32 → ix_D2 → Option (ix_D2)) (x2 : Int32) (x3 : Int32) (d : ix_D2) : Option (ix_D2) :=
  ix_ck (ix_ok z [6] a0) (ix_bd1 (z.1 a0 0) (fun b_7 => ix_ck (b_7 < z.2.2 ∧ 20 ≤ (z.2.1 b_7).1 ∧ (z.2.1 b_7).1 < 26) (ix_if (nI (z.2.1 b_7).2 ≤ x3) (ix_if (0 < nI (z.2.1 b_7).2) (f_X6_layInto_63 n z  a0 a1 x2 d) (ix_if (d.1 a0 3 = 0) (some d) (f_X6_layInto_63 n z  a0 a1 x2 d))) (ix_ck (ix_ix z 20 b_7 x3) (ix_bd2 (f_X6_layPair n z a1 x2 (d.1 b_7 (ix_n x3)) d) (fun r_21 d_19 => ix_lt (x3 + 1) (fun x3_22 => rec21 r_21 x3_22 d_19)))))))
noncomputable def f_X6_layInto_21 (n : Nat) (z : ix_Z)  (a0 : Nat) (a1 : Nat) (x2 : Int32) (x3 : Int32) (d : ix_D2) : Option (ix_D2) := ix_fix (b_X6_layInto_21 n z  a0 a1) (fun _ _ _ => none) n x2 x3 d
noncomputable def f_X6_layInto_18 (n : Nat) (z : ix_Z)  (a0 : Nat) (a1 : Nat) (s0 : Int32) (d : ix_D2) : Option (ix_D2) :=
  f_X6_layInto_21 n z  a0 a1 s0 1 d
noncomputable def f_X6_layInto (n : Nat) (z : ix_Z) (a0 : Nat) (a1 : Nat) (d : ix_D2) : Option (ix_D2) :=
  ix_ck (ix_ok z [6] a0) (ix_bd1 (z.1 a0 0) (fun b_2 => ix_ck (b_2 < z.2.2 ∧ 20 ≤ (z.2.1 b_2).1 ∧ (z.2.1 b_2).1 < 26) (ix_if (nI (z.2.1 b_2).2 ≤ 0) (f_X6_layInto_18 n z  a0 a1 0 d) (ix_ck (ix_ix z 20 b_2 0) (f_X6_layInto_18 n z  a0 a1 (d.1 b_2 (ix_n 0)) d)))))
set_option maxRecDepth 20000 in
theorem t_X6_layInto_77 {l : Launch} {p : Program} {e : Env} {s : State} {m : MethodId} {args : Array Value} {below : List Frame} {meth : Method} {c : Code} {K : ix_Cx} (hKp : ix_Kp K) {n : Nat} {z : ix_Z} (X : ix_X p s m args c K cX6_layInto RX6 4) (hr : meth.sig.returnType = (none : Option Jvm.ClassFile.FieldType)) (hlk : meth.locks = false)  {s0 : Int32} {s1 : Nat} {d1 : ix_D2}  {d : ix_D2} (h : f_X6_layInto_77 n z  s0 s1 d = some d1) : ix_G p l e (ix_rm 5 117 0 0) s m args below meth c (MQ below (ix_Post K none (ix_w z d1)) args s 0 0 (ix_A K)) K 4 0 0 77 [] [.int s0, .ref (K.2.2.1 + s1)] (ix_w z d) := by
  unfold f_X6_layInto_77 at h
  refine ix_iconst (v := 0) X (ix_tb_at tb_X6_layInto 43 rfl) (by decide) (pc1 := 78) rfl ?_
  refine ix_iconst (v := 0) X (ix_tb_at tb_X6_layInto 44 rfl) (by decide) (pc1 := 79) rfl ?_
  obtain ⟨k_16, h⟩ := ix_ck_some h
  obtain ⟨d_14, h_15, h⟩ := ix_bd1_ex h
  refine ix_callV (As := [.int s0, .int 0, .int 0]) (rest := []) (ci := 2) (T := TX2) (nf := 12) X mf_X2_lay mi_X2_lay ms_X2_lay rfl (Nat.le_of_ble_eq_true rfl) ml_RX6_21 ⟨Nat.le_of_ble_eq_true rfl, Nat.le_of_ble_eq_true rfl⟩ ⟨Nat.le_of_ble_eq_true rfl, Nat.le_of_ble_eq_true rfl⟩ rfl (Nat.le_of_ble_eq_true rfl) (ix_tb_at tb_X6_layInto 45 rfl) ⟨k_16.1, List.mem_singleton.mp k_16.2⟩ (c_X2_lay hKp h_15) rfl (pc1 := 82) rfl ?_
  exact ix_vret X hr hlk (ix_r1 (g := ix_w z) h) (ix_tb_at tb_X6_layInto 46 rfl)
set_option maxRecDepth 20000 in
theorem t_X6_layInto_63 {l : Launch} {p : Program} {e : Env} {s : State} {m : MethodId} {args : Array Value} {below : List Frame} {meth : Method} {c : Code} {K : ix_Cx} (hKp : ix_Kp K) {n : Nat} {z : ix_Z} (X : ix_X p s m args c K cX6_layInto RX6 4) (hr : meth.sig.returnType = (none : Option Jvm.ClassFile.FieldType)) (hlk : meth.locks = false)  {a0 : Nat} {a1 : Nat} {x2 : Int32} {d1 : ix_D2}  {d : ix_D2} (h : f_X6_layInto_63 n z  a0 a1 x2 d = some d1) : ix_G p l e (ix_rm 5 117 0 0) s m args below meth c (MQ below (ix_Post K none (ix_w z d1)) args s 0 0 (ix_A K)) K 4 0 0 63 [(0, .ref (K.2.2.1 + a0)), (1, .ref (K.2.2.1 + a1)), (2, .int x2)] [] (ix_w z d) := by
  unfold f_X6_layInto_63 at h
  refine ix_aload_n (i := 1) (j := 1) X (ix_tb_at tb_X6_layInto 35 rfl) rfl rfl (pc1 := 64) rfl ?_
  refine ix_aload_n (i := 0) (j := 0) X (ix_tb_at tb_X6_layInto 36 rfl) rfl rfl (pc1 := 65) rfl ?_
  obtain ⟨k_12, h⟩ := ix_ck_some h
  refine iz_getI X fl_RX6_7 k_12 (ix_tb_at tb_X6_layInto 37 rfl) (pc1 := 68) rfl ?_
  refine ix_if_eq (tgt := 75) X (ix_tb_at tb_X6_layInto 38 rfl) (by decide) (pc1 := 71) rfl (fun q_13 => ?_) (fun q_13 => ?_)
  · have h := ix_ift q_13 h
    refine ix_iload_n (i := 2) (j := 2) X (ix_tb_at tb_X6_layInto 41 rfl) rfl rfl (pc1 := 76) rfl ?_
    refine ix_ineg X (ix_tb_at tb_X6_layInto 42 rfl) (pc1 := 77) rfl ?_
    refine ix_sub (L1 := []) [] rfl ?_
    exact t_X6_layInto_77 hKp X hr hlk  h
  · have h := ix_iff q_13 h
    refine ix_iload_n (i := 2) (j := 2) X (ix_tb_at tb_X6_layInto 39 rfl) rfl rfl (pc1 := 72) rfl ?_
    refine ix_goto (tgt := 77) X (ix_tb_at tb_X6_layInto 40 rfl) (by decide) ?_
    refine ix_sub (L1 := []) [] rfl ?_
    exact t_X6_layInto_77 hKp X hr hlk  h
set_option maxRecDepth 20000 in
theorem tb_X6_layInto_21 {l : Launch} {p : Program} {e : Env} {s : State} {m : MethodId} {args : Array Value} {below : List Frame} {meth : Method} {c : Code} {K : ix_Cx} (hKp : ix_Kp K) {n : Nat} {z : ix_Z} (X : ix_X p s m args c K cX6_layInto RX6 4) (hr : meth.sig.returnType = (none : Option Jvm.ClassFile.FieldType)) (hlk : meth.locks = false)  {a0 : Nat} {a1 : Nat} {rec21 : Int32 → Int32 → ix_D2 → Option (ix_D2)} {d1 : ix_D2} (hrec21 : ∀ (x2 : Int32) (x3 : Int32) (d : ix_D2), rec21 x2 x3 d = some d1 → ix_G p l e (ix_rm 5 117 0 0) s m args below meth c (MQ below (ix_Post K none (ix_w z d1)) args s 0 0 (ix_A K)) K 4 0 0 21 [(0, .ref (K.2.2.1 + a0)), (1, .ref (K.2.2.1 + a1)), (2, .int x2), (3, .int x3)] [] (ix_w z d)) {x2 : Int32} {x3 : Int32} {d : ix_D2} (h : b_X6_layInto_21 n z  a0 a1 rec21 x2 x3 d = some d1) : ix_G p l e (ix_rm 5 117 0 0) s m args below meth c (MQ below (ix_Post K none (ix_w z d1)) args s 0 0 (ix_A K)) K 4 0 0 21 [(0, .ref (K.2.2.1 + a0)), (1, .ref (K.2.2.1 + a1)), (2, .int x2), (3, .int x3)] [] (ix_w z d) := by
  unfold b_X6_layInto_21 at h
  refine ix_iload_n (i := 3) (j := 3) X (ix_tb_at tb_X6_layInto 13 rfl) rfl rfl (pc1 := 22) rfl ?_
  refine ix_aload_n (i := 0) (j := 0) X (ix_tb_at tb_X6_layInto 14 rfl) rfl rfl (pc1 := 23) rfl ?_
  obtain ⟨k_6, h⟩ := ix_ck_some h
  obtain ⟨b_7, q_8, h⟩ := ix_bd1_ex h
  refine iz_getR X fl_RX6_13 k_6 q_8 (ix_tb_at tb_X6_layInto 15 rfl) (pc1 := 26) rfl ?_
  obtain ⟨k_9, h⟩ := ix_ck_some h
  refine iz_alen X k_9 (ix_tb_at tb_X6_layInto 16 rfl) (pc1 := 27) rfl ?_
  refine ix_icmp_ge (tgt := 48) X (ix_tb_at tb_X6_layInto 17 rfl) (by decide) (pc1 := 30) rfl (fun q_10 => ?_) (fun q_10 => ?_)
  · have h := ix_ift q_10 h
    refine ix_aload_n (i := 0) (j := 0) X (ix_tb_at tb_X6_layInto 28 rfl) rfl rfl (pc1 := 49) rfl ?_
    refine iz_getR X fl_RX6_13 k_6 q_8 (ix_tb_at tb_X6_layInto 29 rfl) (pc1 := 52) rfl ?_
    refine iz_alen X k_9 (ix_tb_at tb_X6_layInto 30 rfl) (pc1 := 53) rfl ?_
    refine ix_if_gt (tgt := 63) X (ix_tb_at tb_X6_layInto 31 rfl) (by decide) (pc1 := 56) rfl (fun q_11 => ?_) (fun q_11 => ?_)
    · have h := ix_ift q_11 h
      refine ix_sub (L1 := [(0, .ref (K.2.2.1 + a0)), (1, .ref (K.2.2.1 + a1)), (2, .int x2)]) [0, 1, 2] rfl ?_
      exact t_X6_layInto_63 hKp X hr hlk  h
    · have h := ix_iff q_11 h
      refine ix_aload_n (i := 0) (j := 0) X (ix_tb_at tb_X6_layInto 32 rfl) rfl rfl (pc1 := 57) rfl ?_
      refine iz_getI X fl_RX6_7 k_6 (ix_tb_at tb_X6_layInto 33 rfl) (pc1 := 60) rfl ?_
      refine ix_if_eq (tgt := 82) X (ix_tb_at tb_X6_layInto 34 rfl) (by decide) (pc1 := 63) rfl (fun q_17 => ?_) (fun q_17 => ?_)
      · have h := ix_ift q_17 h
        exact ix_vret X hr hlk (ix_r1 (g := ix_w z) h) (ix_tb_at tb_X6_layInto 46 rfl)
      · have h := ix_iff q_17 h
        refine ix_sub (L1 := [(0, .ref (K.2.2.1 + a0)), (1, .ref (K.2.2.1 + a1)), (2, .int x2)]) [0, 1, 2] rfl ?_
        exact t_X6_layInto_63 hKp X hr hlk  h
  · have h := ix_iff q_10 h
    refine ix_aload_n (i := 1) (j := 1) X (ix_tb_at tb_X6_layInto 18 rfl) rfl rfl (pc1 := 31) rfl ?_
    refine ix_iload_n (i := 2) (j := 2) X (ix_tb_at tb_X6_layInto 19 rfl) rfl rfl (pc1 := 32) rfl ?_
    refine ix_aload_n (i := 0) (j := 0) X (ix_tb_at tb_X6_layInto 20 rfl) rfl rfl (pc1 := 33) rfl ?_
    refine iz_getR X fl_RX6_13 k_6 q_8 (ix_tb_at tb_X6_layInto 21 rfl) (pc1 := 36) rfl ?_
    refine ix_iload_n (i := 3) (j := 3) X (ix_tb_at tb_X6_layInto 22 rfl) rfl rfl (pc1 := 37) rfl ?_
    obtain ⟨k_18, h⟩ := ix_ck_some h
    refine iz_iald X k_18 (ix_tb_at tb_X6_layInto 23 rfl) (pc1 := 38) rfl ?_
    obtain ⟨r_21, d_19, h_20, h⟩ := ix_bd2_ex h
    refine ix_callS (As := [.ref (K.2.2.1 + a1), .int x2, .int (d.1 b_7 (ix_n x3))]) (rest := []) X mf_X6_layPair st_X6_layPair ml_RX6_17 ⟨Nat.le_of_ble_eq_true rfl, Nat.le_of_ble_eq_true rfl⟩ ⟨Nat.le_of_ble_eq_true rfl, Nat.le_of_ble_eq_true rfl⟩ rfl (Nat.le_of_ble_eq_true rfl) (ix_tb_at tb_X6_layInto 24 rfl) (c_X6_layPair hKp h_20) rfl (pc1 := 41) rfl ?_
    refine ix_istore_n (i := 2) (L1 := [(2, .int r_21), (0, .ref (K.2.2.1 + a0)), (1, .ref (K.2.2.1 + a1)), (3, .int x3)]) X (ix_tb_at tb_X6_layInto 25 rfl) rfl (Nat.le_of_ble_eq_true rfl) rfl (pc1 := 42) rfl ?_
    obtain ⟨x3_22, e_23, h⟩ := ix_lt_ex h
    refine ix_iinc (i := 3) (j := 3) (v := x3_22) (L1 := [(3, .int x3_22), (2, .int r_21), (0, .ref (K.2.2.1 + a0)), (1, .ref (K.2.2.1 + a1))]) X (ix_tb_at tb_X6_layInto 26 rfl) rfl (by rw [oi_1]; exact e_23.symm) (Nat.le_of_ble_eq_true rfl) rfl (pc1 := 45) rfl ?_
    refine ix_goto (tgt := 21) X (ix_tb_at tb_X6_layInto 27 rfl) (by decide) ?_
    refine ix_sub (L1 := [(0, .ref (K.2.2.1 + a0)), (1, .ref (K.2.2.1 + a1)), (2, .int r_21), (3, .int x3_22)]) [2, 3, 1, 0] rfl ?_
    exact hrec21 r_21 x3_22 d_19 h
theorem t_X6_layInto_21 {l : Launch} {p : Program} {e : Env} {s : State} {m : MethodId} {args : Array Value} {below : List Frame} {meth : Method} {c : Code} {K : ix_Cx} (hKp : ix_Kp K) {n : Nat} {z : ix_Z} (X : ix_X p s m args c K cX6_layInto RX6 4) (hr : meth.sig.returnType = (none : Option Jvm.ClassFile.FieldType)) (hlk : meth.locks = false)  {a0 : Nat} {a1 : Nat} {d1 : ix_D2}  {x2 : Int32} {x3 : Int32} {d : ix_D2} (h : f_X6_layInto_21 n z  a0 a1 x2 x3 d = some d1) : ix_G p l e (ix_rm 5 117 0 0) s m args below meth c (MQ below (ix_Post K none (ix_w z d1)) args s 0 0 (ix_A K)) K 4 0 0 21 [(0, .ref (K.2.2.1 + a0)), (1, .ref (K.2.2.1 + a1)), (2, .int x2), (3, .int x3)] [] (ix_w z d) := by
  have key : ∀ (f : Nat) (x2 : Int32) (x3 : Int32) (d : ix_D2), ix_fix (b_X6_layInto_21 n z  a0 a1) (fun _ _ _ => none) f x2 x3 d = some d1 → ix_G p l e (ix_rm 5 117 0 0) s m args below meth c (MQ below (ix_Post K none (ix_w z d1)) args s 0 0 (ix_A K)) K 4 0 0 21 [(0, .ref (K.2.2.1 + a0)), (1, .ref (K.2.2.1 + a1)), (2, .int x2), (3, .int x3)] [] (ix_w z d) := by
    intro f
    induction f with
    | zero =>
      intro x2 x3 d h
      have h : (none : Option (ix_D2)) = some d1 := h
      cases h
    | succ f ih =>
      intro x2 x3 d h
      exact tb_X6_layInto_21 hKp X hr hlk (rec21 := ix_fix (b_X6_layInto_21 n z  a0 a1) (fun _ _ _ => none) f)  ih h
  exact key n x2 x3 d h
set_option maxRecDepth 20000 in
theorem t_X6_layInto_18 {l : Launch} {p : Program} {e : Env} {s : State} {m : MethodId} {args : Array Value} {below : List Frame} {meth : Method} {c : Code} {K : ix_Cx} (hKp : ix_Kp K) {n : Nat} {z : ix_Z} (X : ix_X p s m args c K cX6_layInto RX6 4) (hr : meth.sig.returnType = (none : Option Jvm.ClassFile.FieldType)) (hlk : meth.locks = false)  {a0 : Nat} {a1 : Nat} {s0 : Int32} {d1 : ix_D2}  {d : ix_D2} (h : f_X6_layInto_18 n z  a0 a1 s0 d = some d1) : ix_G p l e (ix_rm 5 117 0 0) s m args below meth c (MQ below (ix_Post K none (ix_w z d1)) args s 0 0 (ix_A K)) K 4 0 0 18 [(0, .ref (K.2.2.1 + a0)), (1, .ref (K.2.2.1 + a1))] [.int s0] (ix_w z d) := by
  unfold f_X6_layInto_18 at h
  refine ix_istore_n (i := 2) (L1 := [(2, .int s0), (0, .ref (K.2.2.1 + a0)), (1, .ref (K.2.2.1 + a1))]) X (ix_tb_at tb_X6_layInto 10 rfl) rfl (Nat.le_of_ble_eq_true rfl) rfl (pc1 := 19) rfl ?_
  refine ix_iconst (v := 1) X (ix_tb_at tb_X6_layInto 11 rfl) (by decide) (pc1 := 20) rfl ?_
  refine ix_istore_n (i := 3) (L1 := [(3, .int 1), (2, .int s0), (0, .ref (K.2.2.1 + a0)), (1, .ref (K.2.2.1 + a1))]) X (ix_tb_at tb_X6_layInto 12 rfl) rfl (Nat.le_of_ble_eq_true rfl) rfl (pc1 := 21) rfl ?_
  refine ix_sub (L1 := [(0, .ref (K.2.2.1 + a0)), (1, .ref (K.2.2.1 + a1)), (2, .int s0), (3, .int 1)]) [2, 3, 1, 0] rfl ?_
  exact t_X6_layInto_21 hKp X hr hlk  h
set_option maxRecDepth 20000 in
theorem c_X6_layInto {l : Launch} {K : ix_Cx} (hKp : ix_Kp K) {n : Nat} {z : ix_Z} {a0 : Nat} {a1 : Nat} {d : ix_D2} {d1 : ix_D2} (h : f_X6_layInto n z a0 a1 d = some d1) : ix_M l K yX6_layInto cX6_layInto 4 (none : Option Jvm.ClassFile.FieldType) 5 117 0 0 [.ref (K.2.2.1 + a0), .ref (K.2.2.1 + a1)] (ix_w z d) none (ix_w z d1) := by
  refine ix_met mf_X6_layInto hKp (Nat.le_of_ble_eq_true rfl) ?_
  intro p e s m args below meth c hr hlk hnm X
  have X : ix_X p s m args c K cX6_layInto RX6 4 := X
  show ix_G p l e (ix_rm 5 117 0 0) s m args below meth c (MQ below (ix_Post K none (ix_w z d1)) args s 0 0 (ix_A K)) K 4 0 0 0 [(0, .ref (K.2.2.1 + a0)), (1, .ref (K.2.2.1 + a1))] [] (ix_w z d)
  unfold f_X6_layInto at h
  refine ix_aload_n (i := 0) (j := 0) X (ix_tb_at tb_X6_layInto 0 rfl) rfl rfl (pc1 := 1) rfl ?_
  obtain ⟨k_1, h⟩ := ix_ck_some h
  obtain ⟨b_2, q_3, h⟩ := ix_bd1_ex h
  refine iz_getR X fl_RX6_13 k_1 q_3 (ix_tb_at tb_X6_layInto 1 rfl) (pc1 := 4) rfl ?_
  obtain ⟨k_4, h⟩ := ix_ck_some h
  refine iz_alen X k_4 (ix_tb_at tb_X6_layInto 2 rfl) (pc1 := 5) rfl ?_
  refine ix_if_le (tgt := 17) X (ix_tb_at tb_X6_layInto 3 rfl) (by decide) (pc1 := 8) rfl (fun q_5 => ?_) (fun q_5 => ?_)
  · have h := ix_ift q_5 h
    refine ix_iconst (v := 0) X (ix_tb_at tb_X6_layInto 9 rfl) (by decide) (pc1 := 18) rfl ?_
    refine ix_sub (L1 := [(0, .ref (K.2.2.1 + a0)), (1, .ref (K.2.2.1 + a1))]) [0, 1] rfl ?_
    exact t_X6_layInto_18 hKp X hr hlk  h
  · have h := ix_iff q_5 h
    refine ix_aload_n (i := 0) (j := 0) X (ix_tb_at tb_X6_layInto 4 rfl) rfl rfl (pc1 := 9) rfl ?_
    refine iz_getR X fl_RX6_13 k_1 q_3 (ix_tb_at tb_X6_layInto 5 rfl) (pc1 := 12) rfl ?_
    refine ix_iconst (v := 0) X (ix_tb_at tb_X6_layInto 6 rfl) (by decide) (pc1 := 13) rfl ?_
    obtain ⟨k_24, h⟩ := ix_ck_some h
    refine iz_iald X k_24 (ix_tb_at tb_X6_layInto 7 rfl) (pc1 := 14) rfl ?_
    refine ix_goto (tgt := 18) X (ix_tb_at tb_X6_layInto 8 rfl) (by decide) ?_
    refine ix_sub (L1 := [(0, .ref (K.2.2.1 + a0)), (1, .ref (K.2.2.1 + a1))]) [0, 1] rfl ?_
    exact t_X6_layInto_18 hKp X hr hlk  h
def tab_X6_holds : List (Nat × Instr × Nat) := [(0, .aload_n 2, 1), (1, .bipush 30, 2), (3, .invokevirtual 31, 3), (6, .aload_n 0, 1), (7, .aload_n 1, 1), (8, .invokevirtual 37, 3), (11, .iconst 2, 1), (12, .irem, 1), (13, .iconst 1, 1), (14, .if_icmp .ne 7, 3), (17, .iconst 1, 1), (18, .goto 4, 3), (21, .iconst 0, 1), (22, .aload_n 0, 1), (23, .getfield 7, 3), (26, .if_icmp .ne 7, 3), (29, .iconst 1, 1), (30, .goto 4, 3), (33, .iconst 0, 1), (34, .ireturn, 1)]
theorem tb_X6_holds : ix_tab cX6_holds tab_X6_holds := by
  unfold ix_tab
  decide +kernel
noncomputable def v_RX6_37 (n : Nat) (z : ix_Z) (b : Nat) (p0 : Nat) (d : ix_D2) : Option (Int32 × ix_D2) := f_X8_trueOnes n z b p0 d
theorem tv_RX6_37 {l : Launch} {p : Program} {e : Env} {s : State} {m : MethodId} {args : Array Value} {below : List Frame} {meth : Method} {c : Code} {K : ix_Cx} {R : Room} {Q : State → Prop} {nL k n pc : Nat} {cc : ByteArray} {L : List (Nat × Value)} {rest : List Value} (hKp : ix_Kp K) (X : ix_X p s m args c K cc RX6 nL) {N : Nat} {z : ix_Z} {b : Nat} {p0 : Nat} {d : ix_D2} {r : Int32} {d1 : ix_D2} (hk : ix_ok z [6] b) (hcall : v_RX6_37 N z b p0 d = some (r, d1)) (hfr : 3 ≤ R.frames) (hlo : 65 ≤ R.locals) (hcs : k + 0 ≤ R.cells ∧ n + 0 ≤ R.slots) (hrm : (rest.map fun v => v.category).sum ≤ 8) (hd : decode cc pc = .ok (.invokevirtual 37, 3)) {pc1 : Nat} (hp : pc + 3 = pc1) (kk : ix_G p l e R s m args below meth c Q K nL k n pc1 L (.int r :: rest) (ix_w z d1)) : ix_G p l e R s m args below meth c Q K nL k n pc L (.ref (K.2.2.1 + p0) :: .ref (K.2.2.1 + b) :: rest) (ix_w z d) := by
  unfold v_RX6_37 at hcall
  have h2 := hk.2
  simp only [List.mem_cons, List.not_mem_nil, or_false] at h2
  rcases h2 with h2
  · exact ix_callU (As := [.ref (K.2.2.1 + p0)]) (rest := rest) (x := (⟨"ClauseCourt$Parity", "trueOnes", "(LClauseCourt$Board;)I"⟩ : MethodName)) (owner := "ClauseCourt$Rule") (C := RX6) (T := TX6) (nf := 4) (ci := 6) X mf_X8_trueOnes mi_X8_trueOnes (ix_wm (i := 952) (by decide +kernel)) (ix_wm (i := 951) (by decide +kernel)) (Or.inl (ix_wm (i := 915) (by decide +kernel))) ⟨by decide, by decide⟩ (by decide +kernel) rfl (by decide) ml_RX6_37 ⟨Nat.le_trans (Nat.le_of_ble_eq_true rfl) hfr, Nat.le_trans (Nat.le_of_ble_eq_true rfl) hlo⟩ hcs rfl hrm hd ⟨hk.1, h2⟩ (c_X8_trueOnes hKp hcall) rfl hp kk
noncomputable def f_X6_holds_22 (n : Nat) (z : ix_Z)  (a0 : Nat) (s0 : Int32) (d : ix_D2) : Option (Int32 × ix_D2) :=
  ix_ck (ix_ok z [6] a0) (ix_if (s0 = d.1 a0 3) (some (1, d)) (some (0, d)))
noncomputable def f_X6_holds (n : Nat) (z : ix_Z) (a0 : Nat) (a1 : Nat) (a2 : Nat) (d : ix_D2) : Option (Int32 × ix_D2) :=
  ix_ck (ix_ok z [4] a2) (ix_bd1 (f_X4_note n z a2 30 d) (fun d_1 => ix_ck (ix_ok z [6] a0) (ix_bd2 (v_RX6_37 n z a0 a1 d_1) (fun r_7 d_5 => ix_if (r_7 - r_7 / 2 * 2 = 1) (f_X6_holds_22 n z  a0 1 d_5) (f_X6_holds_22 n z  a0 0 d_5)))))
set_option maxRecDepth 20000 in
theorem t_X6_holds_22 {l : Launch} {p : Program} {e : Env} {s : State} {m : MethodId} {args : Array Value} {below : List Frame} {meth : Method} {c : Code} {K : ix_Cx} (hKp : ix_Kp K) {n : Nat} {z : ix_Z} (X : ix_X p s m args c K cX6_holds RX6 3) (hr : meth.sig.returnType = (some .boolean)) (hlk : meth.locks = false)  {a0 : Nat} {s0 : Int32} {r : Int32} {d1 : ix_D2}  {d : ix_D2} (h : f_X6_holds_22 n z  a0 s0 d = some (r, d1)) : ix_G p l e (ix_rm 3 65 0 0) s m args below meth c (MQ below (ix_Post K (some (.int r)) (ix_w z d1)) args s 0 0 (ix_A K)) K 3 0 0 22 [(0, .ref (K.2.2.1 + a0))] [.int s0] (ix_w z d) := by
  unfold f_X6_holds_22 at h
  refine ix_aload_n (i := 0) (j := 0) X (ix_tb_at tb_X6_holds 13 rfl) rfl rfl (pc1 := 23) rfl ?_
  obtain ⟨k_9, h⟩ := ix_ck_some h
  refine iz_getI X fl_RX6_7 k_9 (ix_tb_at tb_X6_holds 14 rfl) (pc1 := 26) rfl ?_
  refine ix_icmp_ne (tgt := 33) X (ix_tb_at tb_X6_holds 15 rfl) (by decide) (pc1 := 29) rfl (fun q_10 => ?_) (fun q_10 => ?_)
  · have h := ix_iff q_10 h
    refine ix_iconst (v := 0) X (ix_tb_at tb_X6_holds 18 rfl) (by decide) (pc1 := 34) rfl ?_
    exact ix_zret X hr hlk (by decide) (ix_r2 (f := fun r => some (.int r)) (g := ix_w z) h) (ix_tb_at tb_X6_holds 19 rfl)
  · have h := ix_ift q_10 h
    refine ix_iconst (v := 1) X (ix_tb_at tb_X6_holds 16 rfl) (by decide) (pc1 := 30) rfl ?_
    refine ix_goto (tgt := 34) X (ix_tb_at tb_X6_holds 17 rfl) (by decide) ?_
    exact ix_zret X hr hlk (by decide) (ix_r2 (f := fun r => some (.int r)) (g := ix_w z) h) (ix_tb_at tb_X6_holds 19 rfl)
set_option maxRecDepth 20000 in
theorem c_X6_holds {l : Launch} {K : ix_Cx} (hKp : ix_Kp K) {n : Nat} {z : ix_Z} {a0 : Nat} {a1 : Nat} {a2 : Nat} {d : ix_D2} {r : Int32} {d1 : ix_D2} (h : f_X6_holds n z a0 a1 a2 d = some (r, d1)) : ix_M l K yX6_holds cX6_holds 3 (some .boolean) 3 65 0 0 [.ref (K.2.2.1 + a0), .ref (K.2.2.1 + a1), .ref (K.2.2.1 + a2)] (ix_w z d) (some (.int r)) (ix_w z d1) := by
  refine ix_met mf_X6_holds hKp (Nat.le_of_ble_eq_true rfl) ?_
  intro p e s m args below meth c hr hlk hnm X
  have X : ix_X p s m args c K cX6_holds RX6 3 := X
  show ix_G p l e (ix_rm 3 65 0 0) s m args below meth c (MQ below (ix_Post K (some (.int r)) (ix_w z d1)) args s 0 0 (ix_A K)) K 3 0 0 0 [(0, .ref (K.2.2.1 + a0)), (1, .ref (K.2.2.1 + a1)), (2, .ref (K.2.2.1 + a2))] [] (ix_w z d)
  unfold f_X6_holds at h
  refine ix_aload_n (i := 2) (j := 2) X (ix_tb_at tb_X6_holds 0 rfl) rfl rfl (pc1 := 1) rfl ?_
  refine ix_bipush (v := 30) X (ix_tb_at tb_X6_holds 1 rfl) (by decide) (pc1 := 3) rfl ?_
  obtain ⟨k_3, h⟩ := ix_ck_some h
  obtain ⟨d_1, h_2, h⟩ := ix_bd1_ex h
  refine ix_callV (As := [.int 30]) (rest := []) (ci := 4) (T := TX4) (nf := 17) X mf_X4_note mi_X4_note ms_X4_note rfl (Nat.le_of_ble_eq_true rfl) ml_RX6_31 ⟨Nat.le_of_ble_eq_true rfl, Nat.le_of_ble_eq_true rfl⟩ ⟨Nat.le_of_ble_eq_true rfl, Nat.le_of_ble_eq_true rfl⟩ rfl (Nat.le_of_ble_eq_true rfl) (ix_tb_at tb_X6_holds 2 rfl) ⟨k_3.1, List.mem_singleton.mp k_3.2⟩ (c_X4_note hKp h_2) rfl (pc1 := 6) rfl ?_
  refine ix_aload_n (i := 0) (j := 0) X (ix_tb_at tb_X6_holds 3 rfl) rfl rfl (pc1 := 7) rfl ?_
  refine ix_aload_n (i := 1) (j := 1) X (ix_tb_at tb_X6_holds 4 rfl) rfl rfl (pc1 := 8) rfl ?_
  obtain ⟨k_4, h⟩ := ix_ck_some h
  obtain ⟨r_7, d_5, h_6, h⟩ := ix_bd2_ex h
  refine tv_RX6_37 (rest := []) hKp X k_4 h_6 (Nat.le_of_ble_eq_true rfl) (Nat.le_of_ble_eq_true rfl) ⟨Nat.le_of_ble_eq_true rfl, Nat.le_of_ble_eq_true rfl⟩ (Nat.le_of_ble_eq_true rfl) (ix_tb_at tb_X6_holds 5 rfl) (pc1 := 11) rfl ?_
  refine ix_iconst (v := 2) X (ix_tb_at tb_X6_holds 6 rfl) (by decide) (pc1 := 12) rfl ?_
  refine ix_irem X (ix_tb_at tb_X6_holds 7 rfl) (by decide) (pc1 := 13) rfl ?_
  refine ix_iconst (v := 1) X (ix_tb_at tb_X6_holds 8 rfl) (by decide) (pc1 := 14) rfl ?_
  refine ix_icmp_ne (tgt := 21) X (ix_tb_at tb_X6_holds 9 rfl) (by decide) (pc1 := 17) rfl (fun q_8 => ?_) (fun q_8 => ?_)
  · have h := ix_iff q_8 h
    refine ix_iconst (v := 0) X (ix_tb_at tb_X6_holds 12 rfl) (by decide) (pc1 := 22) rfl ?_
    refine ix_sub (L1 := [(0, .ref (K.2.2.1 + a0))]) [0] rfl ?_
    exact t_X6_holds_22 hKp X hr hlk  h
  · have h := ix_ift q_8 h
    refine ix_iconst (v := 1) X (ix_tb_at tb_X6_holds 10 rfl) (by decide) (pc1 := 18) rfl ?_
    refine ix_goto (tgt := 22) X (ix_tb_at tb_X6_holds 11 rfl) (by decide) ?_
    refine ix_sub (L1 := [(0, .ref (K.2.2.1 + a0))]) [0] rfl ?_
    exact t_X6_holds_22 hKp X hr hlk  h
